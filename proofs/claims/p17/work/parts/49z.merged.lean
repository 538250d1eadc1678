/-! FROM 49z.loop.lean.txt -/
/-! A ROUND BEING READ: steps with their bodies *d0* to *d3* -/
def rd_Z (U : Nat → Int → Int) (s dp : Int) : Prop := U 0 1 = s ∧ 0 ≤ U 0 2 ∧ U 0 2 + dp ≤ 2 * s ∧ 0 ≤ s ∧ s ≤ 30 ∧ 0 ≤ dp ∧ dp ≤ 3
def rd_p (U U' : Nat → Int → Int) (c c' : Int → Int) (L s dp : Int) : Prop := (∀ (id : Nat) (i : Int), 1 ≤ id → id ≤ 5 → i < L → U' id i = U id i) ∧ (∀ i : Int, i < dp → U' 6 i = U 6 i) ∧ ∀ j : Int, j < 4376 + 9 * s → c' j = c j
theorem rd_p.tr {U U1 U2 : Nat → Int → Int} {c c1 c2 : Int → Int} {L L1 s s1 dp dp1 : Int} (h : rd_p U U1 c c1 L s dp) (k : rd_p U1 U2 c1 c2 L1 s1 dp1) (hL : L ≤ L1) (hs : s ≤ s1) (hd : dp ≤ dp1) : rd_p U U2 c c2 L s dp := ⟨fun id i a b q => (k.1 id i a b (by omega)).trans (h.1 id i a b q), fun i q => (k.2.1 i (by omega)).trans (h.2.1 i q), fun j q => (k.2.2 j (by omega)).trans (h.2.2 j q)⟩
theorem st_l.y {V V' : Nat → Int → Int} {c c' : Int → Int} {s l : Int} (hV : ∀ id : Nat, id = 18 ∨ id = 20 ∨ id = 21 ∨ id = 22 → V' id l = V id l) (hc : ∀ j : Int, 656 + 9 * s ≤ j → j ≤ 656 + 9 * s + 7 → c' j = c j) (h : st_l V c s l) : st_l V' c' s l := by
  unfold st_l at h ⊢
  rw [hV 18 (by decide), hV 20 (by decide), hV 21 (by decide), hV 22 (by decide), hc (656 + 9 * s) (by omega) (by omega), hc (656 + 9 * s + 1) (by omega) (by omega), hc (656 + 9 * s + 2) (by omega) (by omega), hc (656 + 9 * s + 6) (by omega) (by omega), hc (656 + 9 * s + 7) (by omega) (by omega)]
  exact h
/-- what stands between stays -/
theorem fl_y {V V' : Nat → Int → Int} {c c' : Int → Int} (n : Nat) : ∀ {s e l l' : Int}, (∀ (id : Nat) (i : Int), 18 ≤ id → id < 23 → l ≤ i → i < l' → V' id i = V id i) → (∀ j : Int, 656 + 9 * s ≤ j → j < 656 + 9 * e → c' j = c j) → fl V c n s e l l' → fl V' c' n s e l l' := by
  induction n with
  | zero => intro s e l l' _ _ h; exact h
  | succ n ih =>
    intro s e l l' hV hc h
    rcases h with h | ⟨a1, a2, a3⟩
    · exact Or.inl h
    · have st : (l < l') → st_l V' c' s l := fun hl => a2.y (fun id h => hV id l (by omega) (by omega) (Int.le_refl _) hl) (fun j j0 j1 => hc j j0 (by omega))
      rcases a3 with ⟨b1, b2, b3, h3⟩ | ⟨b1, m, b, h4, h5, h6, h7, h8, h9⟩
      · have le := fl_le n h3
        refine Or.inr ⟨a1, st (by omega), Or.inl ⟨?_, ?_, ?_, ih (fun id i q0 q1 q2 q3 => hV id i q0 q1 (by omega) q3) (fun j j0 j1 => hc j (by omega) j1) h3⟩⟩
        · rw [hc _ (by omega) (by omega)]; exact b1
        · rw [hc _ (by omega) (by omega)]; exact b2
        · rw [hc _ (by omega) (by omega)]; exact b3
      · have le8 := fl_le n h8
        have le9 := fl_le n h9
        refine Or.inr ⟨a1, st (by omega), Or.inr ⟨?_, m, b, ?_, ?_, ?_, ?_, ih (fun id i q0 q1 q2 q3 => hV id i q0 q1 (by omega) (by omega)) (fun j j0 j1 => hc j (by omega) (by omega)) h8, ih (fun id i q0 q1 q2 q3 => hV id i q0 q1 (by omega) q3) (fun j j0 j1 => hc j (by omega) j1) h9⟩⟩
        · rw [hc _ (by omega) (by omega)]; exact b1
        · rw [hc _ (by omega) (by omega)]; exact h4
        · rw [hV 18 m (by decide) (by decide) (by omega) (by omega)]; exact h5
        · rw [hV 19 m (by decide) (by decide) (by omega) (by omega)]; exact h6
        · rw [hV 19 l (by decide) (by decide) (by omega) (by omega)]; exact h7
/-- what k lines of the class, and the reference's way to τ', come to -/
def rd_A (X : XW) (R T a g : Nat) (n : Int) (B : Int → Int) (Vg : Nat → Int → Int) (w : Int → Int) (σ τ τ' : ST) (U : Nat → Int → Int) (c : Int → Int) (dp : Int) (Q : (Nat → Int → Int) → (Int → Int) → Int → Prop) : Prop := ∃ k : Nat, 1 ≤ k ∧
  ((∃ (σ' : ST) (U' : Nat → Int → Int) (c' : Int → Int) (s' : Int), (∀ (fu : Nat) (i : Int32), 0 ≤ i.toInt → i.toInt ≤ (τ.1 a 15).toInt → ∃ i' : Int32, i'.toInt = i.toInt + (k : Int) ∧ F_X4_takes_L21_1 X R (q_rf X g 0) (fu + k) i σ = F_X4_takes_L21_1 X R (q_rf X g 0) fu i' σ') ∧ rd_I X R T a g n B Vg w σ' τ' U' dp c' s' ∧ rd_Z U' s' dp ∧ rd_Fr X R a σ σ' τ τ' ∧ Q U' c' s' ∧ (τ.1 a 15).toInt + (k : Int) ≤ (τ'.1 a 15).toInt) ∨
   (∃ σ' : ST, (∀ (fu : Nat) (i : Int32), 0 ≤ i.toInt → i.toInt ≤ (τ.1 a 15).toInt → F_X4_takes_L21_1 X R (q_rf X g 0) (fu + k) i σ = (0, σ')) ∧ tl_F σ' R τ' a ∧ rd_Fr X R a σ σ' τ τ' ∧ (τ.1 a 15).toInt + (k : Int) ≤ 301))
section RZ
variable {X : XW} {lb : Nat → Nat} {R T a g : Nat} {σ τ σ' τ' : ST} {n dp s L : Int} {B c w : Int → Int} {U Vg : Nat → Int → Int}
theorem lc_step (I : rd_I X R T a g n B Vg w σ τ U dp c s) (hn : n ≤ 300) (ht : ¬ (τ.1 a 14).toInt = 0) (he : (F_X12_isEnd X τ a).toInt = 0) (fu : Nat) (i : Int32) (hi : i.toInt ≤ (τ.1 a 15).toInt) : F_X4_takes_L21_1 X R (q_rf X g 0) (fu + 1) i σ = q_bi (F_X4_readStep X σ R (q_rf X g 0)) (fun r_29 σ_30 => if r_29.toInt = 0 then ((0 : Int32), σ_30) else q_let (i + 1 : Int32) (fun z_32 => F_X4_takes_L21_1 X R (q_rf X g 0) fu z_32 σ_30)) := by
  obtain ⟨S, M, K, h0, hV⟩ := I
  have kb := K.b
  have iw := tl_isWord S.1 K (r := 13) ⟨by decide, by decide⟩
  have c13 : y_cw 13 = 5572 := rfl
  rw [tm_isEnd] at he
  rw [c13, he] at iw
  have tt : (σ.1 R 4).toInt = (τ.1 a 14).toInt := K.2.2.1
  rw [F_X4_takes_L21_1_s]
  unfold F_X4_takes_B21_1
  rw [if_pos (by omega), q_letE (σ.1 R 4), tt, if_neg ht, q_letE (F_X3_isWord X σ R 13), iw, if_pos rfl]
theorem lc_end (I : rd_I X R T a g n B Vg w σ τ U dp c s) (hn : n ≤ 300) (he : ¬ (F_X12_isEnd X τ a).toInt = 0) (fu : Nat) (i : Int32) (hi : i.toInt ≤ (τ.1 a 15).toInt) : F_X4_takes_L21_1 X R (q_rf X g 0) (fu + 1) i σ = q_bi (F_X4_readEnd X σ R) (fun r_33 σ_34 => if r_33.toInt = 0 then ((0 : Int32), σ_34) else q_let (i + 1 : Int32) (fun z_36 => F_X4_takes_L21_1 X R (q_rf X g 0) fu z_36 σ_34)) := by
  obtain ⟨S, M, K, h0, hV⟩ := I
  have kb := K.b
  have iw := tl_isWord S.1 K (r := 13) ⟨by decide, by decide⟩
  have c13 : y_cw 13 = 5572 := rfl
  rw [tm_isEnd] at he
  rw [c13] at iw
  have ty : (τ.1 a 14).toInt = 1 := by
    by_cases q : (τ.1 a 14).toInt = 1 ∧ (τ.2.1 a 19).toInt = 5572
    · exact q.1
    · rw [if_neg q] at he
      exact absurd rfl he
  rw [← iw] at he
  have tt : (σ.1 R 4).toInt = (τ.1 a 14).toInt := K.2.2.1
  rw [F_X4_takes_L21_1_s]
  unfold F_X4_takes_B21_1
  rw [if_pos (by omega), q_letE (σ.1 R 4), tt, if_neg (by omega), q_letE (F_X3_isWord X σ R 13), if_neg he]
/-- the text's end -/
theorem lc_fin (I : rd_I X R T a g n B Vg w σ τ U dp c s) (ht : (τ.1 a 14).toInt = 0) (fu : Nat) (i : Int32) : F_X4_takes_L21_1 X R (q_rf X g 0) (fu + 1) i σ = F_X4_takes_E72_3 X σ R := by
  obtain ⟨S, M, K, h0, hV⟩ := I
  have tt : (σ.1 R 4).toInt = (τ.1 a 14).toInt := K.2.2.1
  have e : F_X4_takes_E72_2 X σ R = F_X4_takes_E72_3 X σ R := rfl
  rw [F_X4_takes_L21_1_s]
  unfold F_X4_takes_B21_1
  by_cases q : i.toInt < 300
  · rw [if_pos q, q_letE (σ.1 R 4), tt, if_pos ht]
  · rw [if_neg q, e]
/-- the class's step: a fault, a line, a line with a body -/
theorem cl_step (I : rd_I X R T a g n B Vg w σ τ U dp c s) (hs : U 0 1 = s) :
    ((F_X4_actionHere X σ R).toInt = -1 → F_X4_readStep X σ R (q_rf X g 0) = F_X3_fails X σ R 2) ∧
    ((F_X4_actionHere X σ R).toInt ≠ -1 → ¬ s < 30 → F_X4_readStep X σ R (q_rf X g 0) = F_X3_fails X σ R 6) ∧
    ((F_X4_actionHere X σ R).toInt ≠ -1 → s < 30 → (F_X4_actionHere X σ R).toInt = 4 ∨ (F_X4_actionHere X σ R).toInt = 8 → dp < 3 → F_X4_readStep X σ R (q_rf X g 0) = F_X4_readStep_J72_2 X σ R (F_X4_actionHere X σ R) (q_rf X g 0)) ∧
    ((F_X4_actionHere X σ R).toInt ≠ -1 → s < 30 → (F_X4_actionHere X σ R).toInt = 4 ∨ (F_X4_actionHere X σ R).toInt = 8 → ¬ dp < 3 → F_X4_readStep X σ R (q_rf X g 0) = F_X3_fails X σ R 7) ∧
    ((F_X4_actionHere X σ R).toInt ≠ -1 → s < 30 → 0 ≤ (F_X4_actionHere X σ R).toInt ∧ (F_X4_actionHere X σ R).toInt < 4 → F_X4_readStep X σ R (q_rf X g 0) = F_X4_readStep_J72_4 X σ R (F_X4_actionHere X σ R) 0 (q_rf X g 0)) := by
  obtain ⟨S, M, K, h0, hV⟩ := I
  have f4 : (σ.1 (q_rf X R 8) 1).toInt = s := by
    have z := rv_n (X := X) (R := R) (σ := σ) (id := 0) (by decide) 1
    rw [S.2.1] at z
    exact z.trans hs
  have f10 : (σ.1 R 10).toInt = dp := S.2.2
  have pe : ∀ A : Int32 × ST, q_bi A (fun r s => (r, s)) = A := fun A => by
    obtain ⟨r, s⟩ := A
    rw [q_biP]
  have e8 : (8 : Int32).toInt = 8 := rfl
  have blk : (F_X4_actionHere X σ R).toInt = 4 ∨ (F_X4_actionHere X σ R).toInt = 8 → (if (F_X4_actionHere X σ R).toInt = 4 then F_X4_readStep_J47_1 X σ R (F_X4_actionHere X σ R) (q_rf X g 0) else q_let (F_X8_isWhen X σ (F_X4_actionHere X σ R) : Int32) (fun r_124 => if r_124.toInt = 0 then F_X4_readStep_J52_3 X σ R (F_X4_actionHere X σ R) (q_rf X g 0) (0 : Int32) else F_X4_readStep_J47_1 X σ R (F_X4_actionHere X σ R) (q_rf X g 0))) = F_X4_readStep_J47_1 X σ R (F_X4_actionHere X σ R) (q_rf X g 0) := by
    intro h
    by_cases q : (F_X4_actionHere X σ R).toInt = 4
    · rw [if_pos q]
    · have w : ¬ (F_X8_isWhen X σ (F_X4_actionHere X σ R)).toInt = 0 := by
        unfold F_X8_isWhen
        rw [if_neg (by omega), if_neg (by omega)]
        decide
      rw [if_neg q, q_letE, if_neg w]
  refine ⟨fun h => ?_, fun h hs => ?_, fun h hs hb hd => ?_, fun h hs hb hd => ?_, fun h hs hb => ?_⟩
  · unfold F_X4_readStep
    rw [q_letE, if_pos h, pe]
  · unfold F_X4_readStep
    rw [q_letE, if_neg h, q_letE, f4, if_neg hs, pe]
  · unfold F_X4_readStep
    rw [q_letE, if_neg h, q_letE, f4, if_pos hs, blk hb]
    unfold F_X4_readStep_J47_1
    rw [if_neg (by decide), q_letE, f10, if_pos hd]
  · unfold F_X4_readStep
    rw [q_letE, if_neg h, q_letE, f4, if_pos hs, blk hb]
    unfold F_X4_readStep_J47_1
    rw [if_neg (by decide), q_letE, f10, if_neg hd, pe]
  · have w : (F_X8_isWhen X σ (F_X4_actionHere X σ R)).toInt = 0 := by
      unfold F_X8_isWhen
      rw [if_pos (by omega)]
      rfl
    unfold F_X4_readStep
    rw [q_letE, if_neg h, q_letE, f4, if_pos hs, if_neg (by omega), q_letE, w, if_pos rfl]
    unfold F_X4_readStep_J52_3
    rw [if_pos (by decide)]
end RZ
