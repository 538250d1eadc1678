/-! FROM 49zr.blocks.lean.txt -/
/-! A ROUND PLAYED: steps with a body; all steps -/
section PG
variable {X : XW} {lb : Nat → Nat} {g o a R : Nat} {σ σ' σ1 τ τ' τ1 : ST} {V0 V : Nat → Int → Int} {c0 c : Int → Int} {n l l' B : Int} {x i x1 i1 : Int32}
theorem pl_O.pre (h1 : tkl (pl_Sg X lb o R) (fun _ _ => False) σ σ1) (h2 : tkl (pl_Sq X a) (fun _ _ => False) τ τ1) (hT : ∀ y : Nat, (y : Int) < l ∨ l' ≤ (y : Int) → σ1.1 (pl_T X R) y = σ.1 (pl_T X R) y) (hL : pl_L X g R x i σ = pl_L X g R x1 i1 σ1) (h : pl_O X lb g o a R V0 c0 n σ1 τ1 τ' l l' B x1 i1) : pl_O X lb g o a R V0 c0 n σ τ τ' l l' B x i := by
  obtain ⟨σ', a1, a2, a3, a4, a5⟩ := h
  refine ⟨σ', h1.tr a1, h2.tr a2, a3, fun y hy => (a4 y hy).trans (hT y hy), ?_⟩
  rcases a5 with ⟨b1, x', i', b2, b3, b4, b5⟩ | ⟨b1, b2⟩
  · exact Or.inl ⟨b1, x', i', b2, b3, b4, hL.trans b5⟩
  · exact Or.inr ⟨b1, hL.trans b2⟩
theorem pl_J.lines (J : pl_J X g a R V0 c0 n σ τ) : (σ.1 (q_rf X g 3) 2).toInt = V0 3 2 := by
  obtain ⟨-, -, -, -, -, V', c', i1, -, -, -, -, i6⟩ := J
  exact ((pl_W (lb := fun _ => 0) (o := 0) i1).rd (id := 3) (by decide) 2 rfl).trans (i6.1 3 2 (by decide))
theorem pl_meets (Y : y_S X lb) (G : y_G X lb g o) (hV : y_v X g σ = V) (hc : m_c X τ a = c) {s : Int} (hx : x.toInt = l) (hl : 0 ≤ l ∧ l < 60) {z7 : Int32} (wz : z7.toInt = 656 + 9 * s) (hs : 0 ≤ s ∧ s < 30) (h1 : V 21 l = c (656 + 9 * s + 7)) (h2 : V 22 l = c (656 + 9 * s + 2)) {u u' : Int32} (hu : u.toInt = u'.toInt) : (F_X8_meets X σ (q_rf X g 3) x u).toInt = (F_X12_isSo_J78_1 X z7 τ a u').toInt := by
  have ln := pl_line Y G hV hx hl
  have e7 := pl_cellk hc wz ⟨by omega, by omega⟩ 7 (j := 7) rfl (by decide)
  have e2 := pl_cellk hc wz ⟨by omega, by omega⟩ 2 (j := 2) rfl (by decide)
  unfold F_X8_meets F_X12_isSo_J78_1
  rw [q_letE (F_X5_get X σ (q_rf X (q_rf X g 3) 7) x), q_letE (F_X5_get X σ (q_rf X (q_rf X g 3) 6) x), ln.2.2.2.1, ln.2.2.2.2, h1, h2, q_letE (z7 + 7), q_letE (τ.1 (q_rf X a 20) (z7 + 7).toNatClampNeg), e7, hu]
  by_cases q : c (656 + 9 * s + 7) = 60
  · rw [if_pos q, if_pos q, q_letE (z7 + 2), q_letE (τ.1 (q_rf X a 20) (z7 + 2).toNatClampNeg), e2]
  · rw [if_neg q, if_neg q, q_letE (z7 + 7), q_letE (τ.1 (q_rf X a 20) (z7 + 7).toNatClampNeg), e7]
    by_cases q2 : c (656 + 9 * s + 7) = 62
    · rw [if_pos q2, if_pos q2, q_letE (z7 + 2), q_letE (τ.1 (q_rf X a 20) (z7 + 2).toNatClampNeg), e2]
    · rw [if_neg q2, if_neg q2, q_letE (z7 + 2), q_letE (τ.1 (q_rf X a 20) (z7 + 2).toNatClampNeg), e2]
/-- a test, in both -/
theorem pl_so (Y : y_S X lb) (G : y_G X lb g o) (hV : y_v X g σ = V) (Rg : rg V c) (hG : m_G c) (hc : m_c X τ a = c) {s : Int} (hx : x.toInt = l) (hl : 0 ≤ l ∧ l < 60) (st : st_l V c s l) (h3 : c (656 + 9 * s) = 3) {z7 : Int32} (wz : z7.toInt = 656 + 9 * s) (hs : 0 ≤ s ∧ s < c 655) (hm : 0 ≤ V 19 l ∧ V 19 l < 60) :
    ∃ y : Int32, y.toInt = V 19 l + 1 ∧ F_X7_behindStep X σ R g x = if (F_X12_isSo X τ a z7).toInt = 0 then (y, σ) else (x + 1, σ) := by
  have one : (1 : Int32).toInt = 1 := rfl
  have e22 : (22 : Int32).toInt = 22 := rfl
  have n9 : ((y_gn 9 : Nat) : Int) = 6 := rfl
  have n12 : ((y_gn 12 : Nat) : Int) = 6 := rfl
  have qq := hG.2.2.2.2.2.1
  have s30 : 0 ≤ s ∧ s < 30 := by omega
  have w := pl_W (lb := lb) (o := o) hV
  have ln := pl_line Y G hV hx hl
  have yv : (F_X5_get X σ (q_rf X (q_rf X g 3) 4) x + 1).toInt = V 19 l + 1 := by
    rw [y_inc (by rw [ln.2.1]; omega), ln.2.1]
  refine ⟨_, yv, ?_⟩
  have gk : ∀ (k : Int32) (j : Int), k.toInt = j → 0 ≤ j ∧ j ≤ 10 → (τ.1 (q_rf X a 20) (z7 + k).toNatClampNeg).toInt = c (656 + 9 * s + j) := fun k j h1 h2 => pl_cellk hc wz ⟨by omega, by omega⟩ k h1 h2
  have e6 := gk 6 6 rfl (by decide)
  have e1 := gk 1 1 rfl (by decide)
  unfold F_X7_behindStep
  rw [q_letE (F_X5_get X σ (q_rf X (q_rf X g 3) 5) x), q_letE (F_X5_get X σ (q_rf X (q_rf X g 3) 7) x), q_letE (F_X5_get X σ (q_rf X (q_rf X g 3) 4) x), q_letE (F_X5_get X σ (q_rf X (q_rf X g 3) 4) x + 1), q_letE (F_X5_get X σ (q_rf X (q_rf X g 3) 3) x), ln.1]
  have qs := (hG.2.2.2.2.2.2 s hs.1 hs.2).2.1
  have st' := st
  unfold st_l at st'
  rcases st' with ⟨h0, -⟩ | ⟨h0, -⟩ | ⟨h0, -⟩ | ⟨h0, -⟩ | ⟨h0, -⟩ | ⟨-, k6, k18, k20, k21, k22⟩ | ⟨-, k6, k18, k21, k22⟩ | ⟨-, k6, k18, k20, k21, k22⟩ | ⟨-, k6, k18⟩
  · omega
  · omega
  · omega
  · omega
  · omega
  · have hp := qs (Or.inr (Or.inr ⟨h3, Or.inl k6⟩))
    have is : F_X12_isSo X τ a z7 = F_X12_isSo_J78_1 X z7 τ a (F_X12_cardsOf X τ a (τ.1 (q_rf X a 20) (z7 + 1).toNatClampNeg)) := by
      unfold F_X12_isSo
      rw [q_letE (z7 + 6), q_letE (τ.1 (q_rf X a 20) (z7 + 6).toNatClampNeg), e6, k6, if_neg (by decide : ¬ (0 : Int) = 3), if_pos (rfl : (0 : Int) = 0), q_letE (z7 + 1), q_letE (τ.1 (q_rf X a 20) (z7 + 1).toNatClampNeg), q_letE (F_X12_cardsOf X τ a (τ.1 (q_rf X a 20) (z7 + 1).toNatClampNeg))]
    rw [k18, is, if_neg (by decide : ¬ (5 : Int) = 0), if_neg (by decide : ¬ (5 : Int) = 1), if_neg (by decide : ¬ (5 : Int) = 2), if_neg (by decide : ¬ (5 : Int) = 3), if_neg (by decide : ¬ (5 : Int) = 4), if_pos (rfl : (5 : Int) = 5)]
    have c1 : (F_X5_get X σ (q_rf X (q_rf X g 1) 2) (F_X5_get X σ (q_rf X (q_rf X g 3) 5) x)).toInt = m_S c (34 + 10 * c (656 + 9 * s + 1)) 10 := (y_getI Y G w (id := 9) (r := q_rf X (q_rf X g 1) 2) ⟨by decide, by decide⟩ rfl (ln.2.2.1.trans k20) hp.1 (by rw [n9]; omega)).trans (Rg.2.2.2.1.2 _ hp.1 (by omega))
    have c2 := gm_cardsOf (X := X) hc hG e1 ⟨hp.1, by omega⟩
    have mm := pl_meets (X := X) (τ := τ) (a := a) Y G hV hc hx hl wz s30 k21 k22 (c1.trans c2.symm)
    rw [q_letE (F_X5_get X σ (q_rf X (q_rf X g 1) 2) (F_X5_get X σ (q_rf X (q_rf X g 3) 5) x)), q_letE (F_X8_meets X σ (q_rf X g 3) x (F_X5_get X σ (q_rf X (q_rf X g 1) 2) (F_X5_get X σ (q_rf X (q_rf X g 3) 5) x))), mm, q_letE (x + 1)]
  · have is : F_X12_isSo X τ a z7 = F_X12_isSo_J78_1 X z7 τ a (F_X12_heapMany X τ a) := by
      unfold F_X12_isSo
      rw [q_letE (z7 + 6), q_letE (τ.1 (q_rf X a 20) (z7 + 6).toNatClampNeg), e6, k6, if_neg (by decide : ¬ (1 : Int) = 3), if_neg (by decide : ¬ (1 : Int) = 0), if_pos (rfl : (1 : Int) = 1), q_letE (F_X12_heapMany X τ a)]
    rw [k18, is, if_neg (by decide : ¬ (6 : Int) = 0), if_neg (by decide : ¬ (6 : Int) = 1), if_neg (by decide : ¬ (6 : Int) = 2), if_neg (by decide : ¬ (6 : Int) = 3), if_neg (by decide : ¬ (6 : Int) = 4), if_neg (by decide : ¬ (6 : Int) = 5), if_pos (rfl : (6 : Int) = 6)]
    have c1 : (σ.1 (q_rf X g 2) 1).toInt = m_L c (c 9).toNat := (w.rd (id := 2) (by decide) 1 rfl).trans Rg.2.2.2.2.1.2.1
    have c2 := lk_heap (X := X) hc hG
    have mm := pl_meets (X := X) (τ := τ) (a := a) Y G hV hc hx hl wz s30 k21 k22 (c1.trans c2.symm)
    rw [q_letE (σ.1 (q_rf X g 2) 1), q_letE (F_X8_meets X σ (q_rf X g 3) x (σ.1 (q_rf X g 2) 1)), mm, q_letE (x + 1)]
  · have hp := qs (Or.inr (Or.inr ⟨h3, Or.inr k6⟩))
    have is : F_X12_isSo X τ a z7 = F_X12_isSo_J78_1 X z7 τ a (τ.1 (q_rf X a 20) ((22 : Int32) + τ.1 (q_rf X a 20) (z7 + 1).toNatClampNeg).toNatClampNeg) := by
      unfold F_X12_isSo
      rw [q_letE (z7 + 6), q_letE (τ.1 (q_rf X a 20) (z7 + 6).toNatClampNeg), e6, k6, if_neg (by decide : ¬ (2 : Int) = 3), if_neg (by decide : ¬ (2 : Int) = 0), if_neg (by decide : ¬ (2 : Int) = 1), q_letE (z7 + 1), q_letE (τ.1 (q_rf X a 20) (z7 + 1).toNatClampNeg), q_letE ((22 : Int32) + τ.1 (q_rf X a 20) (z7 + 1).toNatClampNeg), q_letE (τ.1 (q_rf X a 20) ((22 : Int32) + τ.1 (q_rf X a 20) (z7 + 1).toNatClampNeg).toNatClampNeg)]
    rw [k18, is, if_neg (by decide : ¬ (7 : Int) = 0), if_neg (by decide : ¬ (7 : Int) = 1), if_neg (by decide : ¬ (7 : Int) = 2), if_neg (by decide : ¬ (7 : Int) = 3), if_neg (by decide : ¬ (7 : Int) = 4), if_neg (by decide : ¬ (7 : Int) = 5), if_neg (by decide : ¬ (7 : Int) = 6), if_pos (rfl : (7 : Int) = 7)]
    have c1 : (F_X5_get X σ (q_rf X (q_rf X g 1) 5) (F_X5_get X σ (q_rf X (q_rf X g 3) 5) x)).toInt = c (22 + c (656 + 9 * s + 1)) := (y_getI Y G w (id := 12) (r := q_rf X (q_rf X g 1) 5) ⟨by decide, by decide⟩ rfl (ln.2.2.1.trans k20) hp.1 (by rw [n12]; omega)).trans (Rg.2.2.1 _ hp.1 (by omega)).2.2.1
    have c2 : (τ.1 (q_rf X a 20) ((22 : Int32) + τ.1 (q_rf X a 20) (z7 + 1).toNatClampNeg).toNatClampNeg).toInt = c (22 + c (656 + 9 * s + 1)) := gm_cell hc (by rw [ar_add, e22, e1, ar_wr (by omega) (by omega)])
    have mm := pl_meets (X := X) (τ := τ) (a := a) Y G hV hc hx hl wz s30 k21 k22 (c1.trans c2.symm)
    rw [q_letE (F_X5_get X σ (q_rf X (q_rf X g 1) 5) (F_X5_get X σ (q_rf X (q_rf X g 3) 5) x)), q_letE (F_X8_meets X σ (q_rf X g 3) x (F_X5_get X σ (q_rf X (q_rf X g 1) 5) (F_X5_get X σ (q_rf X (q_rf X g 3) 5) x))), mm, q_letE (x + 1)]
  · have s3 := Rg.2.1.2.2.1
    have c1 : (σ.1 g 6).toInt = c 8 := (w.rd (id := 0) (by decide) 6 rfl).trans s3.1
    have c2 : (τ.1 (q_rf X a 20) (8 : Int32).toNatClampNeg).toInt = c 8 := gm_cell (A := 8) hc rfl
    have is : F_X12_isSo X τ a z7 = if c 8 < 0 then 0 else 1 := by
      unfold F_X12_isSo
      rw [q_letE (z7 + 6), q_letE (τ.1 (q_rf X a 20) (z7 + 6).toNatClampNeg), e6, k6, if_pos (rfl : (3 : Int) = 3), q_letE (τ.1 (q_rf X a 20) (8 : Int32).toNatClampNeg), c2]
    rw [k18, is, if_neg (by decide : ¬ (8 : Int) = 0), if_neg (by decide : ¬ (8 : Int) = 1), if_neg (by decide : ¬ (8 : Int) = 2), if_neg (by decide : ¬ (8 : Int) = 3), if_neg (by decide : ¬ (8 : Int) = 4), if_neg (by decide : ¬ (8 : Int) = 5), if_neg (by decide : ¬ (8 : Int) = 6), if_neg (by decide : ¬ (8 : Int) = 7), if_pos (rfl : (8 : Int) = 8), q_letE (σ.1 g 6), c1, q_letE (x + 1)]
    by_cases q : c 8 = -1
    · rw [if_pos q, if_pos (by omega : c 8 < 0), if_pos (by decide : (0 : Int32).toInt = 0)]
    · rw [if_neg q, if_neg (by omega : ¬ c 8 < 0), if_neg (by decide : ¬ (1 : Int32).toInt = 0)]
/-- a loop of the reference at its end -/
theorem pl_loopEnd {z7 v1 : Int32} {FA : ST → Int32 → Int32 → ST} {fu : Nat} {y : Int32} {s N : Int} (hc : m_c X τ a = c) (wz : z7.toInt = 656 + 9 * s) (hs : 0 ≤ s ∧ s < 30) (hN : c (656 + 9 * s + 1) = N) (h : N ≤ y.toInt ∨ (τ.1 a 38).toInt ≠ 0) : F_X12_doOne_s_L117_1 X z7 a v1 FA (fu + 1) y τ = τ := by
  have e1 := pl_cellk hc wz ⟨by omega, by omega⟩ 1 (j := 1) rfl (by decide)
  rw [F_X12_doOne_s_L117_1_s]
  unfold F_X12_doOne_s_B117_1
  rw [q_letE (z7 + 1), q_letE (τ.1 (q_rf X a 20) (z7 + 1).toNatClampNeg), e1, hN]
  by_cases q : y.toInt < N
  · rw [if_pos q, q_letE (τ.1 a 38), if_neg (by
      rcases h with h | h
      · omega
      · exact h)]
  · rw [if_neg q]
/-- a body of its own -/
def pl_body (X : XW) (lb : Nat → Nat) (g o a R : Nat) (V0 : Nat → Int → Int) (c0 : Int → Int) (n : Int) (FA : ST → Int32 → Int32 → ST) (s b l m : Int) : Prop := ∀ (σ τ : ST) (v1 v2 x i : Int32) (B : Int), pl_J X g a R V0 c0 n σ τ → pl_on a τ → v1.toInt = s → v2.toInt = b → x.toInt = l → 0 ≤ i.toInt → i.toInt - 100 * (τ.1 a 40).toInt ≤ B → B ≤ 0 → pl_O X lb g o a R V0 c0 n σ τ (FA τ v1 v2) l m B x i
theorem pl_loop (Y : y_S X lb) (G : y_G X lb g o) (D : pl_D X lb o R) {FA : ST → Int32 → Int32 → ST} {s b m N : Int} (FB : pl_body X lb g o a R V0 c0 n FA (s + 1) b (l + 1) m) (hs : 0 ≤ s ∧ s < 30) (hl : 0 ≤ l ∧ l < m ∧ m < V0 3 2) (h60 : V0 3 2 ≤ 60) (hN : c0 (656 + 9 * s + 1) = N) (bN : 1 ≤ N ∧ N ≤ 99) (hb : c0 (656 + 9 * s + 8) = b) (m9 : V0 18 m = 9) (mm : V0 19 m = l) (l4 : V0 18 l = 4) {z7 v1 : Int32} (wz : z7.toInt = 656 + 9 * s) (hv : v1.toInt = s) (hB0 : B ≤ 0) (fu : Nat) :
    ∀ (y x i : Int32) (σ τ : ST) (k : Int), (2147483647 - y.toInt).toNat < fu → y.toInt = k → 0 ≤ k → k < N → pl_J X g a R V0 c0 n σ τ → pl_on a τ → (σ.1 (pl_T X R) l.toNat).toInt = N - k → x.toInt = l + 1 → 0 ≤ i.toInt → i.toInt - 100 * (τ.1 a 40).toInt ≤ B - 99 + k → pl_O X lb g o a R V0 c0 n σ τ (F_X12_doOne_s_L117_1 X z7 a v1 FA fu y τ) l (m + 1) B x i := by
  induction fu with
  | zero => intro y x i σ τ k h; exact absurd h (Nat.not_lt_zero _)
  | succ fu ih =>
    intro y x i σ τ k hf hy k0 k1 J on hT hx hi hB
    obtain ⟨fu', efu⟩ : ∃ q, fu = q + 1 := ⟨fu - 1, by omega⟩
    have one : (1 : Int32).toInt = 1 := rfl
    have J0 := J
    obtain ⟨-, -, -, -, -, V', c', i1, i2, i3, i4, i5, i6⟩ := J
    have e1 : (τ.1 (q_rf X a 20) (z7 + 1).toNatClampNeg).toInt = N := (pl_cellk i2 wz ⟨by omega, by omega⟩ 1 (j := 1) rfl (by decide)).trans ((i6.2 _ (by omega) (by omega)).trans hN)
    have e8 : (τ.1 (q_rf X a 20) (z7 + 8).toNatClampNeg).toInt = b := (pl_cellk i2 wz ⟨by omega, by omega⟩ 8 (j := 8) rfl (by decide)).trans ((i6.2 _ (by omega) (by omega)).trans hb)
    have y1 : (y + 1).toInt = k + 1 := by rw [y_inc (by omega), hy]
    have v1' : (v1 + 1).toInt = s + 1 := by rw [y_inc (by omega), hv]
    rw [F_X12_doOne_s_L117_1_s]
    unfold F_X12_doOne_s_B117_1
    rw [q_letE (z7 + 1), q_letE (τ.1 (q_rf X a 20) (z7 + 1).toNatClampNeg), e1, hy, if_pos k1, q_letE (τ.1 a 38), if_pos on.1, q_letE (v1 + 1), q_letE (z7 + 8), q_letE (τ.1 (q_rf X a 20) (z7 + 8).toNatClampNeg), q_letE (FA τ (v1 + 1) (τ.1 (q_rf X a 20) (z7 + 8).toNatClampNeg)), q_letE (y + 1)]
    have bo := FB σ τ (v1 + 1) (τ.1 (q_rf X a 20) (z7 + 8).toNatClampNeg) x i (B - 99 + k) J0 on v1' e8 hx hi hB (by omega)
    obtain ⟨τ1, et⟩ : ∃ t, t = FA τ (v1 + 1) (τ.1 (q_rf X a 20) (z7 + 8).toNatClampNeg) := ⟨_, rfl⟩
    rw [← et] at bo ⊢
    obtain ⟨σ1, a1, a2, a3, a4, a5⟩ := bo
    have J1 := a3
    obtain ⟨-, -, -, j5, jb, V1, c1, o1, o2, o3, o4, o5, o6⟩ := a3
    have N1 : c1 (656 + 9 * s + 1) = N := (o6.2 _ (by omega) (by omega)).trans hN
    rcases a5 with ⟨b1, x', i', b2, b3, b4, b5⟩ | ⟨b1, b2⟩
    · have T1 : σ1.1 (pl_T X R) l.toNat = σ.1 (pl_T X R) l.toNat := a4 _ (Or.inl (by omega))
      have T1v : (σ1.1 (pl_T X R) l.toNat - 1).toInt = N - k - 1 := by rw [ar_sub, T1, hT, one, ar_wr (by omega) (by omega)]
      have w32 : V1 3 2 = V0 3 2 := o6.1 3 2 (by decide)
      obtain ⟨u, hu, em⟩ := pl_endMove Y G D o1 (x := x') (i := i') (m := m) (l := l) ⟨b3, by omega⟩ b2 (by rw [w32]; exact ⟨hl.2.1, hl.2.2⟩) hl.1 (by rw [w32]; exact h60) ((congrArg Int32.toInt j5).trans b1.2) ((o6.1 18 m (by omega)).trans m9) ((o6.1 19 m (by omega)).trans mm)
      rw [if_pos ((o6.1 18 l (by omega)).trans l4), T1v] at em
      have i1' : (i' + 1).toInt = i'.toInt + 1 := y_inc (by omega)
      have x1' : (x' + 1).toInt = m + 1 := by rw [y_inc (by omega), b2]
      have u1' : (u + 1).toInt = l + 1 := by rw [y_inc (by omega), hu]
      have J2 := J1.st Y G D l.toNat (σ1.1 (pl_T X R) l.toNat - 1)
      have S2 : tkl (pl_Sg X lb o R) (fun _ _ => False) σ (q_si σ1 (pl_T X R) l.toNat (σ1.1 (pl_T X R) l.toNat - 1)) := a1.si _ (Or.inr (Or.inr rfl))
      have F2 : ∀ y : Nat, (y : Int) < l ∨ m + 1 ≤ (y : Int) → (q_si σ1 (pl_T X R) l.toNat (σ1.1 (pl_T X R) l.toNat - 1)).1 (pl_T X R) y = σ.1 (pl_T X R) y := fun y hy => by
        rw [si_f (by omega)]
        exact a4 y (by omega)
      by_cases q : 0 < N - k - 1
      · rw [if_pos q] at em
        refine pl_O.pre S2 a2 F2 (b5.trans em) (ih (y + 1) (u + 1) (i' + 1) _ τ1 (k + 1) (by omega) y1 (by omega) (by omega) J2 b1 ?_ u1' (by omega) (by omega))
        rw [si_eq, T1v]
        omega
      · rw [if_neg q] at em
        rw [efu, pl_loopEnd o2 wz hs N1 (Or.inl (by omega))]
        exact ⟨_, S2, a2, J2, F2, Or.inl ⟨b1, x' + 1, i' + 1, x1', by omega, by omega, b5.trans em⟩⟩
    · rw [efu, pl_loopEnd o2 wz hs N1 (Or.inr (by omega))]
      exact ⟨σ1, a1, a2, J1, fun y hy => a4 y (by omega), Or.inr ⟨b1, b2⟩⟩
/-- a step with a body -/
theorem pl_block (Y : y_S X lb) (G : y_G X lb g o) (D : pl_D X lb o R) (ha : q_kd X a = 12) (hn : n ≤ 800000) {FA : ST → Int32 → Int32 → ST} {s b m : Int} (FB : pl_body X lb g o a R V0 c0 n FA (s + 1) b (l + 1) m) (J : pl_J X g a R V0 c0 n σ τ) (on : pl_on a τ) (S : st_l V0 c0 s l) (hs : 0 ≤ s ∧ s < c0 655) (hl : 0 ≤ l ∧ l < m ∧ m < V0 3 2) (h60 : V0 3 2 ≤ 60) (hk : c0 (656 + 9 * s) = 3 ∨ c0 (656 + 9 * s) = 4) (hb : c0 (656 + 9 * s + 8) = b) (m9 : V0 18 m = 9) (mm : V0 19 m = l) (ml : V0 19 l = m) {v1 : Int32} (hx : x.toInt = l) (hv : v1.toInt = s) (hi : 0 ≤ i.toInt) (hB : i.toInt - 100 * (τ.1 a 40).toInt ≤ B) (hB0 : B ≤ 0) :
    pl_O X lb g o a R V0 c0 n σ τ (F_X12_doOne_s X τ a v1 FA) l (m + 1) B x i := by
  obtain ⟨n80, n8a, n0a⟩ := pl_k28 Y.1 ha
  obtain ⟨⟨k6, k2, k3, k4⟩, j0, j1, j5, jb, V', c', i1, i2, i3, i4, i5, i6⟩ := id J
  have one : (1 : Int32).toInt = 1 := rfl
  have w := pl_W (lb := lb) (o := o) i1
  have e655 : c' 655 = c0 655 := i6.2 655 (by decide) (Or.inr (by decide))
  have qq := i4.2.2.2.2.2.1
  have s30 : s < 30 := by omega
  have hl60 : 0 ≤ l ∧ l < 60 := ⟨hl.1, by omega⟩
  have v32 : V' 3 2 = V0 3 2 := i6.1 3 2 (by decide)
  have st := i6.st ⟨hs.1, s30⟩ hl60 S
  have ck : ∀ j : Int, 0 ≤ j ∧ j ≤ 10 → c' (656 + 9 * s + j) = c0 (656 + 9 * s + j) := fun j h => i6.2 _ (by omega) (by omega)
  have ck0 : c' (656 + 9 * s) = c0 (656 + 9 * s) := i6.2 _ (by omega) (by omega)
  have act := st.act
  have f2 : (σ.1 (q_rf X g 3) 2).toInt = V0 3 2 := (w.rd (id := 3) (by decide) 2 rfl).trans v32
  have ln := pl_line Y G i1 hx hl60
  have h5 : (σ.1 R 5).toInt = 0 := by rw [j5]; exact on.2
  have hi6 : 0 ≤ i.toInt ∧ i.toInt < 1000000 := ⟨hi, by omega⟩
  have r0 : (σ.1 R 0).toInt = (τ.1 a 40).toInt := congrArg Int32.toInt j0
  have xi : (x + 1).toInt = l + 1 := by rw [y_inc (by omega), hx]
  have ii : (i + 1).toInt = i.toInt + 1 := y_inc (by omega)
  have v1' : (v1 + 1).toInt = s + 1 := by rw [y_inc (by omega), hv]
  have step := pl_Lstep (X := X) (x := x) hi6 (by rw [f2]; omega) h5
  rw [if_neg (by rw [ln.1]; omega), r0] at step
  unfold F_X12_doOne_s
  rw [q_letE (τ.1 a 40)]
  by_cases q300 : (τ.1 a 40).toInt = 300
  · rw [if_pos q300] at step
    rw [if_pos q300, q_letE (q_si τ a 38 1), q_letE (q_si (q_si τ a 38 1) a 45 1)]
    exact pl_cut Y G D ha J step
  rw [if_neg q300] at step
  obtain ⟨J5, D5⟩ := J.step Y G D ha q300
  have v5 : y_v X g (q_si σ R 0 (σ.1 R 0 + 1)) = V' := (pl_vo Y G D.2.1 0 _).trans i1
  have m5 : m_c X (q_si τ a 40 (τ.1 a 40 + 1)) a = c' := (mv_cell Y.1 ha 40 _).trans i2
  have S5 : tkl (pl_Sg X lb o R) (fun _ _ => False) σ (q_si σ R 0 (σ.1 R 0 + 1)) := tkl.rf.si _ (Or.inr (Or.inl ⟨rfl, by decide⟩))
  have T5 : tkl (pl_Sq X a) (fun _ _ => False) τ (q_si τ a 40 (τ.1 a 40 + 1)) := tkl.rf.si _ (Or.inr (Or.inr ⟨rfl, by decide, by decide⟩))
  have u5 : ∀ y : Nat, (q_si σ R 0 (σ.1 R 0 + 1)).1 (pl_T X R) y = σ.1 (pl_T X R) y := fun y => q_si_ne D.ne y
  have on5 : pl_on a (q_si τ a 40 (τ.1 a 40 + 1)) := ⟨(congrArg Int32.toInt (si_f (by decide) a)).trans on.1, (congrArg Int32.toInt (si_f (by decide) a)).trans on.2⟩
  rw [if_neg q300, q_letE (τ.1 a 40), q_letE (τ.1 a 40 + 1), q_letE (q_si τ a 40 (τ.1 a 40 + 1)), q_letE ((9 : Int32) * v1), q_letE ((656 : Int32) + (9 : Int32) * v1)]
  obtain ⟨σ5, es⟩ : ∃ t, t = q_si σ R 0 (σ.1 R 0 + 1) := ⟨_, rfl⟩
  obtain ⟨τ5, et⟩ : ∃ t, t = q_si τ a 40 (τ.1 a 40 + 1) := ⟨_, rfl⟩
  rw [← es] at J5 v5 S5 u5 step
  rw [← et] at J5 D5 m5 T5 on5 ⊢
  have wz := pl_w656 hv ⟨hs.1, s30⟩
  obtain ⟨z7, ez⟩ : ∃ z, z = (656 : Int32) + (9 : Int32) * v1 := ⟨_, rfl⟩
  rw [← ez] at wz ⊢
  have g8 : (τ5.1 (q_rf X a 20) z7.toNatClampNeg).toInt = c' (656 + 9 * s) := gm_cell m5 wz
  have e8 : (τ5.1 (q_rf X a 20) (z7 + 8).toNatClampNeg).toInt = b := (pl_cellk m5 wz ⟨by omega, by omega⟩ 8 (j := 8) rfl (by decide)).trans ((ck 8 (by decide)).trans hb)
  rw [q_letE (τ5.1 (q_rf X a 20) z7.toNatClampNeg), g8, ck0]
  rcases hk with hk | hk
  · -- when
    rw [hk, if_neg (by decide : ¬ (3 : Int) < 3), if_pos rfl, q_letE (F_X12_isSo X τ5 a z7)]
    have vm : V' 19 l = m := (i6.1 19 l (by omega)).trans ml
    obtain ⟨y, hy, so⟩ := pl_so (R := R) Y G v5 i3 i4 m5 hx hl60 st (ck0.trans hk) wz ⟨hs.1, by rw [e655]; exact hs.2⟩ (by rw [vm]; omega)
    rw [vm] at hy
    rw [so] at step
    by_cases q : (F_X12_isSo X τ5 a z7).toInt = 0
    · rw [if_pos q, q_biP y σ5] at step
      rw [if_pos q, if_neg (by decide : ¬ (3 : Int) = 4), if_neg (by decide : ¬ (4 : Int) < 3)]
      exact ⟨σ5, S5, T5, J5, fun y _ => u5 y, Or.inl ⟨on5, y, i + 1, hy, by omega, by rw [D5]; omega, step⟩⟩
    · rw [if_neg q, q_biP (x + 1) σ5] at step
      rw [if_neg q, q_letE (v1 + 1), q_letE (z7 + 8), q_letE (τ5.1 (q_rf X a 20) (z7 + 8).toNatClampNeg), q_letE (FA τ5 (v1 + 1) (τ5.1 (q_rf X a 20) (z7 + 8).toNatClampNeg))]
      refine pl_O.pre S5 T5 (fun y _ => u5 y) step ?_
      have bo := FB σ5 τ5 (v1 + 1) (τ5.1 (q_rf X a 20) (z7 + 8).toNatClampNeg) (x + 1) (i + 1) (B - 99) J5 on5 v1' e8 xi (by omega) (by rw [D5]; omega) (by omega)
      obtain ⟨τ1, et1⟩ : ∃ t, t = FA τ5 (v1 + 1) (τ5.1 (q_rf X a 20) (z7 + 8).toNatClampNeg) := ⟨_, rfl⟩
      rw [← et1] at bo ⊢
      obtain ⟨σ1, a1, a2, a3, a4, a5⟩ := bo
      have J1 := a3
      obtain ⟨-, -, -, p5, pb, V1, c1, o1, o2, o3, o4, o5, o6⟩ := a3
      rcases a5 with ⟨b1, x', i', b2, b3, b4, b5⟩ | ⟨b1, b2⟩
      · have w32 : V1 3 2 = V0 3 2 := o6.1 3 2 (by decide)
        obtain ⟨u, hu, em⟩ := pl_endMove Y G D o1 (x := x') (i := i') (m := m) (l := l) ⟨b3, by omega⟩ b2 (by rw [w32]; exact ⟨hl.2.1, hl.2.2⟩) hl.1 (by rw [w32]; exact h60) ((congrArg Int32.toInt p5).trans b1.2) ((o6.1 18 m (by omega)).trans m9) ((o6.1 19 m (by omega)).trans mm)
        have n4 : ¬ V1 18 l = 4 := fun e => by
          have z1 := o6.1 18 l (by omega)
          have z2 := i6.1 18 l (by omega)
          have z3 := act.2.2.mp (by rw [z2, ← z1]; exact e)
          omega
        rw [if_neg n4] at em
        have i1' : (i' + 1).toInt = i'.toInt + 1 := y_inc (by omega)
        have x1' : (x' + 1).toInt = m + 1 := by rw [y_inc (by omega), b2]
        exact ⟨σ1, a1, a2, J1, fun y hy => a4 y (by omega), Or.inl ⟨b1, x' + 1, i' + 1, x1', by omega, by omega, b5.trans em⟩⟩
      · exact ⟨σ1, a1, a2, J1, fun y hy => a4 y (by omega), Or.inr ⟨b1, b2⟩⟩
  · -- loop
    rw [hk, if_neg (by decide : ¬ (4 : Int) < 3), if_neg (by decide : ¬ (4 : Int) = 3), if_pos rfl]
    have l4 : V' 18 l = 4 := act.2.2.mpr (ck0.trans hk)
    have nn : V' 22 l = c' (656 + 9 * s + 1) ∧ 1 ≤ c' (656 + 9 * s + 1) ∧ c' (656 + 9 * s + 1) ≤ 99 := by
      have st' := st
      unfold st_l at st'
      rw [ck0, hk] at st'
      omega
    have ln5 := pl_line Y G v5 hx hl60
    have xn : x.toNatClampNeg = l.toNat := by rw [ar_cl, hx]
    unfold F_X7_behindStep at step
    rw [q_letE (F_X5_get X σ5 (q_rf X (q_rf X g 3) 5) x), q_letE (F_X5_get X σ5 (q_rf X (q_rf X g 3) 7) x), q_letE (F_X5_get X σ5 (q_rf X (q_rf X g 3) 4) x), q_letE (F_X5_get X σ5 (q_rf X (q_rf X g 3) 4) x + 1), q_letE (F_X5_get X σ5 (q_rf X (q_rf X g 3) 3) x), ln5.1, l4, if_neg (by decide : ¬ (4 : Int) = 0), if_neg (by decide : ¬ (4 : Int) = 1), if_neg (by decide : ¬ (4 : Int) = 2), if_neg (by decide : ¬ (4 : Int) = 3), if_pos rfl, pl_tset Y D ⟨by omega, by omega⟩, xn, q_letE (q_si σ5 (pl_T X R) l.toNat (F_X5_get X σ5 (q_rf X (q_rf X g 3) 7) x)), q_letE (x + 1), q_biP (x + 1)] at step
    obtain ⟨N, eN⟩ : ∃ N, N = c' (656 + 9 * s + 1) := ⟨_, rfl⟩
    rw [← eN] at nn
    have lN : (F_X5_get X σ5 (q_rf X (q_rf X g 3) 7) x).toInt = N := ln5.2.2.2.2.trans nn.1
    obtain ⟨num, en⟩ : ∃ v, v = F_X5_get X σ5 (q_rf X (q_rf X g 3) 7) x := ⟨_, rfl⟩
    rw [← en] at step lN
    have S6 : tkl (pl_Sg X lb o R) (fun _ _ => False) σ (q_si σ5 (pl_T X R) l.toNat num) := S5.si _ (Or.inr (Or.inr rfl))
    refine pl_O.pre S6 T5 (fun y hy => by rw [si_f (by omega)]; exact u5 y) step ?_
    have z0 : (0 : Int32).toInt = 0 := rfl
    exact pl_loop Y G D FB ⟨hs.1, s30⟩ hl h60 (N := N) ((ck 1 (by decide)).symm.trans eN.symm) ⟨nn.2.1, nn.2.2⟩ hb m9 mm ((i6.1 18 l (by omega)).symm.trans l4) wz hv hB0 _ 0 (x + 1) (i + 1) _ τ5 0 (Nat.lt_succ_self _) z0 (by decide) (by omega) (J5.st Y G D l.toNat num) on5 (by rw [si_eq, lN]; omega) xi (by omega) (by rw [D5]; omega)
/-- nothing to do, or nothing more -/
theorem pl_allEnd {v2 y : Int32} {FO : ST → Int32 → ST} {fu : Nat} (h : v2.toInt ≤ y.toInt ∨ (τ.1 a 38).toInt ≠ 0) : F_X12_doAll_s_L2_1 X v2 a FO (fu + 1) y τ = τ := by
  rw [F_X12_doAll_s_L2_1_s]
  unfold F_X12_doAll_s_B2_1
  by_cases q : y.toInt < v2.toInt
  · rw [if_pos q, q_letE (τ.1 a 38), if_neg (by
      rcases h with h | h
      · omega
      · exact h)]
  · rw [if_neg q]
theorem pl_O.rf (J : pl_J X g a R V0 c0 n σ τ) (on : pl_on a τ) (hx : x.toInt = l) (hi : 0 ≤ i.toInt) (hB : i.toInt - 100 * (τ.1 a 40).toInt ≤ B) : pl_O X lb g o a R V0 c0 n σ τ τ l l B x i :=
  ⟨σ, tkl.rf, tkl.rf, J, fun _ _ => rfl, Or.inl ⟨on, x, i, hx, hi, hB, rfl⟩⟩
/-- one piece behind another -/
theorem pl_O.tr {τ2 : ST} {m : Int} (h : pl_O X lb g o a R V0 c0 n σ τ τ1 l m B x i) (hlm : l ≤ m) (hml : m ≤ l') (over : (τ1.1 a 38).toInt = 1 → τ2 = τ1) (k : ∀ (σ1 : ST) (x1 i1 : Int32), pl_J X g a R V0 c0 n σ1 τ1 → pl_on a τ1 → x1.toInt = m → 0 ≤ i1.toInt → i1.toInt - 100 * (τ1.1 a 40).toInt ≤ B → pl_O X lb g o a R V0 c0 n σ1 τ1 τ2 m l' B x1 i1) : pl_O X lb g o a R V0 c0 n σ τ τ2 l l' B x i := by
  obtain ⟨σ1, a1, a2, a3, a4, a5⟩ := h
  rcases a5 with ⟨b1, x', i', b2, b3, b4, b5⟩ | ⟨b1, b2⟩
  · obtain ⟨σ2, d1, d2, d3, d4, d5⟩ := k σ1 x' i' a3 b1 b2 b3 b4
    refine ⟨σ2, a1.tr d1, a2.tr d2, d3, fun y hy => (d4 y (by omega)).trans (a4 y (by omega)), ?_⟩
    rcases d5 with ⟨e1, x2, i2, e2, e3, e4, e5⟩ | ⟨e1, e2⟩
    · exact Or.inl ⟨e1, x2, i2, e2, e3, e4, b5.trans e5⟩
    · exact Or.inr ⟨e1, b5.trans e2⟩
  · rw [over b1]
    exact ⟨σ1, a1, a2, a3, fun y hy => a4 y (by omega), Or.inr ⟨b1, b2⟩⟩
theorem pl_allL (Y : y_S X lb) (G : y_G X lb g o) (D : pl_D X lb o R) (ha : q_kd X a = 12) (hn : n ≤ 800000) (h60 : V0 3 2 ≤ 60) (h30 : c0 655 ≤ 30) {FA : ST → Int32 → Int32 → ST} {d : Nat} (FB : ∀ (k : Nat) (s b l m : Int), 30 - (d : Int) ≤ s → 0 ≤ s → b ≤ c0 655 → 0 ≤ l → m ≤ V0 3 2 → fl V0 c0 k s b l m → pl_body X lb g o a R V0 c0 n FA s b l m) (k : Nat) :
    ∀ (fu : Nat) (s e l l' : Int) (σ τ : ST) (v1 v2 x i : Int32) (B : Int), (31 - s).toNat < fu → 30 - ((d + 1 : Nat) : Int) ≤ s → 0 ≤ s → e ≤ c0 655 → 0 ≤ l → l' ≤ V0 3 2 → fl V0 c0 k s e l l' → pl_J X g a R V0 c0 n σ τ → pl_on a τ → v1.toInt = s → v2.toInt = e → x.toInt = l → 0 ≤ i.toInt → i.toInt - 100 * (τ.1 a 40).toInt ≤ B → B ≤ 0 → pl_O X lb g o a R V0 c0 n σ τ (F_X12_doAll_s_L2_1 X v2 a (fun t w => F_X12_doOne_s X t a w FA) fu v1 τ) l l' B x i := by
  induction k with
  | zero =>
    intro fu s e l l' σ τ v1 v2 x i B hf hd s0 he l0 hl' F J on hv1 hv2 hx hi hB hB0
    have F' : s = e ∧ l = l' := F
    obtain ⟨fu', efu⟩ : ∃ q, fu = q + 1 := ⟨fu - 1, by omega⟩
    rw [efu, pl_allEnd (Or.inl (by omega)), ← F'.2]
    exact pl_O.rf J on hx hi hB
  | succ k ih =>
    intro fu s e l l' σ τ v1 v2 x i B hf hd s0 he l0 hl' F J on hv1 hv2 hx hi hB hB0
    obtain ⟨fu', efu⟩ : ∃ q, fu = q + 1 := ⟨fu - 1, by omega⟩
    rcases F with F | ⟨F1, F2, F3⟩
    · rw [efu, pl_allEnd (Or.inl (by omega)), ← F.2]
      exact pl_O.rf J on hx hi hB
    · obtain ⟨fu2, efu2⟩ : ∃ q, fu' = q + 1 := ⟨fu' - 1, by omega⟩
      rw [efu, F_X12_doAll_s_L2_1_s]
      unfold F_X12_doAll_s_B2_1
      rw [if_pos (by omega : v1.toInt < v2.toInt), q_letE (τ.1 a 38), if_pos on.1, q_letE (F_X12_doOne_s X τ a v1 FA), q_letE ((9 : Int32) * v1), q_letE ((656 : Int32) + (9 : Int32) * v1), q_letE ((656 : Int32) + (9 : Int32) * v1 + 8)]
      have wz := pl_w656 hv1 ⟨s0, by omega⟩
      -- the next step's number
      have next : ∀ (m : Int) (b : Int), pl_O X lb g o a R V0 c0 n σ τ (F_X12_doOne_s X τ a v1 FA) l m B x i → c0 (656 + 9 * s + 8) = b → l ≤ m → m ≤ l' → s < b → fl V0 c0 k b e m l' → pl_O X lb g o a R V0 c0 n σ τ (q_let ((F_X12_doOne_s X τ a v1 FA).1 (q_rf X a 20) ((656 : Int32) + (9 : Int32) * v1 + 8).toNatClampNeg) (fun f_12 => F_X12_doAll_s_L2_1 X v2 a (fun t w => F_X12_doOne_s X t a w FA) fu' f_12 (F_X12_doOne_s X τ a v1 FA))) l l' B x i := by
        intro m b O hb h1 h2 h3 F4
        obtain ⟨τ1, et⟩ : ∃ t, t = F_X12_doOne_s X τ a v1 FA := ⟨_, rfl⟩
        rw [← et] at O ⊢
        have O' := O
        obtain ⟨σ9, -, -, ⟨-, -, -, -, -, V1, c1, o1, o2, o3, o4, o5, o6⟩, -, -⟩ := O'
        have e8 : (τ1.1 (q_rf X a 20) ((656 : Int32) + (9 : Int32) * v1 + 8).toNatClampNeg).toInt = b := (pl_cellk o2 wz ⟨by omega, by omega⟩ 8 (j := 8) rfl (by decide)).trans ((o6.2 _ (by omega) (by omega)).trans hb)
        rw [q_letE (τ1.1 (q_rf X a 20) ((656 : Int32) + (9 : Int32) * v1 + 8).toNatClampNeg)]
        obtain ⟨y, ey⟩ : ∃ y, y = τ1.1 (q_rf X a 20) ((656 : Int32) + (9 : Int32) * v1 + 8).toNatClampNeg := ⟨_, rfl⟩
        rw [← ey] at e8 ⊢
        refine O.tr h1 h2 (fun h => by rw [efu2, pl_allEnd (Or.inr (by omega))]) (fun σ1 x1 i1 J1 on1 hx1 hi1 hB1 => ?_)
        exact ih fu' b e m l' σ1 τ1 y v2 x1 i1 B (by omega) (by omega) (by omega) he (by omega) hl' F4 J1 on1 e8 hv2 hx1 hi1 hB1 hB0
      rcases F3 with ⟨n3, n4, n8, F4⟩ | ⟨n3, m, b, n8, n18, n19, nl19, F4, F5⟩
      · have le := fl_le k F4
        exact next (l + 1) (s + 1) (pl_plain Y G D ha hn J on F2 ⟨s0, by omega⟩ ⟨l0, by omega⟩ h60 ⟨n3, n4⟩ hx hv1 hi hB hB0 FA) n8 (by omega) le.2 (by omega) F4
      · have le4 := fl_le k F4
        have le5 := fl_le k F5
        exact next (m + 1) b (pl_block Y G D ha hn (FB k (s + 1) b (l + 1) m (by omega) (by omega) (by omega) (by omega) (by omega) F4) J on F2 ⟨s0, by omega⟩ ⟨l0, by omega, by omega⟩ h60 n3 n8 n18 n19 nl19 hx hv1 hi hB hB0) n8 (by omega) le5.2 (by omega) F5
/-- all steps of a piece, in both -/
theorem pl_all (Y : y_S X lb) (G : y_G X lb g o) (D : pl_D X lb o R) (ha : q_kd X a = 12) (hn : n ≤ 800000) (h60 : V0 3 2 ≤ 60) (h30 : c0 655 ≤ 30) (d : Nat) : ∀ (k : Nat) (s b l m : Int), 30 - (d : Int) ≤ s → 0 ≤ s → b ≤ c0 655 → 0 ≤ l → m ≤ V0 3 2 → fl V0 c0 k s b l m → pl_body X lb g o a R V0 c0 n (F_X12_doAllN X a d) s b l m := by
  induction d with
  | zero =>
    intro k s b l m hd s0 hb l0 hm F σ τ v1 v2 x i B J on hv1 hv2 hx hi hB hB0
    have lm : l = m := by
      cases k with
      | zero => exact (show s = b ∧ l = m from F).2
      | succ k =>
        rcases F with F | ⟨F1, -⟩
        · exact F.2
        · omega
    have e : F_X12_doAllN X a 0 τ v1 v2 = τ := by
      show F_X12_doAll_z X τ a v1 v2 = τ
      unfold F_X12_doAll_z
      rw [F_X12_doAll_z_L2_1_s]
      unfold F_X12_doAll_z_B2_1
      split <;> rfl
    rw [e, ← lm]
    exact pl_O.rf J on hx hi hB
  | succ d ih =>
    intro k s b l m hd s0 hb l0 hm F σ τ v1 v2 x i B J on hv1 hv2 hx hi hB hB0
    have e : F_X12_doAllN X a (d + 1) τ v1 v2 = F_X12_doAll_s_L2_1 X v2 a (fun t w => F_X12_doOne_s X t a w (F_X12_doAllN X a d)) ((31 - v1.toInt).toNat + 1) v1 τ := rfl
    rw [e]
    exact pl_allL Y G D ha hn h60 h30 ih k _ s b l m σ τ v1 v2 x i B (by rw [hv1]; exact Nat.lt_succ_self _) hd s0 hb l0 hm F J on hv1 hv2 hx hi hB hB0
end PG
