/-! FROM 49zb.top.lean.txt -/
/-! A ROUND BEING READ: the whole text -/
section RB
variable {X : XW} {lb : Nat → Nat} {R T a g : Nat} {n : Int} {B w : Int → Int} {Vg : Nat → Int → Int}
/-- what the reading of a whole text comes to -/
def rT_O (X : XW) (R T a g : Nat) (n : Int) (B : Int → Int) (Vg : Nat → Int → Int) (w : Int → Int) (σ τ : ST) (U : Nat → Int → Int) (c : Int → Int) (s : Int) (τ' : ST) : Prop := ∃ (k : Nat) (σ' : ST), (τ.1 a 15).toInt + (k : Int) ≤ 301 ∧
  (((∀ (fu : Nat) (i : Int32), 0 ≤ i.toInt → i.toInt ≤ (τ.1 a 15).toInt → F_X4_takes_L21_1 X R (q_rf X g 0) (fu + k) i σ = (1, σ')) ∧ (∃ (U' : Nat → Int → Int) (c' : Int → Int) (s' : Int), rd_I X R T a g n B Vg w σ' τ' U' 0 c' s' ∧ rd_Z U' s' 0 ∧ U' 0 0 = 1 ∧ (∃ m : Nat, fl (uV U') (uc c') m s s' (U 0 2) (U' 0 2)) ∧ rd_p U U' c c' (U 0 2) s 0) ∧ rd_Fr X R a σ σ' τ τ') ∨
   ((∀ (fu : Nat) (i : Int32), 0 ≤ i.toInt → i.toInt ≤ (τ.1 a 15).toInt → F_X4_takes_L21_1 X R (q_rf X g 0) (fu + k) i σ = (0, σ')) ∧ tl_F σ' R τ' a ∧ rd_Fr X R a σ σ' τ τ'))
theorem rT (Y : y_S X lb) (D : rd_D X lb R T) (ha : q_kd X a = 12) (G : y_G X lb g 1) (hn : n ≤ 300) (fu : Nat) : ∀ {σ τ : ST} {U : Nat → Int → Int} {c : Int → Int} {s : Int}, rd_I X R T a g n B Vg w σ τ U 0 c s → rd_Z U s 0 → 0 ≤ c 2 ∧ c 2 ≤ 6 → Vg 1 4 = c 2 → y_nm Vg w 0 (c 2) → ((901 - (τ.1 a 15).toInt).toNat + (1 - (0 : Int)).toNat) < fu → ∃ τ' : ST, F_X12_round_L28_1 X a fu τ = F_X12_round_J50_2 X τ' a ∧ rT_O X R T a g n B Vg w σ τ U c s τ' := by
  have z0 : (0 : Int32).toInt = 0 := rfl
  induction fu with
  | zero => intro σ τ U c s _ _ _ _ _ hf; omega
  | succ fu ih =>
    intro σ τ U c s I hZ hP6 hP N hf
    have I0 := I
    have Z0 := hZ
    obtain ⟨S, M, Kk, h0, hV⟩ := I0
    obtain ⟨z1, z2, z3, z4, z5, z6, z7⟩ := Z0
    have kb := Kk.b
    have pk0 := Kk.2.2.2.2.2.2.1
    have step : F_X12_round_L28_1 X a (fu + 1) τ = if (τ.1 a 14).toInt = 0 then F_X12_round_J50_2 X τ a else F_X12_round_L28_1 X a fu (F_X12_readStep_d3 X τ a 0) := by
      rw [F_X12_round_L28_1_s]
      unfold F_X12_round_B28_1
      rw [q_letE (τ.1 a 12), if_pos h0, q_letE (τ.1 a 14)]
      by_cases q : (τ.1 a 14).toInt = 0
      · rw [if_pos q, if_pos q]
      · rw [if_neg q, if_neg q, q_letE]
    have bad : ∀ (τ1 : ST) , 0 < (τ1.1 a 12).toInt → F_X12_round_L28_1 X a fu τ1 = F_X12_round_J50_2 X τ1 a := by
      intro τ1 h
      obtain ⟨k, rfl⟩ : ∃ k, fu = k + 1 := ⟨fu - 1, by omega⟩
      rw [F_X12_round_L28_1_s]
      unfold F_X12_round_B28_1
      rw [q_letE (τ1.1 a 12), if_neg (by omega)]
    rw [step]
    by_cases ht : (τ.1 a 14).toInt = 0
    · rw [if_pos ht]
      obtain ⟨S1, x1⟩ := S.cell D (id := 0) (by decide) 0 1
      have sc1 := rd_same (σ := σ) D (id := 0) (by decide) 0 1
      have fr := rd_Fr.cl (a := a) (τ := τ) x1
      refine ⟨τ, rfl, 1, _, by omega, Or.inl ⟨fun fu i i0 i1 => ?_, ⟨_, c, s, ⟨S1, M, Kk.same sc1 (tl_same.rf (a := a) (τ := τ)), h0, by rw [fr.1.v Y D G (by decide), hV]⟩, ?_, ?_, ⟨0, ?_⟩, ?_⟩, fr⟩⟩
      · rw [lc_fin I ht fu i]
        unfold F_X4_takes_E72_3
        rw [q_letE (q_si σ (q_rf X R 8) 0 1)]
        have e1' : q_si σ (q_rf X R 8) 0 1 = q_si σ (rdA X R 0) 0 1 := rfl
        have f10 : ((q_si σ (rdA X R 0) 0 1).1 R 10).toInt = 0 := S1.2.2
        rw [e1', q_letE ((q_si σ (rdA X R 0) 0 1).1 R 10), if_pos f10]
      · refine ⟨?_, ?_, ?_, z4, z5, z6, z7⟩
        · rw [y_up_ne (Or.inr (by decide))]; exact z1
        · rw [y_up_ne (Or.inr (by decide))]; exact z2
        · rw [y_up_ne (Or.inr (by decide))]; exact z3
      · exact y_up_eq _ _ _ _
      · rw [y_up_ne (Or.inr (by decide))]; exact ⟨rfl, rfl⟩
      · exact ⟨fun id i a1 a2 a3 => by rw [y_up_ne (Or.inl (by omega))], fun i q => by rw [y_up_ne (Or.inl (by decide))], fun j q => rfl⟩
    · rw [if_neg ht]
      by_cases he : (F_X12_isEnd X τ a).toInt = 0
      · have A := rA_s3 Y D ha G hn 0 I hZ hP6 hP N z0 (by omega) ht he
        obtain ⟨τ1, hτ⟩ : ∃ t, t = F_X12_readStep_d3 X τ a 0 := ⟨_, rfl⟩
        rw [← hτ] at A ⊢
        obtain ⟨k, hk, A⟩ := A
        rcases A with ⟨σ1, U1, c1, s1, e2, I1, Z1, F1, ⟨⟨m1, q1⟩, q2⟩, p1⟩ | ⟨σ1, e2, F2, f2, b2⟩
        · have le := fl_le _ q1
          have cc : ∀ j : Int, j < 4376 + 9 * s → c1 j = c j := q2.2.2
          obtain ⟨τ', e3, k2, σ', b3, o⟩ := ih I1 Z1 (by rw [cc 2 (by omega)]; exact hP6) (by rw [cc 2 (by omega)]; exact hP) (by rw [cc 2 (by omega)]; exact N) (by omega)
          refine ⟨τ', e3, k2 + k, σ', by rw [Int.natCast_add]; omega, ?_⟩
          rcases o with ⟨o1, ⟨U', c', s', o2, o3, o4, ⟨m, o5⟩, o6⟩, o7⟩ | ⟨o1, o2, o3⟩
          · refine Or.inl ⟨fun fu i i0 i1 => ?_, ⟨U', c', s', o2, o3, o4, ⟨m1 + m, fl_app m1 (fl_y m1 (fun id i a1 a2 a3 a4 => o6.1 (id - 17) i (by omega) (by omega) a4) (fun j j0 j1 => o6.2.2 (3720 + j) (by omega)) q1) o5⟩, q2.tr o6 (by omega) (by omega) (by omega)⟩, F1.tr o7⟩
            obtain ⟨i', hi, e⟩ := e2 (fu + k2) i i0 i1
            rw [← Nat.add_assoc, e]
            exact o1 fu i' (by omega) (by omega)
          · refine Or.inr ⟨fun fu i i0 i1 => ?_, o2, F1.tr o3⟩
            obtain ⟨i', hi, e⟩ := e2 (fu + k2) i i0 i1
            rw [← Nat.add_assoc, e]
            exact o1 fu i' (by omega) (by omega)
        · exact ⟨τ1, bad τ1 F2.2.1, k, σ1, b2, Or.inr ⟨e2, F2, f2⟩⟩
      · -- an end without a body
        have r2 : (F_X12_stepWord X τ a).toInt = -1 := by
          rw [tm_isEnd] at he
          by_cases q : (τ.1 a 14).toInt = 1 ∧ (τ.2.1 a 19).toInt = 5572
          · rw [tm_stepWord, if_neg (by omega), if_neg (by omega), if_neg (by omega), if_neg (by omega), if_neg (by omega), if_neg (by omega)]
          · rw [if_neg q] at he
            exact absurd rfl he
        obtain ⟨σ', e, t1, t2, f⟩ := tl_wrong Kk h0
        rw [rs_d_3, rs_a_3 _ _ 0 (by omega) f.2.1]
        refine ⟨_, bad _ f.2.1, 1, σ', by omega, Or.inr ⟨fun fu i i0 i1 => ?_, f, rd_Fr.rd Y.1 ha D S t1 t2⟩⟩
        rw [lc_end I hn he fu i i1]
        unfold F_X4_readEnd
        have f10 : (σ.1 R 10).toInt = 0 := S.2.2
        rw [q_letE (σ.1 R 10), if_pos f10, e, q_biP (0 : Int32) σ', q_biP (0 : Int32) σ', if_pos (by decide)]
end RB
