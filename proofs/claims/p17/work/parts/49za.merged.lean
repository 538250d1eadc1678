/-! FROM 49za.readers.lean.txt -/
/-! A ROUND BEING READ: steps with their bodies, the main induction -/
def rd_Q (U : Nat → Int → Int) (c : Int → Int) (s dp : Int) : (Nat → Int → Int) → (Int → Int) → Int → Prop := fun U' c' s' => (∃ m : Nat, fl (uV U') (uc c') m s s' (U 0 2) (U' 0 2)) ∧ rd_p U U' c c' (U 0 2) s dp
section RA
variable {X : XW} {lb : Nat → Nat} {R T a g : Nat} {σ τ σ1 τ1 σ' τ' : ST} {n dp s L : Int} {B c c1 w : Int → Int} {U U1 Vg : Nat → Int → Int} {Q Q1 : (Nat → Int → Int) → (Int → Int) → Int → Prop}
theorem rA_tr {k1 : Nat} (h1 : ∀ (fu : Nat) (i : Int32), 0 ≤ i.toInt → i.toInt ≤ (τ.1 a 15).toInt → ∃ i' : Int32, i'.toInt = i.toInt + (k1 : Int) ∧ F_X4_takes_L21_1 X R (q_rf X g 0) (fu + k1) i σ = F_X4_takes_L21_1 X R (q_rf X g 0) fu i' σ1) (p1 : (τ.1 a 15).toInt + (k1 : Int) ≤ (τ1.1 a 15).toInt) (f1 : rd_Fr X R a σ σ1 τ τ1) (A : rd_A X R T a g n B Vg w σ1 τ1 τ' U1 c1 dp Q1) (hQ : ∀ U' c' s', Q1 U' c' s' → Q U' c' s') : rd_A X R T a g n B Vg w σ τ τ' U c dp Q := by
  obtain ⟨k, hk, A⟩ := A
  refine ⟨k + k1, by omega, ?_⟩
  rcases A with ⟨σ2, U2, c2, s2, e2, I2, Z2, F2, q2, p2⟩ | ⟨σ2, e2, F2, f2, b2⟩
  · refine Or.inl ⟨σ2, U2, c2, s2, fun fu i i0 i1 => ?_, I2, Z2, f1.tr F2, hQ _ _ _ q2, by rw [Int.natCast_add]; omega⟩
    obtain ⟨i', hi, e⟩ := h1 (fu + k) i i0 i1
    obtain ⟨i2, hi2, e3⟩ := e2 fu i' (by omega) (by omega)
    refine ⟨i2, by rw [hi2, hi, Int.natCast_add]; omega, ?_⟩
    rw [← Nat.add_assoc, e, e3]
  · refine Or.inr ⟨σ2, fun fu i i0 i1 => ?_, F2, f1.tr f2, by rw [Int.natCast_add]; omega⟩
    obtain ⟨i', hi, e⟩ := h1 (fu + k) i i0 i1
    rw [← Nat.add_assoc, e]
    exact e2 fu i' (by omega) (by omega)
theorem rA_1 (I : rd_I X R T a g n B Vg w σ τ U dp c s) (hn : n ≤ 300) (ht : ¬ (τ.1 a 14).toInt = 0) (he : (F_X12_isEnd X τ a).toInt = 0) {z : Int32} (e : F_X4_readStep X σ R (q_rf X g 0) = (z, σ1)) (hz : z.toInt = 1) (fu : Nat) (i : Int32) (i0 : 0 ≤ i.toInt) (i1 : i.toInt ≤ (τ.1 a 15).toInt) : ∃ i' : Int32, i'.toInt = i.toInt + ((1 : Nat) : Int) ∧ F_X4_takes_L21_1 X R (q_rf X g 0) (fu + 1) i σ = F_X4_takes_L21_1 X R (q_rf X g 0) fu i' σ1 := by
  have kb := I.2.2.1.b
  have one : (1 : Int32).toInt = 1 := rfl
  refine ⟨i + 1, by rw [ar_add, one, ar_wr (by omega) (by omega)]; rfl, ?_⟩
  rw [lc_step I hn ht he fu i i1, e, q_biP z σ1, if_neg (by omega), q_letE]
theorem rA_0f (I : rd_I X R T a g n B Vg w σ τ U dp c s) (hn : n ≤ 300) (ht : ¬ (τ.1 a 14).toInt = 0) (he : (F_X12_isEnd X τ a).toInt = 0) {z : Int32} (e : F_X4_readStep X σ R (q_rf X g 0) = (z, σ')) (hz : z.toInt = 0) (f : tl_F σ' R τ' a) (F : rd_Fr X R a σ σ' τ τ') : rd_A X R T a g n B Vg w σ τ τ' U c dp Q := by
  have kb := I.2.2.1.b
  refine ⟨1, Nat.le_refl _, Or.inr ⟨σ', fun fu i i0 i1 => ?_, f, F, by omega⟩⟩
  rw [lc_step I hn ht he fu i i1, e, q_biP z σ', if_pos hz]
theorem rA_1f (I : rd_I X R T a g n B Vg w σ τ U dp c s) (hn : n ≤ 300) (ht : ¬ (τ.1 a 14).toInt = 0) (he : (F_X12_isEnd X τ a).toInt = 0) {z : Int32} (e : F_X4_readStep X σ R (q_rf X g 0) = (z, σ1)) (hz : z.toInt = 1) {s1 dp1 : Int} (I1 : rd_I X R T a g n B Vg w σ1 τ1 U1 dp1 c1 s1) (Z1 : rd_Z U1 s1 dp1) (F : rd_Fr X R a σ σ1 τ τ1) (q : Q U1 c1 s1) (p : (τ.1 a 15).toInt < (τ1.1 a 15).toInt) : rd_A X R T a g n B Vg w σ τ τ1 U c dp1 Q :=
  ⟨1, Nat.le_refl _, Or.inl ⟨σ1, U1, c1, s1, fun fu i i0 i1 => rA_1 I hn ht he e hz fu i i0 i1, I1, Z1, F, q, by omega⟩⟩
/-- a flat step in the round's relation -/
theorem fl_one {V : Nat → Int → Int} {c : Int → Int} {s l : Int} (h : st_l V c s l) (h3 : c (656 + 9 * s) ≠ 3 ∧ c (656 + 9 * s) ≠ 4) (h8 : c (656 + 9 * s + 8) = s + 1) : fl V c 1 s (s + 1) l (l + 1) := Or.inr ⟨by omega, h, Or.inl ⟨h3.1, h3.2, h8, rfl, rfl⟩⟩
theorem uc_e (c : Int → Int) (j : Int) : uc c j = c (3720 + j) := rfl
/-- the reference's last write of a step -/
theorem rd_w8 (hT : q_T X) (ha : q_kd X a = 12) {s0 : Int} (I : rd_I X R T a g n B Vg w σ τ U dp c s) {z : Int32} (hz : z.toInt = 4376 + 9 * s0) (h0 : 0 ≤ s0 ∧ s0 ≤ 30) : rd_I X R T a g n B Vg w σ (q_si τ (q_rf X a 20) (z + 8).toNatClampNeg (τ.1 a 27)) U dp (m_up c (4376 + 9 * s0 + 8) s) s ∧ (z + 8).toInt = 4376 + 9 * s0 + 8 ∧ tl_same a τ (q_si τ (q_rf X a 20) (z + 8).toNatClampNeg (τ.1 a 27)) := by
  obtain ⟨S, M, K, h, hV⟩ := I
  have e8 : (8 : Int32).toInt = 8 := rfl
  have zz : (z + 8).toInt = 4376 + 9 * s0 + 8 := by rw [ar_add, e8, ar_wr (by omega) (by omega), hz]
  obtain ⟨M1, t1⟩ := M.cw hT ha zz (v := τ.1 a 27) (by omega)
  have fs : (τ.1 a 27).toInt = s := M.2.2.2.1
  rw [fs] at M1
  have na : a ≠ q_rf X a 20 := Ne.symm (m_ne (tb_k hT ha).1 ha (by decide))
  exact ⟨⟨S, M1, K.same (fun _ _ _ => rfl) t1, by rw [q_si_ne na]; exact h, hV⟩, zz, t1⟩
theorem rd_p.w8 {U U' : Nat → Int → Int} {c c' : Int → Int} {L s dp s0 v : Int} (h : rd_p U U' c c' L s dp) (hs : s ≤ s0) : rd_p U U' c (m_up c' (4376 + 9 * s0 + 8) v) L s dp := ⟨h.1, h.2.1, fun j q => by rw [m_up_ne (by omega)]; exact h.2.2 j q⟩
/-- a flat step done by both -/
theorem rA_flat (hT : q_T X) (ha : q_kd X a = 12) (I : rd_I X R T a g n B Vg w σ τ U dp c s) (hn : n ≤ 300) (hZ : rd_Z U s dp) (hs : s < 30) (ht : ¬ (τ.1 a 14).toInt = 0) (he : (F_X12_isEnd X τ a).toInt = 0) {k : Int} (hk : k ≠ 3 ∧ k ≠ 4) {z r : Int32} (e : F_X4_readStep X σ R (q_rf X g 0) = (z, σ')) (hz : r.toInt = 4376 + 9 * s) (O : hd_O X R T a g n B Vg w dp s (y_up (y_up U 0 2 (U 0 2 + 1)) 0 1 (s + 1)) c (U 0 2) k σ τ z σ' τ1) : rd_A X R T a g n B Vg w σ τ (q_si τ1 (q_rf X a 20) (r + 8).toNatClampNeg (τ1.1 a 27)) U c dp (rd_Q U c s dp) := by
  obtain ⟨z1, z2, z3, z4, z5, z6, z7⟩ := hZ
  have e8 : (8 : Int32).toInt = 8 := rfl
  have zz : (r + 8).toInt = 4376 + 9 * s + 8 := by rw [ar_add, e8, ar_wr (by omega) (by omega), hz]
  obtain ⟨F, O⟩ := O
  have Fw := F.tr (rd_Fr.cw (R := R) (τ := τ1) (v := τ1.1 a 27) hT ha rd_F.rf zz (by omega))
  rcases O with ⟨o1, ⟨U', c', I', p1, p2, p3⟩, o3⟩ | ⟨o1, o2⟩
  · obtain ⟨Iw, -, tw⟩ := rd_w8 hT ha I' hz ⟨z4, z5⟩
    obtain ⟨x1, x2⟩ := p1
    have u2 : U' 0 2 = U 0 2 + 1 := by rw [x1 0 2 (Or.inl rfl), y_up_ne (Or.inr (by decide)), y_up_eq]
    have u1 : U' 0 1 = s + 1 := by rw [x1 0 1 (Or.inl rfl), y_up_eq]
    have un : ∀ (id : Nat) (i : Int), id = 2 ∨ id = 6 ∨ 1 ≤ id ∧ i ≠ U 0 2 → U' id i = U id i := fun id i h => by rw [x1 id i (by omega), y_up_ne (Or.inl (by omega)), y_up_ne (Or.inl (by omega))]
    refine rA_1f I hn ht he e o1 Iw ⟨u1, by omega, by omega, by omega, by omega, z6, z7⟩ Fw ⟨⟨1, ?_⟩, ?_⟩ (by rw [tw.1 15 (by decide) (by decide)]; exact o3)
    · rw [u2]
      refine fl_one (p3.y (fun id _ => rfl) (fun j j0 j1 => ?_)) ?_ ?_
      · rw [uc_e, uc_e, m_up_ne (by omega)]
      · rw [uc_e, m_up_ne (by omega), (by omega : 3720 + (656 + 9 * s) = 4376 + 9 * s), p2]
        exact hk
      · rw [uc_e, (by omega : 3720 + (656 + 9 * s + 8) = 4376 + 9 * s + 8), m_up_eq]
    · exact ⟨fun id i a b q => un id i (by omega), fun i q => un 6 i (by omega), fun j q => by rw [m_up_ne (by omega), x2 j (by omega)]⟩
  · exact rA_0f I hn ht he e o1 (o2.tab hT ha _ _) Fw

/-- a step with all that belongs to it, 0 bodies deep at most -/
theorem rA_s0 (Y : y_S X lb) (D : rd_D X lb R T) (ha : q_kd X a = 12) (G : y_G X lb g 1) (hn : n ≤ 300) (v : Int32) (I : rd_I X R T a g n B Vg w σ τ U dp c s) (hZ : rd_Z U s dp) (hP6 : 0 ≤ c 2 ∧ c 2 ≤ 6) (hP : Vg 1 4 = c 2) (N : y_nm Vg w 0 (c 2)) (hv : v.toInt = dp) (hd : dp = 3 - 0) (ht : ¬ (τ.1 a 14).toInt = 0) (he : (F_X12_isEnd X τ a).toInt = 0) : rd_A X R T a g n B Vg w σ τ (F_X12_readStep_d0 X τ a v) U c dp (rd_Q U c s dp) := by
  obtain ⟨c1, c2, c3, c4, c5⟩ := cl_step I hZ.1
  have ra := rd_act I
  have I0 := I
  have Z0 := hZ
  obtain ⟨S, M, Kk, h0, hV⟩ := I0
  obtain ⟨z1, z2, z3, z4, z5, z6, z7⟩ := Z0
  have fs : (τ.1 a 27).toInt = s := M.2.2.2.1
  rw [rs_d_0]
  rcases ra with ⟨r1, r2⟩ | ⟨hk, ty⟩
  · obtain ⟨σ', e, t1, t2, f⟩ := tl_wrong Kk h0
    have e7 := c1 r1
    rw [e] at e7
    rw [rs_a_0 _ _ v (by omega) f.2.1]
    exact rA_0f I hn ht he e7 rfl f (rd_Fr.rd Y.1 ha D S t1 t2)
  · have hk0 := hk
    unfold rd_k at hk0
    by_cases hs : s < 30
    · have s30 : ¬ (τ.1 a 27).toInt = 30 := by omega
      have e9 : (9 : Int32).toInt = 9 := rfl
      have e43 : (4376 : Int32).toInt = 4376 := rfl
      have e8 : (8 : Int32).toInt = 8 := rfl
      have zr : ((4376 : Int32) + 9 * τ.1 a 27).toInt = 4376 + 9 * s := by rw [ar_add, ar_mul, e9, e43, fs, ar_wr (n := 9 * s) (by omega) (by omega), ar_wr (by omega) (by omega)]
      have zz8 : (((4376 : Int32) + 9 * τ.1 a 27) + 8).toInt = 4376 + 9 * s + 8 := by rw [ar_add, e8, zr, ar_wr (by omega) (by omega)]
      by_cases hb : (F_X4_actionHere X σ R).toInt = 4 ∨ (F_X4_actionHere X σ R).toInt = 8
      · have x1 : (if (F_X12_stepWord X τ a).toInt = 3 ∨ (F_X12_stepWord X τ a).toInt = 4 then (1 : Int32) else 0) = 1 := if_pos (by omega)
        obtain ⟨σ', e, t1, t2, f⟩ := tl_fail Kk h0 (by omega) (k := 7) (by decide) (w := τ.1 a 15) rfl
        have e7 := c4 (by omega) hs hb (by omega)
        rw [e] at e7
        rw [rs_c_0 _ _ v h0 (by omega) s30 (by rw [x1]; decide) (by omega) f.2.1]
        exact rA_0f I hn ht he e7 rfl f (rd_Fr.rd Y.1 ha D S t1 t2)
      · have x0 : (if (F_X12_stepWord X τ a).toInt = 3 ∨ (F_X12_stepWord X τ a).toInt = 4 then (1 : Int32) else 0).toInt = 0 := by
          rw [if_neg (by omega)]
          rfl
        obtain ⟨fu, hf, e5⟩ := rs_e_0 (X := X) (a := a) (τ := τ) (F_X12_stepWord X τ a) (if (F_X12_stepWord X τ a).toInt = 3 ∨ (F_X12_stepWord X τ a).toInt = 4 then 1 else 0) v h0 (by omega) s30 (Or.inl x0)
        rw [e5, ls_flat_0 (τ := hd_M X a (F_X12_stepWord X τ a) τ) _ _ v x0 fu (by omega)]
        obtain ⟨z, σ', e6, O⟩ := op_flat Y D ha G I hP6 hP N (r := F_X4_actionHere X σ R) (rk := F_X12_stepWord X τ a) (x64 := 0) z1 rfl ⟨z2, by omega⟩ ⟨z4, hs⟩ ht rfl rfl hk rfl
        have e7 := c5 (by omega) hs (by omega)
        rw [e6] at e7
        exact rA_flat Y.1 ha I hn hZ hs ht he (by omega) e7 zr O
    · obtain ⟨σ', e, t1, t2, f⟩ := tl_fail Kk h0 (by omega) (k := 6) (by decide) (w := τ.1 a 15) rfl
      have e7 := c2 (by omega) hs
      rw [e] at e7
      rw [rs_b_0 _ _ v h0 (by omega) (by omega) f.2.1]
      exact rA_0f I hn ht he e7 rfl f (rd_Fr.rd Y.1 ha D S t1 t2)

/-- a body, read line by line to its end -/
theorem rB_1 (Y : y_S X lb) (D : rd_D X lb R T) (ha : q_kd X a = 12) (G : y_G X lb g 1) (hn : n ≤ 300) (v x3 z : Int32) (hx : ¬ x3.toInt = 0) {s0 l0 : Int} {U0 : Nat → Int → Int} {c0 : Int → Int} (hz : z.toInt = 4376 + 9 * s0) (hv : v.toInt = dp) (hd : dp = 3 - 1) (fu : Nat) : ∀ {σ τ : ST} {U : Nat → Int → Int} {c : Int → Int} {s : Int}, rd_I X R T a g n B Vg w σ τ U (dp + 1) c s → rd_Z U s (dp + 1) → 0 ≤ c 2 ∧ c 2 ≤ 6 → Vg 1 4 = c 2 → y_nm Vg w 0 (c 2) → ((901 - (τ.1 a 15).toInt).toNat + (1 - (0 : Int)).toNat) < fu → 0 ≤ s0 ∧ s0 < s → U 6 dp = l0 → 0 ≤ l0 ∧ l0 < U 0 2 → (∃ m : Nat, fl (uV U) (uc c) m (s0 + 1) s (l0 + 1) (U 0 2)) → st_l (uV U) (uc c) s0 l0 → c (4376 + 9 * s0) = 3 ∨ c (4376 + 9 * s0) = 4 → rd_p U0 U c0 c l0 s0 dp → rd_A X R T a g n B Vg w σ τ (F_X12_readStep_d1_L140_5 X x3 z a v fu τ) U c dp (fun U' c' s' => (∃ m : Nat, fl (uV U') (uc c') m s0 s' l0 (U' 0 2)) ∧ rd_p U0 U' c0 c' l0 s0 dp) := by
  have e8 : (8 : Int32).toInt = 8 := rfl
  induction fu with
  | zero => intro σ τ U c s _ _ _ _ _ hf; omega
  | succ fu ih =>
    intro σ τ U c s I hZ hP6 hP N hf hs0 h6 hl0 hF hst hc hp
    have I0 := I
    have Z0 := hZ
    obtain ⟨S, M, Kk, h0, hV⟩ := I0
    obtain ⟨z1, z2, z3, z4, z5, z6, z7⟩ := Z0
    have kb := Kk.b
    have pk0 := Kk.2.2.2.2.2.2.1
    have zz : (z + 8).toInt = 4376 + 9 * s0 + 8 := by rw [ar_add, e8, hz, ar_wr (by omega) (by omega)]
    have one : (1 : Int32).toInt = 1 := rfl
    have hv1 : (v + 1).toInt = dp + 1 := by rw [ar_add, one, hv, ar_wr (by omega) (by omega)]
    by_cases ht : (τ.1 a 14).toInt = 0
    · -- the text's end
      have he : (F_X12_isEnd X τ a).toInt = 0 := by
        rw [tm_isEnd, if_neg (by omega)]
      rw [ls_rec_1 x3 z v hx fu h0 he, rs_d_0]
      have r2 : (F_X12_stepWord X τ a).toInt = -1 := by
        rcases rd_act I with ⟨r1, r2⟩ | ⟨hk, ty⟩
        · exact r2
        · omega
      obtain ⟨S1, x1⟩ := S.cell D (id := 0) (by decide) 0 1
      have sc1 := rd_same (σ := σ) D (id := 0) (by decide) 0 1
      obtain ⟨σ1, e1⟩ : ∃ t, t = q_si σ (rdA X R 0) 0 1 := ⟨_, rfl⟩
      rw [← e1] at S1 x1 sc1
      obtain ⟨σ', e, t1, t2, f⟩ := tl_wrong (Kk.same sc1 (tl_same.rf (a := a) (τ := τ))) h0
      rw [rs_a_0 _ _ (v + 1) (by omega) f.2.1, ls_bad_1 (τ := F_X12_wrong X τ a) x3 z v hx fu (by omega) f.2.1]
      refine ⟨1, Nat.le_refl _, Or.inr ⟨σ', fun fu i i0 i1 => ?_, f.tab Y.1 ha _ _, ((rd_Fr.cl x1).tr (rd_Fr.rd Y.1 ha D S1 t1 t2)).tr (rd_Fr.cw (R := R) (τ := F_X12_wrong X τ a) (v := (F_X12_wrong X τ a).1 a 27) Y.1 ha rd_F.rf zz (by omega)), by omega⟩⟩
      rw [lc_fin I ht fu i]
      unfold F_X4_takes_E72_3
      rw [q_letE (q_si σ (q_rf X R 8) 0 1)]
      have e1' : σ1 = q_si σ (q_rf X R 8) 0 1 := e1
      rw [← e1', q_letE (σ1.1 R 10)]
      have f10 : (σ1.1 R 10).toInt = dp + 1 := S1.2.2
      rw [if_neg (by omega), e, q_biP (0 : Int32) σ', if_pos (by decide)]
    · by_cases he : (F_X12_isEnd X τ a).toInt = 0
      · rw [ls_rec_1 x3 z v hx fu h0 he]
        have A := rA_s0 Y D ha G hn (v + 1) I hZ hP6 hP N hv1 (by omega) ht he
        obtain ⟨τ1, hτ⟩ : ∃ t, t = F_X12_readStep_d0 X τ a (v + 1) := ⟨_, rfl⟩
        rw [← hτ] at A ⊢
        obtain ⟨k, hk, A⟩ := A
        rcases A with ⟨σ1, U1, c1, s1, e2, I1, Z1, F1, ⟨⟨m1, q1⟩, q2⟩, p1⟩ | ⟨σ1, e2, F2, f2, b2⟩
        · have le := fl_le _ q1
          have hU6 : U1 6 dp = l0 := by rw [q2.2.1 dp (by omega)]; exact h6
          obtain ⟨m, hF⟩ := hF
          have hF1 : fl (uV U1) (uc c1) m (s0 + 1) s (l0 + 1) (U 0 2) := fl_y m (fun id i a1 a2 a3 a4 => q2.1 (id - 17) i (by omega) (by omega) a4) (fun j j0 j1 => q2.2.2 (3720 + j) (by omega)) hF
          have cc : ∀ j : Int, j < 4376 + 9 * s → c1 j = c j := q2.2.2
          exact rA_tr e2 p1 F1 (ih I1 Z1 (by rw [cc 2 (by omega)]; exact hP6) (by rw [cc 2 (by omega)]; exact hP) (by rw [cc 2 (by omega)]; exact N) (by omega) ⟨hs0.1, by omega⟩ hU6 ⟨hl0.1, by omega⟩ ⟨m + m1, fl_app m hF1 q1⟩ (hst.y (fun id h => q2.1 (id - 17) l0 (by omega) (by omega) hl0.2) (fun j j0 j1 => cc (3720 + j) (by omega))) (by rw [cc _ (by omega)]; exact hc) (hp.tr q2 (by omega) (by omega) (by omega))) (fun _ _ _ q => q)
        · rw [ls_bad_1 (τ := τ1) x3 z v hx fu (by omega) F2.2.1]
          exact ⟨k, hk, Or.inr ⟨σ1, e2, F2.tab Y.1 ha _ _, f2.tr (rd_Fr.cw (R := R) (τ := τ1) (v := τ1.1 a 27) Y.1 ha rd_F.rf zz (by omega)), b2⟩⟩
      · -- the body's end
        obtain ⟨τ5, h5⟩ : ∃ t, t = F_X12_must X (F_X12_must X τ a (F_X12_isEnd X τ a)) a (F_X12_isSign X (F_X12_must X τ a (F_X12_isEnd X τ a)) a 59) := ⟨_, rfl⟩
        rw [ls_end_1 x3 z v hx (fu + 1) (by omega) h0 he h5]
        obtain ⟨y, σ', e, F, o⟩ := op_end Y D ha G I ⟨by omega, by omega⟩ rfl ⟨z2, by omega⟩ h6 hl0 he h5
        have Fw := F.tr (rd_Fr.cw (R := R) (τ := τ5) (v := τ5.1 a 27) Y.1 ha rd_F.rf zz (by omega))
        rcases o with ⟨o1, o2, o3⟩ | ⟨o1, o2⟩
        · obtain ⟨Iw, -, tw⟩ := rd_w8 Y.1 ha o2 hz ⟨hs0.1, by omega⟩
          obtain ⟨m, hF⟩ := hF
          obtain ⟨U', hU'⟩ : ∃ t, t = y_up (y_up (y_up (y_up U 1 (U 0 2) 9) 0 2 (U 0 2 + 1)) 2 (U 0 2) l0) 2 l0 (U 0 2) := ⟨_, rfl⟩
          rw [← hU'] at Iw o2
          have u2 : U' 0 2 = U 0 2 + 1 := by rw [hU', y_up_ne (Or.inl (by decide)), y_up_ne (Or.inl (by decide)), y_up_eq]
          have u1 : U' 0 1 = s := by rw [hU', y_up_ne (Or.inl (by decide)), y_up_ne (Or.inl (by decide)), y_up_ne (Or.inr (by decide)), y_up_ne (Or.inl (by decide))]; exact z1
          have un : ∀ (id : Nat) (i : Int), 1 ≤ id → i ≠ U 0 2 → (id ≠ 2 ∨ i ≠ l0) → U' id i = U id i := fun id i a1 a2 a3 => by rw [hU', y_up_ne (by omega), y_up_ne (Or.inr a2), y_up_ne (Or.inl (by omega)), y_up_ne (Or.inr a2)]
          have v1 : U' 1 (U 0 2) = 9 := by rw [hU', y_up_ne (Or.inl (by decide)), y_up_ne (Or.inl (by decide)), y_up_ne (Or.inl (by decide)), y_up_eq]
          have v2 : U' 2 (U 0 2) = l0 := by rw [hU', y_up_ne (Or.inr (by omega)), y_up_eq]
          have v3 : U' 2 l0 = U 0 2 := by rw [hU', y_up_eq]
          refine ⟨1, Nat.le_refl _, Or.inl ⟨σ', U', _, s, fun fu i i0 i1 => ⟨i + 1, by rw [ar_add, one, ar_wr (by omega) (by omega)]; rfl, ?_⟩, Iw, ⟨u1, by omega, by omega, z4, z5, by omega, by omega⟩, Fw, ⟨⟨m + 1, ?_⟩, ?_⟩, by rw [tw.1 15 (by decide) (by decide)]; omega⟩⟩
          · rw [lc_end I hn he fu i i1, e, q_biP y σ', if_neg (by omega), q_letE]
          · have hF1 : fl (uV U') (uc (m_up c (4376 + 9 * s0 + 8) s)) m (s0 + 1) s (l0 + 1) (U 0 2) := fl_y m (fun id i a1 a2 a3 a4 => un (id - 17) i (by omega) (by omega) (by omega)) (fun j j0 j1 => by rw [uc_e, uc_e, m_up_ne (by omega)]) hF
            have lee := fl_le _ hF1
            have c8 : uc (m_up c (4376 + 9 * s0 + 8) s) (656 + 9 * s0 + 8) = s := by rw [uc_e, (by omega : 3720 + (656 + 9 * s0 + 8) = 4376 + 9 * s0 + 8), m_up_eq]
            have c0' : uc (m_up c (4376 + 9 * s0 + 8) s) (656 + 9 * s0) = c (4376 + 9 * s0) := by rw [uc_e, m_up_ne (by omega), (by omega : 3720 + (656 + 9 * s0) = 4376 + 9 * s0)]
            rw [u2]
            refine Or.inr ⟨hs0.2, hst.y (fun id h => un (id - 17) l0 (by omega) (by omega) (by omega)) (fun j j0 j1 => by rw [uc_e, uc_e, m_up_ne (by omega)]), Or.inr ⟨by rw [c0']; exact hc, U 0 2, s, c8, v1, v2, v3, hF1, fl_rf _ _ _ _ _⟩⟩
          · exact ⟨fun id i a1 a2 q => (un id i a1 (by omega) (by omega)).trans (hp.1 id i a1 a2 q), fun i q => by rw [hU', y_up_ne (Or.inl (by decide)), y_up_ne (Or.inl (by decide)), y_up_ne (Or.inl (by decide)), y_up_ne (Or.inl (by decide))]; exact hp.2.1 i q, fun j q => by rw [m_up_ne (by omega)]; exact hp.2.2 j q⟩
        · refine ⟨1, Nat.le_refl _, Or.inr ⟨σ', fun fu i i0 i1 => ?_, o2.tab Y.1 ha _ _, Fw, by omega⟩⟩
          rw [lc_end I hn he fu i i1, e, q_biP y σ', if_pos o1]

/-- a step with all that belongs to it, 1 bodies deep at most -/
theorem rA_s1 (Y : y_S X lb) (D : rd_D X lb R T) (ha : q_kd X a = 12) (G : y_G X lb g 1) (hn : n ≤ 300) (v : Int32) (I : rd_I X R T a g n B Vg w σ τ U dp c s) (hZ : rd_Z U s dp) (hP6 : 0 ≤ c 2 ∧ c 2 ≤ 6) (hP : Vg 1 4 = c 2) (N : y_nm Vg w 0 (c 2)) (hv : v.toInt = dp) (hd : dp = 3 - 1) (ht : ¬ (τ.1 a 14).toInt = 0) (he : (F_X12_isEnd X τ a).toInt = 0) : rd_A X R T a g n B Vg w σ τ (F_X12_readStep_d1 X τ a v) U c dp (rd_Q U c s dp) := by
  obtain ⟨c1, c2, c3, c4, c5⟩ := cl_step I hZ.1
  have ra := rd_act I
  have I0 := I
  have Z0 := hZ
  obtain ⟨S, M, Kk, h0, hV⟩ := I0
  obtain ⟨z1, z2, z3, z4, z5, z6, z7⟩ := Z0
  have fs : (τ.1 a 27).toInt = s := M.2.2.2.1
  rw [rs_d_1]
  rcases ra with ⟨r1, r2⟩ | ⟨hk, ty⟩
  · obtain ⟨σ', e, t1, t2, f⟩ := tl_wrong Kk h0
    have e7 := c1 r1
    rw [e] at e7
    rw [rs_a_1 _ _ v (by omega) f.2.1]
    exact rA_0f I hn ht he e7 rfl f (rd_Fr.rd Y.1 ha D S t1 t2)
  · have hk0 := hk
    unfold rd_k at hk0
    by_cases hs : s < 30
    · have s30 : ¬ (τ.1 a 27).toInt = 30 := by omega
      have e9 : (9 : Int32).toInt = 9 := rfl
      have e43 : (4376 : Int32).toInt = 4376 := rfl
      have e8 : (8 : Int32).toInt = 8 := rfl
      have zr : ((4376 : Int32) + 9 * τ.1 a 27).toInt = 4376 + 9 * s := by rw [ar_add, ar_mul, e9, e43, fs, ar_wr (n := 9 * s) (by omega) (by omega), ar_wr (by omega) (by omega)]
      have zz8 : (((4376 : Int32) + 9 * τ.1 a 27) + 8).toInt = 4376 + 9 * s + 8 := by rw [ar_add, e8, zr, ar_wr (by omega) (by omega)]
      by_cases hb : (F_X4_actionHere X σ R).toInt = 4 ∨ (F_X4_actionHere X σ R).toInt = 8
      · have x1 : (if (F_X12_stepWord X τ a).toInt = 3 ∨ (F_X12_stepWord X τ a).toInt = 4 then (1 : Int32) else 0) = 1 := if_pos (by omega)
        obtain ⟨fu, hf, e5⟩ := rs_e_1 (X := X) (a := a) (τ := τ) (F_X12_stepWord X τ a) (if (F_X12_stepWord X τ a).toInt = 3 ∨ (F_X12_stepWord X τ a).toInt = 4 then 1 else 0) v h0 (by omega) s30 (Or.inr (by omega))
        rw [e5]
        obtain ⟨z, σ', e6, F, O⟩ := op_block Y D ha G I hP6 hP N (r := F_X4_actionHere X σ R) (rk := F_X12_stepWord X τ a) z1 rfl ⟨z2, by omega⟩ ⟨z4, hs⟩ ⟨z6, by omega⟩ ht rfl rfl hk
        have e7 := c3 (by omega) hs hb (by omega)
        rw [e6] at e7
        rcases O with ⟨o1, ⟨U', c', I', ⟨y1, y2⟩, p2, p3⟩, o3⟩ | ⟨o1, o2⟩
        · have u2 : U' 0 2 = U 0 2 + 1 := by rw [y1 0 2 (Or.inl rfl), y_up_ne (Or.inl (by decide)), y_up_ne (Or.inr (by decide)), y_up_eq]
          have u1 : U' 0 1 = s + 1 := by rw [y1 0 1 (Or.inl rfl), y_up_ne (Or.inl (by decide)), y_up_eq]
          have u6 : U' 6 dp = U 0 2 := by rw [y1 6 dp (by omega), y_up_eq]
          have un : ∀ (id : Nat) (i : Int), id = 2 ∨ id = 6 ∧ i < dp ∨ 1 ≤ id ∧ id ≠ 6 ∧ i ≠ U 0 2 → U' id i = U id i := fun id i h => by rw [y1 id i (by omega), y_up_ne (by omega), y_up_ne (Or.inl (by omega)), y_up_ne (Or.inl (by omega))]
          have cc : ∀ j : Int, j < 4376 + 9 * s → c' j = c j := fun j q => y2 j (by omega)
          have hM : ((hd_M X a (F_X12_stepWord X τ a) τ).1 a 12).toInt = 0 := I'.2.2.2.1
          rw [hM] at hf
          refine rA_tr (k1 := 1) (fun fu i i0 i1 => rA_1 I hn ht he e7 o1 fu i i0 i1) (by omega) F (rB_1 Y D ha G hn v _ _ (by rw [x1]; decide) zr hv (by omega) fu I' ⟨u1, by omega, by omega, by omega, by omega, by omega, by omega⟩ (by rw [cc 2 (by omega)]; exact hP6) (by rw [cc 2 (by omega)]; exact hP) (by rw [cc 2 (by omega)]; exact N) hf ⟨z4, by omega⟩ u6 ⟨z2, by omega⟩ ⟨0, by rw [u2]; exact ⟨rfl, rfl⟩⟩ p3 (by rw [p2]; omega) ⟨fun id i a1 a2 a3 => un id i (by omega), fun i q => un 6 i (by omega), cc⟩) (fun _ _ _ q => q)
        · have bad : 0 < ((hd_M X a (F_X12_stepWord X τ a) τ).1 a 12).toInt := o2.2.1
          rw [ls_bad_1 (τ := hd_M X a (F_X12_stepWord X τ a) τ) _ _ v (by rw [x1]; decide) fu (by omega) bad]
          exact rA_0f I hn ht he e7 o1 (o2.tab Y.1 ha _ _) (F.tr (rd_Fr.cw (R := R) (τ := hd_M X a (F_X12_stepWord X τ a) τ) (v := (hd_M X a (F_X12_stepWord X τ a) τ).1 a 27) Y.1 ha rd_F.rf zz8 (by omega)))
      · have x0 : (if (F_X12_stepWord X τ a).toInt = 3 ∨ (F_X12_stepWord X τ a).toInt = 4 then (1 : Int32) else 0).toInt = 0 := by
          rw [if_neg (by omega)]
          rfl
        obtain ⟨fu, hf, e5⟩ := rs_e_1 (X := X) (a := a) (τ := τ) (F_X12_stepWord X τ a) (if (F_X12_stepWord X τ a).toInt = 3 ∨ (F_X12_stepWord X τ a).toInt = 4 then 1 else 0) v h0 (by omega) s30 (Or.inl x0)
        rw [e5, ls_flat_1 (τ := hd_M X a (F_X12_stepWord X τ a) τ) _ _ v x0 fu (by omega)]
        obtain ⟨z, σ', e6, O⟩ := op_flat Y D ha G I hP6 hP N (r := F_X4_actionHere X σ R) (rk := F_X12_stepWord X τ a) (x64 := 0) z1 rfl ⟨z2, by omega⟩ ⟨z4, hs⟩ ht rfl rfl hk rfl
        have e7 := c5 (by omega) hs (by omega)
        rw [e6] at e7
        exact rA_flat Y.1 ha I hn hZ hs ht he (by omega) e7 zr O
    · obtain ⟨σ', e, t1, t2, f⟩ := tl_fail Kk h0 (by omega) (k := 6) (by decide) (w := τ.1 a 15) rfl
      have e7 := c2 (by omega) hs
      rw [e] at e7
      rw [rs_b_1 _ _ v h0 (by omega) (by omega) f.2.1]
      exact rA_0f I hn ht he e7 rfl f (rd_Fr.rd Y.1 ha D S t1 t2)

/-- a body, read line by line to its end -/
theorem rB_2 (Y : y_S X lb) (D : rd_D X lb R T) (ha : q_kd X a = 12) (G : y_G X lb g 1) (hn : n ≤ 300) (v x3 z : Int32) (hx : ¬ x3.toInt = 0) {s0 l0 : Int} {U0 : Nat → Int → Int} {c0 : Int → Int} (hz : z.toInt = 4376 + 9 * s0) (hv : v.toInt = dp) (hd : dp = 3 - 2) (fu : Nat) : ∀ {σ τ : ST} {U : Nat → Int → Int} {c : Int → Int} {s : Int}, rd_I X R T a g n B Vg w σ τ U (dp + 1) c s → rd_Z U s (dp + 1) → 0 ≤ c 2 ∧ c 2 ≤ 6 → Vg 1 4 = c 2 → y_nm Vg w 0 (c 2) → ((901 - (τ.1 a 15).toInt).toNat + (1 - (0 : Int)).toNat) < fu → 0 ≤ s0 ∧ s0 < s → U 6 dp = l0 → 0 ≤ l0 ∧ l0 < U 0 2 → (∃ m : Nat, fl (uV U) (uc c) m (s0 + 1) s (l0 + 1) (U 0 2)) → st_l (uV U) (uc c) s0 l0 → c (4376 + 9 * s0) = 3 ∨ c (4376 + 9 * s0) = 4 → rd_p U0 U c0 c l0 s0 dp → rd_A X R T a g n B Vg w σ τ (F_X12_readStep_d2_L140_5 X x3 z a v fu τ) U c dp (fun U' c' s' => (∃ m : Nat, fl (uV U') (uc c') m s0 s' l0 (U' 0 2)) ∧ rd_p U0 U' c0 c' l0 s0 dp) := by
  have e8 : (8 : Int32).toInt = 8 := rfl
  induction fu with
  | zero => intro σ τ U c s _ _ _ _ _ hf; omega
  | succ fu ih =>
    intro σ τ U c s I hZ hP6 hP N hf hs0 h6 hl0 hF hst hc hp
    have I0 := I
    have Z0 := hZ
    obtain ⟨S, M, Kk, h0, hV⟩ := I0
    obtain ⟨z1, z2, z3, z4, z5, z6, z7⟩ := Z0
    have kb := Kk.b
    have pk0 := Kk.2.2.2.2.2.2.1
    have zz : (z + 8).toInt = 4376 + 9 * s0 + 8 := by rw [ar_add, e8, hz, ar_wr (by omega) (by omega)]
    have one : (1 : Int32).toInt = 1 := rfl
    have hv1 : (v + 1).toInt = dp + 1 := by rw [ar_add, one, hv, ar_wr (by omega) (by omega)]
    by_cases ht : (τ.1 a 14).toInt = 0
    · -- the text's end
      have he : (F_X12_isEnd X τ a).toInt = 0 := by
        rw [tm_isEnd, if_neg (by omega)]
      rw [ls_rec_2 x3 z v hx fu h0 he, rs_d_1]
      have r2 : (F_X12_stepWord X τ a).toInt = -1 := by
        rcases rd_act I with ⟨r1, r2⟩ | ⟨hk, ty⟩
        · exact r2
        · omega
      obtain ⟨S1, x1⟩ := S.cell D (id := 0) (by decide) 0 1
      have sc1 := rd_same (σ := σ) D (id := 0) (by decide) 0 1
      obtain ⟨σ1, e1⟩ : ∃ t, t = q_si σ (rdA X R 0) 0 1 := ⟨_, rfl⟩
      rw [← e1] at S1 x1 sc1
      obtain ⟨σ', e, t1, t2, f⟩ := tl_wrong (Kk.same sc1 (tl_same.rf (a := a) (τ := τ))) h0
      rw [rs_a_1 _ _ (v + 1) (by omega) f.2.1, ls_bad_2 (τ := F_X12_wrong X τ a) x3 z v hx fu (by omega) f.2.1]
      refine ⟨1, Nat.le_refl _, Or.inr ⟨σ', fun fu i i0 i1 => ?_, f.tab Y.1 ha _ _, ((rd_Fr.cl x1).tr (rd_Fr.rd Y.1 ha D S1 t1 t2)).tr (rd_Fr.cw (R := R) (τ := F_X12_wrong X τ a) (v := (F_X12_wrong X τ a).1 a 27) Y.1 ha rd_F.rf zz (by omega)), by omega⟩⟩
      rw [lc_fin I ht fu i]
      unfold F_X4_takes_E72_3
      rw [q_letE (q_si σ (q_rf X R 8) 0 1)]
      have e1' : σ1 = q_si σ (q_rf X R 8) 0 1 := e1
      rw [← e1', q_letE (σ1.1 R 10)]
      have f10 : (σ1.1 R 10).toInt = dp + 1 := S1.2.2
      rw [if_neg (by omega), e, q_biP (0 : Int32) σ', if_pos (by decide)]
    · by_cases he : (F_X12_isEnd X τ a).toInt = 0
      · rw [ls_rec_2 x3 z v hx fu h0 he]
        have A := rA_s1 Y D ha G hn (v + 1) I hZ hP6 hP N hv1 (by omega) ht he
        obtain ⟨τ1, hτ⟩ : ∃ t, t = F_X12_readStep_d1 X τ a (v + 1) := ⟨_, rfl⟩
        rw [← hτ] at A ⊢
        obtain ⟨k, hk, A⟩ := A
        rcases A with ⟨σ1, U1, c1, s1, e2, I1, Z1, F1, ⟨⟨m1, q1⟩, q2⟩, p1⟩ | ⟨σ1, e2, F2, f2, b2⟩
        · have le := fl_le _ q1
          have hU6 : U1 6 dp = l0 := by rw [q2.2.1 dp (by omega)]; exact h6
          obtain ⟨m, hF⟩ := hF
          have hF1 : fl (uV U1) (uc c1) m (s0 + 1) s (l0 + 1) (U 0 2) := fl_y m (fun id i a1 a2 a3 a4 => q2.1 (id - 17) i (by omega) (by omega) a4) (fun j j0 j1 => q2.2.2 (3720 + j) (by omega)) hF
          have cc : ∀ j : Int, j < 4376 + 9 * s → c1 j = c j := q2.2.2
          exact rA_tr e2 p1 F1 (ih I1 Z1 (by rw [cc 2 (by omega)]; exact hP6) (by rw [cc 2 (by omega)]; exact hP) (by rw [cc 2 (by omega)]; exact N) (by omega) ⟨hs0.1, by omega⟩ hU6 ⟨hl0.1, by omega⟩ ⟨m + m1, fl_app m hF1 q1⟩ (hst.y (fun id h => q2.1 (id - 17) l0 (by omega) (by omega) hl0.2) (fun j j0 j1 => cc (3720 + j) (by omega))) (by rw [cc _ (by omega)]; exact hc) (hp.tr q2 (by omega) (by omega) (by omega))) (fun _ _ _ q => q)
        · rw [ls_bad_2 (τ := τ1) x3 z v hx fu (by omega) F2.2.1]
          exact ⟨k, hk, Or.inr ⟨σ1, e2, F2.tab Y.1 ha _ _, f2.tr (rd_Fr.cw (R := R) (τ := τ1) (v := τ1.1 a 27) Y.1 ha rd_F.rf zz (by omega)), b2⟩⟩
      · -- the body's end
        obtain ⟨τ5, h5⟩ : ∃ t, t = F_X12_must X (F_X12_must X τ a (F_X12_isEnd X τ a)) a (F_X12_isSign X (F_X12_must X τ a (F_X12_isEnd X τ a)) a 59) := ⟨_, rfl⟩
        rw [ls_end_2 x3 z v hx (fu + 1) (by omega) h0 he h5]
        obtain ⟨y, σ', e, F, o⟩ := op_end Y D ha G I ⟨by omega, by omega⟩ rfl ⟨z2, by omega⟩ h6 hl0 he h5
        have Fw := F.tr (rd_Fr.cw (R := R) (τ := τ5) (v := τ5.1 a 27) Y.1 ha rd_F.rf zz (by omega))
        rcases o with ⟨o1, o2, o3⟩ | ⟨o1, o2⟩
        · obtain ⟨Iw, -, tw⟩ := rd_w8 Y.1 ha o2 hz ⟨hs0.1, by omega⟩
          obtain ⟨m, hF⟩ := hF
          obtain ⟨U', hU'⟩ : ∃ t, t = y_up (y_up (y_up (y_up U 1 (U 0 2) 9) 0 2 (U 0 2 + 1)) 2 (U 0 2) l0) 2 l0 (U 0 2) := ⟨_, rfl⟩
          rw [← hU'] at Iw o2
          have u2 : U' 0 2 = U 0 2 + 1 := by rw [hU', y_up_ne (Or.inl (by decide)), y_up_ne (Or.inl (by decide)), y_up_eq]
          have u1 : U' 0 1 = s := by rw [hU', y_up_ne (Or.inl (by decide)), y_up_ne (Or.inl (by decide)), y_up_ne (Or.inr (by decide)), y_up_ne (Or.inl (by decide))]; exact z1
          have un : ∀ (id : Nat) (i : Int), 1 ≤ id → i ≠ U 0 2 → (id ≠ 2 ∨ i ≠ l0) → U' id i = U id i := fun id i a1 a2 a3 => by rw [hU', y_up_ne (by omega), y_up_ne (Or.inr a2), y_up_ne (Or.inl (by omega)), y_up_ne (Or.inr a2)]
          have v1 : U' 1 (U 0 2) = 9 := by rw [hU', y_up_ne (Or.inl (by decide)), y_up_ne (Or.inl (by decide)), y_up_ne (Or.inl (by decide)), y_up_eq]
          have v2 : U' 2 (U 0 2) = l0 := by rw [hU', y_up_ne (Or.inr (by omega)), y_up_eq]
          have v3 : U' 2 l0 = U 0 2 := by rw [hU', y_up_eq]
          refine ⟨1, Nat.le_refl _, Or.inl ⟨σ', U', _, s, fun fu i i0 i1 => ⟨i + 1, by rw [ar_add, one, ar_wr (by omega) (by omega)]; rfl, ?_⟩, Iw, ⟨u1, by omega, by omega, z4, z5, by omega, by omega⟩, Fw, ⟨⟨m + 1, ?_⟩, ?_⟩, by rw [tw.1 15 (by decide) (by decide)]; omega⟩⟩
          · rw [lc_end I hn he fu i i1, e, q_biP y σ', if_neg (by omega), q_letE]
          · have hF1 : fl (uV U') (uc (m_up c (4376 + 9 * s0 + 8) s)) m (s0 + 1) s (l0 + 1) (U 0 2) := fl_y m (fun id i a1 a2 a3 a4 => un (id - 17) i (by omega) (by omega) (by omega)) (fun j j0 j1 => by rw [uc_e, uc_e, m_up_ne (by omega)]) hF
            have lee := fl_le _ hF1
            have c8 : uc (m_up c (4376 + 9 * s0 + 8) s) (656 + 9 * s0 + 8) = s := by rw [uc_e, (by omega : 3720 + (656 + 9 * s0 + 8) = 4376 + 9 * s0 + 8), m_up_eq]
            have c0' : uc (m_up c (4376 + 9 * s0 + 8) s) (656 + 9 * s0) = c (4376 + 9 * s0) := by rw [uc_e, m_up_ne (by omega), (by omega : 3720 + (656 + 9 * s0) = 4376 + 9 * s0)]
            rw [u2]
            refine Or.inr ⟨hs0.2, hst.y (fun id h => un (id - 17) l0 (by omega) (by omega) (by omega)) (fun j j0 j1 => by rw [uc_e, uc_e, m_up_ne (by omega)]), Or.inr ⟨by rw [c0']; exact hc, U 0 2, s, c8, v1, v2, v3, hF1, fl_rf _ _ _ _ _⟩⟩
          · exact ⟨fun id i a1 a2 q => (un id i a1 (by omega) (by omega)).trans (hp.1 id i a1 a2 q), fun i q => by rw [hU', y_up_ne (Or.inl (by decide)), y_up_ne (Or.inl (by decide)), y_up_ne (Or.inl (by decide)), y_up_ne (Or.inl (by decide))]; exact hp.2.1 i q, fun j q => by rw [m_up_ne (by omega)]; exact hp.2.2 j q⟩
        · refine ⟨1, Nat.le_refl _, Or.inr ⟨σ', fun fu i i0 i1 => ?_, o2.tab Y.1 ha _ _, Fw, by omega⟩⟩
          rw [lc_end I hn he fu i i1, e, q_biP y σ', if_pos o1]

/-- a step with all that belongs to it, 2 bodies deep at most -/
theorem rA_s2 (Y : y_S X lb) (D : rd_D X lb R T) (ha : q_kd X a = 12) (G : y_G X lb g 1) (hn : n ≤ 300) (v : Int32) (I : rd_I X R T a g n B Vg w σ τ U dp c s) (hZ : rd_Z U s dp) (hP6 : 0 ≤ c 2 ∧ c 2 ≤ 6) (hP : Vg 1 4 = c 2) (N : y_nm Vg w 0 (c 2)) (hv : v.toInt = dp) (hd : dp = 3 - 2) (ht : ¬ (τ.1 a 14).toInt = 0) (he : (F_X12_isEnd X τ a).toInt = 0) : rd_A X R T a g n B Vg w σ τ (F_X12_readStep_d2 X τ a v) U c dp (rd_Q U c s dp) := by
  obtain ⟨c1, c2, c3, c4, c5⟩ := cl_step I hZ.1
  have ra := rd_act I
  have I0 := I
  have Z0 := hZ
  obtain ⟨S, M, Kk, h0, hV⟩ := I0
  obtain ⟨z1, z2, z3, z4, z5, z6, z7⟩ := Z0
  have fs : (τ.1 a 27).toInt = s := M.2.2.2.1
  rw [rs_d_2]
  rcases ra with ⟨r1, r2⟩ | ⟨hk, ty⟩
  · obtain ⟨σ', e, t1, t2, f⟩ := tl_wrong Kk h0
    have e7 := c1 r1
    rw [e] at e7
    rw [rs_a_2 _ _ v (by omega) f.2.1]
    exact rA_0f I hn ht he e7 rfl f (rd_Fr.rd Y.1 ha D S t1 t2)
  · have hk0 := hk
    unfold rd_k at hk0
    by_cases hs : s < 30
    · have s30 : ¬ (τ.1 a 27).toInt = 30 := by omega
      have e9 : (9 : Int32).toInt = 9 := rfl
      have e43 : (4376 : Int32).toInt = 4376 := rfl
      have e8 : (8 : Int32).toInt = 8 := rfl
      have zr : ((4376 : Int32) + 9 * τ.1 a 27).toInt = 4376 + 9 * s := by rw [ar_add, ar_mul, e9, e43, fs, ar_wr (n := 9 * s) (by omega) (by omega), ar_wr (by omega) (by omega)]
      have zz8 : (((4376 : Int32) + 9 * τ.1 a 27) + 8).toInt = 4376 + 9 * s + 8 := by rw [ar_add, e8, zr, ar_wr (by omega) (by omega)]
      by_cases hb : (F_X4_actionHere X σ R).toInt = 4 ∨ (F_X4_actionHere X σ R).toInt = 8
      · have x1 : (if (F_X12_stepWord X τ a).toInt = 3 ∨ (F_X12_stepWord X τ a).toInt = 4 then (1 : Int32) else 0) = 1 := if_pos (by omega)
        obtain ⟨fu, hf, e5⟩ := rs_e_2 (X := X) (a := a) (τ := τ) (F_X12_stepWord X τ a) (if (F_X12_stepWord X τ a).toInt = 3 ∨ (F_X12_stepWord X τ a).toInt = 4 then 1 else 0) v h0 (by omega) s30 (Or.inr (by omega))
        rw [e5]
        obtain ⟨z, σ', e6, F, O⟩ := op_block Y D ha G I hP6 hP N (r := F_X4_actionHere X σ R) (rk := F_X12_stepWord X τ a) z1 rfl ⟨z2, by omega⟩ ⟨z4, hs⟩ ⟨z6, by omega⟩ ht rfl rfl hk
        have e7 := c3 (by omega) hs hb (by omega)
        rw [e6] at e7
        rcases O with ⟨o1, ⟨U', c', I', ⟨y1, y2⟩, p2, p3⟩, o3⟩ | ⟨o1, o2⟩
        · have u2 : U' 0 2 = U 0 2 + 1 := by rw [y1 0 2 (Or.inl rfl), y_up_ne (Or.inl (by decide)), y_up_ne (Or.inr (by decide)), y_up_eq]
          have u1 : U' 0 1 = s + 1 := by rw [y1 0 1 (Or.inl rfl), y_up_ne (Or.inl (by decide)), y_up_eq]
          have u6 : U' 6 dp = U 0 2 := by rw [y1 6 dp (by omega), y_up_eq]
          have un : ∀ (id : Nat) (i : Int), id = 2 ∨ id = 6 ∧ i < dp ∨ 1 ≤ id ∧ id ≠ 6 ∧ i ≠ U 0 2 → U' id i = U id i := fun id i h => by rw [y1 id i (by omega), y_up_ne (by omega), y_up_ne (Or.inl (by omega)), y_up_ne (Or.inl (by omega))]
          have cc : ∀ j : Int, j < 4376 + 9 * s → c' j = c j := fun j q => y2 j (by omega)
          have hM : ((hd_M X a (F_X12_stepWord X τ a) τ).1 a 12).toInt = 0 := I'.2.2.2.1
          rw [hM] at hf
          refine rA_tr (k1 := 1) (fun fu i i0 i1 => rA_1 I hn ht he e7 o1 fu i i0 i1) (by omega) F (rB_2 Y D ha G hn v _ _ (by rw [x1]; decide) zr hv (by omega) fu I' ⟨u1, by omega, by omega, by omega, by omega, by omega, by omega⟩ (by rw [cc 2 (by omega)]; exact hP6) (by rw [cc 2 (by omega)]; exact hP) (by rw [cc 2 (by omega)]; exact N) hf ⟨z4, by omega⟩ u6 ⟨z2, by omega⟩ ⟨0, by rw [u2]; exact ⟨rfl, rfl⟩⟩ p3 (by rw [p2]; omega) ⟨fun id i a1 a2 a3 => un id i (by omega), fun i q => un 6 i (by omega), cc⟩) (fun _ _ _ q => q)
        · have bad : 0 < ((hd_M X a (F_X12_stepWord X τ a) τ).1 a 12).toInt := o2.2.1
          rw [ls_bad_2 (τ := hd_M X a (F_X12_stepWord X τ a) τ) _ _ v (by rw [x1]; decide) fu (by omega) bad]
          exact rA_0f I hn ht he e7 o1 (o2.tab Y.1 ha _ _) (F.tr (rd_Fr.cw (R := R) (τ := hd_M X a (F_X12_stepWord X τ a) τ) (v := (hd_M X a (F_X12_stepWord X τ a) τ).1 a 27) Y.1 ha rd_F.rf zz8 (by omega)))
      · have x0 : (if (F_X12_stepWord X τ a).toInt = 3 ∨ (F_X12_stepWord X τ a).toInt = 4 then (1 : Int32) else 0).toInt = 0 := by
          rw [if_neg (by omega)]
          rfl
        obtain ⟨fu, hf, e5⟩ := rs_e_2 (X := X) (a := a) (τ := τ) (F_X12_stepWord X τ a) (if (F_X12_stepWord X τ a).toInt = 3 ∨ (F_X12_stepWord X τ a).toInt = 4 then 1 else 0) v h0 (by omega) s30 (Or.inl x0)
        rw [e5, ls_flat_2 (τ := hd_M X a (F_X12_stepWord X τ a) τ) _ _ v x0 fu (by omega)]
        obtain ⟨z, σ', e6, O⟩ := op_flat Y D ha G I hP6 hP N (r := F_X4_actionHere X σ R) (rk := F_X12_stepWord X τ a) (x64 := 0) z1 rfl ⟨z2, by omega⟩ ⟨z4, hs⟩ ht rfl rfl hk rfl
        have e7 := c5 (by omega) hs (by omega)
        rw [e6] at e7
        exact rA_flat Y.1 ha I hn hZ hs ht he (by omega) e7 zr O
    · obtain ⟨σ', e, t1, t2, f⟩ := tl_fail Kk h0 (by omega) (k := 6) (by decide) (w := τ.1 a 15) rfl
      have e7 := c2 (by omega) hs
      rw [e] at e7
      rw [rs_b_2 _ _ v h0 (by omega) (by omega) f.2.1]
      exact rA_0f I hn ht he e7 rfl f (rd_Fr.rd Y.1 ha D S t1 t2)

/-- a body, read line by line to its end -/
theorem rB_3 (Y : y_S X lb) (D : rd_D X lb R T) (ha : q_kd X a = 12) (G : y_G X lb g 1) (hn : n ≤ 300) (v x3 z : Int32) (hx : ¬ x3.toInt = 0) {s0 l0 : Int} {U0 : Nat → Int → Int} {c0 : Int → Int} (hz : z.toInt = 4376 + 9 * s0) (hv : v.toInt = dp) (hd : dp = 3 - 3) (fu : Nat) : ∀ {σ τ : ST} {U : Nat → Int → Int} {c : Int → Int} {s : Int}, rd_I X R T a g n B Vg w σ τ U (dp + 1) c s → rd_Z U s (dp + 1) → 0 ≤ c 2 ∧ c 2 ≤ 6 → Vg 1 4 = c 2 → y_nm Vg w 0 (c 2) → ((901 - (τ.1 a 15).toInt).toNat + (1 - (0 : Int)).toNat) < fu → 0 ≤ s0 ∧ s0 < s → U 6 dp = l0 → 0 ≤ l0 ∧ l0 < U 0 2 → (∃ m : Nat, fl (uV U) (uc c) m (s0 + 1) s (l0 + 1) (U 0 2)) → st_l (uV U) (uc c) s0 l0 → c (4376 + 9 * s0) = 3 ∨ c (4376 + 9 * s0) = 4 → rd_p U0 U c0 c l0 s0 dp → rd_A X R T a g n B Vg w σ τ (F_X12_readStep_d3_L140_5 X x3 z a v fu τ) U c dp (fun U' c' s' => (∃ m : Nat, fl (uV U') (uc c') m s0 s' l0 (U' 0 2)) ∧ rd_p U0 U' c0 c' l0 s0 dp) := by
  have e8 : (8 : Int32).toInt = 8 := rfl
  induction fu with
  | zero => intro σ τ U c s _ _ _ _ _ hf; omega
  | succ fu ih =>
    intro σ τ U c s I hZ hP6 hP N hf hs0 h6 hl0 hF hst hc hp
    have I0 := I
    have Z0 := hZ
    obtain ⟨S, M, Kk, h0, hV⟩ := I0
    obtain ⟨z1, z2, z3, z4, z5, z6, z7⟩ := Z0
    have kb := Kk.b
    have pk0 := Kk.2.2.2.2.2.2.1
    have zz : (z + 8).toInt = 4376 + 9 * s0 + 8 := by rw [ar_add, e8, hz, ar_wr (by omega) (by omega)]
    have one : (1 : Int32).toInt = 1 := rfl
    have hv1 : (v + 1).toInt = dp + 1 := by rw [ar_add, one, hv, ar_wr (by omega) (by omega)]
    by_cases ht : (τ.1 a 14).toInt = 0
    · -- the text's end
      have he : (F_X12_isEnd X τ a).toInt = 0 := by
        rw [tm_isEnd, if_neg (by omega)]
      rw [ls_rec_3 x3 z v hx fu h0 he, rs_d_2]
      have r2 : (F_X12_stepWord X τ a).toInt = -1 := by
        rcases rd_act I with ⟨r1, r2⟩ | ⟨hk, ty⟩
        · exact r2
        · omega
      obtain ⟨S1, x1⟩ := S.cell D (id := 0) (by decide) 0 1
      have sc1 := rd_same (σ := σ) D (id := 0) (by decide) 0 1
      obtain ⟨σ1, e1⟩ : ∃ t, t = q_si σ (rdA X R 0) 0 1 := ⟨_, rfl⟩
      rw [← e1] at S1 x1 sc1
      obtain ⟨σ', e, t1, t2, f⟩ := tl_wrong (Kk.same sc1 (tl_same.rf (a := a) (τ := τ))) h0
      rw [rs_a_2 _ _ (v + 1) (by omega) f.2.1, ls_bad_3 (τ := F_X12_wrong X τ a) x3 z v hx fu (by omega) f.2.1]
      refine ⟨1, Nat.le_refl _, Or.inr ⟨σ', fun fu i i0 i1 => ?_, f.tab Y.1 ha _ _, ((rd_Fr.cl x1).tr (rd_Fr.rd Y.1 ha D S1 t1 t2)).tr (rd_Fr.cw (R := R) (τ := F_X12_wrong X τ a) (v := (F_X12_wrong X τ a).1 a 27) Y.1 ha rd_F.rf zz (by omega)), by omega⟩⟩
      rw [lc_fin I ht fu i]
      unfold F_X4_takes_E72_3
      rw [q_letE (q_si σ (q_rf X R 8) 0 1)]
      have e1' : σ1 = q_si σ (q_rf X R 8) 0 1 := e1
      rw [← e1', q_letE (σ1.1 R 10)]
      have f10 : (σ1.1 R 10).toInt = dp + 1 := S1.2.2
      rw [if_neg (by omega), e, q_biP (0 : Int32) σ', if_pos (by decide)]
    · by_cases he : (F_X12_isEnd X τ a).toInt = 0
      · rw [ls_rec_3 x3 z v hx fu h0 he]
        have A := rA_s2 Y D ha G hn (v + 1) I hZ hP6 hP N hv1 (by omega) ht he
        obtain ⟨τ1, hτ⟩ : ∃ t, t = F_X12_readStep_d2 X τ a (v + 1) := ⟨_, rfl⟩
        rw [← hτ] at A ⊢
        obtain ⟨k, hk, A⟩ := A
        rcases A with ⟨σ1, U1, c1, s1, e2, I1, Z1, F1, ⟨⟨m1, q1⟩, q2⟩, p1⟩ | ⟨σ1, e2, F2, f2, b2⟩
        · have le := fl_le _ q1
          have hU6 : U1 6 dp = l0 := by rw [q2.2.1 dp (by omega)]; exact h6
          obtain ⟨m, hF⟩ := hF
          have hF1 : fl (uV U1) (uc c1) m (s0 + 1) s (l0 + 1) (U 0 2) := fl_y m (fun id i a1 a2 a3 a4 => q2.1 (id - 17) i (by omega) (by omega) a4) (fun j j0 j1 => q2.2.2 (3720 + j) (by omega)) hF
          have cc : ∀ j : Int, j < 4376 + 9 * s → c1 j = c j := q2.2.2
          exact rA_tr e2 p1 F1 (ih I1 Z1 (by rw [cc 2 (by omega)]; exact hP6) (by rw [cc 2 (by omega)]; exact hP) (by rw [cc 2 (by omega)]; exact N) (by omega) ⟨hs0.1, by omega⟩ hU6 ⟨hl0.1, by omega⟩ ⟨m + m1, fl_app m hF1 q1⟩ (hst.y (fun id h => q2.1 (id - 17) l0 (by omega) (by omega) hl0.2) (fun j j0 j1 => cc (3720 + j) (by omega))) (by rw [cc _ (by omega)]; exact hc) (hp.tr q2 (by omega) (by omega) (by omega))) (fun _ _ _ q => q)
        · rw [ls_bad_3 (τ := τ1) x3 z v hx fu (by omega) F2.2.1]
          exact ⟨k, hk, Or.inr ⟨σ1, e2, F2.tab Y.1 ha _ _, f2.tr (rd_Fr.cw (R := R) (τ := τ1) (v := τ1.1 a 27) Y.1 ha rd_F.rf zz (by omega)), b2⟩⟩
      · -- the body's end
        obtain ⟨τ5, h5⟩ : ∃ t, t = F_X12_must X (F_X12_must X τ a (F_X12_isEnd X τ a)) a (F_X12_isSign X (F_X12_must X τ a (F_X12_isEnd X τ a)) a 59) := ⟨_, rfl⟩
        rw [ls_end_3 x3 z v hx (fu + 1) (by omega) h0 he h5]
        obtain ⟨y, σ', e, F, o⟩ := op_end Y D ha G I ⟨by omega, by omega⟩ rfl ⟨z2, by omega⟩ h6 hl0 he h5
        have Fw := F.tr (rd_Fr.cw (R := R) (τ := τ5) (v := τ5.1 a 27) Y.1 ha rd_F.rf zz (by omega))
        rcases o with ⟨o1, o2, o3⟩ | ⟨o1, o2⟩
        · obtain ⟨Iw, -, tw⟩ := rd_w8 Y.1 ha o2 hz ⟨hs0.1, by omega⟩
          obtain ⟨m, hF⟩ := hF
          obtain ⟨U', hU'⟩ : ∃ t, t = y_up (y_up (y_up (y_up U 1 (U 0 2) 9) 0 2 (U 0 2 + 1)) 2 (U 0 2) l0) 2 l0 (U 0 2) := ⟨_, rfl⟩
          rw [← hU'] at Iw o2
          have u2 : U' 0 2 = U 0 2 + 1 := by rw [hU', y_up_ne (Or.inl (by decide)), y_up_ne (Or.inl (by decide)), y_up_eq]
          have u1 : U' 0 1 = s := by rw [hU', y_up_ne (Or.inl (by decide)), y_up_ne (Or.inl (by decide)), y_up_ne (Or.inr (by decide)), y_up_ne (Or.inl (by decide))]; exact z1
          have un : ∀ (id : Nat) (i : Int), 1 ≤ id → i ≠ U 0 2 → (id ≠ 2 ∨ i ≠ l0) → U' id i = U id i := fun id i a1 a2 a3 => by rw [hU', y_up_ne (by omega), y_up_ne (Or.inr a2), y_up_ne (Or.inl (by omega)), y_up_ne (Or.inr a2)]
          have v1 : U' 1 (U 0 2) = 9 := by rw [hU', y_up_ne (Or.inl (by decide)), y_up_ne (Or.inl (by decide)), y_up_ne (Or.inl (by decide)), y_up_eq]
          have v2 : U' 2 (U 0 2) = l0 := by rw [hU', y_up_ne (Or.inr (by omega)), y_up_eq]
          have v3 : U' 2 l0 = U 0 2 := by rw [hU', y_up_eq]
          refine ⟨1, Nat.le_refl _, Or.inl ⟨σ', U', _, s, fun fu i i0 i1 => ⟨i + 1, by rw [ar_add, one, ar_wr (by omega) (by omega)]; rfl, ?_⟩, Iw, ⟨u1, by omega, by omega, z4, z5, by omega, by omega⟩, Fw, ⟨⟨m + 1, ?_⟩, ?_⟩, by rw [tw.1 15 (by decide) (by decide)]; omega⟩⟩
          · rw [lc_end I hn he fu i i1, e, q_biP y σ', if_neg (by omega), q_letE]
          · have hF1 : fl (uV U') (uc (m_up c (4376 + 9 * s0 + 8) s)) m (s0 + 1) s (l0 + 1) (U 0 2) := fl_y m (fun id i a1 a2 a3 a4 => un (id - 17) i (by omega) (by omega) (by omega)) (fun j j0 j1 => by rw [uc_e, uc_e, m_up_ne (by omega)]) hF
            have lee := fl_le _ hF1
            have c8 : uc (m_up c (4376 + 9 * s0 + 8) s) (656 + 9 * s0 + 8) = s := by rw [uc_e, (by omega : 3720 + (656 + 9 * s0 + 8) = 4376 + 9 * s0 + 8), m_up_eq]
            have c0' : uc (m_up c (4376 + 9 * s0 + 8) s) (656 + 9 * s0) = c (4376 + 9 * s0) := by rw [uc_e, m_up_ne (by omega), (by omega : 3720 + (656 + 9 * s0) = 4376 + 9 * s0)]
            rw [u2]
            refine Or.inr ⟨hs0.2, hst.y (fun id h => un (id - 17) l0 (by omega) (by omega) (by omega)) (fun j j0 j1 => by rw [uc_e, uc_e, m_up_ne (by omega)]), Or.inr ⟨by rw [c0']; exact hc, U 0 2, s, c8, v1, v2, v3, hF1, fl_rf _ _ _ _ _⟩⟩
          · exact ⟨fun id i a1 a2 q => (un id i a1 (by omega) (by omega)).trans (hp.1 id i a1 a2 q), fun i q => by rw [hU', y_up_ne (Or.inl (by decide)), y_up_ne (Or.inl (by decide)), y_up_ne (Or.inl (by decide)), y_up_ne (Or.inl (by decide))]; exact hp.2.1 i q, fun j q => by rw [m_up_ne (by omega)]; exact hp.2.2 j q⟩
        · refine ⟨1, Nat.le_refl _, Or.inr ⟨σ', fun fu i i0 i1 => ?_, o2.tab Y.1 ha _ _, Fw, by omega⟩⟩
          rw [lc_end I hn he fu i i1, e, q_biP y σ', if_pos o1]

/-- a step with all that belongs to it, 3 bodies deep at most -/
theorem rA_s3 (Y : y_S X lb) (D : rd_D X lb R T) (ha : q_kd X a = 12) (G : y_G X lb g 1) (hn : n ≤ 300) (v : Int32) (I : rd_I X R T a g n B Vg w σ τ U dp c s) (hZ : rd_Z U s dp) (hP6 : 0 ≤ c 2 ∧ c 2 ≤ 6) (hP : Vg 1 4 = c 2) (N : y_nm Vg w 0 (c 2)) (hv : v.toInt = dp) (hd : dp = 3 - 3) (ht : ¬ (τ.1 a 14).toInt = 0) (he : (F_X12_isEnd X τ a).toInt = 0) : rd_A X R T a g n B Vg w σ τ (F_X12_readStep_d3 X τ a v) U c dp (rd_Q U c s dp) := by
  obtain ⟨c1, c2, c3, c4, c5⟩ := cl_step I hZ.1
  have ra := rd_act I
  have I0 := I
  have Z0 := hZ
  obtain ⟨S, M, Kk, h0, hV⟩ := I0
  obtain ⟨z1, z2, z3, z4, z5, z6, z7⟩ := Z0
  have fs : (τ.1 a 27).toInt = s := M.2.2.2.1
  rw [rs_d_3]
  rcases ra with ⟨r1, r2⟩ | ⟨hk, ty⟩
  · obtain ⟨σ', e, t1, t2, f⟩ := tl_wrong Kk h0
    have e7 := c1 r1
    rw [e] at e7
    rw [rs_a_3 _ _ v (by omega) f.2.1]
    exact rA_0f I hn ht he e7 rfl f (rd_Fr.rd Y.1 ha D S t1 t2)
  · have hk0 := hk
    unfold rd_k at hk0
    by_cases hs : s < 30
    · have s30 : ¬ (τ.1 a 27).toInt = 30 := by omega
      have e9 : (9 : Int32).toInt = 9 := rfl
      have e43 : (4376 : Int32).toInt = 4376 := rfl
      have e8 : (8 : Int32).toInt = 8 := rfl
      have zr : ((4376 : Int32) + 9 * τ.1 a 27).toInt = 4376 + 9 * s := by rw [ar_add, ar_mul, e9, e43, fs, ar_wr (n := 9 * s) (by omega) (by omega), ar_wr (by omega) (by omega)]
      have zz8 : (((4376 : Int32) + 9 * τ.1 a 27) + 8).toInt = 4376 + 9 * s + 8 := by rw [ar_add, e8, zr, ar_wr (by omega) (by omega)]
      by_cases hb : (F_X4_actionHere X σ R).toInt = 4 ∨ (F_X4_actionHere X σ R).toInt = 8
      · have x1 : (if (F_X12_stepWord X τ a).toInt = 3 ∨ (F_X12_stepWord X τ a).toInt = 4 then (1 : Int32) else 0) = 1 := if_pos (by omega)
        obtain ⟨fu, hf, e5⟩ := rs_e_3 (X := X) (a := a) (τ := τ) (F_X12_stepWord X τ a) (if (F_X12_stepWord X τ a).toInt = 3 ∨ (F_X12_stepWord X τ a).toInt = 4 then 1 else 0) v h0 (by omega) s30 (Or.inr (by omega))
        rw [e5]
        obtain ⟨z, σ', e6, F, O⟩ := op_block Y D ha G I hP6 hP N (r := F_X4_actionHere X σ R) (rk := F_X12_stepWord X τ a) z1 rfl ⟨z2, by omega⟩ ⟨z4, hs⟩ ⟨z6, by omega⟩ ht rfl rfl hk
        have e7 := c3 (by omega) hs hb (by omega)
        rw [e6] at e7
        rcases O with ⟨o1, ⟨U', c', I', ⟨y1, y2⟩, p2, p3⟩, o3⟩ | ⟨o1, o2⟩
        · have u2 : U' 0 2 = U 0 2 + 1 := by rw [y1 0 2 (Or.inl rfl), y_up_ne (Or.inl (by decide)), y_up_ne (Or.inr (by decide)), y_up_eq]
          have u1 : U' 0 1 = s + 1 := by rw [y1 0 1 (Or.inl rfl), y_up_ne (Or.inl (by decide)), y_up_eq]
          have u6 : U' 6 dp = U 0 2 := by rw [y1 6 dp (by omega), y_up_eq]
          have un : ∀ (id : Nat) (i : Int), id = 2 ∨ id = 6 ∧ i < dp ∨ 1 ≤ id ∧ id ≠ 6 ∧ i ≠ U 0 2 → U' id i = U id i := fun id i h => by rw [y1 id i (by omega), y_up_ne (by omega), y_up_ne (Or.inl (by omega)), y_up_ne (Or.inl (by omega))]
          have cc : ∀ j : Int, j < 4376 + 9 * s → c' j = c j := fun j q => y2 j (by omega)
          have hM : ((hd_M X a (F_X12_stepWord X τ a) τ).1 a 12).toInt = 0 := I'.2.2.2.1
          rw [hM] at hf
          refine rA_tr (k1 := 1) (fun fu i i0 i1 => rA_1 I hn ht he e7 o1 fu i i0 i1) (by omega) F (rB_3 Y D ha G hn v _ _ (by rw [x1]; decide) zr hv (by omega) fu I' ⟨u1, by omega, by omega, by omega, by omega, by omega, by omega⟩ (by rw [cc 2 (by omega)]; exact hP6) (by rw [cc 2 (by omega)]; exact hP) (by rw [cc 2 (by omega)]; exact N) hf ⟨z4, by omega⟩ u6 ⟨z2, by omega⟩ ⟨0, by rw [u2]; exact ⟨rfl, rfl⟩⟩ p3 (by rw [p2]; omega) ⟨fun id i a1 a2 a3 => un id i (by omega), fun i q => un 6 i (by omega), cc⟩) (fun _ _ _ q => q)
        · have bad : 0 < ((hd_M X a (F_X12_stepWord X τ a) τ).1 a 12).toInt := o2.2.1
          rw [ls_bad_3 (τ := hd_M X a (F_X12_stepWord X τ a) τ) _ _ v (by rw [x1]; decide) fu (by omega) bad]
          exact rA_0f I hn ht he e7 o1 (o2.tab Y.1 ha _ _) (F.tr (rd_Fr.cw (R := R) (τ := hd_M X a (F_X12_stepWord X τ a) τ) (v := (hd_M X a (F_X12_stepWord X τ a) τ).1 a 27) Y.1 ha rd_F.rf zz8 (by omega)))
      · have x0 : (if (F_X12_stepWord X τ a).toInt = 3 ∨ (F_X12_stepWord X τ a).toInt = 4 then (1 : Int32) else 0).toInt = 0 := by
          rw [if_neg (by omega)]
          rfl
        obtain ⟨fu, hf, e5⟩ := rs_e_3 (X := X) (a := a) (τ := τ) (F_X12_stepWord X τ a) (if (F_X12_stepWord X τ a).toInt = 3 ∨ (F_X12_stepWord X τ a).toInt = 4 then 1 else 0) v h0 (by omega) s30 (Or.inl x0)
        rw [e5, ls_flat_3 (τ := hd_M X a (F_X12_stepWord X τ a) τ) _ _ v x0 fu (by omega)]
        obtain ⟨z, σ', e6, O⟩ := op_flat Y D ha G I hP6 hP N (r := F_X4_actionHere X σ R) (rk := F_X12_stepWord X τ a) (x64 := 0) z1 rfl ⟨z2, by omega⟩ ⟨z4, hs⟩ ht rfl rfl hk rfl
        have e7 := c5 (by omega) hs (by omega)
        rw [e6] at e7
        exact rA_flat Y.1 ha I hn hZ hs ht he (by omega) e7 zr O
    · obtain ⟨σ', e, t1, t2, f⟩ := tl_fail Kk h0 (by omega) (k := 6) (by decide) (w := τ.1 a 15) rfl
      have e7 := c2 (by omega) hs
      rw [e] at e7
      rw [rs_b_3 _ _ v h0 (by omega) (by omega) f.2.1]
      exact rA_0f I hn ht he e7 rfl f (rd_Fr.rd Y.1 ha D S t1 t2)

end RA
