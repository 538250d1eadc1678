/-! FROM 49za.readers.lean.txt -/
/-! A ROUND BEING READ: steps with their bodies, the main induction -/
def rd_Q (U : Nat → Int → Int) (c : Int → Int) (s dp : Int) : (Nat → Int → Int) → (Int → Int) → Int → Prop := fun U' c' s' => (∃ m : Nat, fl (uV U') (uc c') m s s' (U 0 2) (U' 0 2)) ∧ rd_p U U' c c' (U 0 2) s dp
section RA
variable {X : XW} {lb : Nat → Nat} {R T a g : Nat} {σ τ σ1 τ1 σ' τ' : ST} {n dp s L : Int} {B c c1 w : Int → Int} {U U1 Vg : Nat → Int → Int} {Q Q1 : (Nat → Int → Int) → (Int → Int) → Int → Prop}
theorem rA_tr {k1 : Nat} (h1 : ∀ (fu : Nat) (i : Int32), 0 ≤ i.toInt → i.toInt ≤ (τ.1 a 15).toInt → ∃ i' : Int32, i'.toInt = i.toInt + (k1 : Int) ∧ F_X4_takes_L21_1 X R (q_rf X g 0) (fu + k1) i σ = F_X4_takes_L21_1 X R (q_rf X g 0) fu i' σ1) (p1 : (τ.1 a 15).toInt + (k1 : Int) ≤ (τ1.1 a 15).toInt) (f1 : rd_Fr X R a σ σ1 τ τ1) (A : rd_A X R T a g n B Vg w σ1 τ1 τ' U1 c1 dp Q1) (hQ : ∀ U' c' s', Q1 U' c' s' → Q U' c' s') : rd_A X R T a g n B Vg w σ τ τ' U c dp Q := by
  obtain ⟨k, hk, A⟩ := A
  refine ⟨k + k1, by omega, ?_⟩
  rcases A with ⟨σ2, U2, c2, s2, e2, I2, Z2, F2, q2, p2⟩ | ⟨σ2, e2, F2, f2, b2⟩
  · refine Or.inl ⟨σ2, U2, c2, s2, fun fu i i0 i1 => ?_, I2, Z2, f1.tr F2, hQ _ _ _ q2, by rw [Int.natCast_add]; omega⟩
    obtain ⟨i', hi, e⟩ := h1 (fu + k) i i0 i1
    obtain ⟨i2, hi2, e3⟩ := e2 fu i' (by omega) (by omega)
    refine ⟨i2, by rw [hi2, hi, Int.natCast_add]; omega, ?_⟩
    rw [← Nat.add_assoc, e, e3]
  · refine Or.inr ⟨σ2, fun fu i i0 i1 => ?_, F2, f1.tr f2, by rw [Int.natCast_add]; omega⟩
    obtain ⟨i', hi, e⟩ := h1 (fu + k) i i0 i1
    rw [← Nat.add_assoc, e]
    exact e2 fu i' (by omega) (by omega)
theorem rA_1 (I : rd_I X R T a g n B Vg w σ τ U dp c s) (hn : n ≤ 300) (ht : ¬ (τ.1 a 14).toInt = 0) (he : (F_X12_isEnd X τ a).toInt = 0) {z : Int32} (e : F_X4_readStep X σ R (q_rf X g 0) = (z, σ1)) (hz : z.toInt = 1) (fu : Nat) (i : Int32) (i0 : 0 ≤ i.toInt) (i1 : i.toInt ≤ (τ.1 a 15).toInt) : ∃ i' : Int32, i'.toInt = i.toInt + ((1 : Nat) : Int) ∧ F_X4_takes_L21_1 X R (q_rf X g 0) (fu + 1) i σ = F_X4_takes_L21_1 X R (q_rf X g 0) fu i' σ1 := by
  have kb := I.2.2.1.b
  have one : (1 : Int32).toInt = 1 := rfl
  refine ⟨i + 1, by rw [ar_add, one, ar_wr (by omega) (by omega)]; rfl, ?_⟩
  rw [lc_step I hn ht he fu i i1, e, q_biP z σ1, if_neg (by omega), q_letE]
theorem rA_0f (I : rd_I X R T a g n B Vg w σ τ U dp c s) (hn : n ≤ 300) (ht : ¬ (τ.1 a 14).toInt = 0) (he : (F_X12_isEnd X τ a).toInt = 0) {z : Int32} (e : F_X4_readStep X σ R (q_rf X g 0) = (z, σ')) (hz : z.toInt = 0) (f : tl_F σ' R τ' a) (F : rd_Fr X R a σ σ' τ τ') : rd_A X R T a g n B Vg w σ τ τ' U c dp Q := by
  have kb := I.2.2.1.b
  refine ⟨1, Nat.le_refl _, Or.inr ⟨σ', fun fu i i0 i1 => ?_, f, F, by omega⟩⟩
  rw [lc_step I hn ht he fu i i1, e, q_biP z σ', if_pos hz]
theorem rA_1f (I : rd_I X R T a g n B Vg w σ τ U dp c s) (hn : n ≤ 300) (ht : ¬ (τ.1 a 14).toInt = 0) (he : (F_X12_isEnd X τ a).toInt = 0) {z : Int32} (e : F_X4_readStep X σ R (q_rf X g 0) = (z, σ1)) (hz : z.toInt = 1) {s1 dp1 : Int} (I1 : rd_I X R T a g n B Vg w σ1 τ1 U1 dp1 c1 s1) (Z1 : rd_Z U1 s1 dp1) (F : rd_Fr X R a σ σ1 τ τ1) (q : Q U1 c1 s1) (p : (τ.1 a 15).toInt < (τ1.1 a 15).toInt) : rd_A X R T a g n B Vg w σ τ τ1 U c dp1 Q :=
  ⟨1, Nat.le_refl _, Or.inl ⟨σ1, U1, c1, s1, fun fu i i0 i1 => rA_1 I hn ht he e hz fu i i0 i1, I1, Z1, F, q, by omega⟩⟩
/-- a flat step in the round's relation -/
theorem fl_one {V : Nat → Int → Int} {c : Int → Int} {s l : Int} (h : st_l V c s l) (h3 : c (656 + 9 * s) ≠ 3 ∧ c (656 + 9 * s) ≠ 4) (h8 : c (656 + 9 * s + 8) = s + 1) : fl V c 1 s (s + 1) l (l + 1) := Or.inr ⟨by omega, h, Or.inl ⟨h3.1, h3.2, h8, rfl, rfl⟩⟩
theorem uc_e (c : Int → Int) (j : Int) : uc c j = c (3720 + j) := rfl
/-- the reference's last write of a step -/
theorem rd_w8 (hT : q_T X) (ha : q_kd X a = 12) {s0 : Int} (I : rd_I X R T a g n B Vg w σ τ U dp c s) {z : Int32} (hz : z.toInt = 4376 + 9 * s0) (h0 : 0 ≤ s0 ∧ s0 ≤ 30) : rd_I X R T a g n B Vg w σ (q_si τ (q_rf X a 20) (z + 8).toNatClampNeg (τ.1 a 27)) U dp (m_up c (4376 + 9 * s0 + 8) s) s ∧ (z + 8).toInt = 4376 + 9 * s0 + 8 ∧ tl_same a τ (q_si τ (q_rf X a 20) (z + 8).toNatClampNeg (τ.1 a 27)) := by
  obtain ⟨S, M, K, h, hV⟩ := I
  have e8 : (8 : Int32).toInt = 8 := rfl
  have zz : (z + 8).toInt = 4376 + 9 * s0 + 8 := by rw [ar_add, e8, ar_wr (by omega) (by omega), hz]
  obtain ⟨M1, t1⟩ := M.cw hT ha zz (v := τ.1 a 27) (by omega)
  have fs : (τ.1 a 27).toInt = s := M.2.2.2.1
  rw [fs] at M1
  have na : a ≠ q_rf X a 20 := Ne.symm (m_ne (tb_k hT ha).1 ha (by decide))
  exact ⟨⟨S, M1, K.same (fun _ _ _ => rfl) t1, by rw [q_si_ne na]; exact h, hV⟩, zz, t1⟩
theorem rd_p.w8 {U U' : Nat → Int → Int} {c c' : Int → Int} {L s dp s0 v : Int} (h : rd_p U U' c c' L s dp) (hs : s ≤ s0) : rd_p U U' c (m_up c' (4376 + 9 * s0 + 8) v) L s dp := ⟨h.1, h.2.1, fun j q => by rw [m_up_ne (by omega)]; exact h.2.2 j q⟩
/-- a flat step done by both -/
theorem rA_flat (hT : q_T X) (ha : q_kd X a = 12) (I : rd_I X R T a g n B Vg w σ τ U dp c s) (hn : n ≤ 300) (hZ : rd_Z U s dp) (hs : s < 30) (ht : ¬ (τ.1 a 14).toInt = 0) (he : (F_X12_isEnd X τ a).toInt = 0) {k : Int} (hk : k ≠ 3 ∧ k ≠ 4) {z r : Int32} (e : F_X4_readStep X σ R (q_rf X g 0) = (z, σ')) (hz : r.toInt = 4376 + 9 * s) (O : hd_O X R T a g n B Vg w dp s (y_up (y_up U 0 2 (U 0 2 + 1)) 0 1 (s + 1)) c (U 0 2) k σ τ z σ' τ1) : rd_A X R T a g n B Vg w σ τ (q_si τ1 (q_rf X a 20) (r + 8).toNatClampNeg (τ1.1 a 27)) U c dp (rd_Q U c s dp) := by
  obtain ⟨z1, z2, z3, z4, z5, z6, z7⟩ := hZ
  have e8 : (8 : Int32).toInt = 8 := rfl
  have zz : (r + 8).toInt = 4376 + 9 * s + 8 := by rw [ar_add, e8, ar_wr (by omega) (by omega), hz]
  obtain ⟨F, O⟩ := O
  have Fw := F.tr (rd_Fr.cw (R := R) (τ := τ1) (v := τ1.1 a 27) hT ha rd_F.rf zz (by omega))
  rcases O with ⟨o1, ⟨U', c', I', p1, p2, p3⟩, o3⟩ | ⟨o1, o2⟩
  · obtain ⟨Iw, -, tw⟩ := rd_w8 hT ha I' hz ⟨z4, z5⟩
    obtain ⟨x1, x2⟩ := p1
    have u2 : U' 0 2 = U 0 2 + 1 := by rw [x1 0 2 (Or.inl rfl), y_up_ne (Or.inr (by decide)), y_up_eq]
    have u1 : U' 0 1 = s + 1 := by rw [x1 0 1 (Or.inl rfl), y_up_eq]
    have un : ∀ (id : Nat) (i : Int), id = 2 ∨ id = 6 ∨ 1 ≤ id ∧ i ≠ U 0 2 → U' id i = U id i := fun id i h => by rw [x1 id i (by omega), y_up_ne (Or.inl (by omega)), y_up_ne (Or.inl (by omega))]
    refine rA_1f I hn ht he e o1 Iw ⟨u1, by omega, by omega, by omega, by omega, z6, z7⟩ Fw ⟨⟨1, ?_⟩, ?_⟩ (by rw [tw.1 15 (by decide) (by decide)]; exact o3)
    · rw [u2]
      refine fl_one (p3.y (fun id _ => rfl) (fun j j0 j1 => ?_)) ?_ ?_
      · rw [uc_e, uc_e, m_up_ne (by omega)]
      · rw [uc_e, m_up_ne (by omega), (by omega : 3720 + (656 + 9 * s) = 4376 + 9 * s), p2]
        exact hk
      · rw [uc_e, (by omega : 3720 + (656 + 9 * s + 8) = 4376 + 9 * s + 8), m_up_eq]
    · exact ⟨fun id i a b q => un id i (by omega), fun i q => un 6 i (by omega), fun j q => by rw [m_up_ne (by omega), x2 j (by omega)]⟩
  · exact rA_0f I hn ht he e o1 (o2.tab hT ha _ _) Fw

/-- a step with all that belongs to it, 0 bodies deep at most -/
theorem rA_s0 (Y : y_S X lb) (D : rd_D X lb R T) (ha : q_kd X a = 12) (G : y_G X lb g 1) (hn : n ≤ 300) (v : Int32) (I : rd_I X R T a g n B Vg w σ τ U dp c s) (hZ : rd_Z U s dp) (hP6 : 0 ≤ c 2 ∧ c 2 ≤ 6) (hP : Vg 1 4 = c 2) (N : y_nm Vg w 0 (c 2)) (hv : v.toInt = dp) (hd : dp = 3 - 0) (ht : ¬ (τ.1 a 14).toInt = 0) (he : (F_X12_isEnd X τ a).toInt = 0) : rd_A X R T a g n B Vg w σ τ (F_X12_readStep_d0 X τ a v) U c dp (rd_Q U c s dp) := by
  obtain ⟨c1, c2, c3, c4, c5⟩ := cl_step I hZ.1
  have ra := rd_act I
  have I0 := I
  have Z0 := hZ
  obtain ⟨S, M, Kk, h0, hV⟩ := I0
  obtain ⟨z1, z2, z3, z4, z5, z6, z7⟩ := Z0
  have fs : (τ.1 a 27).toInt = s := M.2.2.2.1
  rw [rs_d_0]
  rcases ra with ⟨r1, r2⟩ | ⟨hk, ty⟩
  · obtain ⟨σ', e, t1, t2, f⟩ := tl_wrong Kk h0
    have e7 := c1 r1
    rw [e] at e7
    rw [rs_a_0 _ _ v (by omega) f.2.1]
    exact rA_0f I hn ht he e7 rfl f (rd_Fr.rd Y.1 ha D S t1 t2)
  · have hk0 := hk
    unfold rd_k at hk0
    by_cases hs : s < 30
    · have s30 : ¬ (τ.1 a 27).toInt = 30 := by omega
      have e9 : (9 : Int32).toInt = 9 := rfl
      have e43 : (4376 : Int32).toInt = 4376 := rfl
      have e8 : (8 : Int32).toInt = 8 := rfl
      have zr : ((4376 : Int32) + 9 * τ.1 a 27).toInt = 4376 + 9 * s := by rw [ar_add, ar_mul, e9, e43, fs, ar_wr (n := 9 * s) (by omega) (by omega), ar_wr (by omega) (by omega)]
      have zz8 : (((4376 : Int32) + 9 * τ.1 a 27) + 8).toInt = 4376 + 9 * s + 8 := by rw [ar_add, e8, zr, ar_wr (by omega) (by omega)]
      by_cases hb : (F_X4_actionHere X σ R).toInt = 4 ∨ (F_X4_actionHere X σ R).toInt = 8
      · have x1 : (if (F_X12_stepWord X τ a).toInt = 3 ∨ (F_X12_stepWord X τ a).toInt = 4 then (1 : Int32) else 0) = 1 := if_pos (by omega)
        obtain ⟨σ', e, t1, t2, f⟩ := tl_fail Kk h0 (by omega) (k := 7) (by decide) (w := τ.1 a 15) rfl
        have e7 := c4 (by omega) hs hb (by omega)
        rw [e] at e7
        rw [rs_c_0 _ _ v h0 (by omega) s30 (by rw [x1]; decide) (by omega) f.2.1]
        exact rA_0f I hn ht he e7 rfl f (rd_Fr.rd Y.1 ha D S t1 t2)
      · have x0 : (if (F_X12_stepWord X τ a).toInt = 3 ∨ (F_X12_stepWord X τ a).toInt = 4 then (1 : Int32) else 0).toInt = 0 := by
          rw [if_neg (by omega)]
          rfl
        obtain ⟨fu, hf, e5⟩ := rs_e_0 (X := X) (a := a) (τ := τ) (F_X12_stepWord X τ a) (if (F_X12_stepWord X τ a).toInt = 3 ∨ (F_X12_stepWord X τ a).toInt = 4 then 1 else 0) v h0 (by omega) s30 (Or.inl x0)
        rw [e5, ls_flat_0 (τ := hd_M X a (F_X12_stepWord X τ a) τ) _ _ v x0 fu (by omega)]
        obtain ⟨z, σ', e6, O⟩ := op_flat Y D ha G I hP6 hP N (r := F_X4_actionHere X σ R) (rk := F_X12_stepWord X τ a) (x64 := 0) z1 rfl ⟨z2, by omega⟩ ⟨z4, hs⟩ ht rfl rfl hk rfl
        have e7 := c5 (by omega) hs (by omega)
        rw [e6] at e7
        exact rA_flat Y.1 ha I hn hZ hs ht he (by omega) e7 zr O
    · obtain ⟨σ', e, t1, t2, f⟩ := tl_fail Kk h0 (by omega) (k := 6) (by decide) (w := τ.1 a 15) rfl
      have e7 := c2 (by omega) hs
      rw [e] at e7
      rw [rs_b_0 _ _ v h0 (by omega) (by omega) f.2.1]
      exact rA_0f I hn ht he e7 rfl f (rd_Fr.rd Y.1 ha D S t1 t2)

/-- a body, read line by line to its end -/
theorem rB_1 (Y : y_S X lb) (D : rd_D X lb R T) (ha : q_kd X a = 12) (G : y_G X lb g 1) (hn : n ≤ 300) (v x3 z : Int32) (hx : ¬ x3.toInt = 0) {s0 l0 : Int} {U0 : Nat → Int → Int} {c0 : Int → Int} (hz : z.toInt = 4376 + 9 * s0) (hv : v.toInt = dp) (hd : dp = 3 - 1) (fu : Nat) : ∀ {σ τ : ST} {U : Nat → Int → Int} {c : Int → Int} {s : Int}, rd_I X R T a g n B Vg w σ τ U (dp + 1) c s → rd_Z U s (dp + 1) → 0 ≤ c 2 ∧ c 2 ≤ 6 → Vg 1 4 = c 2 → y_nm Vg w 0 (c 2) → ((901 - (τ.1 a 15).toInt).toNat + (1 - (0 : Int)).toNat) < fu → 0 ≤ s0 ∧ s0 < s → U 6 dp = l0 → 0 ≤ l0 ∧ l0 < U 0 2 → (∃ m : Nat, fl (uV U) (uc c) m (s0 + 1) s (l0 + 1) (U 0 2)) → st_l (uV U) (uc c) s0 l0 → c (4376 + 9 * s0) = 3 ∨ c (4376 + 9 * s0) = 4 → rd_p U0 U c0 c l0 s0 dp → rd_A X R T a g n B Vg w σ τ (F_X12_readStep_d1_L140_5 X x3 z a v fu τ) U c dp (fun U' c' s' => (∃ m : Nat, fl (uV U') (uc c') m s0 s' l0 (U' 0 2)) ∧ rd_p U0 U' c0 c' l0 s0 dp) := by
  have e8 : (8 : Int32).toInt = 8 := rfl
  induction fu with
  | zero => intro σ τ U c s _ _ _ _ _ hf; omega
  | succ fu ih =>
    intro σ τ U c s I hZ hP6 hP N hf hs0 h6 hl0 hF hst hc hp
    have I0 := I
    have Z0 := hZ
    obtain ⟨S, M, Kk, h0, hV⟩ := I0
    obtain ⟨z1, z2, z3, z4, z5, z6, z7⟩ := Z0
    have kb := Kk.b
    have pk0 := Kk.2.2.2.2.2.2.1
    have zz : (z + 8).toInt = 4376 + 9 * s0 + 8 := by rw [ar_add, e8, hz, ar_wr (by omega) (by omega)]
    have one : (1 : Int32).toInt = 1 := rfl
    have hv1 : (v + 1).toInt = dp + 1 := by rw [ar_add, one, hv, ar_wr (by omega) (by omega)]
    by_cases ht : (τ.1 a 14).toInt = 0
    · -- the text's end
      have he : (F_X12_isEnd X τ a).toInt = 0 := by
        rw [tm_isEnd, if_neg (by omega)]
      rw [ls_rec_1 x3 z v hx fu h0 he, rs_d_0]
      have r2 : (F_X12_stepWord X τ a).toInt = -1 := by
        rcases rd_act I with ⟨r1, r2⟩ | ⟨hk, ty⟩
        · exact r2
        · omega
      obtain ⟨S1, x1⟩ := S.cell D (id := 0) (by decide) 0 1
      have sc1 := rd_same (σ := σ) D (id := 0) (by decide) 0 1
      obtain ⟨σ1, e1⟩ : ∃ t, t = q_si σ (rdA X R 0) 0 1 := ⟨_, rfl⟩
      rw [← e1] at S1 x1 sc1
      obtain ⟨σ', e, t1, t2, f⟩ := tl_wrong (Kk.same sc1 (tl_same.rf (a := a) (τ := τ))) h0
      rw [rs_a_0 _ _ (v + 1) (by omega) f.2.1, ls_bad_1 (τ := F_X12_wrong X τ a) x3 z v hx fu (by omega) f.2.1]
      refine ⟨1, Nat.le_refl _, Or.inr ⟨σ', fun fu i i0 i1 => ?_, f.tab Y.1 ha _ _, ((rd_Fr.cl x1).tr (rd_Fr.rd Y.1 ha D S1 t1 t2)).tr (rd_Fr.cw (R := R) (τ := F_X12_wrong X τ a) (v := (F_X12_wrong X τ a).1 a 27) Y.1 ha rd_F.rf zz (by omega)), by omega⟩⟩
      rw [lc_fin I ht fu i]
      unfold F_X4_takes_E72_3
      rw [q_letE (q_si σ (q_rf X R 8) 0 1)]
      have e1' : σ1 = q_si σ (q_rf X R 8) 0 1 := e1
      rw [← e1', q_letE (σ1.1 R 10)]
      have f10 : (σ1.1 R 10).toInt = dp + 1 := S1.2.2
      rw [if_neg (by omega), e, q_biP (0 : Int32) σ', if_pos (by decide)]
    · by_cases he : (F_X12_isEnd X τ a).toInt = 0
      · rw [ls_rec_1 x3 z v hx fu h0 he]
        have A := rA_s0 Y D ha G hn (v + 1) I hZ hP6 hP N hv1 (by omega) ht he
        obtain ⟨τ1, hτ⟩ : ∃ t, t = F_X12_readStep_d0 X τ a (v + 1) := ⟨_, rfl⟩
        rw [← hτ] at A ⊢
        obtain ⟨k, hk, A⟩ := A
        rcases A with ⟨σ1, U1, c1, s1, e2, I1, Z1, F1, ⟨⟨m1, q1⟩, q2⟩, p1⟩ | ⟨σ1, e2, F2, f2, b2⟩
        · have le := fl_le _ q1
          have hU6 : U1 6 dp = l0 := by rw [q2.2.1 dp (by omega)]; exact h6
          obtain ⟨m, hF⟩ := hF
          have hF1 : fl (uV U1) (uc c1) m (s0 + 1) s (l0 + 1) (U 0 2) := fl_y m (fun id i a1 a2 a3 a4 => q2.1 (id - 17) i (by omega) (by omega) a4) (fun j j0 j1 => q2.2.2 (3720 + j) (by omega)) hF
          have cc : ∀ j : Int, j < 4376 + 9 * s → c1 j = c j := q2.2.2
          exact rA_tr e2 p1 F1 (ih I1 Z1 (by rw [cc 2 (by omega)]; exact hP6) (by rw [cc 2 (by omega)]; exact hP) (by rw [cc 2 (by omega)]; exact N) (by omega) ⟨hs0.1, by omega⟩ hU6 ⟨hl0.1, by omega⟩ ⟨m + m1, fl_app m hF1 q1⟩ (hst.y (fun id h => q2.1 (id - 17) l0 (by omega) (by omega) hl0.2) (fun j j0 j1 => cc (3720 + j) (by omega))) (by rw [cc _ (by omega)]; exact hc) (hp.tr q2 (by omega) (by omega) (by omega))) (fun _ _ _ q => q)
        · rw [ls_bad_1 (τ := τ1) x3 z v hx fu (by omega) F2.2.1]
          exact ⟨k, hk, Or.inr ⟨σ1, e2, F2.tab Y.1 ha _ _, f2.tr (rd_Fr.cw (R := R) (τ := τ1) (v := τ1.1 a 27) Y.1 ha rd_F.rf zz (by omega)), b2⟩⟩
      · -- the body's end
        obtain ⟨τ5, h5⟩ : ∃ t, t = F_X12_must X (F_X12_must X τ a (F_X12_isEnd X τ a)) a (F_X12_isSign X (F_X12_must X τ a (F_X12_isEnd X τ a)) a 59) := ⟨_, rfl⟩
        rw [ls_end_1 x3 z v hx (fu + 1) (by omega) h0 he h5]
        obtain ⟨y, σ', e, F, o⟩ := op_end Y D ha G I ⟨by omega, by omega⟩ rfl ⟨z2, by omega⟩ h6 hl0 he h5
        have Fw := F.tr (rd_Fr.cw (R := R) (τ := τ5) (v := τ5.1 a 27) Y.1 ha rd_F.rf zz (by omega))
        rcases o with ⟨o1, o2, o3⟩ | ⟨o1, o2⟩
        · obtain ⟨Iw, -, tw⟩ := rd_w8 Y.1 ha o2 hz ⟨hs0.1, by omega⟩
          obtain ⟨m, hF⟩ := hF
          obtain ⟨U', hU'⟩ : ∃ t, t = y_up (y_up (y_up (y_up U 1 (U 0 2) 9) 0 2 (U 0 2 + 1)) 2 (U 0 2) l0) 2 l0 (U 0 2) := ⟨_, rfl⟩
          rw [← hU'] at Iw o2
          have u2 : U' 0 2 = U 0 2 + 1 := by rw [hU', y_up_ne (Or.inl (by decide)), y_up_ne (Or.inl (by decide)), y_up_eq]
          have u1 : U' 0 1 = s := by rw [hU', y_up_ne (Or.inl (by decide)), y_up_ne (Or.inl (by decide)), y_up_ne (Or.inr (by decide)), y_up_ne (Or.inl (by decide))]; exact z1
          have un : ∀ (id : Nat) (i : Int), 1 ≤ id → i ≠ U 0 2 → (id ≠ 2 ∨ i ≠ l0) → U' id i = U id i := fun id i a1 a2 a3 => by rw [hU', y_up_ne (by omega), y_up_ne (Or.inr a2), y_up_ne (Or.inl (by omega)), y_up_ne (Or.inr a2)]
          have v1 : U' 1 (U 0 2) = 9 := by rw [hU', y_up_ne (Or.inl (by decide)), y_up_ne (Or.inl (by decide)), y_up_ne (Or.inl (by decide)), y_up_eq]
          have v2 : U' 2 (U 0 2) = l0 := by rw [hU', y_up_ne (Or.inr (by omega)), y_up_eq]
          have v3 : U' 2 l0 = U 0 2 := by rw [hU', y_up_eq]
          refine ⟨1, Nat.le_refl _, Or.inl ⟨σ', U', _, s, fun fu i i0 i1 => ⟨i + 1, by rw [ar_add, one, ar_wr (by omega) (by omega)]; rfl, ?_⟩, Iw, ⟨u1, by omega, by omega, z4, z5, by omega, by omega⟩, Fw, ⟨⟨m + 1, ?_⟩, ?_⟩, by rw [tw.1 15 (by decide) (by decide)]; omega⟩⟩
          · rw [lc_end I hn he fu i i1, e, q_biP y σ', if_neg (by omega), q_letE]
          · have hF1 : fl (uV U') (uc (m_up c (4376 + 9 * s0 + 8) s)) m (s0 + 1) s (l0 + 1) (U 0 2) := fl_y m (fun id i a1 a2 a3 a4 => un (id - 17) i (by omega) (by omega) (by omega)) (fun j j0 j1 => by rw [uc_e, uc_e, m_up_ne (by omega)]) hF
            have lee := fl_le _ hF1
            have c8 : uc (m_up c (4376 + 9 * s0 + 8) s) (656 + 9 * s0 + 8) = s := by rw [uc_e, (by omega : 3720 + (656 + 9 * s0 + 8) = 4376 + 9 * s0 + 8), m_up_eq]
            have c0' : uc (m_up c (4376 + 9 * s0 + 8) s) (656 + 9 * s0) = c (4376 + 9 * s0) := by rw [uc_e, m_up_ne (by omega), (by omega : 3720 + (656 + 9 * s0) = 4376 + 9 * s0)]
            rw [u2]
            refine Or.inr ⟨hs0.2, hst.y (fun id h => un (id - 17) l0 (by omega) (by omega) (by omega)) (fun j j0 j1 => by rw [uc_e, uc_e, m_up_ne (by omega)]), Or.inr ⟨by rw [c0']; exact hc, U 0 2, s, c8, v1, v2, v3, hF1, fl_rf _ _ _ _ _⟩⟩
          · exact ⟨fun id i a1 a2 q => (un id i a1 (by omega) (by omega)).trans (hp.1 id i a1 a2 q), fun i q => by rw [hU', y_up_ne (Or.inl (by decide)), y_up_ne (Or.inl (by decide)), y_up_ne (Or.inl (by decide)), y_up_ne (Or.inl (by decide))]; exact hp.2.1 i q, fun j q => by rw [m_up_ne (by omega)]; exact hp.2.2 j q⟩
        · refine ⟨1, Nat.le_refl _, Or.inr ⟨σ', fun fu i i0 i1 => ?_, o2.tab Y.1 ha _ _, Fw, by omega⟩⟩
          rw [lc_end I hn he fu i i1, e, q_biP y σ', if_pos o1]

/-- a step with all that belongs to it, 1 bodies deep at most -/
theorem rA_s1 (Y : y_S X lb) (D : rd_D X lb R T) (ha : q_kd X a = 12) (G : y_G X lb g 1) (hn : n ≤ 300) (v : Int32) (I : rd_I X R T a g n B Vg w σ τ U dp c s) (hZ : rd_Z U s dp) (hP6 : 0 ≤ c 2 ∧ c 2 ≤ 6) (hP : Vg 1 4 = c 2) (N : y_nm Vg w 0 (c 2)) (hv : v.toInt = dp) (hd : dp = 3 - 1) (ht : ¬ (τ.1 a 14).toInt = 0) (he : (F_X12_isEnd X τ a).toInt = 0) : rd_A X R T a g n B Vg w σ τ (F_X12_readStep_d1 X τ a v) U c dp (rd_Q U c s dp) := by
  obtain ⟨c1, c2, c3, c4, c5⟩ := cl_step I hZ.1
  have ra := rd_act I
  have I0 := I
  have Z0 := hZ
  obtain ⟨S, M, Kk, h0, hV⟩ := I0
  obtain ⟨z1, z2, z3, z4, z5, z6, z7⟩ := Z0
  have fs : (τ.1 a 27).toInt = s := M.2.2.2.1
  rw [rs_d_1]
  rcases ra with ⟨r1, r2⟩ | ⟨hk, ty⟩
  · obtain ⟨σ', e, t1, t2, f⟩ := tl_wrong Kk h0
    have e7 := c1 r1
    rw [e] at e7
    rw [rs_a_1 _ _ v (by omega) f.2.1]
    exact rA_0f I hn ht he e7 rfl f (rd_Fr.rd Y.1 ha D S t1 t2)
  · have hk0 := hk
    unfold rd_k at hk0
    by_cases hs : s < 30
    · have s30 : ¬ (τ.1 a 27).toInt = 30 := by omega
      have e9 : (9 : Int32).toInt = 9 := rfl
      have e43 : (4376 : Int32).toInt = 4376 := rfl
      have e8 : (8 : Int32).toInt = 8 := rfl
      have zr : ((4376 : Int32) + 9 * τ.1 a 27).toInt = 4376 + 9 * s := by rw [ar_add, ar_mul, e9, e43, fs, ar_wr (n := 9 * s) (by omega) (by omega), ar_wr (by omega) (by omega)]
      have zz8 : (((4376 : Int32) + 9 * τ.1 a 27) + 8).toInt = 4376 + 9 * s + 8 := by rw [ar_add, e8, zr, ar_wr (by omega) (by omega)]
      by_cases hb : (F_X4_actionHere X σ R).toInt = 4 ∨ (F_X4_actionHere X σ R).toInt = 8
      · have x1 : (if (F_X12_stepWord X τ a).toInt = 3 ∨ (F_X12_stepWord X τ a).toInt = 4 then (1 : Int32) else 0) = 1 := if_pos (by omega)
        obtain ⟨fu, hf, e5⟩ := rs_e_1 (X := X) (a := a) (τ := τ) (F_X12_stepWord X τ a) (if (F_X12_stepWord X τ a).toInt = 3 ∨ (F_X12_stepWord X τ a).toInt = 4 then 1 else 0) v h0 (by omega) s30 (Or.inr (by omega))
        rw [e5]
        obtain ⟨z, σ', e6, F, O⟩ := op_block Y D ha G I hP6 hP N (r := F_X4_actionHere X σ R) (rk := F_X12_stepWord X τ a) z1 rfl ⟨z2, by omega⟩ ⟨z4, hs⟩ ⟨z6, by omega⟩ ht rfl rfl hk
        have e7 := c3 (by omega) hs hb (by omega)
        rw [e6] at e7
        rcases O with ⟨o1, ⟨U', c', I', ⟨y1, y2⟩, p2, p3⟩, o3⟩ | ⟨o1, o2⟩
        · have u2 : U' 0 2 = U 0 2 + 1 := by rw [y1 0 2 (Or.inl rfl), y_up_ne (Or.inl (by decide)), y_up_ne (Or.inr (by decide)), y_up_eq]
          have u1 : U' 0 1 = s + 1 := by rw [y1 0 1 (Or.inl rfl), y_up_ne (Or.inl (by decide)), y_up_eq]
          have u6 : U' 6 dp = U 0 2 := by rw [y1 6 dp (by omega), y_up_eq]
          have un : ∀ (id : Nat) (i : Int), id = 2 ∨ id = 6 ∧ i < dp ∨ 1 ≤ id ∧ id ≠ 6 ∧ i ≠ U 0 2 → U' id i = U id i := fun id i h => by rw [y1 id i (by omega), y_up_ne (by omega), y_up_ne (Or.inl (by omega)), y_up_ne (Or.inl (by omega))]
          have cc : ∀ j : Int, j < 4376 + 9 * s → c' j = c j := fun j q => y2 j (by omega)
          have hM : ((hd_M X a (F_X12_stepWord X τ a) τ).1 a 12).toInt = 0 := I'.2.2.2.1
          rw [hM] at hf
          refine rA_tr (k1 := 1) (fun fu i i0 i1 => rA_1 I hn ht he e7 o1 fu i i0 i1) (by omega) F (rB_1 Y D ha G hn v _ _ (by rw [x1]; decide) zr hv (by omega) fu I' ⟨u1, by omega, by omega, by omega, by omega, by omega, by omega⟩ (by rw [cc 2 (by omega)]; exact hP6) (by rw [cc 2 (by omega)]; exact hP) (by rw [cc 2 (by omega)]; exact N) hf ⟨z4, by omega⟩ u6 ⟨z2, by omega⟩ ⟨0, by rw [u2]; exact ⟨rfl, rfl⟩⟩ p3 (by rw [p2]; omega) ⟨fun id i a1 a2 a3 => un id i (by omega), fun i q => un 6 i (by omega), cc⟩) (fun _ _ _ q => q)
        · have bad : 0 < ((hd_M X a (F_X12_stepWord X τ a) τ).1 a 12).toInt := o2.2.1
          rw [ls_bad_1 (τ := hd_M X a (F_X12_stepWord X τ a) τ) _ _ v (by rw [x1]; decide) fu (by omega) bad]
          exact rA_0f I hn ht he e7 o1 (o2.tab Y.1 ha _ _) (F.tr (rd_Fr.cw (R := R) (τ := hd_M X a (F_X12_stepWord X τ a) τ) (v := (hd_M X a (F_X12_stepWord X τ a) τ).1 a 27) Y.1 ha rd_F.rf zz8 (by omega)))
      · have x0 : (if (F_X12_stepWord X τ a).toInt = 3 ∨ (F_X12_stepWord X τ a).toInt = 4 then (1 : Int32) else 0).toInt = 0 := by
          rw [if_neg (by omega)]
          rfl
        obtain ⟨fu, hf, e5⟩ := rs_e_1 (X := X) (a := a) (τ := τ) (F_X12_stepWord X τ a) (if (F_X12_stepWord X τ a).toInt = 3 ∨ (F_X12_stepWord X τ a).toInt = 4 then 1 else 0) v h0 (by omega) s30 (Or.inl x0)
        rw [e5, ls_flat_1 (τ := hd_M X a (F_X12_stepWord X τ a) τ) _ _ v x0 fu (by omega)]
        obtain ⟨z, σ', e6, O⟩ := op_flat Y D ha G I hP6 hP N (r := F_X4_actionHere X σ R) (rk := F_X12_stepWord X τ a) (x64 := 0) z1 rfl ⟨z2, by omega⟩ ⟨z4, hs⟩ ht rfl rfl hk rfl
        have e7 := c5 (by omega) hs (by omega)
        rw [e6] at e7
        exact rA_flat Y.1 ha I hn hZ hs ht he (by omega) e7 zr O
    · obtain ⟨σ', e, t1, t2, f⟩ := tl_fail Kk h0 (by omega) (k := 6) (by decide) (w := τ.1 a 15) rfl
      have e7 := c2 (by omega) hs
      rw [e] at e7
      rw [rs_b_1 _ _ v h0 (by omega) (by omega) f.2.1]
      exact rA_0f I hn ht he e7 rfl f (rd_Fr.rd Y.1 ha D S t1 t2)

/-- a body, read line by line to its end -/
theorem rB_2 (Y : y_S X lb) (D : rd_D X lb R T) (ha : q_kd X a = 12) (G : y_G X lb g 1) (hn : n ≤ 300) (v x3 z : Int32) (hx : ¬ x3.toInt = 0) {s0 l0 : Int} {U0 : Nat → Int → Int} {c0 : Int → Int} (hz : z.toInt = 4376 + 9 * s0) (hv : v.toInt = dp) (hd : dp = 3 - 2) (fu : Nat) : ∀ {σ τ : ST} {U : Nat → Int → Int} {c : Int → Int} {s : Int}, rd_I X R T a g n B Vg w σ τ U (dp + 1) c s → rd_Z U s (dp + 1) → 0 ≤ c 2 ∧ c 2 ≤ 6 → Vg 1 4 = c 2 → y_nm Vg w 0 (c 2) → ((901 - (τ.1 a 15).toInt).toNat + (1 - (0 : Int)).toNat) < fu → 0 ≤ s0 ∧ s0 < s → U 6 dp = l0 → 0 ≤ l0 ∧ l0 < U 0 2 → (∃ m : Nat, fl (uV U) (uc c) m (s0 + 1) s (l0 + 1) (U 0 2)) → st_l (uV U) (uc c) s0 l0 → c (4376 + 9 * s0) = 3 ∨ c (4376 + 9 * s0) = 4 → rd_p U0 U c0 c l0 s0 dp → rd_A X R T a g n B Vg w σ τ (F_X12_readStep_d2_L140_5 X x3 z a v fu τ) U c dp (fun U' c' s' => (∃ m : Nat, fl (uV U') (uc c') m s0 s' l0 (U' 0 2)) ∧ rd_p U0 U' c0 c' l0 s0 dp) := by
  have e8 : (8 : Int32).toInt = 8 := rfl
  induction fu with
  | zero => intro σ τ U c s _ _ _ _ _ hf; omega
  | succ fu ih =>
    intro σ τ U c s I hZ hP6 hP N hf hs0 h6 hl0 hF hst hc hp
    have I0 := I
    have Z0 := hZ
    obtain ⟨S, M, Kk, h0, hV⟩ := I0
    obtain ⟨z1, z2, z3, z4, z5, z6, z7⟩ := Z0
    have kb := Kk.b
    have pk0 := Kk.2.2.2.2.2.2.1
    have zz : (z + 8).toInt = 4376 + 9 * s0 + 8 := by rw [ar_add, e8, hz, ar_wr (by omega) (by omega)]
    have one : (1 : Int32).toInt = 1 := rfl
    have hv1 : (v + 1).toInt = dp + 1 := by rw [ar_add, one, hv, ar_wr (by omega) (by omega)]
    by_cases ht : (τ.1 a 14).toInt = 0
    · -- the text's end
      have he : (F_X12_isEnd X τ a).toInt = 0 := by
        rw [tm_isEnd, if_neg (by omega)]
      rw [ls_rec_2 x3 z v hx fu h0 he, rs_d_1]
      have r2 : (F_X12_stepWord X τ a).toInt = -1 := by
        rcases rd_act I with ⟨r1, r2⟩ | ⟨hk, ty⟩
        · exact r2
        · omega
      obtain ⟨S1, x1⟩ := S.cell D (id := 0) (by decide) 0 1
      have sc1 := rd_same (σ := σ) D (id := 0) (by decide) 0 1
      obtain ⟨σ1, e1⟩ : ∃ t, t = q_si σ (rdA X R 0) 0 1 := ⟨_, rfl⟩
      rw [← e1] at S1 x1 sc1
      obtain ⟨σ', e, t1, t2, f⟩ := tl_wrong (Kk.same sc1 (tl_same.rf (a := a) (τ := τ))) h0
      rw [rs_a_1 _ _ (v + 1) (by omega) f.2.1, ls_bad_2 (τ := F_X12_wrong X τ a) x3 z v hx fu (by omega) f.2.1]
      refine ⟨1, Nat.le_refl _, Or.inr ⟨σ', fun fu i i0 i1 => ?_, f.tab Y.1 ha _ _, ((rd_Fr.cl x1).tr (rd_Fr.rd Y.1 ha D S1 t1 t2)).tr (rd_Fr.cw (R := R) (τ := F_X12_wrong X τ a) (v := (F_X12_wrong X τ a).1 a 27) Y.1 ha rd_F.rf zz (by omega)), by omega⟩⟩
      rw [lc_fin I ht fu i]
      unfold F_X4_takes_E72_3
      rw [q_letE (q_si σ (q_rf X R 8) 0 1)]
      have e1' : σ1 = q_si σ (q_rf X R 8) 0 1 := e1
      rw [← e1', q_letE (σ1.1 R 10)]
      have f10 : (σ1.1 R 10).toInt = dp + 1 := S1.2.2
      rw [if_neg (by omega), e, q_biP (0 : Int32) σ', if_pos (by decide)]
    · by_cases he : (F_X12_isEnd X τ a).toInt = 0
      · rw [ls_rec_2 x3 z v hx fu h0 he]
        have A := rA_s1 Y D ha G hn (v + 1) I hZ hP6 hP N hv1 (by omega) ht he
        obtain ⟨τ1, hτ⟩ : ∃ t, t = F_X12_readStep_d1 X τ a (v + 1) := ⟨_, rfl⟩
        rw [← hτ] at A ⊢
        obtain ⟨k, hk, A⟩ := A
        rcases A with ⟨σ1, U1, c1, s1, e2, I1, Z1, F1, ⟨⟨m1, q1⟩, q2⟩, p1⟩ | ⟨σ1, e2, F2, f2, b2⟩
        · have le := fl_le _ q1
          have hU6 : U1 6 dp = l0 := by rw [q2.2.1 dp (by omega)]; exact h6
          obtain ⟨m, hF⟩ := hF
          have hF1 : fl (uV U1) (uc c1) m (s0 + 1) s (l0 + 1) (U 0 2) := fl_y m (fun id i a1 a2 a3 a4 => q2.1 (id - 17) i (by omega) (by omega) a4) (fun j j0 j1 => q2.2.2 (3720 + j) (by omega)) hF
          have cc : ∀ j : Int, j < 4376 + 9 * s → c1 j = c j := q2.2.2
          exact rA_tr e2 p1 F1 (ih I1 Z1 (by rw [cc 2 (by omega)]; exact hP6) (by rw [cc 2 (by omega)]; exact hP) (by rw [cc 2 (by omega)]; exact N) (by omega) ⟨hs0.1, by omega⟩ hU6 ⟨hl0.1, by omega⟩ ⟨m + m1, fl_app m hF1 q1⟩ (hst.y (fun id h => q2.1 (id - 17) l0 (by omega) (by omega) hl0.2) (fun j j0 j1 => cc (3720 + j) (by omega))) (by rw [cc _ (by omega)]; exact hc) (hp.tr q2 (by omega) (by omega) (by omega))) (fun _ _ _ q => q)
        · rw [ls_bad_2 (τ := τ1) x3 z v hx fu (by omega) F2.2.1]
          exact ⟨k, hk, Or.inr ⟨σ1, e2, F2.tab Y.1 ha _ _, f2.tr (rd_Fr.cw (R := R) (τ := τ1) (v := τ1.1 a 27) Y.1 ha rd_F.rf zz (by omega)), b2⟩⟩
      · -- the body's end
        obtain ⟨τ5, h5⟩ : ∃ t, t = F_X12_must X (F_X12_must X τ a (F_X12_isEnd X τ a)) a (F_X12_isSign X (F_X12_must X τ a (F_X12_isEnd X τ a)) a 59) := ⟨_, rfl⟩
        rw [ls_end_2 x3 z v hx (fu + 1) (by omega) h0 he h5]
        obtain ⟨y, σ', e, F, o⟩ := op_end Y D ha G I ⟨by omega, by omega⟩ rfl ⟨z2, by omega⟩ h6 hl0 he h5
        have Fw := F.tr (rd_Fr.cw (R := R) (τ := τ5) (v := τ5.1 a 27) Y.1 ha rd_F.rf zz (by omega))
        rcases o with ⟨o1, o2, o3⟩ | ⟨o1, o2⟩
        · obtain ⟨Iw, -, tw⟩ := rd_w8 Y.1 ha o2 hz ⟨hs0.1, by omega⟩
          obtain ⟨m, hF⟩ := hF
          obtain ⟨U', hU'⟩ : ∃ t, t = y_up (y_up (y_up (y_up U 1 (U 0 2) 9) 0 2 (U 0 2 + 1)) 2 (U 0 2) l0) 2 l0 (U 0 2) := ⟨_, rfl⟩
          rw [← hU'] at Iw o2
          have u2 : U' 0 2 = U 0 2 + 1 := by rw [hU', y_up_ne (Or.inl (by decide)), y_up_ne (Or.inl (by decide)), y_up_eq]
          have u1 : U' 0 1 = s := by rw [hU', y_up_ne (Or.inl (by decide)), y_up_ne (Or.inl (by decide)), y_up_ne (Or.inr (by decide)), y_up_ne (Or.inl (by decide))]; exact z1
          have un : ∀ (id : Nat) (i : Int), 1 ≤ id → i ≠ U 0 2 → (id ≠ 2 ∨ i ≠ l0) → U' id i = U id i := fun id i a1 a2 a3 => by rw [hU', y_up_ne (by omega), y_up_ne (Or.inr a2), y_up_ne (Or.inl (by omega)), y_up_ne (Or.inr a2)]
          have v1 : U' 1 (U 0 2) = 9 := by rw [hU', y_up_ne (Or.inl (by decide)), y_up_ne (Or.inl (by decide)), y_up_ne (Or.inl (by decide)), y_up_eq]
          have v2 : U' 2 (U 0 2) = l0 := by rw [hU', y_up_ne (Or.inr (by omega)), y_up_eq]
          have v3 : U' 2 l0 = U 0 2 := by rw [hU', y_up_eq]
          refine ⟨1, Nat.le_refl _, Or.inl ⟨σ', U', _, s, fun fu i i0 i1 => ⟨i + 1, by rw [ar_add, one, ar_wr (by omega) (by omega)]; rfl, ?_⟩, Iw, ⟨u1, by omega, by omega, z4, z5, by omega, by omega⟩, Fw, ⟨⟨m + 1, ?_⟩, ?_⟩, by rw [tw.1 15 (by decide) (by decide)]; omega⟩⟩
          · rw [lc_end I hn he fu i i1, e, q_biP y σ', if_neg (by omega), q_letE]
          · have hF1 : fl (uV U') (uc (m_up c (4376 + 9 * s0 + 8) s)) m (s0 + 1) s (l0 + 1) (U 0 2) := fl_y m (fun id i a1 a2 a3 a4 => un (id - 17) i (by omega) (by omega) (by omega)) (fun j j0 j1 => by rw [uc_e, uc_e, m_up_ne (by omega)]) hF
            have lee := fl_le _ hF1
            have c8 : uc (m_up c (4376 + 9 * s0 + 8) s) (656 + 9 * s0 + 8) = s := by rw [uc_e, (by omega : 3720 + (656 + 9 * s0 + 8) = 4376 + 9 * s0 + 8), m_up_eq]
            have c0' : uc (m_up c (4376 + 9 * s0 + 8) s) (656 + 9 * s0) = c (4376 + 9 * s0) := by rw [uc_e, m_up_ne (by omega), (by omega : 3720 + (656 + 9 * s0) = 4376 + 9 * s0)]
            rw [u2]
            refine Or.inr ⟨hs0.2, hst.y (fun id h => un (id - 17) l0 (by omega) (by omega) (by omega)) (fun j j0 j1 => by rw [uc_e, uc_e, m_up_ne (by omega)]), Or.inr ⟨by rw [c0']; exact hc, U 0 2, s, c8, v1, v2, v3, hF1, fl_rf _ _ _ _ _⟩⟩
          · exact ⟨fun id i a1 a2 q => (un id i a1 (by omega) (by omega)).trans (hp.1 id i a1 a2 q), fun i q => by rw [hU', y_up_ne (Or.inl (by decide)), y_up_ne (Or.inl (by decide)), y_up_ne (Or.inl (by decide)), y_up_ne (Or.inl (by decide))]; exact hp.2.1 i q, fun j q => by rw [m_up_ne (by omega)]; exact hp.2.2 j q⟩
        · refine ⟨1, Nat.le_refl _, Or.inr ⟨σ', fun fu i i0 i1 => ?_, o2.tab Y.1 ha _ _, Fw, by omega⟩⟩
          rw [lc_end I hn he fu i i1, e, q_biP y σ', if_pos o1]

/-- a step with all that belongs to it, 2 bodies deep at most -/
theorem rA_s2 (Y : y_S X lb) (D : rd_D X lb R T) (ha : q_kd X a = 12) (G : y_G X lb g 1) (hn : n ≤ 300) (v : Int32) (I : rd_I X R T a g n B Vg w σ τ U dp c s) (hZ : rd_Z U s dp) (hP6 : 0 ≤ c 2 ∧ c 2 ≤ 6) (hP : Vg 1 4 = c 2) (N : y_nm Vg w 0 (c 2)) (hv : v.toInt = dp) (hd : dp = 3 - 2) (ht : ¬ (τ.1 a 14).toInt = 0) (he : (F_X12_isEnd X τ a).toInt = 0) : rd_A X R T a g n B Vg w σ τ (F_X12_readStep_d2 X τ a v) U c dp (rd_Q U c s dp) := by
  obtain ⟨c1, c2, c3, c4, c5⟩ := cl_step I hZ.1
  have ra := rd_act I
  have I0 := I
  have Z0 := hZ
  obtain ⟨S, M, Kk, h0, hV⟩ := I0
  obtain ⟨z1, z2, z3, z4, z5, z6, z7⟩ := Z0
  have fs : (τ.1 a 27).toInt = s := M.2.2.2.1
  rw [rs_d_2]
  rcases ra with ⟨r1, r2⟩ | ⟨hk, ty⟩
  · obtain ⟨σ', e, t1, t2, f⟩ := tl_wrong Kk h0
    have e7 := c1 r1
    rw [e] at e7
    rw [rs_a_2 _ _ v (by omega) f.2.1]
    exact rA_0f I hn ht he e7 rfl f (rd_Fr.rd Y.1 ha D S t1 t2)
  · have hk0 := hk
    unfold rd_k at hk0
    by_cases hs : s < 30
    · have s30 : ¬ (τ.1 a 27).toInt = 30 := by omega
      have e9 : (9 : Int32).toInt = 9 := rfl
      have e43 : (4376 : Int32).toInt = 4376 := rfl
      have e8 : (8 : Int32).toInt = 8 := rfl
      have zr : ((4376 : Int32) + 9 * τ.1 a 27).toInt = 4376 + 9 * s := by rw [ar_add, ar_mul, e9, e43, fs, ar_wr (n := 9 * s) (by omega) (by omega), ar_wr (by omega) (by omega)]
      have zz8 : (((4376 : Int32) + 9 * τ.1 a 27) + 8).toInt = 4376 + 9 * s + 8 := by rw [ar_add, e8, zr, ar_wr (by omega) (by omega)]
      by_cases hb : (F_X4_actionHere X σ R).toInt = 4 ∨ (F_X4_actionHere X σ R).toInt = 8
      · have x1 : (if (F_X12_stepWord X τ a).toInt = 3 ∨ (F_X12_stepWord X τ a).toInt = 4 then (1 : Int32) else 0) = 1 := if_pos (by omega)
        obtain ⟨fu, hf, e5⟩ := rs_e_2 (X := X) (a := a) (τ := τ) (F_X12_stepWord X τ a) (if (F_X12_stepWord X τ a).toInt = 3 ∨ (F_X12_stepWord X τ a).toInt = 4 then 1 else 0) v h0 (by omega) s30 (Or.inr (by omega))
        rw [e5]
        obtain ⟨z, σ', e6, F, O⟩ := op_block Y D ha G I hP6 hP N (r := F_X4_actionHere X σ R) (rk := F_X12_stepWord X τ a) z1 rfl ⟨z2, by omega⟩ ⟨z4, hs⟩ ⟨z6, by omega⟩ ht rfl rfl hk
        have e7 := c3 (by omega) hs hb (by omega)
        rw [e6] at e7
        rcases O with ⟨o1, ⟨U', c', I', ⟨y1, y2⟩, p2, p3⟩, o3⟩ | ⟨o1, o2⟩
        · have u2 : U' 0 2 = U 0 2 + 1 := by rw [y1 0 2 (Or.inl rfl), y_up_ne (Or.inl (by decide)), y_up_ne (Or.inr (by decide)), y_up_eq]
          have u1 : U' 0 1 = s + 1 := by rw [y1 0 1 (Or.inl rfl), y_up_ne (Or.inl (by decide)), y_up_eq]
          have u6 : U' 6 dp = U 0 2 := by rw [y1 6 dp (by omega), y_up_eq]
          have un : ∀ (id : Nat) (i : Int), id = 2 ∨ id = 6 ∧ i < dp ∨ 1 ≤ id ∧ id ≠ 6 ∧ i ≠ U 0 2 → U' id i = U id i := fun id i h => by rw [y1 id i (by omega), y_up_ne (by omega), y_up_ne (Or.inl (by omega)), y_up_ne (Or.inl (by omega))]
          have cc : ∀ j : Int, j < 4376 + 9 * s → c' j = c j := fun j q => y2 j (by omega)
          have hM : ((hd_M X a (F_X12_stepWord X τ a) τ).1 a 12).toInt = 0 := I'.2.2.2.1
          rw [hM] at hf
          refine rA_tr (k1 := 1) (fun fu i i0 i1 => rA_1 I hn ht he e7 o1 fu i i0 i1) (by omega) F (rB_2 Y D ha G hn v _ _ (by rw [x1]; decide) zr hv (by omega) fu I' ⟨u1, by omega, by omega, by omega, by omega, by omega, by omega⟩ (by rw [cc 2 (by omega)]; exact hP6) (by rw [cc 2 (by omega)]; exact hP) (by rw [cc 2 (by omega)]; exact N) hf ⟨z4, by omega⟩ u6 ⟨z2, by omega⟩ ⟨0, by rw [u2]; exact ⟨rfl, rfl⟩⟩ p3 (by rw [p2]; omega) ⟨fun id i a1 a2 a3 => un id i (by omega), fun i q => un 6 i (by omega), cc⟩) (fun _ _ _ q => q)
        · have bad : 0 < ((hd_M X a (F_X12_stepWord X τ a) τ).1 a 12).toInt := o2.2.1
          rw [ls_bad_2 (τ := hd_M X a (F_X12_stepWord X τ a) τ) _ _ v (by rw [x1]; decide) fu (by omega) bad]
          exact rA_0f I hn ht he e7 o1 (o2.tab Y.1 ha _ _) (F.tr (rd_Fr.cw (R := R) (τ := hd_M X a (F_X12_stepWord X τ a) τ) (v := (hd_M X a (F_X12_stepWord X τ a) τ).1 a 27) Y.1 ha rd_F.rf zz8 (by omega)))
      · have x0 : (if (F_X12_stepWord X τ a).toInt = 3 ∨ (F_X12_stepWord X τ a).toInt = 4 then (1 : Int32) else 0).toInt = 0 := by
          rw [if_neg (by omega)]
          rfl
        obtain ⟨fu, hf, e5⟩ := rs_e_2 (X := X) (a := a) (τ := τ) (F_X12_stepWord X τ a) (if (F_X12_stepWord X τ a).toInt = 3 ∨ (F_X12_stepWord X τ a).toInt = 4 then 1 else 0) v h0 (by omega) s30 (Or.inl x0)
        rw [e5, ls_flat_2 (τ := hd_M X a (F_X12_stepWord X τ a) τ) _ _ v x0 fu (by omega)]
        obtain ⟨z, σ', e6, O⟩ := op_flat Y D ha G I hP6 hP N (r := F_X4_actionHere X σ R) (rk := F_X12_stepWord X τ a) (x64 := 0) z1 rfl ⟨z2, by omega⟩ ⟨z4, hs⟩ ht rfl rfl hk rfl
        have e7 := c5 (by omega) hs (by omega)
        rw [e6] at e7
        exact rA_flat Y.1 ha I hn hZ hs ht he (by omega) e7 zr O
    · obtain ⟨σ', e, t1, t2, f⟩ := tl_fail Kk h0 (by omega) (k := 6) (by decide) (w := τ.1 a 15) rfl
      have e7 := c2 (by omega) hs
      rw [e] at e7
      rw [rs_b_2 _ _ v h0 (by omega) (by omega) f.2.1]
      exact rA_0f I hn ht he e7 rfl f (rd_Fr.rd Y.1 ha D S t1 t2)

/-- a body, read line by line to its end -/
theorem rB_3 (Y : y_S X lb) (D : rd_D X lb R T) (ha : q_kd X a = 12) (G : y_G X lb g 1) (hn : n ≤ 300) (v x3 z : Int32) (hx : ¬ x3.toInt = 0) {s0 l0 : Int} {U0 : Nat → Int → Int} {c0 : Int → Int} (hz : z.toInt = 4376 + 9 * s0) (hv : v.toInt = dp) (hd : dp = 3 - 3) (fu : Nat) : ∀ {σ τ : ST} {U : Nat → Int → Int} {c : Int → Int} {s : Int}, rd_I X R T a g n B Vg w σ τ U (dp + 1) c s → rd_Z U s (dp + 1) → 0 ≤ c 2 ∧ c 2 ≤ 6 → Vg 1 4 = c 2 → y_nm Vg w 0 (c 2) → ((901 - (τ.1 a 15).toInt).toNat + (1 - (0 : Int)).toNat) < fu → 0 ≤ s0 ∧ s0 < s → U 6 dp = l0 → 0 ≤ l0 ∧ l0 < U 0 2 → (∃ m : Nat, fl (uV U) (uc c) m (s0 + 1) s (l0 + 1) (U 0 2)) → st_l (uV U) (uc c) s0 l0 → c (4376 + 9 * s0) = 3 ∨ c (4376 + 9 * s0) = 4 → rd_p U0 U c0 c l0 s0 dp → rd_A X R T a g n B Vg w σ τ (F_X12_readStep_d3_L140_5 X x3 z a v fu τ) U c dp (fun U' c' s' => (∃ m : Nat, fl (uV U') (uc c') m s0 s' l0 (U' 0 2)) ∧ rd_p U0 U' c0 c' l0 s0 dp) := by
  have e8 : (8 : Int32).toInt = 8 := rfl
  induction fu with
  | zero => intro σ τ U c s _ _ _ _ _ hf; omega
  | succ fu ih =>
    intro σ τ U c s I hZ hP6 hP N hf hs0 h6 hl0 hF hst hc hp
    have I0 := I
    have Z0 := hZ
    obtain ⟨S, M, Kk, h0, hV⟩ := I0
    obtain ⟨z1, z2, z3, z4, z5, z6, z7⟩ := Z0
    have kb := Kk.b
    have pk0 := Kk.2.2.2.2.2.2.1
    have zz : (z + 8).toInt = 4376 + 9 * s0 + 8 := by rw [ar_add, e8, hz, ar_wr (by omega) (by omega)]
    have one : (1 : Int32).toInt = 1 := rfl
    have hv1 : (v + 1).toInt = dp + 1 := by rw [ar_add, one, hv, ar_wr (by omega) (by omega)]
    by_cases ht : (τ.1 a 14).toInt = 0
    · -- the text's end
      have he : (F_X12_isEnd X τ a).toInt = 0 := by
        rw [tm_isEnd, if_neg (by omega)]
      rw [ls_rec_3 x3 z v hx fu h0 he, rs_d_2]
      have r2 : (F_X12_stepWord X τ a).toInt = -1 := by
        rcases rd_act I with ⟨r1, r2⟩ | ⟨hk, ty⟩
        · exact r2
        · omega
      obtain ⟨S1, x1⟩ := S.cell D (id := 0) (by decide) 0 1
      have sc1 := rd_same (σ := σ) D (id := 0) (by decide) 0 1
      obtain ⟨σ1, e1⟩ : ∃ t, t = q_si σ (rdA X R 0) 0 1 := ⟨_, rfl⟩
      rw [← e1] at S1 x1 sc1
      obtain ⟨σ', e, t1, t2, f⟩ := tl_wrong (Kk.same sc1 (tl_same.rf (a := a) (τ := τ))) h0
      rw [rs_a_2 _ _ (v + 1) (by omega) f.2.1, ls_bad_3 (τ := F_X12_wrong X τ a) x3 z v hx fu (by omega) f.2.1]
      refine ⟨1, Nat.le_refl _, Or.inr ⟨σ', fun fu i i0 i1 => ?_, f.tab Y.1 ha _ _, ((rd_Fr.cl x1).tr (rd_Fr.rd Y.1 ha D S1 t1 t2)).tr (rd_Fr.cw (R := R) (τ := F_X12_wrong X τ a) (v := (F_X12_wrong X τ a).1 a 27) Y.1 ha rd_F.rf zz (by omega)), by omega⟩⟩
      rw [lc_fin I ht fu i]
      unfold F_X4_takes_E72_3
      rw [q_letE (q_si σ (q_rf X R 8) 0 1)]
      have e1' : σ1 = q_si σ (q_rf X R 8) 0 1 := e1
      rw [← e1', q_letE (σ1.1 R 10)]
      have f10 : (σ1.1 R 10).toInt = dp + 1 := S1.2.2
      rw [if_neg (by omega), e, q_biP (0 : Int32) σ', if_pos (by decide)]
    · by_cases he : (F_X12_isEnd X τ a).toInt = 0
      · rw [ls_rec_3 x3 z v hx fu h0 he]
        have A := rA_s2 Y D ha G hn (v + 1) I hZ hP6 hP N hv1 (by omega) ht he
        obtain ⟨τ1, hτ⟩ : ∃ t, t = F_X12_readStep_d2 X τ a (v + 1) := ⟨_, rfl⟩
        rw [← hτ] at A ⊢
        obtain ⟨k, hk, A⟩ := A
        rcases A with ⟨σ1, U1, c1, s1, e2, I1, Z1, F1, ⟨⟨m1, q1⟩, q2⟩, p1⟩ | ⟨σ1, e2, F2, f2, b2⟩
        · have le := fl_le _ q1
          have hU6 : U1 6 dp = l0 := by rw [q2.2.1 dp (by omega)]; exact h6
          obtain ⟨m, hF⟩ := hF
          have hF1 : fl (uV U1) (uc c1) m (s0 + 1) s (l0 + 1) (U 0 2) := fl_y m (fun id i a1 a2 a3 a4 => q2.1 (id - 17) i (by omega) (by omega) a4) (fun j j0 j1 => q2.2.2 (3720 + j) (by omega)) hF
          have cc : ∀ j : Int, j < 4376 + 9 * s → c1 j = c j := q2.2.2
          exact rA_tr e2 p1 F1 (ih I1 Z1 (by rw [cc 2 (by omega)]; exact hP6) (by rw [cc 2 (by omega)]; exact hP) (by rw [cc 2 (by omega)]; exact N) (by omega) ⟨hs0.1, by omega⟩ hU6 ⟨hl0.1, by omega⟩ ⟨m + m1, fl_app m hF1 q1⟩ (hst.y (fun id h => q2.1 (id - 17) l0 (by omega) (by omega) hl0.2) (fun j j0 j1 => cc (3720 + j) (by omega))) (by rw [cc _ (by omega)]; exact hc) (hp.tr q2 (by omega) (by omega) (by omega))) (fun _ _ _ q => q)
        · rw [ls_bad_3 (τ := τ1) x3 z v hx fu (by omega) F2.2.1]
          exact ⟨k, hk, Or.inr ⟨σ1, e2, F2.tab Y.1 ha _ _, f2.tr (rd_Fr.cw (R := R) (τ := τ1) (v := τ1.1 a 27) Y.1 ha rd_F.rf zz (by omega)), b2⟩⟩
      · -- the body's end
        obtain ⟨τ5, h5⟩ : ∃ t, t = F_X12_must X (F_X12_must X τ a (F_X12_isEnd X τ a)) a (F_X12_isSign X (F_X12_must X τ a (F_X12_isEnd X τ a)) a 59) := ⟨_, rfl⟩
        rw [ls_end_3 x3 z v hx (fu + 1) (by omega) h0 he h5]
        obtain ⟨y, σ', e, F, o⟩ := op_end Y D ha G I ⟨by omega, by omega⟩ rfl ⟨z2, by omega⟩ h6 hl0 he h5
        have Fw := F.tr (rd_Fr.cw (R := R) (τ := τ5) (v := τ5.1 a 27) Y.1 ha rd_F.rf zz (by omega))
        rcases o with ⟨o1, o2, o3⟩ | ⟨o1, o2⟩
        · obtain ⟨Iw, -, tw⟩ := rd_w8 Y.1 ha o2 hz ⟨hs0.1, by omega⟩
          obtain ⟨m, hF⟩ := hF
          obtain ⟨U', hU'⟩ : ∃ t, t = y_up (y_up (y_up (y_up U 1 (U 0 2) 9) 0 2 (U 0 2 + 1)) 2 (U 0 2) l0) 2 l0 (U 0 2) := ⟨_, rfl⟩
          rw [← hU'] at Iw o2
          have u2 : U' 0 2 = U 0 2 + 1 := by rw [hU', y_up_ne (Or.inl (by decide)), y_up_ne (Or.inl (by decide)), y_up_eq]
          have u1 : U' 0 1 = s := by rw [hU', y_up_ne (Or.inl (by decide)), y_up_ne (Or.inl (by decide)), y_up_ne (Or.inr (by decide)), y_up_ne (Or.inl (by decide))]; exact z1
          have un : ∀ (id : Nat) (i : Int), 1 ≤ id → i ≠ U 0 2 → (id ≠ 2 ∨ i ≠ l0) → U' id i = U id i := fun id i a1 a2 a3 => by rw [hU', y_up_ne (by omega), y_up_ne (Or.inr a2), y_up_ne (Or.inl (by omega)), y_up_ne (Or.inr a2)]
          have v1 : U' 1 (U 0 2) = 9 := by rw [hU', y_up_ne (Or.inl (by decide)), y_up_ne (Or.inl (by decide)), y_up_ne (Or.inl (by decide)), y_up_eq]
          have v2 : U' 2 (U 0 2) = l0 := by rw [hU', y_up_ne (Or.inr (by omega)), y_up_eq]
          have v3 : U' 2 l0 = U 0 2 := by rw [hU', y_up_eq]
          refine ⟨1, Nat.le_refl _, Or.inl ⟨σ', U', _, s, fun fu i i0 i1 => ⟨i + 1, by rw [ar_add, one, ar_wr (by omega) (by omega)]; rfl, ?_⟩, Iw, ⟨u1, by omega, by omega, z4, z5, by omega, by omega⟩, Fw, ⟨⟨m + 1, ?_⟩, ?_⟩, by rw [tw.1 15 (by decide) (by decide)]; omega⟩⟩
          · rw [lc_end I hn he fu i i1, e, q_biP y σ', if_neg (by omega), q_letE]
          · have hF1 : fl (uV U') (uc (m_up c (4376 + 9 * s0 + 8) s)) m (s0 + 1) s (l0 + 1) (U 0 2) := fl_y m (fun id i a1 a2 a3 a4 => un (id - 17) i (by omega) (by omega) (by omega)) (fun j j0 j1 => by rw [uc_e, uc_e, m_up_ne (by omega)]) hF
            have lee := fl_le _ hF1
            have c8 : uc (m_up c (4376 + 9 * s0 + 8) s) (656 + 9 * s0 + 8) = s := by rw [uc_e, (by omega : 3720 + (656 + 9 * s0 + 8) = 4376 + 9 * s0 + 8), m_up_eq]
            have c0' : uc (m_up c (4376 + 9 * s0 + 8) s) (656 + 9 * s0) = c (4376 + 9 * s0) := by rw [uc_e, m_up_ne (by omega), (by omega : 3720 + (656 + 9 * s0) = 4376 + 9 * s0)]
            rw [u2]
            refine Or.inr ⟨hs0.2, hst.y (fun id h => un (id - 17) l0 (by omega) (by omega) (by omega)) (fun j j0 j1 => by rw [uc_e, uc_e, m_up_ne (by omega)]), Or.inr ⟨by rw [c0']; exact hc, U 0 2, s, c8, v1, v2, v3, hF1, fl_rf _ _ _ _ _⟩⟩
          · exact ⟨fun id i a1 a2 q => (un id i a1 (by omega) (by omega)).trans (hp.1 id i a1 a2 q), fun i q => by rw [hU', y_up_ne (Or.inl (by decide)), y_up_ne (Or.inl (by decide)), y_up_ne (Or.inl (by decide)), y_up_ne (Or.inl (by decide))]; exact hp.2.1 i q, fun j q => by rw [m_up_ne (by omega)]; exact hp.2.2 j q⟩
        · refine ⟨1, Nat.le_refl _, Or.inr ⟨σ', fun fu i i0 i1 => ?_, o2.tab Y.1 ha _ _, Fw, by omega⟩⟩
          rw [lc_end I hn he fu i i1, e, q_biP y σ', if_pos o1]

/-- a step with all that belongs to it, 3 bodies deep at most -/
theorem rA_s3 (Y : y_S X lb) (D : rd_D X lb R T) (ha : q_kd X a = 12) (G : y_G X lb g 1) (hn : n ≤ 300) (v : Int32) (I : rd_I X R T a g n B Vg w σ τ U dp c s) (hZ : rd_Z U s dp) (hP6 : 0 ≤ c 2 ∧ c 2 ≤ 6) (hP : Vg 1 4 = c 2) (N : y_nm Vg w 0 (c 2)) (hv : v.toInt = dp) (hd : dp = 3 - 3) (ht : ¬ (τ.1 a 14).toInt = 0) (he : (F_X12_isEnd X τ a).toInt = 0) : rd_A X R T a g n B Vg w σ τ (F_X12_readStep_d3 X τ a v) U c dp (rd_Q U c s dp) := by
  obtain ⟨c1, c2, c3, c4, c5⟩ := cl_step I hZ.1
  have ra := rd_act I
  have I0 := I
  have Z0 := hZ
  obtain ⟨S, M, Kk, h0, hV⟩ := I0
  obtain ⟨z1, z2, z3, z4, z5, z6, z7⟩ := Z0
  have fs : (τ.1 a 27).toInt = s := M.2.2.2.1
  rw [rs_d_3]
  rcases ra with ⟨r1, r2⟩ | ⟨hk, ty⟩
  · obtain ⟨σ', e, t1, t2, f⟩ := tl_wrong Kk h0
    have e7 := c1 r1
    rw [e] at e7
    rw [rs_a_3 _ _ v (by omega) f.2.1]
    exact rA_0f I hn ht he e7 rfl f (rd_Fr.rd Y.1 ha D S t1 t2)
  · have hk0 := hk
    unfold rd_k at hk0
    by_cases hs : s < 30
    · have s30 : ¬ (τ.1 a 27).toInt = 30 := by omega
      have e9 : (9 : Int32).toInt = 9 := rfl
      have e43 : (4376 : Int32).toInt = 4376 := rfl
      have e8 : (8 : Int32).toInt = 8 := rfl
      have zr : ((4376 : Int32) + 9 * τ.1 a 27).toInt = 4376 + 9 * s := by rw [ar_add, ar_mul, e9, e43, fs, ar_wr (n := 9 * s) (by omega) (by omega), ar_wr (by omega) (by omega)]
      have zz8 : (((4376 : Int32) + 9 * τ.1 a 27) + 8).toInt = 4376 + 9 * s + 8 := by rw [ar_add, e8, zr, ar_wr (by omega) (by omega)]
      by_cases hb : (F_X4_actionHere X σ R).toInt = 4 ∨ (F_X4_actionHere X σ R).toInt = 8
      · have x1 : (if (F_X12_stepWord X τ a).toInt = 3 ∨ (F_X12_stepWord X τ a).toInt = 4 then (1 : Int32) else 0) = 1 := if_pos (by omega)
        obtain ⟨fu, hf, e5⟩ := rs_e_3 (X := X) (a := a) (τ := τ) (F_X12_stepWord X τ a) (if (F_X12_stepWord X τ a).toInt = 3 ∨ (F_X12_stepWord X τ a).toInt = 4 then 1 else 0) v h0 (by omega) s30 (Or.inr (by omega))
        rw [e5]
        obtain ⟨z, σ', e6, F, O⟩ := op_block Y D ha G I hP6 hP N (r := F_X4_actionHere X σ R) (rk := F_X12_stepWord X τ a) z1 rfl ⟨z2, by omega⟩ ⟨z4, hs⟩ ⟨z6, by omega⟩ ht rfl rfl hk
        have e7 := c3 (by omega) hs hb (by omega)
        rw [e6] at e7
        rcases O with ⟨o1, ⟨U', c', I', ⟨y1, y2⟩, p2, p3⟩, o3⟩ | ⟨o1, o2⟩
        · have u2 : U' 0 2 = U 0 2 + 1 := by rw [y1 0 2 (Or.inl rfl), y_up_ne (Or.inl (by decide)), y_up_ne (Or.inr (by decide)), y_up_eq]
          have u1 : U' 0 1 = s + 1 := by rw [y1 0 1 (Or.inl rfl), y_up_ne (Or.inl (by decide)), y_up_eq]
          have u6 : U' 6 dp = U 0 2 := by rw [y1 6 dp (by omega), y_up_eq]
          have un : ∀ (id : Nat) (i : Int), id = 2 ∨ id = 6 ∧ i < dp ∨ 1 ≤ id ∧ id ≠ 6 ∧ i ≠ U 0 2 → U' id i = U id i := fun id i h => by rw [y1 id i (by omega), y_up_ne (by omega), y_up_ne (Or.inl (by omega)), y_up_ne (Or.inl (by omega))]
          have cc : ∀ j : Int, j < 4376 + 9 * s → c' j = c j := fun j q => y2 j (by omega)
          have hM : ((hd_M X a (F_X12_stepWord X τ a) τ).1 a 12).toInt = 0 := I'.2.2.2.1
          rw [hM] at hf
          refine rA_tr (k1 := 1) (fun fu i i0 i1 => rA_1 I hn ht he e7 o1 fu i i0 i1) (by omega) F (rB_3 Y D ha G hn v _ _ (by rw [x1]; decide) zr hv (by omega) fu I' ⟨u1, by omega, by omega, by omega, by omega, by omega, by omega⟩ (by rw [cc 2 (by omega)]; exact hP6) (by rw [cc 2 (by omega)]; exact hP) (by rw [cc 2 (by omega)]; exact N) hf ⟨z4, by omega⟩ u6 ⟨z2, by omega⟩ ⟨0, by rw [u2]; exact ⟨rfl, rfl⟩⟩ p3 (by rw [p2]; omega) ⟨fun id i a1 a2 a3 => un id i (by omega), fun i q => un 6 i (by omega), cc⟩) (fun _ _ _ q => q)
        · have bad : 0 < ((hd_M X a (F_X12_stepWord X τ a) τ).1 a 12).toInt := o2.2.1
          rw [ls_bad_3 (τ := hd_M X a (F_X12_stepWord X τ a) τ) _ _ v (by rw [x1]; decide) fu (by omega) bad]
          exact rA_0f I hn ht he e7 o1 (o2.tab Y.1 ha _ _) (F.tr (rd_Fr.cw (R := R) (τ := hd_M X a (F_X12_stepWord X τ a) τ) (v := (hd_M X a (F_X12_stepWord X τ a) τ).1 a 27) Y.1 ha rd_F.rf zz8 (by omega)))
      · have x0 : (if (F_X12_stepWord X τ a).toInt = 3 ∨ (F_X12_stepWord X τ a).toInt = 4 then (1 : Int32) else 0).toInt = 0 := by
          rw [if_neg (by omega)]
          rfl
        obtain ⟨fu, hf, e5⟩ := rs_e_3 (X := X) (a := a) (τ := τ) (F_X12_stepWord X τ a) (if (F_X12_stepWord X τ a).toInt = 3 ∨ (F_X12_stepWord X τ a).toInt = 4 then 1 else 0) v h0 (by omega) s30 (Or.inl x0)
        rw [e5, ls_flat_3 (τ := hd_M X a (F_X12_stepWord X τ a) τ) _ _ v x0 fu (by omega)]
        obtain ⟨z, σ', e6, O⟩ := op_flat Y D ha G I hP6 hP N (r := F_X4_actionHere X σ R) (rk := F_X12_stepWord X τ a) (x64 := 0) z1 rfl ⟨z2, by omega⟩ ⟨z4, hs⟩ ht rfl rfl hk rfl
        have e7 := c5 (by omega) hs (by omega)
        rw [e6] at e7
        exact rA_flat Y.1 ha I hn hZ hs ht he (by omega) e7 zr O
    · obtain ⟨σ', e, t1, t2, f⟩ := tl_fail Kk h0 (by omega) (k := 6) (by decide) (w := τ.1 a 15) rfl
      have e7 := c2 (by omega) hs
      rw [e] at e7
      rw [rs_b_3 _ _ v h0 (by omega) (by omega) f.2.1]
      exact rA_0f I hn ht he e7 rfl f (rd_Fr.rd Y.1 ha D S t1 t2)

end RA

/-! FROM 49zb.top.lean.txt -/
/-! A ROUND BEING READ: the whole text -/
section RB
variable {X : XW} {lb : Nat → Nat} {R T a g : Nat} {n : Int} {B w : Int → Int} {Vg : Nat → Int → Int}
/-- what the reading of a whole text comes to -/
def rT_O (X : XW) (R T a g : Nat) (n : Int) (B : Int → Int) (Vg : Nat → Int → Int) (w : Int → Int) (σ τ : ST) (U : Nat → Int → Int) (c : Int → Int) (s : Int) (τ' : ST) : Prop := ∃ (k : Nat) (σ' : ST), (τ.1 a 15).toInt + (k : Int) ≤ 301 ∧
  (((∀ (fu : Nat) (i : Int32), 0 ≤ i.toInt → i.toInt ≤ (τ.1 a 15).toInt → F_X4_takes_L21_1 X R (q_rf X g 0) (fu + k) i σ = (1, σ')) ∧ (∃ (U' : Nat → Int → Int) (c' : Int → Int) (s' : Int), rd_I X R T a g n B Vg w σ' τ' U' 0 c' s' ∧ rd_Z U' s' 0 ∧ U' 0 0 = 1 ∧ (∃ m : Nat, fl (uV U') (uc c') m s s' (U 0 2) (U' 0 2)) ∧ rd_p U U' c c' (U 0 2) s 0) ∧ rd_Fr X R a σ σ' τ τ') ∨
   ((∀ (fu : Nat) (i : Int32), 0 ≤ i.toInt → i.toInt ≤ (τ.1 a 15).toInt → F_X4_takes_L21_1 X R (q_rf X g 0) (fu + k) i σ = (0, σ')) ∧ tl_F σ' R τ' a ∧ rd_Fr X R a σ σ' τ τ'))
theorem rT (Y : y_S X lb) (D : rd_D X lb R T) (ha : q_kd X a = 12) (G : y_G X lb g 1) (hn : n ≤ 300) (fu : Nat) : ∀ {σ τ : ST} {U : Nat → Int → Int} {c : Int → Int} {s : Int}, rd_I X R T a g n B Vg w σ τ U 0 c s → rd_Z U s 0 → 0 ≤ c 2 ∧ c 2 ≤ 6 → Vg 1 4 = c 2 → y_nm Vg w 0 (c 2) → ((901 - (τ.1 a 15).toInt).toNat + (1 - (0 : Int)).toNat) < fu → ∃ τ' : ST, F_X12_round_L28_1 X a fu τ = F_X12_round_J50_2 X τ' a ∧ rT_O X R T a g n B Vg w σ τ U c s τ' := by
  have z0 : (0 : Int32).toInt = 0 := rfl
  induction fu with
  | zero => intro σ τ U c s _ _ _ _ _ hf; omega
  | succ fu ih =>
    intro σ τ U c s I hZ hP6 hP N hf
    have I0 := I
    have Z0 := hZ
    obtain ⟨S, M, Kk, h0, hV⟩ := I0
    obtain ⟨z1, z2, z3, z4, z5, z6, z7⟩ := Z0
    have kb := Kk.b
    have pk0 := Kk.2.2.2.2.2.2.1
    have step : F_X12_round_L28_1 X a (fu + 1) τ = if (τ.1 a 14).toInt = 0 then F_X12_round_J50_2 X τ a else F_X12_round_L28_1 X a fu (F_X12_readStep_d3 X τ a 0) := by
      rw [F_X12_round_L28_1_s]
      unfold F_X12_round_B28_1
      rw [q_letE (τ.1 a 12), if_pos h0, q_letE (τ.1 a 14)]
      by_cases q : (τ.1 a 14).toInt = 0
      · rw [if_pos q, if_pos q]
      · rw [if_neg q, if_neg q, q_letE]
    have bad : ∀ (τ1 : ST) , 0 < (τ1.1 a 12).toInt → F_X12_round_L28_1 X a fu τ1 = F_X12_round_J50_2 X τ1 a := by
      intro τ1 h
      obtain ⟨k, rfl⟩ : ∃ k, fu = k + 1 := ⟨fu - 1, by omega⟩
      rw [F_X12_round_L28_1_s]
      unfold F_X12_round_B28_1
      rw [q_letE (τ1.1 a 12), if_neg (by omega)]
    rw [step]
    by_cases ht : (τ.1 a 14).toInt = 0
    · rw [if_pos ht]
      obtain ⟨S1, x1⟩ := S.cell D (id := 0) (by decide) 0 1
      have sc1 := rd_same (σ := σ) D (id := 0) (by decide) 0 1
      have fr := rd_Fr.cl (a := a) (τ := τ) x1
      refine ⟨τ, rfl, 1, _, by omega, Or.inl ⟨fun fu i i0 i1 => ?_, ⟨_, c, s, ⟨S1, M, Kk.same sc1 (tl_same.rf (a := a) (τ := τ)), h0, by rw [fr.1.v Y D G (by decide), hV]⟩, ?_, ?_, ⟨0, ?_⟩, ?_⟩, fr⟩⟩
      · rw [lc_fin I ht fu i]
        unfold F_X4_takes_E72_3
        rw [q_letE (q_si σ (q_rf X R 8) 0 1)]
        have e1' : q_si σ (q_rf X R 8) 0 1 = q_si σ (rdA X R 0) 0 1 := rfl
        have f10 : ((q_si σ (rdA X R 0) 0 1).1 R 10).toInt = 0 := S1.2.2
        rw [e1', q_letE ((q_si σ (rdA X R 0) 0 1).1 R 10), if_pos f10]
      · refine ⟨?_, ?_, ?_, z4, z5, z6, z7⟩
        · rw [y_up_ne (Or.inr (by decide))]; exact z1
        · rw [y_up_ne (Or.inr (by decide))]; exact z2
        · rw [y_up_ne (Or.inr (by decide))]; exact z3
      · exact y_up_eq _ _ _ _
      · rw [y_up_ne (Or.inr (by decide))]; exact ⟨rfl, rfl⟩
      · exact ⟨fun id i a1 a2 a3 => by rw [y_up_ne (Or.inl (by omega))], fun i q => by rw [y_up_ne (Or.inl (by decide))], fun j q => rfl⟩
    · rw [if_neg ht]
      by_cases he : (F_X12_isEnd X τ a).toInt = 0
      · have A := rA_s3 Y D ha G hn 0 I hZ hP6 hP N z0 (by omega) ht he
        obtain ⟨τ1, hτ⟩ : ∃ t, t = F_X12_readStep_d3 X τ a 0 := ⟨_, rfl⟩
        rw [← hτ] at A ⊢
        obtain ⟨k, hk, A⟩ := A
        rcases A with ⟨σ1, U1, c1, s1, e2, I1, Z1, F1, ⟨⟨m1, q1⟩, q2⟩, p1⟩ | ⟨σ1, e2, F2, f2, b2⟩
        · have le := fl_le _ q1
          have cc : ∀ j : Int, j < 4376 + 9 * s → c1 j = c j := q2.2.2
          obtain ⟨τ', e3, k2, σ', b3, o⟩ := ih I1 Z1 (by rw [cc 2 (by omega)]; exact hP6) (by rw [cc 2 (by omega)]; exact hP) (by rw [cc 2 (by omega)]; exact N) (by omega)
          refine ⟨τ', e3, k2 + k, σ', by rw [Int.natCast_add]; omega, ?_⟩
          rcases o with ⟨o1, ⟨U', c', s', o2, o3, o4, ⟨m, o5⟩, o6⟩, o7⟩ | ⟨o1, o2, o3⟩
          · refine Or.inl ⟨fun fu i i0 i1 => ?_, ⟨U', c', s', o2, o3, o4, ⟨m1 + m, fl_app m1 (fl_y m1 (fun id i a1 a2 a3 a4 => o6.1 (id - 17) i (by omega) (by omega) a4) (fun j j0 j1 => o6.2.2 (3720 + j) (by omega)) q1) o5⟩, q2.tr o6 (by omega) (by omega) (by omega)⟩, F1.tr o7⟩
            obtain ⟨i', hi, e⟩ := e2 (fu + k2) i i0 i1
            rw [← Nat.add_assoc, e]
            exact o1 fu i' (by omega) (by omega)
          · refine Or.inr ⟨fun fu i i0 i1 => ?_, o2, F1.tr o3⟩
            obtain ⟨i', hi, e⟩ := e2 (fu + k2) i i0 i1
            rw [← Nat.add_assoc, e]
            exact o1 fu i' (by omega) (by omega)
        · exact ⟨τ1, bad τ1 F2.2.1, k, σ1, b2, Or.inr ⟨e2, F2, f2⟩⟩
      · -- an end without a body
        have r2 : (F_X12_stepWord X τ a).toInt = -1 := by
          rw [tm_isEnd] at he
          by_cases q : (τ.1 a 14).toInt = 1 ∧ (τ.2.1 a 19).toInt = 5572
          · rw [tm_stepWord, if_neg (by omega), if_neg (by omega), if_neg (by omega), if_neg (by omega), if_neg (by omega), if_neg (by omega)]
          · rw [if_neg q] at he
            exact absurd rfl he
        obtain ⟨σ', e, t1, t2, f⟩ := tl_wrong Kk h0
        rw [rs_d_3, rs_a_3 _ _ 0 (by omega) f.2.1]
        refine ⟨_, bad _ f.2.1, 1, σ', by omega, Or.inr ⟨fun fu i i0 i1 => ?_, f, rd_Fr.rd Y.1 ha D S t1 t2⟩⟩
        rw [lc_end I hn he fu i i1]
        unfold F_X4_readEnd
        have f10 : (σ.1 R 10).toInt = 0 := S.2.2
        rw [q_letE (σ.1 R 10), if_pos f10, e, q_biP (0 : Int32) σ', q_biP (0 : Int32) σ', if_pos (by decide)]
end RB

/-! FROM 49zc.ends.lean.txt -/
/-! A ROUND READ: begin, end, what is copied -/
section RC
variable {X : XW} {lb : Nat → Nat} {R T a g : Nat} {σ τ : ST} {n : Int} {B : Int → Int}
/-- the class's script goes into the game -/
theorem rr_cp (Y : y_S X lb) (D : rd_D X lb R T) (G : y_G X lb g 1) : ∃ V' : Nat → Int → Int, y_W X lb g 1 σ (F_X8_copyFrom X σ (q_rf X g 3) (q_rf X R 8)) V' ∧ V' 3 0 = rv X R σ 0 0 ∧ V' 3 1 = rv X R σ 0 1 ∧ V' 3 2 = rv X R σ 0 2 ∧ (∀ (id : Nat) (i : Int), 18 ≤ id → id < 23 → 0 ≤ i → i < 60 → V' id i = rv X R σ (id - 17) i) ∧ ∀ (id : Nat) (i : Int), id < 3 ∨ 3 < id ∧ id < 18 ∨ 22 < id → V' id i = y_v X g σ id i := by
  have own : ∀ id, id < 7 → lb (rdA X R id) / 8192 ≠ 1 := fun id hid => by
    rw [(D.2.2.2.2 id hid).1]
    have := (rdL_o id hid).1
    omega
  have src : ∀ (ρ : ST) (V : Nat → Int → Int), y_W X lb g 1 σ ρ V → ∀ id, id < 7 → ∀ f, ρ.1 (rdA X R id) f = σ.1 (rdA X R id) f := fun ρ V w id hid f => w.1 _ (own id hid) f
  have ln : ∀ id, 1 ≤ id → id < 6 → q_ln X (rdA X R id) = 60 := fun id h0 h1 => ((D.2.2.2.2 id (by omega)).2 h0).1.trans (by rcases (by omega : id = 1 ∨ id = 2 ∨ id = 3 ∨ id = 4 ∨ id = 5) with e | e | e | e | e <;> subst e <;> rfl)
  have nb : ∀ id k, id < 7 → k < 25 → rdA X R id ≠ y_gA X g k := fun id k h0 h1 => y_gA_ne Y G h1 (own id h0)
  have rw_ : ∀ (ρ : ST) (V : Nat → Int → Int), y_W X lb g 1 σ ρ V → ∀ id, id < 7 → ∀ i : Int, 0 ≤ i → (ρ.1 (rdA X R id) i.toNat).toInt = rv X R σ id i := fun ρ V w id hid i i0 => by
    rw [src ρ V w id hid]
    unfold rv
    rw [if_pos ⟨hid, i0⟩]
  unfold F_X8_copyFrom
  have w0 : y_W X lb g 1 σ σ (y_v X g σ) := y_W.rf
  have w1 := w0.si Y G (id := 3) (by decide) 0 (σ.1 (q_rf X R 8) 0)
  rw [q_letE (σ.1 (q_rf X R 8) 0), q_letE (q_si σ (q_rf X g 3) 0 (σ.1 (q_rf X R 8) 0))]
  obtain ⟨σ1, e1⟩ : ∃ t, t = q_si σ (q_rf X g 3) 0 (σ.1 (q_rf X R 8) 0) := ⟨_, rfl⟩
  have e1' : q_si σ (y_gA X g 3) 0 (σ.1 (q_rf X R 8) 0) = σ1 := e1.symm
  rw [← e1]
  rw [e1'] at w1
  have w2 := w1.si Y G (id := 3) (by decide) 1 (σ1.1 (q_rf X R 8) 1)
  rw [q_letE (σ1.1 (q_rf X R 8) 1), q_letE (q_si σ1 (q_rf X g 3) 1 (σ1.1 (q_rf X R 8) 1))]
  obtain ⟨σ2, e2⟩ : ∃ t, t = q_si σ1 (q_rf X g 3) 1 (σ1.1 (q_rf X R 8) 1) := ⟨_, rfl⟩
  have e2' : q_si σ1 (y_gA X g 3) 1 (σ1.1 (q_rf X R 8) 1) = σ2 := e2.symm
  rw [← e2]
  rw [e2'] at w2
  have w3 := w2.si Y G (id := 3) (by decide) 2 (σ2.1 (q_rf X R 8) 2)
  rw [q_letE (σ2.1 (q_rf X R 8) 2), q_letE (q_si σ2 (q_rf X g 3) 2 (σ2.1 (q_rf X R 8) 2))]
  obtain ⟨σ3, e3⟩ : ∃ t, t = q_si σ2 (q_rf X g 3) 2 (σ2.1 (q_rf X R 8) 2) := ⟨_, rfl⟩
  have e3' : q_si σ2 (y_gA X g 3) 2 (σ2.1 (q_rf X R 8) 2) = σ3 := e3.symm
  rw [← e3]
  rw [e3'] at w3
  have c0 : (σ.1 (q_rf X R 8) 0).toInt = rv X R σ 0 0 := rw_ σ _ w0 0 (by decide) 0 (by decide)
  have c1 : (σ1.1 (q_rf X R 8) 1).toInt = rv X R σ 0 1 := rw_ σ1 _ w1 0 (by decide) 1 (by decide)
  have c2 : (σ2.1 (q_rf X R 8) 2).toInt = rv X R σ 0 2 := rw_ σ2 _ w2 0 (by decide) 2 (by decide)
  have w4 := w3.copy Y G (id := 18) (r := q_rf X (q_rf X g 3) 3) (r' := q_rf X (q_rf X R 8) 3) ⟨by decide, by decide⟩ rfl (ln 1 (by decide) (by decide)) (nb 1 18 (by decide) (by decide))
  rw [q_letE (F_X5_copyFrom X σ3 (q_rf X (q_rf X g 3) 3) (q_rf X (q_rf X R 8) 3))]
  obtain ⟨σ4, e4⟩ : ∃ t, t = F_X5_copyFrom X σ3 (q_rf X (q_rf X g 3) 3) (q_rf X (q_rf X R 8) 3) := ⟨_, rfl⟩
  rw [← e4] at w4 ⊢
  have w5 := w4.copy Y G (id := 19) (r := q_rf X (q_rf X g 3) 4) (r' := q_rf X (q_rf X R 8) 4) ⟨by decide, by decide⟩ rfl (ln 2 (by decide) (by decide)) (nb 2 19 (by decide) (by decide))
  rw [q_letE (F_X5_copyFrom X σ4 (q_rf X (q_rf X g 3) 4) (q_rf X (q_rf X R 8) 4))]
  obtain ⟨σ5, e5⟩ : ∃ t, t = F_X5_copyFrom X σ4 (q_rf X (q_rf X g 3) 4) (q_rf X (q_rf X R 8) 4) := ⟨_, rfl⟩
  rw [← e5] at w5 ⊢
  have w6 := w5.copy Y G (id := 20) (r := q_rf X (q_rf X g 3) 5) (r' := q_rf X (q_rf X R 8) 5) ⟨by decide, by decide⟩ rfl (ln 3 (by decide) (by decide)) (nb 3 20 (by decide) (by decide))
  rw [q_letE (F_X5_copyFrom X σ5 (q_rf X (q_rf X g 3) 5) (q_rf X (q_rf X R 8) 5))]
  obtain ⟨σ6, e6⟩ : ∃ t, t = F_X5_copyFrom X σ5 (q_rf X (q_rf X g 3) 5) (q_rf X (q_rf X R 8) 5) := ⟨_, rfl⟩
  rw [← e6] at w6 ⊢
  have w7 := w6.copy Y G (id := 21) (r := q_rf X (q_rf X g 3) 6) (r' := q_rf X (q_rf X R 8) 6) ⟨by decide, by decide⟩ rfl (ln 4 (by decide) (by decide)) (nb 4 21 (by decide) (by decide))
  rw [q_letE (F_X5_copyFrom X σ6 (q_rf X (q_rf X g 3) 6) (q_rf X (q_rf X R 8) 6))]
  obtain ⟨σ7, e7⟩ : ∃ t, t = F_X5_copyFrom X σ6 (q_rf X (q_rf X g 3) 6) (q_rf X (q_rf X R 8) 6) := ⟨_, rfl⟩
  rw [← e7] at w7 ⊢
  have w8 := w7.copy Y G (id := 22) (r := q_rf X (q_rf X g 3) 7) (r' := q_rf X (q_rf X R 8) 7) ⟨by decide, by decide⟩ rfl (ln 5 (by decide) (by decide)) (nb 5 22 (by decide) (by decide))
  rw [q_letE (F_X5_copyFrom X σ7 (q_rf X (q_rf X g 3) 7) (q_rf X (q_rf X R 8) 7))]
  have n60 : ∀ k, k = 18 ∨ k = 19 ∨ k = 20 ∨ k = 21 ∨ k = 22 → ((y_gn k : Nat) : Int) = 60 := fun k h => by rcases h with e | e | e | e | e <;> subst e <;> rfl
  refine ⟨_, w8, ?_, ?_, ?_, fun id i h0 h1 i0 i1 => ?_, fun id i h => ?_⟩
  · rw [y_bl_ne (by decide), y_bl_ne (by decide), y_bl_ne (by decide), y_bl_ne (by decide), y_bl_ne (by decide), y_up_ne (Or.inr (by decide)), y_up_ne (Or.inr (by decide))]
    exact (y_up_eq _ _ _ _).trans c0
  · rw [y_bl_ne (by decide), y_bl_ne (by decide), y_bl_ne (by decide), y_bl_ne (by decide), y_bl_ne (by decide), y_up_ne (Or.inr (by decide))]
    exact (y_up_eq _ _ _ _).trans c1
  · rw [y_bl_ne (by decide), y_bl_ne (by decide), y_bl_ne (by decide), y_bl_ne (by decide), y_bl_ne (by decide)]
    exact (y_up_eq _ _ _ _).trans c2
  · rcases (by omega : id = 18 ∨ id = 19 ∨ id = 20 ∨ id = 21 ∨ id = 22) with e | e | e | e | e <;> subst e
    · rw [y_bl_ne (by decide), y_bl_ne (by decide), y_bl_ne (by decide), y_bl_ne (by decide), y_bl_in i0 (by rw [n60 18 (by decide)]; exact i1)]
      exact rw_ σ3 _ w3 1 (by decide) i i0
    · rw [y_bl_ne (by decide), y_bl_ne (by decide), y_bl_ne (by decide), y_bl_in i0 (by rw [n60 19 (by decide)]; exact i1)]
      exact rw_ σ4 _ w4 2 (by decide) i i0
    · rw [y_bl_ne (by decide), y_bl_ne (by decide), y_bl_in i0 (by rw [n60 20 (by decide)]; exact i1)]
      exact rw_ σ5 _ w5 3 (by decide) i i0
    · rw [y_bl_ne (by decide), y_bl_in i0 (by rw [n60 21 (by decide)]; exact i1)]
      exact rw_ σ6 _ w6 4 (by decide) i i0
    · rw [y_bl_in i0 (by rw [n60 22 (by decide)]; exact i1)]
      exact rw_ σ7 _ w7 5 (by decide) i i0
  · rw [y_bl_ne (by omega), y_bl_ne (by omega), y_bl_ne (by omega), y_bl_ne (by omega), y_bl_ne (by omega), y_up_ne (Or.inl (by omega)), y_up_ne (Or.inl (by omega)), y_up_ne (Or.inl (by omega))]
/-- the class begins -/
theorem rr_beg (D : rd_D X lb R T) (hTl : q_ln X T = 900) {v : Int32} (hv : v.toInt = n) (hn : 0 ≤ n ∧ n ≤ 900) (hB : ∀ p : Int, 0 ≤ p → p < n → (σ.1 T p.toNat).toInt = B p ∧ -128 ≤ B p ∧ B p ≤ 127) (r3 : Nat) :
    ∃ (ρ : ST) (U : Nat → Int → Int), F_X4_takes X σ R T v r3 = F_X4_takes_L21_1 X R r3 ((2147483647 - (0 : Int32).toInt).toNat + 1) 0 (F_X3_advance X ρ R) ∧ rd_S X R T ρ n B U 0 ∧ U 0 0 = 0 ∧ U 0 1 = 0 ∧ U 0 2 = 0 ∧ (ρ.1 R 3).toInt = 0 ∧ (ρ.1 R 6).toInt = 0 ∧ (ρ.1 R 7).toInt = -1 ∧ ∀ b, b ≠ R → (∀ i, i < 7 → b ≠ rdA X R i) → ∀ f, ρ.1 b f = σ.1 b f := by
  have nR : ∀ id, id < 7 → rdA X R id ≠ R ∧ rdA X R id ≠ T := fun id h => D.nR h
  have n0 := nR 0 (by decide)
  have hTR : T ≠ R := m_ne D.2.2.1 D.1 (by decide)
  unfold F_X4_takes F_X8_clear
  rw [q_letE (q_si σ (q_rf X R 8) 0 0), q_letE (q_si (q_si σ (q_rf X R 8) 0 0) (q_rf X R 8) 1 0), q_letE (q_si (q_si (q_si σ (q_rf X R 8) 0 0) (q_rf X R 8) 1 0) (q_rf X R 8) 2 0), q_letE (q_si (q_si (q_si σ (q_rf X R 8) 0 0) (q_rf X R 8) 1 0) (q_rf X R 8) 2 0), q_letE (q_si (q_si (q_si (q_si σ (q_rf X R 8) 0 0) (q_rf X R 8) 1 0) (q_rf X R 8) 2 0) R 10 0)]
  obtain ⟨σ3, e3⟩ : ∃ t, t = q_si (q_si (q_si (q_si σ (q_rf X R 8) 0 0) (q_rf X R 8) 1 0) (q_rf X R 8) 2 0) R 10 0 := ⟨_, rfl⟩
  rw [← e3]
  have r8 : q_rf X R 8 = rdA X R 0 := rfl
  have fr : ∀ b, b ≠ R → b ≠ rdA X R 0 → ∀ f, σ3.1 b f = σ.1 b f := fun b b1 b2 f => by
    rw [e3, q_si_ne b1, r8, q_si_ne b2, q_si_ne b2, q_si_ne b2]
  obtain ⟨ρ, e, E, c3, c6, c7, t⟩ := tc_start (σ := σ3) (D := R) hTl hTR hv hn (fun p p0 p1 => by rw [fr T hTR (Ne.symm n0.2)]; exact hB p p0 p1)
  rw [e, q_letE]
  have tR : ∀ b, b ≠ R → ∀ f, ρ.1 b f = σ3.1 b f := fun b hb f => t.1 b f (fun z => hb z.1)
  have cu : ∀ i : Nat, i = 0 ∨ i = 1 ∨ i = 2 → rv X R ρ 0 (i : Int) = 0 := fun i hi => by
    rw [← rv_n (by decide) i, tR _ n0.1, e3, q_si_ne n0.1, r8]
    rcases hi with h | h | h <;> subst h
    · rw [si_f (by decide), si_f (by decide), si_eq]; rfl
    · rw [si_f (by decide), si_eq]; rfl
    · rw [si_eq]; rfl
  refine ⟨ρ, rv X R ρ, rfl, ⟨E, rfl, ?_⟩, cu 0 (by decide), cu 1 (by decide), cu 2 (by decide), c3, c6, c7, fun b b1 b2 f => ?_⟩
  · rw [t.1 R 10 (fun z => absurd z.2 (by decide)), e3, si_eq]
    rfl
  · rw [tR b b1, fr b b1 (b2 0 (by decide))]
/-- the reference's round ends with a fault -/
theorem rr_end0 (h : 0 < (τ.1 a 12).toInt) : ∃ τ' : ST, F_X12_round_J50_2 X τ a = (-1, τ') ∧ τ'.1 a 10 = τ.1 a 12 ∧ τ'.1 a 11 = τ.1 a 13 ∧ (τ'.1 a 0).toInt = 10 ∧ tkl (fun b f => b = a ∧ (f = 0 ∨ f = 10 ∨ f = 11)) (fun _ _ => False) τ τ' := by
  have e12 : (q_si τ a 10 (τ.1 a 12)).1 a 12 = τ.1 a 12 := si_f (by decide) a
  have e12' : (q_si (q_si τ a 10 (τ.1 a 12)) a 11 ((q_si τ a 10 (τ.1 a 12)).1 a 13)).1 a 12 = τ.1 a 12 := (si_f (by decide) a).trans e12
  unfold F_X12_round_J50_2 F_X12_isWell F_X12_no
  rw [q_letE (τ.1 a 12), q_letE (q_si τ a 10 (τ.1 a 12)), q_letE ((q_si τ a 10 (τ.1 a 12)).1 a 12), e12, if_neg (by omega), q_letE, q_letE, q_letE, e12', if_neg (by omega), q_letE, q_biP (0 : Int32) (q_si (q_si (q_si τ a 10 (τ.1 a 12)) a 11 ((q_si τ a 10 (τ.1 a 12)).1 a 13)) a 0 10), if_pos (by decide : (0 : Int32).toInt = 0), q_biP (0 : Int32), if_pos (by decide : (0 : Int32).toInt = 0)]
  refine ⟨_, rfl, ?_, ?_, ?_, ?_⟩
  · rw [si_f (by decide), si_f (by decide), si_eq]
  · rw [si_f (by decide), si_eq, si_f (by decide)]
  · rw [si_eq]
    rfl
  · exact ((tkl.rf.si _ ⟨rfl, Or.inr (Or.inl rfl)⟩).si _ ⟨rfl, Or.inr (Or.inr rfl)⟩).si _ ⟨rfl, Or.inl rfl⟩
/-- the steps go to their place -/
theorem rr_L82 (hT : q_T X) (ha : q_kd X a = 12) {s : Int} (hs : 0 ≤ s ∧ s ≤ 30) (fu : Nat) : ∀ (x : Int32) (τ : ST), (τ.1 a 27).toInt = s → 0 ≤ x.toInt → x.toInt ≤ 9 * s → (9 * s - x.toInt).toNat < fu → ∃ (z : Int32) (τ' : ST), F_X12_round_L82_3 X a fu x τ = (z, τ') ∧ z.toInt = s ∧ tkl (fun b _ => b = q_rf X a 20) (fun _ _ => False) τ τ' ∧ ∀ j : Int, 0 ≤ j → m_c X τ' a j = if 656 + x.toInt ≤ j ∧ j < 656 + 9 * s then m_c X τ a (j + 3720) else m_c X τ a j := by
  have na : a ≠ q_rf X a 20 := Ne.symm (m_ne (tb_k hT ha).1 ha (by decide))
  have e9 : (9 : Int32).toInt = 9 := rfl
  have one : (1 : Int32).toInt = 1 := rfl
  have e656 : (656 : Int32).toInt = 656 := rfl
  have e4376 : (4376 : Int32).toInt = 4376 := rfl
  induction fu with
  | zero => intro x τ _ _ _ h; omega
  | succ fu ih =>
    intro x τ h27 h0 h1 hf
    have e99 : ((9 : Int32) * τ.1 a 27).toInt = 9 * s := by rw [ar_mul, e9, h27, ar_wr (by omega) (by omega)]
    rw [F_X12_round_L82_3_s]
    unfold F_X12_round_B82_3
    rw [q_letE (τ.1 a 27), q_letE ((9 : Int32) * τ.1 a 27), e99]
    by_cases q : x.toInt < 9 * s
    · rw [if_pos q, q_letE ((656 : Int32) + x), q_letE ((4376 : Int32) + x), q_letE (τ.1 (q_rf X a 20) ((4376 : Int32) + x).toNatClampNeg)]
      have i1 : ((656 : Int32) + x).toInt = 656 + x.toInt := by rw [ar_add, e656, ar_wr (by omega) (by omega)]
      have i2 : ((4376 : Int32) + x).toInt = 4376 + x.toInt := by rw [ar_add, e4376, ar_wr (by omega) (by omega)]
      have i3 : (x + 1).toInt = x.toInt + 1 := by rw [ar_add, one, ar_wr (by omega) (by omega)]
      have val := m_rd (X := X) (σ := τ) (a := a) (i := (4376 : Int32) + x) (A := 4376 + x.toInt) rfl i2
      obtain ⟨f, hf7⟩ : ∃ f, f = τ.1 (q_rf X a 20) ((4376 : Int32) + x).toNatClampNeg := ⟨_, rfl⟩
      rw [← hf7] at val ⊢
      have mc := m_c_up (X := X) (a := a) (τ := τ) (656 + x.toInt) (by omega) (v := f) i1
      rw [q_letE (q_si τ (q_rf X a 20) ((656 : Int32) + x).toNatClampNeg f), q_letE (x + 1)]
      have t1 : tkl (fun b _ => b = q_rf X a 20) (fun _ _ => False) τ (q_si τ (q_rf X a 20) ((656 : Int32) + x).toNatClampNeg f) := tkl.rf.si _ rfl
      obtain ⟨τ1, e1⟩ : ∃ t, t = q_si τ (q_rf X a 20) ((656 : Int32) + x).toNatClampNeg f := ⟨_, rfl⟩
      rw [← e1] at mc t1 ⊢
      obtain ⟨z, τ', y1, y2, y3, y4⟩ := ih (x + 1) τ1 (by rw [t1.1 a 27 na]; exact h27) (by omega) (by omega) (by omega)
      refine ⟨z, τ', y1, y2, t1.tr y3, fun j j0 => ?_⟩
      rw [y4 j j0, i3, mc]
      by_cases q1 : 656 + (x.toInt + 1) ≤ j ∧ j < 656 + 9 * s
      · rw [if_pos q1, if_pos (by omega), m_up_ne (by omega)]
      · rw [if_neg q1]
        by_cases q2 : j = 656 + x.toInt
        · rw [if_pos (by omega), q2, m_up_eq, val]
          congr 1
          omega
        · rw [if_neg (by omega), m_up_ne q2]
    · rw [if_neg q]
      unfold F_X12_round_E119_4
      rw [q_letE]
      exact ⟨_, _, rfl, h27, tkl.rf, fun j j0 => by rw [if_neg (by omega)]⟩
/-- the reference's round ends well -/
theorem rr_end1 (hT : q_T X) (ha : q_kd X a = 12) (h : (τ.1 a 12).toInt = 0) {s : Int} (hs : 0 ≤ s ∧ s ≤ 30) (h27 : (τ.1 a 27).toInt = s) : ∃ (z : Int32) (τ' : ST), F_X12_round_J50_2 X τ a = (z, τ') ∧ z.toInt = s ∧ (τ'.1 a 10).toInt = 0 ∧ (τ'.1 a 11).toInt = -1 ∧ tkl (fun b f => b = q_rf X a 20 ∨ b = a ∧ (f = 10 ∨ f = 11)) (fun _ _ => False) τ τ' ∧
    m_c X τ' a 654 = 1 ∧ m_c X τ' a 655 = s ∧ ∀ j : Int, 0 ≤ j → j ≠ 654 → j ≠ 655 → m_c X τ' a j = if 656 ≤ j ∧ j < 656 + 9 * s then m_c X τ a (j + 3720) else m_c X τ a j := by
  have na : a ≠ q_rf X a 20 := Ne.symm (m_ne (tb_k hT ha).1 ha (by decide))
  have m1 : ((-1) : Int32).toInt = -1 := rfl
  have e12 : (q_si τ a 10 (τ.1 a 12)).1 a 12 = τ.1 a 12 := si_f (by decide) a
  have e12' : (q_si (q_si τ a 10 (τ.1 a 12)) a 11 (-1)).1 a 12 = τ.1 a 12 := (si_f (by decide) a).trans e12
  unfold F_X12_round_J50_2 F_X12_isWell
  rw [q_letE (τ.1 a 12), q_letE (q_si τ a 10 (τ.1 a 12)), q_letE ((q_si τ a 10 (τ.1 a 12)).1 a 12), e12, if_pos h, q_letE (q_si (q_si τ a 10 (τ.1 a 12)) a 11 (-1)), q_letE ((q_si (q_si τ a 10 (τ.1 a 12)) a 11 (-1)).1 a 12), e12', if_pos h, q_biP (1 : Int32) (q_si (q_si τ a 10 (τ.1 a 12)) a 11 (-1)), if_neg (by decide : ¬ (1 : Int32).toInt = 0)]
  have t1 : tkl (fun b f => b = q_rf X a 20 ∨ b = a ∧ (f = 10 ∨ f = 11)) (fun _ _ => False) τ (q_si (q_si τ a 10 (τ.1 a 12)) a 11 (-1)) := (tkl.rf.si _ (Or.inr ⟨rfl, Or.inl rfl⟩)).si _ (Or.inr ⟨rfl, Or.inr rfl⟩)
  have d10 : ((q_si (q_si τ a 10 (τ.1 a 12)) a 11 (-1)).1 a 10).toInt = 0 := by rw [si_f (by decide), si_eq]; exact h
  have d11 : ((q_si (q_si τ a 10 (τ.1 a 12)) a 11 (-1)).1 a 11).toInt = -1 := by rw [si_eq]; exact m1
  have mc1 : m_c X (q_si (q_si τ a 10 (τ.1 a 12)) a 11 (-1)) a = m_c X τ a := (mv_cell hT ha 11 (-1)).trans (mv_cell hT ha 10 _)
  have d27 : ((q_si (q_si τ a 10 (τ.1 a 12)) a 11 (-1)).1 a 27).toInt = s := by rw [si_f (by decide), si_f (by decide)]; exact h27
  obtain ⟨τ1, e1⟩ : ∃ t, t = q_si (q_si τ a 10 (τ.1 a 12)) a 11 (-1) := ⟨_, rfl⟩
  rw [← e1] at t1 d10 d11 mc1 d27 ⊢
  have mc2 := m_c_up (X := X) (a := a) (τ := τ1) 654 (by decide) (i := 654) (v := 1) rfl
  have t2 := t1.si (a := q_rf X a 20) (f := (654 : Int32).toNatClampNeg) (1 : Int32) (Or.inl rfl)
  rw [q_letE (q_si τ1 (q_rf X a 20) (654 : Int32).toNatClampNeg 1)]
  have f27 : (q_si τ1 (q_rf X a 20) (654 : Int32).toNatClampNeg 1).1 a 27 = τ1.1 a 27 := q_si_ne na _
  rw [q_letE ((q_si τ1 (q_rf X a 20) (654 : Int32).toNatClampNeg 1).1 a 27), f27]
  have a10 : ((q_si τ1 (q_rf X a 20) (654 : Int32).toNatClampNeg 1).1 a 10) = τ1.1 a 10 := q_si_ne na _
  have a11 : ((q_si τ1 (q_rf X a 20) (654 : Int32).toNatClampNeg 1).1 a 11) = τ1.1 a 11 := q_si_ne na _
  obtain ⟨τ2, e2⟩ : ∃ t, t = q_si τ1 (q_rf X a 20) (654 : Int32).toNatClampNeg 1 := ⟨_, rfl⟩
  rw [← e2] at mc2 t2 f27 a10 a11 ⊢
  have mc3 := m_c_up (X := X) (a := a) (τ := τ2) 655 (by decide) (i := 655) (v := τ1.1 a 27) rfl
  have t3 := t2.si (a := q_rf X a 20) (f := (655 : Int32).toNatClampNeg) (τ1.1 a 27) (Or.inl rfl)
  rw [q_letE (q_si τ2 (q_rf X a 20) (655 : Int32).toNatClampNeg (τ1.1 a 27))]
  have g27 : ((q_si τ2 (q_rf X a 20) (655 : Int32).toNatClampNeg (τ1.1 a 27)).1 a 27).toInt = s := by rw [q_si_ne na, f27]; exact d27
  have b10 : ((q_si τ2 (q_rf X a 20) (655 : Int32).toNatClampNeg (τ1.1 a 27)).1 a 10).toInt = 0 := by rw [q_si_ne na, a10]; exact d10
  have b11 : ((q_si τ2 (q_rf X a 20) (655 : Int32).toNatClampNeg (τ1.1 a 27)).1 a 11).toInt = -1 := by rw [q_si_ne na, a11]; exact d11
  obtain ⟨τ3, e3⟩ : ∃ t, t = q_si τ2 (q_rf X a 20) (655 : Int32).toNatClampNeg (τ1.1 a 27) := ⟨_, rfl⟩
  rw [← e3] at mc3 t3 g27 b10 b11 ⊢
  have z0 : (0 : Int32).toInt = 0 := rfl
  obtain ⟨z, τ', y1, y2, y3, y4⟩ := rr_L82 hT ha hs ((2147483647 - (0 : Int32).toInt).toNat + 1) 0 τ3 g27 (by decide) (by omega) (by omega)
  have o1 : (1 : Int32).toInt = 1 := rfl
  rw [mc2, mc1, o1, d27] at mc3
  rw [mc3, z0] at y4
  refine ⟨z, τ', y1, y2, ?_, ?_, t3.tr (y3.mono (fun _ _ z => Or.inl z) (fun _ _ z => z)), ?_, ?_, fun j j0 j1 j2 => ?_⟩
  · rw [y3.1 a 10 na]; exact b10
  · rw [y3.1 a 11 na]; exact b11
  · rw [y4 654 (by decide), if_neg (by omega), m_up_ne (by decide), m_up_eq]
  · rw [y4 655 (by decide), if_neg (by omega), m_up_eq]
  · rw [y4 j j0]
    by_cases q : 656 ≤ j ∧ j < 656 + 9 * s
    · rw [if_pos (by omega), if_pos q, m_up_ne (by omega), m_up_ne (by omega)]
    · rw [if_neg (by omega), if_neg q, m_up_ne j2, m_up_ne j1]
end RC

/-! FROM 49zd.round.lean.txt -/
/-! A ROUND: both answer the same, all stays the same -/
/-- what a round leaves: a refusal, a text read -/
def rr_Out (C a : Nat) (σ τ : ST) (v : Int32) (m : Int) (σ' τ' : ST) : Prop :=
  ((v.toInt < 0 ∨ m < v.toInt ∨ 300 < v.toInt) ∧ tk (fun b f => b = C ∧ f = 0) σ σ' ∧ tkl (fun b f => b = a ∧ (f = 0 ∨ f = 1)) (fun _ _ => False) τ τ') ∨
  ((0 ≤ v.toInt ∧ v.toInt ≤ m ∧ v.toInt ≤ 300) ∧ (σ'.1 C 5).toInt = 0 ∧ (τ'.1 a 8).toInt = 0 ∧ (σ'.1 C 6).toInt = (τ'.1 a 10).toInt ∧ (σ'.1 C 7).toInt = (τ'.1 a 11).toInt)
theorem rg.w3 {V V' : Nat → Int → Int} {c : Int → Int} (R : rg V c) (hV : ∀ (id : Nat) (i : Int), id < 3 ∨ 3 < id ∧ id < 18 → V' id i = V id i) : rg V' c := by
  have h0 : ∀ i, V' 0 i = V 0 i := fun i => hV 0 i (by decide)
  have h1 : ∀ i, V' 1 i = V 1 i := fun i => hV 1 i (by decide)
  have h2 : ∀ i, V' 2 i = V 2 i := fun i => hV 2 i (by decide)
  have h4 : ∀ i, V' 4 i = V 4 i := fun i => hV 4 i (by decide)
  have h7 : ∀ i, V' 7 i = V 7 i := fun i => hV 7 i (by decide)
  have h8 : ∀ i, V' 8 i = V 8 i := fun i => hV 8 i (by decide)
  have h9 : ∀ i, V' 9 i = V 9 i := fun i => hV 9 i (by decide)
  have h10 : ∀ i, V' 10 i = V 10 i := fun i => hV 10 i (by decide)
  have h11 : ∀ i, V' 11 i = V 11 i := fun i => hV 11 i (by decide)
  have h12 : ∀ i, V' 12 i = V 12 i := fun i => hV 12 i (by decide)
  have h13 : ∀ i, V' 13 i = V 13 i := fun i => hV 13 i (by decide)
  have h14 : ∀ i, V' 14 i = V 14 i := fun i => hV 14 i (by decide)
  have h15 : ∀ i, V' 15 i = V 15 i := fun i => hV 15 i (by decide)
  have h16 : ∀ i, V' 16 i = V 16 i := fun i => hV 16 i (by decide)
  have h17 : ∀ i, V' 17 i = V 17 i := fun i => hV 17 i (by decide)
  unfold rg rg_t rg_s rg_p rg_h rg_l rg_a at R ⊢
  simp only [h0, h1, h2, h4, h7, h8, h9, h10, h11, h12, h13, h14, h15, h16, h17]
  exact R
section RDD
variable {X : XW} {lb : Nat → Nat} {C a : Nat} {σ τ : ST} {n m : Int} {B : Int → Int}
theorem rr_open0 (h8 : (τ.1 a 8).toInt = m) {v : Int32} (h : v.toInt < 0 ∨ m < v.toInt ∨ 300 < v.toInt) : F_X12_round X τ a v = (-1, q_si (q_si (q_si τ a 1 0) a 0 0) a 0 5) := by
  have d8 : ((q_si (q_si τ a 1 0) a 0 0).1 a 8).toInt = m := by rw [si_f (by decide), si_f (by decide)]; exact h8
  have e300 : (300 : Int32).toInt = 300 := rfl
  unfold F_X12_round F_X12_opens F_X12_no
  rw [q_letE (q_si τ a 1 0), q_letE (q_si (q_si τ a 1 0) a 0 0)]
  obtain ⟨τ2, e2⟩ : ∃ s, s = q_si (q_si τ a 1 0) a 0 0 := ⟨_, rfl⟩
  rw [← e2] at d8 ⊢
  by_cases q1 : v.toInt < 0
  · rw [if_pos q1, q_letE (q_si τ2 a 0 5), q_biP (0 : Int32) (q_si τ2 a 0 5), q_biP (0 : Int32) (q_si τ2 a 0 5), if_pos (by decide)]
  · rw [if_neg q1, q_letE (τ2.1 a 8), d8]
    by_cases q2 : m < v.toInt
    · rw [if_pos q2, q_letE (q_si τ2 a 0 5), q_biP (0 : Int32) (q_si τ2 a 0 5), q_biP (0 : Int32) (q_si τ2 a 0 5), if_pos (by decide)]
    · rw [if_neg q2, e300, if_pos (by omega), q_letE (q_si τ2 a 0 5), q_biP (0 : Int32) (q_si τ2 a 0 5), q_biP (0 : Int32) (q_si τ2 a 0 5), if_pos (by decide)]
theorem rr_open1 (h8 : (τ.1 a 8).toInt = m) {v : Int32} (h : 0 ≤ v.toInt ∧ v.toInt ≤ m ∧ v.toInt ≤ 300) : ∃ τ3 : ST, τ3 = q_si (q_si (q_si (q_si (q_si (q_si τ a 1 0) a 0 0) a 9 v) a 8 0) a 16 0) a 12 0 ∧ F_X12_round X τ a v = F_X12_round_L28_1 X a ((901 - ((q_si (F_X12_next X τ3 a) a 27 0).1 a 15).toInt).toNat + (1 - ((q_si (F_X12_next X τ3 a) a 27 0).1 a 12).toInt).toNat + 1) (q_si (F_X12_next X τ3 a) a 27 0) := by
  refine ⟨_, rfl, ?_⟩
  have d8 : ((q_si (q_si τ a 1 0) a 0 0).1 a 8).toInt = m := by rw [si_f (by decide), si_f (by decide)]; exact h8
  have e300 : (300 : Int32).toInt = 300 := rfl
  unfold F_X12_round F_X12_opens
  rw [q_letE (q_si τ a 1 0), q_letE (q_si (q_si τ a 1 0) a 0 0)]
  obtain ⟨τ2, e2⟩ : ∃ s, s = q_si (q_si τ a 1 0) a 0 0 := ⟨_, rfl⟩
  rw [← e2] at d8 ⊢
  rw [if_neg (by omega : ¬ v.toInt < 0), q_letE (τ2.1 a 8), d8, if_neg (by omega : ¬ m < v.toInt), e300, if_neg (by omega : ¬ (300 : Int) < v.toInt), q_letE (q_si τ2 a 9 v), q_letE (q_si (q_si τ2 a 9 v) a 8 0), q_letE (q_si (q_si (q_si τ2 a 9 v) a 8 0) a 16 0), q_letE (q_si (q_si (q_si (q_si τ2 a 9 v) a 8 0) a 16 0) a 12 0)]
  obtain ⟨τ3, e3⟩ : ∃ s, s = q_si (q_si (q_si (q_si τ2 a 9 v) a 8 0) a 16 0) a 12 0 := ⟨_, rfl⟩
  rw [← e3, q_letE (F_X12_next X τ3 a), q_biP (1 : Int32) (F_X12_next X τ3 a), if_neg (by decide), q_letE (q_si (F_X12_next X τ3 a) a 27 0)]
theorem rr_cl0 (h5 : (σ.1 C 5).toInt = m) {v : Int32} (h : v.toInt < 0 ∨ m < v.toInt ∨ 300 < v.toInt) : F_X11_round X σ C v = (-1, q_si σ C 0 5) := by
  have e300 : (300 : Int32).toInt = 300 := rfl
  unfold F_X11_round
  rw [mv_none σ 5]
  by_cases q1 : v.toInt < 0
  · rw [if_pos q1, q_biP (-1 : Int32) (q_si σ C 0 5)]
  · rw [if_neg q1, q_letE (σ.1 C 5), h5]
    by_cases q2 : m < v.toInt
    · rw [if_pos q2, q_biP (-1 : Int32) (q_si σ C 0 5)]
    · rw [if_neg q2, if_pos (by omega), q_biP (-1 : Int32) (q_si σ C 0 5)]
theorem rr_cl1 (h5 : (σ.1 C 5).toInt = m) {v : Int32} (h : 0 ≤ v.toInt ∧ v.toInt ≤ m ∧ v.toInt ≤ 300) {z : Int32} {σ' : ST} (e : F_X4_takes X σ (q_rf X C 13) (q_rf X C 4) v (q_rf X (q_rf X C 8) 0) = (z, σ')) : ∃ σ9 : ST, tk (fun b f => b = C ∧ (f = 5 ∨ f = 6 ∨ f = 7)) σ' σ9 ∧ σ9.1 C 5 = 0 ∧ (C ≠ q_rf X C 13 → σ9.1 C 6 = σ'.1 (q_rf X C 13) 6 ∧ σ9.1 C 7 = σ'.1 (q_rf X C 13) 7) ∧
    (z.toInt = 0 → F_X11_round X σ C v = (-1, q_si σ9 C 0 10)) ∧ (z.toInt = 1 → F_X11_round X σ C v = ((F_X8_copyFrom X σ9 (q_rf X (q_rf X C 8) 3) (q_rf X (q_rf X C 13) 8)).1 (q_rf X (q_rf X C 8) 3) 1, q_si (F_X8_copyFrom X σ9 (q_rf X (q_rf X C 8) 3) (q_rf X (q_rf X C 13) 8)) C 0 0)) := by
  have e300 : (300 : Int32).toInt = 300 := rfl
  have t9 : tk (fun b f => b = C ∧ (f = 5 ∨ f = 6 ∨ f = 7)) σ' (q_si (q_si (q_si σ' C 5 0) C 6 ((q_si σ' C 5 0).1 (q_rf X C 13) 6)) C 7 ((q_si (q_si σ' C 5 0) C 6 ((q_si σ' C 5 0).1 (q_rf X C 13) 6)).1 (q_rf X C 13) 7)) := ((tk.rf.si _ ⟨rfl, Or.inl rfl⟩).si _ ⟨rfl, Or.inr (Or.inl rfl)⟩).si _ ⟨rfl, Or.inr (Or.inr rfl)⟩
  have g5 : (q_si (q_si (q_si σ' C 5 0) C 6 ((q_si σ' C 5 0).1 (q_rf X C 13) 6)) C 7 ((q_si (q_si σ' C 5 0) C 6 ((q_si σ' C 5 0).1 (q_rf X C 13) 6)).1 (q_rf X C 13) 7)).1 C 5 = 0 := by rw [si_f (by decide), si_f (by decide), si_eq]
  have g67 : C ≠ q_rf X C 13 → (q_si (q_si (q_si σ' C 5 0) C 6 ((q_si σ' C 5 0).1 (q_rf X C 13) 6)) C 7 ((q_si (q_si σ' C 5 0) C 6 ((q_si σ' C 5 0).1 (q_rf X C 13) 6)).1 (q_rf X C 13) 7)).1 C 6 = σ'.1 (q_rf X C 13) 6 ∧ (q_si (q_si (q_si σ' C 5 0) C 6 ((q_si σ' C 5 0).1 (q_rf X C 13) 6)) C 7 ((q_si (q_si σ' C 5 0) C 6 ((q_si σ' C 5 0).1 (q_rf X C 13) 6)).1 (q_rf X C 13) 7)).1 C 7 = σ'.1 (q_rf X C 13) 7 := fun nCD => ⟨by rw [si_f (by decide), si_eq, q_si_ne (Ne.symm nCD)], by rw [si_eq, q_si_ne (Ne.symm nCD), q_si_ne (Ne.symm nCD)]⟩
  have er : F_X11_endReading X σ' C (q_rf X C 13) = q_si (q_si (q_si σ' C 5 0) C 6 ((q_si σ' C 5 0).1 (q_rf X C 13) 6)) C 7 ((q_si (q_si σ' C 5 0) C 6 ((q_si σ' C 5 0).1 (q_rf X C 13) 6)).1 (q_rf X C 13) 7) := by
    unfold F_X11_endReading
    rw [q_letE (q_si σ' C 5 0), q_letE ((q_si σ' C 5 0).1 (q_rf X C 13) 6), q_letE (q_si (q_si σ' C 5 0) C 6 ((q_si σ' C 5 0).1 (q_rf X C 13) 6)), q_letE ((q_si (q_si σ' C 5 0) C 6 ((q_si σ' C 5 0).1 (q_rf X C 13) 6)).1 (q_rf X C 13) 7), q_letE]
  obtain ⟨σ9, e9⟩ : ∃ s, s = q_si (q_si (q_si σ' C 5 0) C 6 ((q_si σ' C 5 0).1 (q_rf X C 13) 6)) C 7 ((q_si (q_si σ' C 5 0) C 6 ((q_si σ' C 5 0).1 (q_rf X C 13) 6)).1 (q_rf X C 13) 7) := ⟨_, rfl⟩
  rw [← e9] at t9 g5 g67 er
  have main : F_X11_round X σ C v = if z.toInt = 0 then (-1, q_si σ9 C 0 10) else ((F_X8_copyFrom X σ9 (q_rf X (q_rf X C 8) 3) (q_rf X (q_rf X C 13) 8)).1 (q_rf X (q_rf X C 8) 3) 1, q_si (F_X8_copyFrom X σ9 (q_rf X (q_rf X C 8) 3) (q_rf X (q_rf X C 13) 8)) C 0 0) := by
    unfold F_X11_round
    rw [if_neg (by omega : ¬ v.toInt < 0), q_letE (σ.1 C 5), h5, if_neg (by omega : ¬ m < v.toInt), if_neg (by omega), e, q_biP z σ', er, q_letE σ9]
    by_cases q : z.toInt = 0
    · rw [if_pos q, if_pos q, mv_none, q_biP (-1 : Int32) (q_si σ9 C 0 10)]
    · rw [if_neg q, if_neg q]
      obtain ⟨σ10, e10⟩ : ∃ s, s = F_X8_copyFrom X σ9 (q_rf X (q_rf X C 8) 3) (q_rf X (q_rf X C 13) 8) := ⟨_, rfl⟩
      rw [← e10, q_letE σ10, q_letE (σ10.1 (q_rf X (q_rf X C 8) 3) 1), mv_good, q_biP (σ10.1 (q_rf X (q_rf X C 8) 3) 1) (q_si σ10 C 0 0)]
  exact ⟨σ9, t9, g5, g67, fun q => by rw [main, if_pos q], fun q => by rw [main, if_neg (by omega)]⟩
end RDD

/-! FROM 49ze.alround.lean.txt -/
/-! A ROUND: both answer the same, all stays the same: the whole -/
section RE
variable {X : XW} {lb : Nat → Nat} {C a : Nat} {σ τ : ST} {n m : Int} {B : Int → Int}
theorem al_round (K : al_C X lb C a) (h9 : q_ln X (q_rf X a 7) = 900) (A : al_R X C a σ τ) (M : m_M (m_c X τ a) (τ.1 a 24).toInt n) (h5 : (σ.1 C 5).toInt = m) (h8 : (τ.1 a 8).toInt = m) (hm : 0 ≤ m ∧ m ≤ 900) (hB : ∀ p : Int, 0 ≤ p → p < m → (σ.1 (q_rf X C 4) p.toNat).toInt = B p ∧ -128 ≤ B p ∧ B p ≤ 127) (hB2 : ∀ p : Int, 0 ≤ p → p < m → (τ.1 (q_rf X a 7) p.toNat).toInt = B p) (v : Int32) :
    ∃ (z : Int32) (σ' : ST) (z' : Int32) (τ' : ST), F_X11_round X σ C v = (z, σ') ∧ F_X12_round X τ a v = (z', τ') ∧ z.toInt = z'.toInt ∧ (σ'.1 C 0).toInt = (τ'.1 a 0).toInt ∧ rr_Out C a σ τ v m σ' τ' ∧ al_R X C a σ' τ' := by
  obtain ⟨kC, ka, S, lC, G8, G9, GM⟩ := id K
  obtain ⟨A1, A2, A3, A4⟩ := id A
  have hTl : q_ln X (q_rf X C 4) = 900 := (y_Cls S kC ka lC h9).2.2.2.2.2.1
  have D := rd_Dmk S kC lC
  have k20 := (tb_k S.1 ka).1
  have k23 := (tb_k S.1 ka).2.2.1
  have k7 := (tb_k S.1 ka).2.2.2
  have na0 : a ≠ q_rf X a 20 := Ne.symm (m_ne k20 ka (by decide))
  have nU : q_rf X a 7 ≠ a := m_ne k7 ka (by decide)
  obtain ⟨m2, s2, t2⟩ := mv_beg S.1 ka (rfl : m_c X τ a = m_c X τ a)
  by_cases hv : v.toInt < 0 ∨ m < v.toInt ∨ 300 < v.toInt
  · have t2' : tkl (fun b f => b = a ∧ (f = 0 ∨ f = 1)) (fun _ _ => False) τ (q_si (q_si τ a 1 0) a 0 0) := (tkl.rf.si _ ⟨rfl, Or.inr rfl⟩).si _ ⟨rfl, Or.inl rfl⟩
    refine ⟨_, _, _, _, rr_cl0 h5 hv, rr_open0 h8 hv, rfl, by rw [si_eq, si_eq], Or.inl ⟨hv, tk.rf.si _ ⟨rfl, rfl⟩, t2'.si _ ⟨rfl, Or.inl rfl⟩⟩, A.mv K M ?_⟩
    exact mv_mk S G8 (by omega) y_W.rf A1.1 (fun _ _ _ => rfl) (fun _ _ _ => rfl) 5 ((mv_cell S.1 ka 0 5).trans m2) (t2.si _ (Or.inr (Or.inl ⟨rfl, Or.inl rfl⟩)))
  have hv' : 0 ≤ v.toInt ∧ v.toInt ≤ m ∧ v.toInt ≤ 300 := by omega
  obtain ⟨R, hR⟩ : ∃ R, R = q_rf X C 13 := ⟨_, rfl⟩
  obtain ⟨T, hT⟩ : ∃ T, T = q_rf X C 4 := ⟨_, rfl⟩
  obtain ⟨g, hg⟩ : ∃ g, g = q_rf X C 8 := ⟨_, rfl⟩
  rw [← hR, ← hT] at D
  rw [← hT] at hTl hB
  rw [← hg] at G8
  have lR : lb R = 29 := D.2.1
  have nCR : C ≠ R := m_ne kC D.1 (by decide)
  have nCi : ∀ i, i < 7 → C ≠ rdA X R i := fun i hi e => by
    have y := (D.2.2.2.2 i hi).1
    have y2 := (rdL_o i hi).2.2.2
    rw [← e, lC] at y
    exact y2 y.symm
  -- the reference opens
  obtain ⟨τ3, e3, eref⟩ := rr_open1 h8 hv'
  have t3 : tkl (fun b f => b = a ∧ (f = 0 ∨ f = 1 ∨ f = 9 ∨ f = 8 ∨ f = 16 ∨ f = 12)) (fun _ _ => False) τ τ3 := by
    rw [e3]
    exact (((((tkl.rf.si _ ⟨rfl, by omega⟩).si _ ⟨rfl, by omega⟩).si _ ⟨rfl, by omega⟩).si _ ⟨rfl, by omega⟩).si _ ⟨rfl, by omega⟩).si _ ⟨rfl, by omega⟩
  have c0 : τ3.1 a 0 = 0 := by rw [e3, si_f (by decide), si_f (by decide), si_f (by decide), si_f (by decide), si_eq]
  have c9 : τ3.1 a 9 = v := by rw [e3, si_f (by decide), si_f (by decide), si_f (by decide), si_eq]
  have c8 : τ3.1 a 8 = 0 := by rw [e3, si_f (by decide), si_f (by decide), si_eq]
  have c16 : τ3.1 a 16 = 0 := by rw [e3, si_f (by decide), si_eq]
  have c12 : τ3.1 a 12 = 0 := by rw [e3, si_eq]
  clear e3
  have z0 : (0 : Int32).toInt = 0 := rfl
  have M0 : tm_E X τ3 a v.toInt B := ⟨by rw [c9], ⟨by omega, by omega⟩, nU, fun p p0 p1 => by
    rw [t3.1 _ _ (fun q => nU q.1)]
    exact ⟨hB2 p p0 (by omega), (hB p p0 (by omega)).2⟩⟩
  -- the class begins
  obtain ⟨ρ, U, etk, S0, u0, u1, u2, r3, r6, r7, fρ⟩ := rr_beg (σ := σ) (n := v.toInt) (B := B) D hTl rfl ⟨by omega, by omega⟩ (fun p p0 p1 => hB p p0 (by omega)) (q_rf X g 0)
  obtain ⟨x1, x2, Kk, pk⟩ := tl_adv S0.1 M0 r3 (by rw [c16]; exact z0) ⟨Int.le_refl 0, by omega⟩ r6 r7
  obtain ⟨S1, f1⟩ := S0.rd D x1.S2
  obtain ⟨σ1, hσ1⟩ : ∃ s, s = F_X3_advance X ρ R := ⟨_, rfl⟩
  obtain ⟨τ4, hτ4⟩ : ∃ s, s = F_X12_next X τ3 a := ⟨_, rfl⟩
  rw [← hσ1] at Kk S1 f1 etk
  rw [← hτ4] at Kk x2 pk eref
  have M4 := M0.k2 x2.S2
  have h12 : (τ4.1 a 12).toInt = 0 := by rw [tn_12 x2, c12]; exact z0
  have mc4 : m_c X τ4 a = m_c X τ a := by
    funext j
    exact congrArg Int32.toInt ((x2.1 _ _ (fun q => na0 q.1.symm)).trans (t3.1 _ _ (fun q => na0 q.1.symm)))
  have mw4 : m_wd X τ4 a = m_wd X τ a := by
    funext j
    exact congrArg Int64.toInt ((x2.2.1 _ _ (fun q => m_ne k23 ka (by decide) q.1)).trans (t3.2.1 _ _ (fun q => q)))
  have M5 : rd_M X a τ4 v.toInt B (m_c X τ a) (m_wd X τ a) (τ4.1 a 27).toInt := ⟨M4, mc4, mw4, rfl, by rw [x2.1 a 0 (fun q => absurd q.2.1 (by decide)), c0]; exact z0, by rw [x2.1 a 8 (fun q => absurd q.2.1 (by decide)), c8]; exact z0⟩
  obtain ⟨M6, s6⟩ := M5.ns S.1 ka 0
  rw [z0] at M6
  have frσ1 : ∀ b, b ≠ R → (∀ i, i < 7 → b ≠ rdA X R i) → ∀ f, σ1.1 b f = σ.1 b f := fun b b1 b2 f => (f1.1 b b1 b2 f).trans (fρ b b1 b2 f)
  have ownR : ∀ (o : Nat), 1 ≤ o → o ≤ 5 → ∀ b, lb b / 8192 = o → b ≠ R ∧ (∀ i, i < 7 → b ≠ rdA X R i) ∧ b ≠ C := fun o o1 o2 b hb => ⟨fun e => by rw [e, lR] at hb; omega, fun i hi e => by
    have y := (D.2.2.2.2 i hi).1
    have y2 := (rdL_o i hi).1
    rw [e, y] at hb
    omega, fun e => by rw [e, lC] at hb; omega⟩
  have gv1 : y_v X g σ1 = y_v X g σ := y_v.k S G8 (fun b hb f => frσ1 b (ownR 1 (by decide) (by decide) b hb).1 (ownR 1 (by decide) (by decide) b hb).2.1 f)
  obtain ⟨τ5, hτ5⟩ : ∃ s, s = q_si τ4 a 27 0 := ⟨_, rfl⟩
  have t5 : tkl (fun b f => b = a ∧ f = 27) (fun _ _ => False) τ4 τ5 := by rw [hτ5]; exact tkl.rf.si _ ⟨rfl, rfl⟩
  rw [← hτ5] at M6 s6 eref
  have p12 : (τ5.1 a 12).toInt = 0 := by rw [t5.1 a 12 (fun q => absurd q.2 (by decide))]; exact h12
  have I : rd_I X R T a g v.toInt B (y_v X g σ) (m_wd X τ a) σ1 τ5 U 0 (m_c X τ a) 0 := ⟨S1, M6, Kk.same (fun _ _ _ => rfl) s6, p12, gv1⟩
  have mG := M.1.1
  have hP6 : 0 ≤ m_c X τ a 2 ∧ m_c X τ a 2 ≤ 6 := mG.1.2.1
  have Z0 : rd_Z U 0 0 := ⟨u1, by omega, by omega, by decide, by decide, by decide, by decide⟩
  have A1' : rb (y_v X g σ) (m_c X τ a) (m_wd X τ a) := by rw [hg]; exact A1
  have kb := I.2.2.1.b
  have pk0 := I.2.2.1.2.2.2.2.2.2.1
  obtain ⟨τ', eT, k, σ', hk, o⟩ := rT (fu := (901 - (τ5.1 a 15).toInt).toNat + (1 - (τ5.1 a 12).toInt).toNat + 1) S D ka G8 hv'.2.2 I Z0 hP6 A1'.1.1.2.2.2.2.1 A1'.2.1 (by rw [p12]; omega)
  rw [eT] at eref
  have fuel : ((2147483647 - (0 : Int32).toInt).toNat + 1) = (2147483648 - k) + k := by rw [z0]; omega
  rw [fuel] at etk
  -- what stays
  have pre : tkl (fun b f => b = a ∧ (f = 0 ∨ f = 1 ∨ f = 8 ∨ f = 9 ∨ 12 ≤ f ∧ f ≤ 18 ∨ f = 27)) (tn_L a) τ τ5 := ((t3.mono (fun _ _ q => ⟨q.1, by have := q.2; omega⟩) (fun _ _ q => q.elim)).tr (x2.S2.mono (fun _ _ q => ⟨q.1, by have := q.2; omega⟩) (fun _ _ q => q))).tr (t5.mono (fun _ _ q => ⟨q.1, by have := q.2; omega⟩) (fun _ _ q => q.elim))
  have mc5 : m_c X τ5 a = m_c X τ a := M6.2.1
  have nz0 : (0 : Int32).toNatClampNeg = 0 := rfl
  rcases o with ⟨o1, ⟨U', c', s', I', Z', o4, ⟨q, o5⟩, o6⟩, F⟩ | ⟨o1, o2, F⟩
  · -- read
    have e1 := o1 (2147483648 - k) 0 (by decide) (by omega)
    rw [e1] at etk
    obtain ⟨σ9, t9, g5, g67, -, ecl⟩ := rr_cl1 (X := X) (C := C) (σ := σ) h5 hv' (z := 1) (σ' := σ') (by rw [← hR, ← hT, ← hg]; exact etk)
    have ecl := ecl (by decide)
    rw [← hR, ← hg] at ecl
    rw [← hR] at g67
    obtain ⟨g6, g7⟩ := g67 nCR
    obtain ⟨Si, Mi, Ki, i12, iV⟩ := I'
    obtain ⟨y1, y2, y3, y4, y5, y6, y7⟩ := Z'
    obtain ⟨zz, τ9, j1, j2, j3, j4, j5, j6, j7, j8⟩ := rr_end1 (X := X) (τ := τ') S.1 ka i12 ⟨y4, y5⟩ Mi.2.2.2.1
    rw [j1] at eref
    have f9 : ∀ b, b ≠ R → (∀ i, i < 7 → b ≠ rdA X R i) → b ≠ C → ∀ f, σ9.1 b f = σ.1 b f := fun b b1 b2 b3 f => (t9.1 b f (fun q => b3 q.1)).trans ((F.1.1 b b1 b2 f).trans (frσ1 b b1 b2 f))
    have C9 : ∀ f, f ≠ 5 → f ≠ 6 → f ≠ 7 → σ9.1 C f = σ.1 C f := fun f f5 f6 f7 => (t9.1 C f (fun q => by have := q.2; omega)).trans ((F.1.1 C nCR nCi f).trans (frσ1 C nCR nCi f))
    have rv9 : rv X R σ9 = U' := by
      rw [← Si.2.1]
      funext id i
      unfold rv
      by_cases q : id < 7 ∧ 0 ≤ i
      · rw [if_pos q, if_pos q, t9.1 _ _ (fun z => nCi id q.1 z.1.symm)]
      · rw [if_neg q, if_neg q]
    obtain ⟨V', W, v0, v1, v2, v3, v4⟩ := rr_cp (σ := σ9) S D G8
    rw [rv9] at v0 v1 v2 v3
    obtain ⟨σ10, e10⟩ : ∃ s, s = F_X8_copyFrom X σ9 (q_rf X g 3) (q_rf X R 8) := ⟨_, rfl⟩
    rw [← e10] at W ecl
    have gv9 : y_v X g σ9 = y_v X g σ := y_v.k S G8 (fun b hb f => f9 b (ownR 1 (by decide) (by decide) b hb).1 (ownR 1 (by decide) (by decide) b hb).2.1 (ownR 1 (by decide) (by decide) b hb).2.2 f)
    rw [gv9] at v4
    have hC1 : lb C / 8192 ≠ 1 := by omega
    have C10 : ∀ f, σ10.1 C f = σ9.1 C f := W.1 C hC1
    have ans : (σ10.1 (q_rf X g 3) 1).toInt = s' := by
      have z1 := y_v_rdn (X := X) (g := g) (σ := σ10) (id := 3) (by decide) 1
      rw [W.2.2] at z1
      exact z1.trans (v1.trans y1)
    have gvF : y_v X g (q_si σ10 C 0 0) = V' := by
      rw [← W.2.2]
      exact y_v.k S G8 (fun b hb f => by rw [q_si_ne (ownR 1 (by decide) (by decide) b hb).2.2])
    have a9 : ∀ f, f ≠ 10 → f ≠ 11 → τ9.1 a f = τ'.1 a f := fun f q1 q2 => j5.1 a f (fun q => by
      rcases q with q | q
      · exact na0 q
      · have := q.2
        omega)
    have mwF : m_wd X τ9 a = m_wd X τ a := by
      rw [← Mi.2.2.1]
      funext j
      exact congrArg Int64.toInt (j5.2.1 _ _ (fun q => q))
    have mci : m_c X τ' a = c' := Mi.2.1
    have mlow : ∀ j : Int, 0 ≤ j → j < 654 ∨ 930 ≤ j ∧ j < 3720 → m_c X τ9 a j = m_c X τ a j := fun j j0 j1' => by
      rw [j8 j j0 (by omega) (by omega), if_neg (by omega), F.2.2 j j0 (by omega), mc5]
    have e24 : τ9.1 a 24 = τ.1 a 24 := by
      rw [a9 24 (by decide) (by decide), F.2.1.1 a 24 (fun q => by
        rcases q with q | q
        · exact na0 q
        · have := q.2
          omega), pre.1 a 24 (fun q => by have := q.2; omega)]
    have k67 := Ki.2.2.2.2.2.2.2.2
    refine ⟨_, _, zz, τ9, ecl, eref, ans.trans j2.symm, ?_, Or.inr ⟨hv', ?_, ?_, ?_, ?_⟩, ⟨⟨?_, ?_, ?_⟩, ?_, ?_, fun b b1 b2 => ?_⟩⟩
    · rw [si_eq, a9 0 (by decide) (by decide), Mi.2.2.2.2.1]
      exact z0
    · rw [si_f (by decide), C10, g5]
      exact z0
    · rw [a9 8 (by decide) (by decide)]
      exact Mi.2.2.2.2.2
    · rw [si_f (by decide), C10, g6, j3]
      exact k67.1
    · rw [si_f (by decide), C10, g7, j4]
      exact k67.2
    · rw [← hg, gvF]
      exact (A1'.1.x mG (fun _ _ _ => rfl) (fun j a0 a1 => mlow j a0 (Or.inl a1))).w3 (fun id i h => v4 id i (by omega))
    · rw [← hg, gvF, mwF, mlow 2 (by decide) (by decide)]
      intro p p0 p1
      obtain ⟨b1, b2, b3⟩ := A1'.2.1 p p0 p1
      rw [v4 6 p (by decide)]
      refine ⟨b1, fun i i0 i1 => by rw [v4 5 _ (by decide)]; exact b2 i i0 i1, ?_⟩
      rw [b3]
      refine tx_wv_ext (fun i hi => ?_)
      show y_v X g σ 5 (8 * p + (0 + (i : Int))) = V' 5 (8 * p + (0 + (i : Int)))
      rw [v4 5 _ (by decide)]
    · rw [← hg, gvF]
      have le := fl_le _ o5
      refine ⟨by rw [v0, o4, j6], by rw [j6]; exact Or.inr rfl, by rw [v1, y1, j7], by rw [v2]; exact ⟨y2, by omega⟩, q, ?_⟩
      rw [j7, v2]
      rw [u2] at o5
      exact fl_y q (fun id i i0 i1 i2 i3 => v3 id i i0 i1 i2 (by omega)) (fun j j0' j1' => by rw [j8 j (by omega) (by omega) (by omega), if_pos ⟨by omega, by omega⟩, mci, uc_e, Int.add_comm]) o5
    · rw [si_f (by decide), C10, C9 11 (by decide) (by decide) (by decide), e24]
      exact A2
    · rw [si_f (by decide), C10, C9 11 (by decide) (by decide) (by decide)]
      exact A3
    · rw [si_f (by decide), C10, C9 11 (by decide) (by decide) (by decide)] at b2
      have GMb := GM (b - 1) (by omega)
      have gvb : y_v X (q_rf X (q_rf X C 10) (b - 1)) (q_si σ10 C 0 0) = y_v X (q_rf X (q_rf X C 10) (b - 1)) σ := y_v.k S GMb (fun x hx f => by
        have ow := ownR (3 + (b - 1)) (by omega) (by omega) x hx
        rw [q_si_ne ow.2.2, W.1 x (by omega)]
        exact f9 x ow.1 ow.2.1 ow.2.2 f)
      refine (A4 b b1 b2).x (M.2 (b : Int) (by omega) (by rw [← A2]; exact b2)).1 (fun id i _ => by rw [gvb]) (fun j a0 a1 => ?_) (fun j a0 a1 => by rw [mwF])
      exact mlow _ (by omega) (Or.inr ⟨by omega, by omega⟩)
  · -- a fault
    have e1 := o1 (2147483648 - k) 0 (by decide) (by omega)
    rw [e1] at etk
    obtain ⟨σ9, t9, g5, g67, ecl, -⟩ := rr_cl1 (X := X) (C := C) (σ := σ) h5 hv' (z := 0) (σ' := σ') (by rw [← hR, ← hT, ← hg]; exact etk)
    have ecl := ecl (by decide)
    rw [← hR] at g67
    obtain ⟨g6, g7⟩ := g67 nCR
    obtain ⟨τ9, j1, j2, j3, j4, j5⟩ := rr_end0 (X := X) (τ := τ') o2.2.1
    rw [j1] at eref
    have f9 : ∀ b, b ≠ R → (∀ i, i < 7 → b ≠ rdA X R i) → b ≠ C → ∀ f, σ9.1 b f = σ.1 b f := fun b b1 b2 b3 f => (t9.1 b f (fun q => b3 q.1)).trans ((F.1.1 b b1 b2 f).trans (frσ1 b b1 b2 f))
    have C9 : ∀ f, f ≠ 5 → f ≠ 6 → f ≠ 7 → σ9.1 C f = σ.1 C f := fun f f5 f6 f7 => (t9.1 C f (fun q => by have := q.2; omega)).trans ((F.1.1 C nCR nCi f).trans (frσ1 C nCR nCi f))
    have a9 : ∀ f, f ≠ 0 → f ≠ 10 → f ≠ 11 → τ9.1 a f = τ'.1 a f := fun f q0 q1 q2 => j5.1 a f (fun q => by have := q.2; omega)
    have aR : ∀ f, f ≠ 27 → ¬ (12 ≤ f ∧ f ≤ 18) → τ'.1 a f = τ5.1 a f := fun f q1 q2 => F.2.1.1 a f (fun q => by
      rcases q with q | q
      · exact na0 q
      · have := q.2
        omega)
    have mlow : ∀ j : Int, 0 ≤ j → j < 3720 → m_c X τ9 a j = m_c X τ a j := fun j a0 a1 => by
      have y1 : m_c X τ9 a j = m_c X τ' a j := congrArg Int32.toInt (j5.1 _ _ (fun q => na0 q.1.symm))
      rw [y1, F.2.2 j a0 a1, mc5]
    have mwF : m_wd X τ9 a = m_wd X τ a := by
      funext j
      refine congrArg Int64.toInt ((j5.2.1 _ _ (fun q => q)).trans ((F.2.1.2.1 _ _ (fun q => m_ne k23 ka (by decide) q.1)).trans (pre.2.1 _ _ (fun q => m_ne k23 ka (by decide) q.1))))
    have e24 : τ9.1 a 24 = τ.1 a 24 := by rw [a9 24 (by decide) (by decide) (by decide), aR 24 (by decide) (by decide), pre.1 a 24 (fun q => by have := q.2; omega)]
    have gvF : y_v X g (q_si σ9 C 0 10) = y_v X g σ := y_v.k S G8 (fun b hb f => by
      have ow := ownR 1 (by decide) (by decide) b hb
      rw [q_si_ne ow.2.2]
      exact f9 b ow.1 ow.2.1 ow.2.2 f)
    refine ⟨_, _, _, τ9, ecl, eref, rfl, ?_, Or.inr ⟨hv', ?_, ?_, ?_, ?_⟩, ⟨?_, ?_, ?_, fun b b1 b2 => ?_⟩⟩
    · rw [si_eq, j4]
      rfl
    · rw [si_f (by decide), g5]
      exact z0
    · rw [a9 8 (by decide) (by decide) (by decide), aR 8 (by decide) (by decide)]
      exact M6.2.2.2.2.2
    · rw [si_f (by decide), g6, j2]
      exact o2.1
    · rw [si_f (by decide), g7, j3]
      exact o2.2.2
    · rw [← hg, gvF, mwF]
      exact A1'.x mG (fun _ _ _ => rfl) (fun j a0 a1 => mlow j a0 (by omega)) (fun _ _ _ => rfl)
    · rw [si_f (by decide), C9 11 (by decide) (by decide) (by decide), e24]
      exact A2
    · rw [si_f (by decide), C9 11 (by decide) (by decide) (by decide)]
      exact A3
    · rw [si_f (by decide), C9 11 (by decide) (by decide) (by decide)] at b2
      have GMb := GM (b - 1) (by omega)
      have gvb : y_v X (q_rf X (q_rf X C 10) (b - 1)) (q_si σ9 C 0 10) = y_v X (q_rf X (q_rf X C 10) (b - 1)) σ := y_v.k S GMb (fun x hx f => by
        have ow := ownR (3 + (b - 1)) (by omega) (by omega) x hx
        rw [q_si_ne ow.2.2]
        exact f9 x ow.1 ow.2.1 ow.2.2 f)
      refine (A4 b b1 b2).x (M.2 (b : Int) (by omega) (by rw [← A2]; exact b2)).1 (fun id i _ => by rw [gvb]) (fun j a0 a1 => ?_) (fun j a0 a1 => by rw [mwF])
      exact mlow _ (by omega) (by omega)
end RE

/-! FROM 49zf.look2.lean.txt -/
/-! OBSERVERS: both answer the same -/
def ob_O (X : XW) (C a : Nat) (P Q : Int32 × ST) : Prop := P.1.toInt = Q.1.toInt ∧ (P.2.1 C 0).toInt = (Q.2.1 a 0).toInt ∧ al_R X C a P.2 Q.2
theorem ob_pe (A : Int32 × ST) : q_bi A (fun r s => (r, s)) = A := by
  obtain ⟨r, s⟩ := A
  rw [q_biP r s]
section OB
variable {X : XW} {lb : Nat → Nat} {C a : Nat} {σ τ : ST} {n : Int}
theorem al_st (K : al_C X lb C a) (A : al_R X C a σ τ) (M : m_M (m_c X τ a) (τ.1 a 24).toInt n) (k : Int32) : al_R X C a (q_si σ C 0 k) (q_si (q_si τ a 1 0) a 0 0) ∧ ∀ k' : Int32, al_R X C a (q_si σ C 0 k) (q_si (q_si (q_si τ a 1 0) a 0 0) a 0 k') := by
  obtain ⟨kC, ka, S, lC, G8, G9, GM⟩ := id K
  obtain ⟨A1, A2, A3, A4⟩ := id A
  obtain ⟨m2, s2, t2⟩ := mv_beg S.1 ka (rfl : m_c X τ a = m_c X τ a)
  refine ⟨A.mv K M (mv_mk S G8 (by omega) y_W.rf A1.1 (fun _ _ _ => rfl) (fun _ _ _ => rfl) k m2 t2), fun k' => A.mv K M ?_⟩
  exact mv_mk S G8 (by omega) y_W.rf A1.1 (fun _ _ _ => rfl) (fun _ _ _ => rfl) k ((mv_cell S.1 ka 0 k').trans m2) (t2.si _ (Or.inr (Or.inl ⟨rfl, Or.inl rfl⟩)))
theorem ob_none (K : al_C X lb C a) (A : al_R X C a σ τ) (M : m_M (m_c X τ a) (τ.1 a 24).toInt n) (k : Int32) : ob_O X C a (q_bi (F_X11_none X σ C k) (fun r s => (r, s))) (q_bi (F_X12_refuse X (q_si (q_si τ a 1 0) a 0 0) a k) (fun r s => (r, s))) := by
  rw [ob_pe, ob_pe, mv_none, mv_refuse]
  refine ⟨rfl, ?_, (al_st K A M k).2 k⟩
  show ((q_si σ C 0 k).1 C 0).toInt = ((q_si (q_si (q_si τ a 1 0) a 0 0) a 0 k).1 a 0).toInt
  rw [si_eq, si_eq]
end OB

/-! FROM 49zg.laid.lean.txt -/
/-! OBSERVERS: what was laid, what is in the game -/
section OL
variable {X : XW} {lb : Nat → Nat} {C a : Nat} {σ τ : ST} {n : Int} {c : Int → Int}
theorem gm_laidI (hc : m_c X τ a = c) {r v2 : Int32} {w k m s0 : Int} (hr : r.toInt = w) (hw : 0 ≤ w ∧ w ≤ 700) (hk : v2.toInt = k) (hs : c (w + 2) = m) (hm : 0 ≤ m ∧ m ≤ 4) (h0 : 0 ≤ s0 ∧ s0 ≤ 1000) (x2 : Int32) (B5 : Int32 → Int32 → Int32) (fu : Nat) : ∀ x y : Int32, (2147483647 - y.toInt).toNat < fu → 0 ≤ y.toInt → y.toInt ≤ m → x.toInt = s0 + m_K c w k y.toInt.toNat → ∃ x' : Int32, x'.toInt = s0 + m_K c w k m.toNat ∧ F_X12_laidOf_L45_4 X r τ a v2 x2 B5 fu x y = B5 x' (x2 + 1) := by
  have e2 : (2 : Int32).toInt = 2 := rfl
  have e3 : (3 : Int32).toInt = 3 := rfl
  have one : (1 : Int32).toInt = 1 := rfl
  have z0 : (0 : Int32).toInt = 0 := rfl
  have i2 : (r + 2).toInt = w + 2 := by rw [ar_add, hr, e2, ar_wr (by omega) (by omega)]
  have i3 : (r + 3).toInt = w + 3 := by rw [ar_add, hr, e3, ar_wr (by omega) (by omega)]
  have c2 : (τ.1 (q_rf X a 20) (r + 2).toNatClampNeg).toInt = m := (gm_cell (A := w + 2) hc i2).trans hs
  induction fu with
  | zero => intro x y h; exact absurd h (Nat.not_lt_zero _)
  | succ fu ih =>
    intro x y hf y0 y1 hx
    have bd := m_K_bd c w k y.toInt.toNat
    rw [F_X12_laidOf_L45_4_s]
    unfold F_X12_laidOf_B45_4
    rw [q_letE (r + 2), q_letE (τ.1 (q_rf X a 20) (r + 2).toNatClampNeg), c2]
    by_cases q : y.toInt < m
    · have e1 : (y + 1).toInt = y.toInt + 1 := y_inc (by omega)
      have ks := m_K_succ c w k y.toInt y0
      have ex : ∀ d : Int32, d.toInt = 0 ∨ d.toInt = 1 → (x + d).toInt = x.toInt + d.toInt := fun d hd => by rw [ar_add, ar_wr (by omega) (by omega)]
      rw [if_pos q, hk]
      by_cases qk : k < 0
      · rw [if_pos qk, q_letE (x + 1), q_letE (y + 1)]
        rw [if_pos (Or.inl qk)] at ks
        exact ih _ _ (by omega) (by omega) (by omega) (by rw [ex 1 (Or.inr rfl), one, hx, e1, ks]; omega)
      · have i4 : (r + 3 + y).toInt = w + 3 + y.toInt := by rw [ar_add, i3, ar_wr (by omega) (by omega)]
        have c4 : (τ.1 (q_rf X a 20) (r + 3 + y).toNatClampNeg).toInt = c (w + 3 + y.toInt) := gm_cell (A := w + 3 + y.toInt) hc i4
        rw [if_neg qk, q_letE (r + 3), q_letE (r + 3 + y), q_letE (τ.1 (q_rf X a 20) (r + 3 + y).toNatClampNeg), c4]
        by_cases qe : c (w + 3 + y.toInt) = k
        · rw [if_pos qe, q_letE (x + 1), q_letE (y + 1)]
          rw [if_pos (Or.inr qe)] at ks
          exact ih _ _ (by omega) (by omega) (by omega) (by rw [ex 1 (Or.inr rfl), one, hx, e1, ks]; omega)
        · rw [if_neg qe, q_letE (x + 0), q_letE (y + 1)]
          rw [if_neg (by omega)] at ks
          exact ih _ _ (by omega) (by omega) (by omega) (by rw [ex 0 (Or.inl rfl), z0, hx, e1, ks]; omega)
    · have ey : y.toInt = m := by omega
      rw [if_neg q]
      unfold F_X12_laidOf_E93_5
      rw [q_letE]
      exact ⟨x, by rw [hx, ey], rfl⟩
theorem gm_laidL (hc : m_c X τ a = c) (hG : m_G c) {v1 v2 : Int32} {p k : Int} (hp : v1.toInt = p) (hk : v2.toInt = k) (fu : Nat) : ∀ x y : Int32, (2147483647 - y.toInt).toNat < fu → 0 ≤ y.toInt → y.toInt ≤ c 9 → x.toInt = m_A c p k y.toInt.toNat → (F_X12_laidOf_L5_1 X τ a v1 v2 fu x y).toInt = m_A c p k (c 9).toNat := by
  have b9 := hG.1.2.2.2.2.2.2.1
  have z0 : (0 : Int32).toInt = 0 := rfl
  have r9 : (τ.1 (q_rf X a 20) (9 : Int32).toNatClampNeg).toInt = c 9 := gm_cell (A := 9) hc rfl
  induction fu with
  | zero => intro x y h; exact absurd h (Nat.not_lt_zero _)
  | succ fu ih =>
    intro x y hf y0 y1 hx
    rw [F_X12_laidOf_L5_1_s]
    unfold F_X12_laidOf_B5_1
    rw [q_letE (τ.1 (q_rf X a 20) (9 : Int32).toNatClampNeg), r9]
    by_cases q : y.toInt < c 9
    · have e1 : (y + 1).toInt = y.toInt + 1 := y_inc (by omega)
      have lv : (F_X12_laid X τ y).toInt = 94 + 7 * y.toInt := gm_laid rfl ⟨y0, by omega⟩
      have sz := (hG.2.2.1 y.toInt y0 q).1
      have as := m_A_succ c p k y.toInt y0
      have ab := hG.A_bd p k y.toInt.toNat (by omega)
      have l80 := hG.L80 y0 (by omega : y.toInt ≤ c 9)
      have cp : (τ.1 (q_rf X a 20) (F_X12_laid X τ y).toNatClampNeg).toInt = c (94 + 7 * y.toInt) := gm_cell (A := 94 + 7 * y.toInt) hc lv
      rw [if_pos q, q_letE (F_X12_laid X τ y), hp]
      have cnt : (if 0 ≤ p ∧ c (94 + 7 * y.toInt) ≠ p then (0 : Int) else m_K c (94 + 7 * y.toInt) k (c (94 + 7 * y.toInt + 2)).toNat) = m_K c (94 + 7 * y.toInt) k (c (94 + 7 * y.toInt + 2)).toNat → (F_X12_laidOf_J42_3 X (F_X12_laid X τ y) τ a v2 y (F_X12_laidOf_L5_1 X τ a v1 v2 fu) x).toInt = m_A c p k (c 9).toNat := by
        intro h
        obtain ⟨x', h1, h2⟩ := gm_laidI (X := X) (τ := τ) (a := a) hc (k := k) (s0 := m_A c p k y.toInt.toNat) lv ⟨by omega, by omega⟩ hk rfl ⟨by omega, by omega⟩ ⟨by omega, by omega⟩ y (F_X12_laidOf_L5_1 X τ a v1 v2 fu) ((2147483647 - (0 : Int32).toInt).toNat + 1) x 0 (by omega) (by decide) (by rw [z0]; omega) (by rw [hx, z0]; show _ = m_A c p k y.toInt.toNat + 0; omega)
        unfold F_X12_laidOf_J42_3
        rw [h2]
        exact ih _ _ (by omega) (by omega) (by omega) (by rw [h1, e1, as, h])
      by_cases qp : p < 0
      · rw [if_pos qp]
        exact cnt (if_neg (by omega))
      · rw [if_neg qp, q_letE (τ.1 (q_rf X a 20) (F_X12_laid X τ y).toNatClampNeg), cp]
        by_cases qe : c (94 + 7 * y.toInt) = p
        · rw [if_pos qe]
          exact cnt (if_neg (by omega))
        · rw [if_neg qe, q_letE (y + 1)]
          rw [if_pos ⟨by omega, qe⟩] at as
          exact ih _ _ (by omega) (by omega) (by omega) (by rw [hx, e1, as]; omega)
    · have ey : y.toInt = c 9 := by omega
      rw [if_neg q, hx, ey]
/-- what a player laid -/
theorem gm_laidOf (hc : m_c X τ a = c) (hG : m_G c) {v1 v2 : Int32} {p k : Int} (hp : v1.toInt = p) (hk : v2.toInt = k) : (F_X12_laidOf X τ a v1 v2).toInt = m_A c p k (c 9).toNat := by
  have b9 := hG.1.2.2.2.2.2.2.1
  have z0 : (0 : Int32).toInt = 0 := rfl
  unfold F_X12_laidOf
  exact gm_laidL hc hG hp hk _ 0 0 (by decide) (by decide) (by rw [z0]; omega) (by rw [z0]; rfl)
theorem gm_inL (hc : m_c X τ a = c) (hG : m_G c) {v : Int32} {k : Int} (hk : v.toInt = k) (hk10 : 0 ≤ k ∧ k < 10) {s0 : Int} (h0 : 0 ≤ s0 ∧ s0 ≤ 1000) (fu : Nat) : ∀ x y : Int32, (2147483647 - y.toInt).toNat < fu → 0 ≤ y.toInt → y.toInt ≤ c 2 → x.toInt = s0 + m_P c k y.toInt.toNat → (0 ≤ x.toInt ∧ x.toInt ≤ s0 + 80 * y.toInt) → (F_X12_inGameOf_L9_1 X τ a v fu x y).toInt = s0 + m_P c k (c 2).toNat := by
  have h2 : 0 ≤ c 2 ∧ c 2 ≤ 6 := hG.1.2.1
  have r2 : (τ.1 (q_rf X a 20) (2 : Int32).toNatClampNeg).toInt = c 2 := gm_cell (A := 2) hc rfl
  induction fu with
  | zero => intro x y h; exact absurd h (Nat.not_lt_zero _)
  | succ fu ih =>
    intro x y hf y0 y1 hx xb
    rw [F_X12_inGameOf_L9_1_s]
    unfold F_X12_inGameOf_B9_1
    rw [q_letE (τ.1 (q_rf X a 20) (2 : Int32).toNatClampNeg), r2]
    by_cases q : y.toInt < c 2
    · have e1 : (y + 1).toInt = y.toInt + 1 := y_inc (by omega)
      have hh := gm_handOf hc (x := y) (y := v) rfl hk ⟨y0, by omega⟩ hk10
      have bb := hG.h80 y0 (by omega : y.toInt < 6) hk10.1 hk10.2
      have ex : (x + F_X12_handOf X τ a y v).toInt = x.toInt + c (34 + 10 * y.toInt + k) := by rw [ar_add, hh, ar_wr (by omega) (by omega)]
      rw [if_pos q, q_letE (F_X12_handOf X τ a y v), q_letE (x + F_X12_handOf X τ a y v), q_letE (y + 1)]
      refine ih _ _ (by omega) (by omega) (by omega) ?_ ⟨by omega, by omega⟩
      rw [ex, e1, hx, m_P_succ c k y.toInt y0]
      omega
    · have ey : y.toInt = c 2 := by omega
      rw [if_neg q, hx, ey]
/-- how many of a kind are in the game -/
theorem gm_inGameOf (hc : m_c X τ a = c) (hG : m_G c) {v : Int32} {k : Int} (hk : v.toInt = k) (hk10 : 0 ≤ k ∧ k < 10) : (F_X12_inGameOf X τ a v).toInt = m_I c k := by
  have h2 : 0 ≤ c 2 ∧ c 2 ≤ 6 := hG.1.2.1
  have b9 := hG.1.2.2.2.2.2.2.1
  have z0 : (0 : Int32).toInt = 0 := rfl
  have m1 : ((-1) : Int32).toInt = -1 := rfl
  have lo := gm_laidOf (X := X) (τ := τ) (a := a) hc hG (v1 := -1) (v2 := v) m1 hk
  have ab := hG.A_bd (-1) k (c 9).toNat (by omega)
  have l80 := hG.L80 b9.1 (Int.le_refl (c 9))
  unfold F_X12_inGameOf
  rw [q_letE (F_X12_laidOf X τ a (-1) v)]
  exact gm_inL hc hG hk hk10 ⟨ab.1, by omega⟩ _ _ 0 (by decide) (by decide) (by rw [z0]; exact h2.1) (by rw [lo, z0]; show _ = m_A c (-1) k (c 9).toNat + 0; omega) ⟨by omega, by rw [lo, z0]; omega⟩
end OL

/-! FROM 49zh.many.lean.txt -/
/-! OBSERVERS: many, player -/
section OM
variable {X : XW} {lb : Nat → Nat} {C a : Nat} {σ τ : ST} {n : Int}
end OM

/-! FROM 49zi.player.lean.txt -/
/-! OBSERVERS: player -/
section OP
variable {X : XW} {lb : Nat → Nat} {C a : Nat} {σ τ : ST} {n : Int}
end OP

/-! FROM 49zj.known.lean.txt -/
/-! OBSERVERS: known, unknown of a kind -/
section OK
variable {X : XW} {lb : Nat → Nat} {C a : Nat} {σ τ : ST} {n : Int}
theorem rg.know {V : Nat → Int → Int} {c : Int → Int} {g o : Nat} {σ0 : ST} (S : y_S X lb) (G8 : y_G X lb g o) (w : y_W X lb g o σ0 σ V) (R : rg V c) (G : m_G c) (hc : m_c X τ a = c) {v1 v2 : Int32} {p k : Int} (hv1 : v1.toInt = p) (hv2 : v2.toInt = k) (hp : 0 ≤ p ∧ p < c 2) (hk : 0 ≤ k ∧ k < 10) : (F_X1_knownTo X σ (q_rf X g 1) v1 v2).toInt = c (34 + 10 * p + k) + m_A c p k (c 9).toNat ∧ (F_X12_knownOf X τ a v1 v2).toInt = c (34 + 10 * p + k) + m_A c p k (c 9).toNat ∧ (F_X0_unknownTo X σ g v1 v2).toInt = m_U c p k ∧ (F_X12_unknownOf X τ a v1 v2).toInt = m_U c p k := by
  have h2 : 0 ≤ c 2 ∧ c 2 ≤ 6 := G.1.2.1
  have b9 := G.1.2.2.2.2.2.2.1
  have e10 : (10 : Int32).toInt = 10 := rfl
  have n7 : ((y_gn 7 : Nat) : Int) = 60 := rfl
  have n8 : ((y_gn 8 : Nat) : Int) = 60 := rfl
  have n4 : ((y_gn 4 : Nat) : Int) = 10 := rfl
  have ix : (v1 * (10 : Int32) + v2).toInt = 10 * p + k := by
    rw [ar_add, ar_mul, e10, hv1, hv2, ar_wr (n := p * 10) (by omega) (by omega), ar_wr (by omega) (by omega)]
    omega
  have hb := G.h80 hp.1 (by omega : p < 6) hk.1 hk.2
  have ab := G.A_bd p k (c 9).toNat (by omega)
  have l80 := G.L80 b9.1 (Int.le_refl (c 9))
  have ib := G.I_bd hk.1 hk.2
  have ho := gm_handOf (X := X) (τ := τ) (a := a) hc hv1 hv2 ⟨hp.1, by omega⟩ hk
  have lo := gm_laidOf (X := X) (τ := τ) (a := a) hc G hv1 hv2
  have io := gm_inGameOf (X := X) (τ := τ) (a := a) hc G hv2 hk
  have kn1 : (F_X1_knownTo X σ (q_rf X g 1) v1 v2).toInt = c (34 + 10 * p + k) + m_A c p k (c 9).toNat := by
    unfold F_X1_knownTo
    rw [q_letE (v1 * (10 : Int32)), q_letE (v1 * (10 : Int32) + v2), q_letE, q_letE, q_letE, ar_add, y_getI S G8 w (id := 7) (r := q_rf X (q_rf X g 1) 0) ⟨by decide, by decide⟩ rfl ix (by omega) (by rw [n7]; omega), y_getI S G8 w (id := 8) (r := q_rf X (q_rf X g 1) 1) ⟨by decide, by decide⟩ rfl ix (by omega) (by rw [n8]; omega), R.2.2.2.1.1 _ (by omega) (by omega), R.2.2.2.2.2.1 p k hp.1 (by omega) hk.1 hk.2]
    have e : (34 : Int) + (10 * p + k) = 34 + 10 * p + k := by omega
    rw [e, ar_wr (by omega) (by omega)]
  have kn2 : (F_X12_knownOf X τ a v1 v2).toInt = c (34 + 10 * p + k) + m_A c p k (c 9).toNat := by
    unfold F_X12_knownOf
    rw [q_letE (F_X12_handOf X τ a v1 v2), q_letE (F_X12_laidOf X τ a v1 v2), q_letE, ar_add, ho, lo, ar_wr (by omega) (by omega)]
  refine ⟨kn1, kn2, ?_, ?_⟩
  · unfold F_X0_unknownTo
    rw [q_letE, q_letE (F_X1_knownTo X σ (q_rf X g 1) v1 v2), q_letE, ar_sub, kn1, y_getI S G8 w (id := 4) (r := q_rf X (q_rf X g 0) 5) ⟨by decide, by decide⟩ rfl hv2 hk.1 (by rw [n4]; omega), R.2.2.2.2.2.2 k hk.1 hk.2, ar_wr (by omega) (by omega)]
    rfl
  · unfold F_X12_unknownOf
    rw [q_letE (F_X12_inGameOf X τ a v2), q_letE (F_X12_knownOf X τ a v1 v2), q_letE, ar_sub, kn2, io, ar_wr (by omega) (by omega)]
    rfl
end OK

/-! FROM 49zk.card.lean.txt -/
/-! OBSERVERS: cardOf -/
section OC
variable {X : XW} {lb : Nat → Nat} {C a : Nat} {σ τ : ST} {n : Int}
end OC
