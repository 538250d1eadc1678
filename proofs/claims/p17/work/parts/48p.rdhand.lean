/-! A HAND READ -/
/-- the reference's hand, stretch by stretch -/
noncomputable def tm_h3 (X : XW) (a : Nat) (r_4 r_8 f_14 r_18 : Int32) (σ_19 : ST) : ST :=
  q_let ((10 : Int32) * r_4 : Int32) (fun z_20 => q_let (z_20 + r_18 : Int32) (fun z_21 => q_let (σ_19.1 a 12 : Int32) (fun f_22 => if f_22.toInt = 0 then q_let (σ_19.1 (q_rf X a 22) z_21.toNatClampNeg : Int32) (fun f_29 => if f_29.toInt = 1 then q_let (F_X12_fail X σ_19 a (5 : Int32) f_14 : ST) (fun σ_33 => q_let (σ_33.1 a 12 : Int32) (fun f_34 => if 0 < f_34.toInt then σ_33 else q_let (q_si σ_33 (q_rf X a 22) z_21.toNatClampNeg (1 : Int32) : ST) (fun σ_36 => q_let ((3754 : Int32) + z_21 : Int32) (fun z_37 => q_let (q_si σ_36 (q_rf X a 20) z_37.toNatClampNeg r_8 : ST) (fun σ_38 => σ_38))))) else q_let (F_X12_toldOf X σ_19 a r_18 : Int32) (fun r_39 => q_let (r_39 + r_8 : Int32) (fun z_41 => q_let (σ_19.1 (q_rf X a 20) (3721 : Int32).toNatClampNeg : Int32) (fun f_42 => if f_42.toInt < z_41.toInt then q_let (F_X12_fail X σ_19 a (5 : Int32) f_14 : ST) (fun σ_51 => q_let (σ_51.1 a 12 : Int32) (fun f_52 => if 0 < f_52.toInt then σ_51 else q_let (q_si σ_51 (q_rf X a 22) z_21.toNatClampNeg (1 : Int32) : ST) (fun σ_54 => q_let ((3754 : Int32) + z_21 : Int32) (fun z_55 => q_let (q_si σ_54 (q_rf X a 20) z_55.toNatClampNeg r_8 : ST) (fun σ_56 => σ_56))))) else q_let (σ_19.1 a 12 : Int32) (fun f_44 => if 0 < f_44.toInt then σ_19 else q_let (q_si σ_19 (q_rf X a 22) z_21.toNatClampNeg (1 : Int32) : ST) (fun σ_46 => q_let ((3754 : Int32) + z_21 : Int32) (fun z_47 => q_let (q_si σ_46 (q_rf X a 20) z_47.toNatClampNeg r_8 : ST) (fun σ_48 => σ_48)))))))) else q_let (σ_19.1 a 12 : Int32) (fun f_24 => if 0 < f_24.toInt then σ_19 else q_let (q_si σ_19 (q_rf X a 22) z_21.toNatClampNeg (1 : Int32) : ST) (fun σ_26 => q_let ((3754 : Int32) + z_21 : Int32) (fun z_27 => q_let (q_si σ_26 (q_rf X a 20) z_27.toNatClampNeg r_8 : ST) (fun σ_28 => σ_28)))))))
noncomputable def tm_h2 (X : XW) (a : Nat) (r_4 r_8 : Int32) (σ_9 : ST) : ST :=
  q_let (F_X12_isOf X σ_9 a : Int32) (fun r_10 => q_let (F_X12_must X σ_9 a r_10 : ST) (fun σ_13 => q_let (σ_13.1 a 15 : Int32) (fun f_14 => q_let (σ_13.1 (q_rf X a 20) (3720 : Int32).toNatClampNeg : Int32) (fun f_15 => q_let (f_15 - (1 : Int32) : Int32) (fun z_16 => q_bi (F_X12_count X σ_13 a (0 : Int32) z_16) (fun r_18 σ_19 => tm_h3 X a r_4 r_8 f_14 r_18 σ_19))))))
noncomputable def tm_h1 (X : XW) (a : Nat) (r_4 : Int32) (σ_5 : ST) : ST :=
  q_bi (F_X12_count X σ_5 a (0 : Int32) (8 : Int32)) (fun r_8 σ_9 => tm_h2 X a r_4 r_8 σ_9)
theorem tm_hE (X : XW) (τ : ST) (a : Nat) : F_X12_readHand X τ a = q_let (F_X12_next X τ a : ST) (fun σ_2 => q_bi (F_X12_readTold X σ_2 a (4 : Int32)) (fun r_4 σ_5 => tm_h1 X a r_4 σ_5)) := rfl
section TI
variable {X : XW} {lb : Nat → Nat} {D T g a : Nat} {σ τ σ' τ' σ1 τ1 : ST} {n : Int} {B : Int → Int} {V : Nat → Int → Int} {r c w t : Int → Int} {f9 f10 : Int}
theorem tm_h3a (h : 0 < (τ.1 a 12).toInt) (y r8 f14 k : Int32) : tm_h3 X a y r8 f14 k τ = τ := by
  unfold tm_h3
  rw [q_letE, q_letE, q_letE, if_neg (by omega), q_letE, if_pos h]
theorem tm_h2a (h : 0 < (τ.1 a 12).toInt) (y r8 : Int32) : tm_h2 X a y r8 τ = τ := by
  unfold tm_h2
  rw [q_letE, q_letE, tm_must2 h, q_letE, q_letE, q_letE, tm_count2 h, q_biP, tm_h3a h]
theorem tm_h1a (h : 0 < (τ.1 a 12).toInt) (y : Int32) : tm_h1 X a y τ = τ := by
  unfold tm_h1
  rw [tm_count2 h, q_biP, tm_h2a h]
/-- a fault at a token that the reference has passed already -/
theorem tl_fail3 {R : Nat} (K : tl_K σ R τ a B n) (h4 : (τ.1 a 14).toInt ≠ 4) (h : (τ'.1 a 12).toInt = 0) {k : Int32} (hk : 0 < k.toInt) {w : Int32} (hw : w.toInt = (τ.1 a 15).toInt) : ∃ σ' : ST, F_X3_fails X σ R k = (0, σ') ∧ tk (tc_S2 R) σ σ' ∧ tkl (tn_S2 a) (tn_L a) τ' (F_X12_fail X τ' a k w) ∧ tl_F σ' R (F_X12_fail X τ' a k w) a := by
  obtain ⟨k1, k2, k3, -⟩ := id K
  obtain ⟨σ', a1, a2, a3, a4⟩ := tc_fails (X := X) (σ := σ) (R := R) k
  obtain ⟨b1, b2, b3⟩ := tm_fail (X := X) h k w
  have q : ¬ (σ.1 R 4).toInt = 4 := by rw [k3]; exact h4
  rw [if_neg q] at a3
  exact ⟨σ', a1, a2, b1, by rw [a3, b2], by rw [b2]; exact hk, by rw [a4, b3, k1, hw]⟩
theorem tb_addE (H : tb_D X lb D T g) {x v : Int32} {p : Int} (hx : x.toInt = p) (hp : 0 ≤ p ∧ p < 6) : F_X5_add X σ (q_rf X D 11) x v = q_si σ (tb_T X D) x.toNatClampNeg (σ.1 (tb_T X D) x.toNatClampNeg + v) := by
  simp only [F_X5_add, ↓q_letE]
  have hl : (q_len X (q_rf X (q_rf X D 11) 0)).toInt = 6 := by
    unfold q_len
    have : q_ln X (q_rf X (q_rf X D 11) 0) = 6 := H.2.2.2.2.2.2.2.1
    rw [this]
    rfl
  rw [hl, hx, if_neg (by omega), if_pos (by omega)]
  rfl
theorem m_cell {k p : Int} (mn : m_N c) (hp : 0 ≤ p ∧ p < 6) (hk : 0 ≤ k ∧ k < 10) : 0 ≤ c (3754 + 10 * p + k) ∧ c (3754 + 10 * p + k) ≤ 8 := by
  have hs := mn.2.2.2.2.2.2.2.2.1 k hk.1 hk.2
  rw [m_sum_e] at hs
  have hc := mn.2.2.2.2.2.2.2.1
  have d0 := hc (3754 + 10 * 0 + k) (by omega) (by omega)
  have d1 := hc (3754 + 10 * 1 + k) (by omega) (by omega)
  have d2 := hc (3754 + 10 * 2 + k) (by omega) (by omega)
  have d3 := hc (3754 + 10 * 3 + k) (by omega) (by omega)
  have d4 := hc (3754 + 10 * 4 + k) (by omega) (by omega)
  have d5 := hc (3754 + 10 * 5 + k) (by omega) (by omega)
  clear hc mn
  rcases (by omega : p = 0 ∨ p = 1 ∨ p = 2 ∨ p = 3 ∨ p = 4 ∨ p = 5) with rfl | rfl | rfl | rfl | rfl | rfl <;> omega
theorem m_S_b {b : Int} : ∀ N : Nat, (∀ j : Int, b ≤ j → j < b + (N : Int) → 0 ≤ c j ∧ c j ≤ 8) → 0 ≤ m_S c b N ∧ m_S c b N ≤ 8 * (N : Int) := by
  intro N
  induction N with
  | zero => intro _; exact ⟨Int.le_refl _, Int.le_refl _⟩
  | succ N ih =>
    intro h
    have i := ih (fun j a1 a2 => h j a1 (by omega))
    have d := h (b + (N : Int)) (by omega) (by omega)
    show 0 ≤ m_S c b N + c (b + (N : Int)) ∧ m_S c b N + c (b + (N : Int)) ≤ _
    omega
theorem tb_bits_b {p : Int} (ht : ∀ i : Int, 0 ≤ i → i < 10 → t (10 * p + i) = 0 ∨ t (10 * p + i) = 1) : 0 ≤ tb_bits t p ∧ tb_bits t p ≤ 1023 := by
  have b : ∀ i : Int, 0 ≤ i → i < 10 → 0 ≤ t (10 * p + i) ∧ t (10 * p + i) ≤ 1 := fun i i0 i1 => by rcases ht i i0 i1 with h | h <;> rw [h] <;> decide
  have b0 := b 0 (by decide) (by decide)
  rw [Int.add_zero] at b0
  have b1 := b 1 (by decide) (by decide)
  have b2 := b 2 (by decide) (by decide)
  have b3 := b 3 (by decide) (by decide)
  have b4 := b 4 (by decide) (by decide)
  have b5 := b 5 (by decide) (by decide)
  have b6 := b 6 (by decide) (by decide)
  have b7 := b 7 (by decide) (by decide)
  have b8 := b 8 (by decide) (by decide)
  have b9 := b 9 (by decide) (by decide)
  clear b ht
  unfold tb_bits
  omega
/-- the class's table and hands take the cards told -/
theorem tb_deal (Y : y_S X lb) (G : y_G X lb g 6) (W : y_W X lb g 6 σ1 σ V) {z f v : Int32} {p k : Int} (hz : z.toInt = p) (hf : f.toInt = k) (hp : 0 ≤ p ∧ p < 6) (hk : 0 ≤ k ∧ k < 10) (hv : 0 ≤ v.toInt ∧ v.toInt ≤ 8) (b4 : 0 ≤ V 4 k ∧ V 4 k ≤ 100) (b7 : 0 ≤ V 7 (10 * p + k) ∧ V 7 (10 * p + k) ≤ 100) (b9 : 0 ≤ V 9 p ∧ V 9 p ≤ 100) :
    y_W X lb g 6 σ1 (F_X1_deal X (F_X5_add X σ (q_rf X (q_rf X g 0) 5) f v) (q_rf X g 1) z f v) (y_up (y_up (y_up V 4 k (V 4 k + v.toInt)) 7 (10 * p + k) (V 7 (10 * p + k) + v.toInt)) 9 p (V 9 p + v.toInt)) := by
  have e10 : (10 : Int32).toInt = 10 := rfl
  have gn4 : ((y_gn 4 : Nat) : Int) = 10 := rfl
  have gn7 : ((y_gn 7 : Nat) : Int) = 60 := rfl
  have gn9 : ((y_gn 9 : Nat) : Int) = 6 := rfl
  have W1 := W.add Y G (id := 4) (r := q_rf X (q_rf X g 0) 5) ⟨by decide, by decide⟩ rfl f v (by omega) (by rw [gn4]; omega)
  rw [hf, ar_wr (by omega) (by omega)] at W1
  obtain ⟨σ2, hσ2⟩ : ∃ s, s = F_X5_add X σ (q_rf X (q_rf X g 0) 5) f v := ⟨_, rfl⟩
  rw [← hσ2] at W1 ⊢
  have ei : (z * 10 + f).toInt = 10 * p + k := by
    rw [ar_add, ar_mul, hz, hf, e10, ar_wr (n := p * 10) (by omega) (by omega), ar_wr (by omega) (by omega)]
    omega
  have W2 := W1.add Y G (id := 7) (r := q_rf X (q_rf X g 1) 0) ⟨by decide, by decide⟩ rfl (z * 10 + f) v (by omega) (by rw [gn7]; omega)
  rw [ei, y_up_ne (Or.inl (by decide)), ar_wr (by omega) (by omega)] at W2
  unfold F_X1_deal
  rw [q_letE, q_letE, q_letE, q_letE]
  obtain ⟨σ3, hσ3⟩ : ∃ s, s = F_X5_add X σ2 (q_rf X (q_rf X g 1) 0) (z * 10 + f) v := ⟨_, rfl⟩
  rw [← hσ3] at W2 ⊢
  have W3 := W2.add Y G (id := 9) (r := q_rf X (q_rf X g 1) 2) ⟨by decide, by decide⟩ rfl z v (by omega) (by rw [gn9]; omega)
  rw [hz, y_up_ne (Or.inl (by decide)), y_up_ne (Or.inl (by decide)), ar_wr (by omega) (by omega)] at W3
  exact W3
set_option maxHeartbeats 1000000 in
theorem tb_readHand (Y : y_S X lb) (H : tb_D X lb D T g) (ha : q_kd X a = 12) (I : tb_I X D T g a n B σ τ V r c w t f9 f10) (h1 : (τ.1 a 14).toInt = 1) :
    ∃ (z : Int32) (σ' : ST), F_X9_readHand X σ D = (z, σ') ∧ tb_O X lb D T g a n B σ τ σ' (F_X12_must X (F_X12_readHand X τ a) a (F_X12_isSign X (F_X12_readHand X τ a) a 59)) z := by
  obtain ⟨S, M, K, h0, Rr⟩ := I
  have kb := K.b
  have hDn : lb D / 8192 ≠ 6 := by have := H.2.2.2.1; omega
  obtain ⟨b0, b1, b4, b20, b21, b22⟩ := Rr.b
  obtain ⟨t1, t2, t3⟩ := Rr.2.2.2.1
  have mn := Rr.2.2.2.2.1
  unfold F_X9_readHand
  rw [tm_hE, ← H.2.1, q_letE, q_letE]
  obtain ⟨c1, m1, K2, g2⟩ := tl_adv2 S.1 M.1 K
  obtain ⟨S2, f2⟩ := S.rd Y H c1.S2
  have M2 := M.rd Y.1 ha m1.S2
  have h02 : ((F_X12_next X τ a).1 a 12).toInt = 0 := by rw [tn_12 m1]; exact h0
  obtain ⟨σb, hσb⟩ : ∃ s, s = F_X3_advance X σ D := ⟨_, rfl⟩
  obtain ⟨τb, hτb⟩ : ∃ s, s = F_X12_next X τ a := ⟨_, rfl⟩
  rw [← hσb] at S2 f2 K2 ⊢
  rw [← hτb] at M2 K2 g2 h02 ⊢
  have k2b := K2.b
  have nmw : y_nm V (m_wd X τb a) (6 * 4) (c 3722) := by
    rw [M2.2.2.1]
    exact Rr.2.2.1
  obtain ⟨z, y, σc, τc, e1, e2, ⟨o1, o2, o3⟩, v1, v2⟩ := tl_passPlayer Y H.2.2.1 ((y_W.rf (lb := lb) (o := 6) (σ := σb)).eq S2.2.1) S2.1 M2.1 K2 h02 (v := 4) (bl := 4) rfl ⟨by decide, by decide⟩ (P := c 3722) (by rw [M2.2.1]; rfl) b22 b4 nmw
  obtain ⟨S3, f3⟩ := S2.rd Y H o1
  have M3 := M2.rd Y.1 ha o2
  rw [e1, q_biP z σc, e2, q_biP y τc]
  rcases o3 with ⟨q1, K3, h03, g3⟩ | ⟨q1, q2⟩
  · obtain ⟨ev, y0, yP⟩ := v1 q1
    have ezy : z = y := Int32.toInt_inj.mp ev
    rw [if_neg q1, ← ezy]
    rw [← ev] at y0 yP
    clear v1 v2
    have k3b := K3.b
    unfold tm_h1
    obtain ⟨z2, w2, σd, τd, e3, e4, ⟨o4, o5, o6⟩, v3, v4⟩ := tl_passNum S3.1 M3.1 K3 h03 0 8 (by decide)
    obtain ⟨S4, f4⟩ := S3.rd Y H o4
    have M4 := M3.rd Y.1 ha o5
    rw [e3, q_biP z2 σd, e4, q_biP w2 τd]
    rcases o6 with ⟨q3, K4, h04, g4⟩ | ⟨q3, q4⟩
    · obtain ⟨ev2, z20, z28⟩ := v3 q3
      have ez2 : z2 = w2 := Int32.toInt_inj.mp ev2
      rw [if_neg q3, ← ez2]
      have z20' : 0 ≤ z2.toInt := by rw [ev2]; exact z20
      have z28' : z2.toInt ≤ 8 := by rw [ev2]; exact z28
      clear v3 v4
      have k4b := K4.b
      unfold tm_h2
      rw [q_letE (F_X12_isOf X τd a)]
      obtain ⟨z3, σe, e5, hz3, ⟨o7, o8, o9⟩⟩ := tl_passWord S4.1 M4.1 K4 h04 (r := 12) ⟨by decide, by decide⟩ (v := F_X12_isOf X τd a) tm_isOf
      obtain ⟨S5, f5⟩ := S4.rd Y H o7
      have M5 := M4.rd Y.1 ha o8
      rw [e5, q_biP z3 σe, q_letE (F_X12_must X τd a (F_X12_isOf X τd a))]
      obtain ⟨τe, hτe⟩ : ∃ s, s = F_X12_must X τd a (F_X12_isOf X τd a) := ⟨_, rfl⟩
      rw [← hτe] at M5 o9 ⊢
      rcases o9 with ⟨q5, K5, h05, g5⟩ | ⟨q5, q6⟩
      · rw [if_neg (by omega : ¬ z3.toInt = 0)]
        have k5b := K5.b
        have pc : (σe.1 (q_rf X g 0) 0).toInt = c 3720 := by
          have zz := y_v_rdn (X := X) (g := g) (σ := σe) (id := 1) (by decide) 0
          rw [S5.2.1] at zz
          exact zz.trans b0
        have pm : (τe.1 (q_rf X a 20) (3720 : Int32).toNatClampNeg).toInt = c 3720 := by
          have zz := m_rd (X := X) (σ := τe) (a := a) (i := 3720) (A := 3720) rfl rfl
          rw [M5.2.1] at zz
          exact zz
        have epk : τe.1 (q_rf X a 20) (3720 : Int32).toNatClampNeg = σe.1 (q_rf X g 0) 0 := Int32.toInt_inj.mp (pm.trans pc.symm)
        rw [q_letE (τe.1 a 15), q_letE (τe.1 (q_rf X a 20) (3720 : Int32).toNatClampNeg), epk, q_letE (σe.1 (q_rf X g 0) 0), q_letE (σe.1 (q_rf X g 0) 0 - 1), q_letE (σe.1 (q_rf X g 0) 0 - 1)]
        have hhi : (σe.1 (q_rf X g 0) 0 - 1).toInt = c 3720 - 1 := by
          have one : (1 : Int32).toInt = 1 := rfl
          rw [ar_sub, pc, one, ar_wr (by omega) (by omega)]
        obtain ⟨hi, ehi⟩ : ∃ s, s = σe.1 (q_rf X g 0) 0 - 1 := ⟨_, rfl⟩
        rw [← ehi] at hhi ⊢
        rcases tl_mustNum S5.1 M5.1 K5 h05 0 hi with ⟨x1, x2, x3, e6, e7⟩ | ⟨σ', v, τ', e6, e7, x1, x2, x3⟩
        · rw [e6, q_biP 1 σe, e7, q_biP (τe.1 a 17) (F_X12_next X τe a), if_neg (by decide : ¬ (1 : Int32).toInt = 0)]
          have fk0 := K5.2.2.2.1 x1
          have efk : τe.1 a 17 = σe.1 D 5 := Int32.toInt_inj.mp fk0.symm
          obtain ⟨k, hk⟩ : ∃ s, s = (τe.1 a 17).toInt := ⟨_, rfl⟩
          rw [← hk] at fk0 x2 x3
          have kr : 0 ≤ k ∧ k < 10 := ⟨x2, by omega⟩
          rw [efk, q_letE (σe.1 D 5)]
          obtain ⟨f, hf⟩ : ∃ s, s = σe.1 D 5 := ⟨_, rfl⟩
          rw [← hf] at fk0 ⊢
          have pr : 0 ≤ z.toInt ∧ z.toInt < 6 := ⟨y0, by omega⟩
          have gz := tb_S.get H S5 (x := z) (p := z.toInt) rfl pr
          have tt : ∀ i : Int, 0 ≤ i → i < 10 → t (10 * z.toInt + i) = 0 ∨ t (10 * z.toInt + i) = 1 := fun i i0 i1 => (t1 (10 * z.toInt + i) (by omega) (by omega)).1
          have rb := tb_bits_b tt
          have rp := t2 z.toInt pr.1 pr.2
          have bit := tb_bit (f := f) (gz.trans rp) fk0 kr tt
          rw [q_letE (F_X5_get X σe (q_rf X D 11) z), q_letE, q_letE, bit]
          obtain ⟨c6, m6, K6, g6⟩ := tl_adv2 S5.1 M5.1 K5
          have M6 := M5.rd Y.1 ha m6.S2
          have h06 : ((F_X12_next X τe a).1 a 12).toInt = 0 := by rw [tn_12 m6]; exact h05
          obtain ⟨τf, hτf⟩ : ∃ s, s = F_X12_next X τe a := ⟨_, rfl⟩
          rw [← hτf] at M6 K6 g6 h06 m6 ⊢
          have i21 : ((10 : Int32) * z + f).toInt = 10 * z.toInt + k := by
            have e10 : (10 : Int32).toInt = 10 := rfl
            rw [ar_add, ar_mul, fk0, e10, ar_wr (n := 10 * z.toInt) (by omega) (by omega), ar_wr (by omega) (by omega)]
          have tv : (τf.1 (q_rf X a 22) ((10 : Int32) * z + f).toNatClampNeg).toInt = t (10 * z.toInt + k) := by
            rw [ar_cl, i21]
            exact M6.2.2.2.1 _ (by omega) (by omega)
          have h15 : (τe.1 a 14).toInt ≠ 4 := by omega
          have bad := tl_fail3 (X := X) (τ' := τf) K5 h15 h06 (k := 5) (by decide) (w := τe.1 a 15) rfl
          have pf : tb_P X a τ τf := tb_P.mk M M6 (fun _ _ _ => rfl) (fun _ _ _ => rfl)
          have ff := ((f2.tr f3).tr f4).tr f5
          unfold tm_h3
          rw [q_letE ((10 : Int32) * z), q_letE ((10 : Int32) * z + f), q_letE (τf.1 a 12), h06, if_pos (Eq.refl (0 : Int)), q_letE (τf.1 (q_rf X a 22) ((10 : Int32) * z + f).toNatClampNeg), tv]
          by_cases qt : t (10 * z.toInt + k) = 0
          · rw [if_pos qt, if_neg (by omega : ¬ t (10 * z.toInt + k) = 1)]
            unfold F_X9_readHand_J92_1
            rw [← H.2.1, if_pos (by decide : (0 : Int32).toInt = 0)]
            have n4 : V 4 k = m_sum c 3720 k := Rr.1.2.1 k kr.1 kr.2
            have ms := mn.2.2.2.2.2.2.2.2.1 k kr.1 kr.2
            have ms0 : 0 ≤ m_sum c 3720 k := by
              rw [m_sum_e]
              have d0 := (m_cell (p := 0) mn ⟨by decide, by decide⟩ kr).1
              have d1 := (m_cell (p := 1) mn ⟨by decide, by decide⟩ kr).1
              have d2 := (m_cell (p := 2) mn ⟨by decide, by decide⟩ kr).1
              have d3 := (m_cell (p := 3) mn ⟨by decide, by decide⟩ kr).1
              have d4 := (m_cell (p := 4) mn ⟨by decide, by decide⟩ kr).1
              have d5 := (m_cell (p := 5) mn ⟨by decide, by decide⟩ kr).1
              omega
            have gn4 : ((y_gn 4 : Nat) : Int) = 10 := rfl
            have gd : (F_X5_get X σe (q_rf X (q_rf X g 0) 5) f).toInt = m_sum c 3720 k := (y_getI Y H.2.2.1 ((y_W.rf (lb := lb) (o := 6) (σ := σe)).eq S5.2.1) (id := 4) ⟨by decide, by decide⟩ rfl fk0 kr.1 (by rw [gn4]; exact kr.2)).trans n4
            have gt := tm_toldOf (X := X) M6.2.1 mn (v := f) fk0 kr
            have sc : (F_X5_get X σe (q_rf X (q_rf X g 0) 5) f + z2).toInt = m_sum c 3720 k + z2.toInt := by rw [ar_add, gd, ar_wr (by omega) (by omega)]
            have sm : (F_X12_toldOf X τf a f + z2).toInt = m_sum c 3720 k + z2.toInt := by rw [ar_add, gt, ar_wr (by omega) (by omega)]
            have pe1 : (σe.1 (q_rf X g 0) 1).toInt = c 3721 := by
              have zz := y_v_rdn (X := X) (g := g) (σ := σe) (id := 1) (by decide) 1
              rw [S5.2.1] at zz
              exact zz.trans b1
            have pe2 : (τf.1 (q_rf X a 20) (3721 : Int32).toNatClampNeg).toInt = c 3721 := by
              have zz := m_rd (X := X) (σ := τf) (a := a) (i := 3721) (A := 3721) rfl rfl
              rw [M6.2.1] at zz
              exact zz
            rw [q_letE (F_X5_get X σe (q_rf X (q_rf X g 0) 5) f), q_letE (F_X5_get X σe (q_rf X (q_rf X g 0) 5) f + z2), q_letE (σe.1 (q_rf X g 0) 1), q_letE (F_X12_toldOf X τf a f), q_letE (F_X12_toldOf X τf a f + z2), q_letE (τf.1 (q_rf X a 20) (3721 : Int32).toNatClampNeg), sc, pe1, sm, pe2]
            by_cases qs : c 3721 < m_sum c 3720 k + z2.toInt
            · obtain ⟨σ', a1, a2, a3, a4⟩ := bad
              rw [if_pos qs, if_pos qs, a1, q_biP, q_letE (F_X12_fail X τf a 5 (τe.1 a 15)), q_letE ((F_X12_fail X τf a 5 (τe.1 a 15)).1 a 12), if_pos a4.2.1]
              exact ⟨0, σ', rfl, tb_O.bad (ff.tr (S5.rd Y H a2).2) (pf.tr (tb_P.rd Y.1 ha a3)) rfl a4 _⟩
            · clear bad
              have i37 : ((3754 : Int32) + ((10 : Int32) * z + f)).toInt = 3754 + (10 * z.toInt + k) := by
                have e3 : (3754 : Int32).toInt = 3754 := rfl
                rw [ar_add, i21, e3, ar_wr (by omega) (by omega)]
              rw [if_neg qs, if_neg qs, q_letE (τf.1 a 12), h06, if_neg (by decide : ¬ (0 : Int) < 0), q_letE (q_si τf (q_rf X a 22) ((10 : Int32) * z + f).toNatClampNeg 1), q_letE ((3754 : Int32) + ((10 : Int32) * z + f)), q_letE (q_si (q_si τf (q_rf X a 22) ((10 : Int32) * z + f).toNatClampNeg 1) (q_rf X a 20) ((3754 : Int32) + ((10 : Int32) * z + f)).toNatClampNeg z2)]
              obtain ⟨M7, sm7⟩ := M6.told Y.1 ha (i := (10 : Int32) * z + f) (v := 1) i21 ⟨by omega, by omega⟩
              have one : (1 : Int32).toInt = 1 := rfl
              rw [one] at M7
              obtain ⟨τg, hτg⟩ : ∃ s, s = q_si τf (q_rf X a 22) ((10 : Int32) * z + f).toNatClampNeg 1 := ⟨_, rfl⟩
              rw [← hτg] at M7 sm7 ⊢
              obtain ⟨M8, sm8⟩ := M7.cw Y.1 ha (i := (3754 : Int32) + ((10 : Int32) * z + f)) (v := z2) i37 (by omega)
              obtain ⟨τh, hτh⟩ : ∃ s, s = q_si τg (q_rf X a 20) ((3754 : Int32) + ((10 : Int32) * z + f)).toNatClampNeg z2 := ⟨_, rfl⟩
              rw [← hτh] at M8 sm8 ⊢
              -- the class
              have pw := tb_pw_b kr
              obtain ⟨S6, f6⟩ := S5.told Y H (x := z) (v := (1 : Int32) <<< (f &&& 31)) (p := z.toInt) rfl pr (s := r z.toInt + tb_pw k) (by rw [tb_shl fk0 kr, ar_wr (by omega) (by omega)])
              have sC6 : tl_sameC D σe (F_X5_add X σe (q_rf X D 11) z ((1 : Int32) <<< (f &&& 31))) := fun j _ _ => by
                rw [tb_addE H (p := z.toInt) rfl pr]
                exact q_si_ne (Ne.symm (tb_TD H)) j
              rw [q_letE ((1 : Int32) <<< (f &&& 31)), q_letE (F_X5_add X σe (q_rf X D 11) z ((1 : Int32) <<< (f &&& 31)))]
              obtain ⟨σg, hσg⟩ : ∃ s, s = F_X5_add X σe (q_rf X D 11) z ((1 : Int32) <<< (f &&& 31)) := ⟨_, rfl⟩
              rw [← hσg] at S6 f6 sC6 ⊢
              have n7 : V 7 (10 * z.toInt + k) = c (3754 + (10 * z.toInt + k)) := Rr.1.2.2.1 _ (by omega) (by omega)
              have c0 : c (3754 + (10 * z.toInt + k)) = 0 := (t1 _ (by omega) (by omega)).2 qt
              have n9 : V 9 z.toInt = m_S c (3754 + 10 * z.toInt) 10 := Rr.1.2.2.2.1 z.toInt pr.1 pr.2
              have ten : ((10 : Nat) : Int) = 10 := rfl
              have b9 := m_S_b (c := c) (b := 3754 + 10 * z.toInt) 10 (fun j a1 a2 => by
                rw [ten] at a2
                have := m_cell (p := z.toInt) (k := j - (3754 + 10 * z.toInt)) mn pr ⟨by omega, by omega⟩
                have ej : 3754 + 10 * z.toInt + (j - (3754 + 10 * z.toInt)) = j := by omega
                rw [ej] at this
                exact this)
              rw [ten, ← n9] at b9
              have W := tb_deal Y H.2.2.1 ((y_W.rf (lb := lb) (o := 6) (σ := σg)).eq S6.2.1) (z := z) (f := f) (v := z2) (p := z.toInt) (k := k) rfl fk0 pr kr ⟨z20', z28'⟩ ⟨by omega, by omega⟩ ⟨by omega, by omega⟩ ⟨by omega, by omega⟩
              obtain ⟨S7, f7⟩ := S6.gm Y H W
              rw [q_letE (F_X5_add X σg (q_rf X (q_rf X g 0) 5) f z2), q_letE (F_X1_deal X (F_X5_add X σg (q_rf X (q_rf X g 0) 5) f z2) (q_rf X g 1) z f z2)]
              have sC7 := tl_sameC.W W hDn
              obtain ⟨σh, hσh⟩ : ∃ s, s = F_X1_deal X (F_X5_add X σg (q_rf X (q_rf X g 0) 5) f z2) (q_rf X g 1) z f z2 := ⟨_, rfl⟩
              rw [← hσh] at S7 f7 sC7 ⊢
              have K7 : tl_K σh D τe a B n := (K5.same sC6 tl_same.rf).same sC7 tl_same.rf
              obtain ⟨c9, m9, K9, g9⟩ := tl_adv2 S7.1 M5.1 K7
              rw [← hτf] at K9 m9 g9
              obtain ⟨S9, f9'⟩ := S7.rd Y H c9.S2
              rw [q_letE (F_X3_advance X σh D)]
              obtain ⟨σi, hσi⟩ : ∃ s, s = F_X3_advance X σh D := ⟨_, rfl⟩
              rw [← hσi] at S9 f9' K9 ⊢
              have K10 : tl_K σi D τh a B n := (K9.same tl_sameC.rf sm7).same tl_sameC.rf sm8
              have h010 : (τh.1 a 12).toInt = 0 := by rw [sm8.1 12 (by decide) (by decide), sm7.1 12 (by decide) (by decide)]; exact h06
              have R10 := Rr.hand (p := z.toInt) (k := k) (v := z2.toInt) (s := r z.toInt + tb_pw k) ⟨pr.1, yP⟩ ⟨kr.1, by omega⟩ z20' qt (by omega) rfl
              have pP : tb_P X a τ τh := tb_P.mk M M8 (fun j a1 a2 => m_up_ne (by omega)) (fun _ _ _ => rfl)
              have e15 : τh.1 a 15 = τf.1 a 15 := (sm8.1 15 (by decide) (by decide)).trans (sm7.1 15 (by decide) (by decide))
              have k10b := K10.b
              have k6b := K6.b
              obtain ⟨z', σ2, e9, o⟩ := tb_semi Y H ha (σ := σ) (τ := τ) ⟨S9, M8, K10, h010, R10⟩ (((ff.tr f6).tr f7).tr f9') pP (by rw [e15]; omega) (by rw [e15] at k10b; omega)
              rw [e9, q_biP z' σ2]
              exact ⟨z', σ2, rfl, o⟩
          · have qt1 : t (10 * z.toInt + k) = 1 := (tt k kr.1 kr.2).resolve_left qt
            obtain ⟨σ', a1, a2, a3, a4⟩ := bad
            rw [if_neg qt, if_pos qt1]
            unfold F_X9_readHand_J92_1
            rw [if_neg (by decide : ¬ (1 : Int32).toInt = 0), a1, q_biP, q_letE (F_X12_fail X τf a 5 (τe.1 a 15)), q_letE ((F_X12_fail X τf a 5 (τe.1 a 15)).1 a 12), if_pos a4.2.1]
            exact ⟨0, σ', rfl, tb_O.bad (ff.tr (S5.rd Y H a2).2) (pf.tr (tb_P.rd Y.1 ha a3)) rfl a4 _⟩
        · rw [e6, q_biP 0 σ', e7, q_biP 0 τ', if_pos (by decide : (0 : Int32).toInt = 0), tm_h3a x3.2.1]
          exact ⟨0, σ', rfl, tb_O.bad ((((f2.tr f3).tr f4).tr f5).tr (S5.rd Y H x1).2) ((tb_P.mk M M5 (fun _ _ _ => rfl) (fun _ _ _ => rfl)).tr (tb_P.rd Y.1 ha x2)) rfl x3 _⟩
      · have hz30 : z3.toInt = 0 := by
          rcases hz3 with h | h
          · exact h
          · exact absurd h q5
        rw [if_pos hz30, q_letE, q_letE, q_letE, tm_count2 q6.2.1, q_biP, tm_h3a q6.2.1]
        exact ⟨0, σe, rfl, tb_O.bad (((f2.tr f3).tr f4).tr f5) (tb_P.mk M M5 (fun _ _ _ => rfl) (fun _ _ _ => rfl)) rfl q6 _⟩
    · have qz : z2.toInt = -1 := Classical.not_not.mp q3
      rw [if_pos qz, tm_h2a q4.2.1]
      exact ⟨0, σd, rfl, tb_O.bad ((f2.tr f3).tr f4) (tb_P.mk M M4 (fun _ _ _ => rfl) (fun _ _ _ => rfl)) rfl q4 _⟩
  · have qz : z.toInt = -1 := Classical.not_not.mp q1
    rw [if_pos qz, tm_h1a q2.2.1]
    exact ⟨0, σc, rfl, tb_O.bad (f2.tr f3) (tb_P.mk M M3 (fun _ _ _ => rfl) (fun _ _ _ => rfl)) rfl q2 _⟩
end TI
