/-! A PART READ, ALL PARTS, THE HEAD -/
noncomputable def tm_part (X : XW) (τ : ST) (a : Nat) : ST :=
  if (F_X12_isLaw X τ a).toInt = 0 then if (F_X12_isMost X τ a).toInt = 0 then if (F_X12_isPlayer X τ a).toInt = 0 then if (F_X12_isHand X τ a).toInt = 0 then F_X12_wrong X τ a else F_X12_readHand X τ a else F_X12_readPlayer X τ a else F_X12_readMost X τ a else F_X12_readLaw X τ a
theorem tm_E232 (X : XW) (τ : ST) (a : Nat) : F_X12_table_E232_7 X τ a = F_X12_table_E232_6 X τ a := rfl
section TJ
variable {X : XW} {lb : Nat → Nat} {D T g a : Nat} {σ τ σ' τ' σ1 τ1 : ST} {n : Int} {B : Int → Int} {V : Nat → Int → Int} {r c w t : Int → Int} {f9 f10 : Int}
theorem tm_B145 (Bf : ST → Int32 × ST) : F_X12_table_B145_5 X a Bf τ = if (τ.1 a 12).toInt = 0 then (if (τ.1 a 14).toInt = 0 then F_X12_table_E232_6 X τ a else Bf (F_X12_must X (tm_part X τ a) a (F_X12_isSign X (tm_part X τ a) a 59))) else F_X12_table_E232_6 X τ a := by
  unfold F_X12_table_B145_5
  rw [q_letE]
  by_cases h : (τ.1 a 12).toInt = 0
  · rw [if_pos h, if_pos h, q_letE]
    by_cases h2 : (τ.1 a 14).toInt = 0
    · rw [if_pos h2, if_pos h2, tm_E232]
    · rw [if_neg h2, if_neg h2, q_letE]
      unfold tm_part
      by_cases h3 : (F_X12_isLaw X τ a).toInt = 0
      · rw [if_pos h3, if_pos h3, q_letE]
        by_cases h4 : (F_X12_isMost X τ a).toInt = 0
        · rw [if_pos h4, if_pos h4, q_letE]
          by_cases h5 : (F_X12_isPlayer X τ a).toInt = 0
          · rw [if_pos h5, if_pos h5, q_letE]
            by_cases h6 : (F_X12_isHand X τ a).toInt = 0
            · rw [if_pos h6, if_pos h6, q_letE, q_letE, q_letE]
            · rw [if_neg h6, if_neg h6, q_letE, q_letE, q_letE]
          · rw [if_neg h5, if_neg h5, q_letE, q_letE, q_letE]
        · rw [if_neg h4, if_neg h4, q_letE, q_letE, q_letE]
      · rw [if_neg h3, if_neg h3, q_letE, q_letE, q_letE]
  · rw [if_neg h, if_neg h]
theorem tb_readPart (Y : y_S X lb) (H : tb_D X lb D T g) (ha : q_kd X a = 12) (I : tb_I X D T g a n B σ τ V r c w t f9 f10) :
    ∃ (z : Int32) (σ' : ST), F_X9_readPart X σ D = (z, σ') ∧ tb_O X lb D T g a n B σ τ σ' (F_X12_must X (tm_part X τ a) a (F_X12_isSign X (tm_part X τ a) a 59)) z := by
  obtain ⟨S, M, K, h0, Rr⟩ := id I
  have iw : ∀ rr : Nat, y_isw rr → (F_X3_isWord X σ D rr).toInt = if (τ.1 a 14).toInt = 1 ∧ (τ.2.1 a 19).toInt = y_cw rr then 1 else 0 := fun rr hr => tl_isWord S.1 K hr
  have cL : (F_X12_isLaw X τ a).toInt = if (τ.1 a 14).toInt = 1 ∧ (τ.2.1 a 19).toInt = y_cw 2 then 1 else 0 := tm_isLaw
  have cM : (F_X12_isMost X τ a).toInt = if (τ.1 a 14).toInt = 1 ∧ (τ.2.1 a 19).toInt = y_cw 6 then 1 else 0 := tm_isMost
  have cP : (F_X12_isPlayer X τ a).toInt = if (τ.1 a 14).toInt = 1 ∧ (τ.2.1 a 19).toInt = y_cw 7 then 1 else 0 := tm_isPlayer
  have cH : (F_X12_isHand X τ a).toInt = if (τ.1 a 14).toInt = 1 ∧ (τ.2.1 a 19).toInt = y_cw 11 then 1 else 0 := tm_isHand
  have z0 : (0 : Int) = 0 := rfl
  have z1 : ¬ (1 : Int) = 0 := by decide
  unfold F_X9_readPart tm_part
  rw [q_letE, iw 2 ⟨by decide, by decide⟩, cL]
  by_cases w2 : (τ.1 a 14).toInt = 1 ∧ (τ.2.1 a 19).toInt = y_cw 2
  · rw [if_pos w2, if_neg z1, if_neg z1]
    obtain ⟨z, σ', e, o⟩ := tb_readLaw Y H ha I w2.1
    rw [e, q_biP]
    exact ⟨z, σ', rfl, o⟩
  · rw [if_neg w2, if_pos z0, if_pos z0, q_letE, iw 6 ⟨by decide, by decide⟩, cM]
    by_cases w6 : (τ.1 a 14).toInt = 1 ∧ (τ.2.1 a 19).toInt = y_cw 6
    · rw [if_pos w6, if_neg z1, if_neg z1]
      obtain ⟨z, σ', e, o⟩ := tb_readMost Y H ha I w6.1
      rw [e, q_biP]
      exact ⟨z, σ', rfl, o⟩
    · rw [if_neg w6, if_pos z0, if_pos z0, q_letE, iw 7 ⟨by decide, by decide⟩, cP]
      by_cases w7 : (τ.1 a 14).toInt = 1 ∧ (τ.2.1 a 19).toInt = y_cw 7
      · rw [if_pos w7, if_neg z1, if_neg z1]
        obtain ⟨z, σ', e, o⟩ := tb_readPlayer Y H ha I w7.1
        rw [e, q_biP]
        exact ⟨z, σ', rfl, o⟩
      · rw [if_neg w7, if_pos z0, if_pos z0, q_letE, iw 11 ⟨by decide, by decide⟩, cH]
        by_cases w11 : (τ.1 a 14).toInt = 1 ∧ (τ.2.1 a 19).toInt = y_cw 11
        · rw [if_pos w11, if_neg z1, if_neg z1]
          obtain ⟨z, σ', e, o⟩ := tb_readHand Y H ha I w11.1
          rw [e, q_biP]
          exact ⟨z, σ', rfl, o⟩
        · rw [if_neg w11, if_pos z0, if_pos z0]
          obtain ⟨σ', a1, a2, a3, a4⟩ := tl_wrong (X := X) K h0
          rw [a1, q_biP]
          exact ⟨0, σ', rfl, tb_O.bad (S.rd Y H a2).2 (tb_P.rd Y.1 ha a3) rfl a4 _⟩
/-- what comes of all parts -/
def tb_U (X : XW) (lb : Nat → Nat) (D T g a : Nat) (n : Int) (B : Int → Int) (σ τ σ' τ' : ST) (z : Int32) : Prop :=
  tb_F X lb D σ σ' ∧ tb_P X a τ τ' ∧ ((z.toInt = 1 ∧ ∃ (V : Nat → Int → Int) (r c w t : Int → Int) (f9 f10 : Int), tb_I X D T g a n B σ' τ' V r c w t f9 f10) ∨ (z.toInt = 0 ∧ tl_F σ' D τ' a))
theorem tb_takesL (Y : y_S X lb) (H : tb_D X lb D T g) (ha : q_kd X a = 12) (k : Nat) : ∀ (m : Nat) (x : Int32) (σ τ : ST) (V : Nat → Int → Int) (r c w t : Int → Int) (f9 f10 : Int), (2147483647 - x.toInt).toNat < k → (902 - (τ.1 a 15).toInt).toNat ≤ m → 0 ≤ x.toInt → x.toInt ≤ (τ.1 a 15).toInt → tb_I X D T g a n B σ τ V r c w t f9 f10 →
    ∃ (z : Int32) (σ' τ' : ST), F_X9_takes_L41_1 X D k x σ = (z, σ') ∧ F_X12_table_L145_5 X a m τ = F_X12_table_E232_6 X τ' a ∧ tb_U X lb D T g a n B σ τ σ' τ' z := by
  induction k with
  | zero => intro m x σ τ V r c w t f9 f10 hm; exact absurd hm (Nat.not_lt_zero _)
  | succ k ih =>
    intro m x σ τ V r c w t f9 f10 hk hm x0 xb I
    obtain ⟨S, M, K, h0, Rr⟩ := id I
    have n9 : n ≤ 900 := S.1.2.2.1.2
    have kb := K.b
    have k8 := K.2.2.2.2.2.2.2
    obtain ⟨m', hm'⟩ : ∃ m', m = m' + 1 + 1 := ⟨m - 2, by omega⟩
    subst hm'
    rw [F_X9_takes_L41_1_s, F_X12_table_L145_5_s, tm_B145, h0, if_pos (Eq.refl (0 : Int))]
    unfold F_X9_takes_B41_1
    by_cases hx : x.toInt < 900
    · rw [if_pos hx, q_letE, K.2.2.1]
      by_cases hty : (τ.1 a 14).toInt = 0
      · rw [if_pos hty, if_pos hty]
        exact ⟨1, σ, τ, rfl, rfl, tb_F.rf, tb_P.rf, Or.inl ⟨rfl, V, r, c, w, t, f9, f10, I⟩⟩
      · rw [if_neg hty, if_neg hty]
        obtain ⟨z, σ1, e, o1, o2, o3⟩ := tb_readPart Y H ha I
        rw [e, q_biP]
        obtain ⟨τ1, hτ1⟩ : ∃ s, s = F_X12_must X (tm_part X τ a) a (F_X12_isSign X (tm_part X τ a) a 59) := ⟨_, rfl⟩
        rw [← hτ1] at o2 o3 ⊢
        rcases o3 with ⟨q1, V', r', c', w', t', f9', f10', I', lt⟩ | ⟨q1, q2⟩
        · rw [if_neg (by omega : ¬ z.toInt = 0), q_letE]
          have e1 : (x + 1).toInt = x.toInt + 1 := y_inc (by omega)
          obtain ⟨z', σ2, τ2, a1, a2, a3, a4, a5⟩ := ih (m' + 1) (x + 1) σ1 τ1 V' r' c' w' t' f9' f10' (by omega) (by omega) (by omega) (by omega) I'
          exact ⟨z', σ2, τ2, a1, a2, o1.tr a3, o2.tr a4, a5⟩
        · have q3 := q2.2.1
          rw [if_pos q1, F_X12_table_L145_5_s, tm_B145, if_neg (by omega : ¬ (τ1.1 a 12).toInt = 0)]
          exact ⟨0, σ1, τ1, rfl, rfl, o1, o2, Or.inr ⟨rfl, q2⟩⟩
    · have hty : (τ.1 a 14).toInt = 0 := by omega
      rw [if_neg hx, if_pos hty]
      exact ⟨1, σ, τ, rfl, rfl, tb_F.rf, tb_P.rf, Or.inl ⟨rfl, V, r, c, w, t, f9, f10, I⟩⟩
/-- before the head -/
def tb_R0 (V : Nat → Int → Int) (r c t : Int → Int) : Prop :=
  (V 1 2 = 0 ∧ V 1 3 = 4 ∧ V 1 4 = 0) ∧ (∀ k : Int, 0 ≤ k → k < 10 → V 4 k = 0) ∧ (∀ j : Int, 0 ≤ j → j < 60 → V 7 j = 0) ∧ (∀ p : Int, 0 ≤ p → p < 6 → V 9 p = 0 ∧ V 10 p = 0 ∧ V 11 p = 0) ∧ tb_Z V ∧
  (∀ p : Int, 0 ≤ p → p < 6 → r p = 0) ∧ (∀ j : Int, 3720 ≤ j → j < 4650 → c j = if j = 3724 then 4 else 0) ∧ ∀ j : Int, 0 ≤ j → j < 60 → t j = 0
theorem m_S_0 {b : Int} : ∀ N : Nat, (∀ j : Int, b ≤ j → j < b + (N : Int) → c j = 0) → m_S c b N = 0 := by
  intro N
  induction N with
  | zero => intro _; rfl
  | succ N ih =>
    intro h
    show m_S c b N + c (b + (N : Int)) = 0
    rw [ih (fun j a1 a2 => h j a1 (by omega)), h (b + (N : Int)) (by omega) (by omega)]
    rfl
theorem tb_R0.head {kk ee : Int} (h : tb_R0 V r c t) (hk : 2 ≤ kk ∧ kk ≤ 10) (he : 1 ≤ ee ∧ ee ≤ 8) : tb_R (y_up (y_up V 1 0 kk) 1 1 ee) r (m_up (m_up c 3720 kk) 3721 ee) w t := by
  obtain ⟨⟨h2, h3, h4⟩, hk4, h7, h9, hz, hr, hc, ht⟩ := h
  have rc : ∀ j : Int, 3722 ≤ j → j < 4650 → m_up (m_up c 3720 kk) 3721 ee j = if j = 3724 then 4 else 0 := fun j a1 a2 => by rw [m_up_ne (by omega), m_up_ne (by omega)]; exact hc j (by omega) a2
  have rz : ∀ j : Int, 3725 ≤ j → j < 4650 → m_up (m_up c 3720 kk) 3721 ee j = 0 := fun j a1 a2 => by rw [rc j (by omega) a2, if_neg (by omega)]
  have c20 : m_up (m_up c 3720 kk) 3721 ee 3720 = kk := by rw [m_up_ne (by decide), m_up_eq]
  have c21 : m_up (m_up c 3720 kk) 3721 ee 3721 = ee := m_up_eq _ _ _
  have c22 : m_up (m_up c 3720 kk) 3721 ee 3722 = 0 := by rw [rc _ (by decide) (by decide)]; rfl
  have c23 : m_up (m_up c 3720 kk) 3721 ee 3723 = 0 := by rw [rc _ (by decide) (by decide)]; rfl
  have c24 : m_up (m_up c 3720 kk) 3721 ee 3724 = 4 := by rw [rc _ (by decide) (by decide)]; rfl
  have sm : ∀ k : Int, 0 ≤ k → k < 10 → m_sum (m_up (m_up c 3720 kk) 3721 ee) 3720 k = 0 := fun k a1 a2 => by
    rw [m_sum_e, rz _ (by omega) (by omega), rz _ (by omega) (by omega), rz _ (by omega) (by omega), rz _ (by omega) (by omega), rz _ (by omega) (by omega), rz _ (by omega) (by omega)]
    rfl
  have rd : ∀ (id : Nat) (i : Int), id ≠ 1 ∨ 2 ≤ i → y_up (y_up V 1 0 kk) 1 1 ee id i = V id i := fun id i h => by
    rw [y_up_ne (by omega), y_up_ne (by omega)]
  have v0 : y_up (y_up V 1 0 kk) 1 1 ee 1 0 = kk := by rw [y_up_ne (Or.inr (by decide)), y_up_eq]
  have v1 : y_up (y_up V 1 0 kk) 1 1 ee 1 1 = ee := y_up_eq _ _ _ _
  have ten : ((10 : Nat) : Int) = 10 := rfl
  refine ⟨⟨⟨?_, ?_, ?_, ?_, ?_⟩, ?_, ?_, ?_, ?_⟩, ?_, ?_, ⟨?_, ?_, ?_⟩, ⟨?_, ?_, ?_, ?_, ?_, ?_, ?_, ?_, ?_, ?_, ?_⟩, ?_, ?_, ?_⟩
  · rw [v0, c20]
  · rw [v1, c21]
  · rw [rd 1 2 (Or.inr (by decide)), c23, h2]
  · rw [rd 1 3 (Or.inr (by decide)), c24, h3]
  · rw [rd 1 4 (Or.inr (by decide)), c22, h4]
  · intro k a1 a2
    rw [rd 4 k (Or.inl (by decide)), sm k a1 a2, hk4 k a1 a2]
  · intro j a1 a2
    rw [rd 7 j (Or.inl (by decide)), rz _ (by omega) (by omega), h7 j a1 a2]
  · intro p a1 a2
    rw [rd 9 p (Or.inl (by decide)), (h9 p a1 a2).1, m_S_0 10 (fun j b1 b2 => rz j (by omega) (by rw [ten] at b2; omega))]
  · intro p a1 a2
    rw [rd 10 p (Or.inl (by decide)), rd 11 p (Or.inl (by decide)), rz _ (by omega) (by omega), rz _ (by omega) (by omega)]
    exact (h9 p a1 a2).2
  · exact (hz.up (by omega)).up (by omega)
  · rw [c22]
    intro p p0 p1
    omega
  · intro j a1 a2
    exact ⟨Or.inl (ht j a1 a2), fun _ => rz _ (by omega) (by omega)⟩
  · intro p a1 a2
    rw [hr p a1 a2]
    unfold tb_bits
    rw [ht _ (by omega) (by omega), ht _ (by omega) (by omega), ht _ (by omega) (by omega), ht _ (by omega) (by omega), ht _ (by omega) (by omega), ht _ (by omega) (by omega), ht _ (by omega) (by omega), ht _ (by omega) (by omega), ht _ (by omega) (by omega), ht _ (by omega) (by omega)]
    rfl
  · intro j a1 a2 _
    exact ht j a1 a2
  · rw [c20]; omega
  · rw [c21]; omega
  · rw [c22]; decide
  · rw [c23]; decide
  · rw [c24]; decide
  · intro j a1 a2; exact rz j a1 (by omega)
  · intro j a1 a2; exact rz j (by omega) (by omega)
  · intro j a1 a2; rw [rz j (by omega) (by omega)]; decide
  · intro k a1 a2; rw [sm k a1 a2]; decide
  · intro j a1 a2; exact rz j (by omega) a2
  · intro p k a0 a1 a2 a3 _; exact rz _ (by omega) (by omega)
  · rw [c20]; omega
  · rw [c21]; omega
  · rw [c24]; decide
/-! the reference's head, stretch by stretch -/
noncomputable def tm_hd3 (X : XW) (a : Nat) (Kc : ST → Int32 × ST) (r_33 : Int32) (σ_34 : ST) : Int32 × ST :=
  q_let (q_si σ_34 (q_rf X a 20) (3721 : Int32).toNatClampNeg r_33 : ST) (fun σ_35 => q_let (F_X12_isSign X σ_35 a (59 : Int32) : Int32) (fun r_37 => q_let (F_X12_must X σ_35 a r_37 : ST) (fun σ_40 => Kc σ_40)))
noncomputable def tm_hd2 (X : XW) (a : Nat) (Kc : ST → Int32 × ST) (r_24 : Int32) (σ_25 : ST) : Int32 × ST :=
  q_let (q_si σ_25 (q_rf X a 20) (3720 : Int32).toNatClampNeg r_24 : ST) (fun σ_26 => q_let (F_X12_isEach X σ_26 a : Int32) (fun r_27 => q_let (F_X12_must X σ_26 a r_27 : ST) (fun σ_30 => q_bi (F_X12_count X σ_30 a (1 : Int32) (8 : Int32)) (fun r_33 σ_34 => tm_hd3 X a Kc r_33 σ_34))))
noncomputable def tm_hd1 (X : XW) (a : Nat) (Kc : ST → Int32 × ST) (σ_17 : ST) : Int32 × ST :=
  q_let (F_X12_isKinds X σ_17 a : Int32) (fun r_18 => q_let (F_X12_must X σ_17 a r_18 : ST) (fun σ_21 => q_bi (F_X12_count X σ_21 a (2 : Int32) (10 : Int32)) (fun r_24 σ_25 => tm_hd2 X a Kc r_24 σ_25)))
noncomputable def tm_Kc (X : XW) (a : Nat) (s : ST) : Int32 × ST := F_X12_table_L145_5 X a ((901 - (s.1 a 15).toInt).toNat + (1 - (s.1 a 12).toInt).toNat + 1) s
theorem tm_E70 (X : XW) (τ : ST) (a : Nat) : F_X12_table_E70_7 X τ a = q_let (q_si τ a 25 (0 : Int32) : ST) (fun σ_15 => q_let (q_si σ_15 a 26 (0 : Int32) : ST) (fun σ_16 => q_let (q_si σ_16 (q_rf X a 20) (3724 : Int32).toNatClampNeg (4 : Int32) : ST) (fun σ_17 => tm_hd1 X a (tm_Kc X a) σ_17))) := rfl
theorem tl_F.same {R : Nat} (h : tl_F σ R τ a) (k : tl_same a τ τ') : tl_F σ R τ' a := by
  unfold tl_F at h ⊢
  rw [k.1 12 (by decide) (by decide), k.1 13 (by decide) (by decide)]
  exact h
theorem tl_same.tr {τ2 : ST} (h : tl_same a τ τ') (k : tl_same a τ' τ2) : tl_same a τ τ2 := ⟨fun f f1 f2 => (k.1 f f1 f2).trans (h.1 f f1 f2), k.2.trans h.2⟩
theorem tm_hd3a (Y : y_S X lb) (ha : q_kd X a = 12) (M : tb_M X a τ n B c w t f9 f10) (h : 0 < (τ.1 a 12).toInt) (Kc : ST → Int32 × ST) (v : Int32) : ∃ (τ' : ST) (c' : Int → Int), tm_hd3 X a Kc v τ = Kc τ' ∧ tb_M X a τ' n B c' w t f9 f10 ∧ (∀ j : Int, 0 ≤ j → j < 3720 → c' j = c j) ∧ tl_same a τ τ' := by
  obtain ⟨M1, s1⟩ := M.cw Y.1 ha (i := 3721) (v := v) (A := 3721) rfl (by decide)
  have h1 : 0 < ((q_si τ (q_rf X a 20) (3721 : Int32).toNatClampNeg v).1 a 12).toInt := by rw [s1.1 12 (by decide) (by decide)]; exact h
  refine ⟨_, _, ?_, M1, fun j a1 a2 => m_up_ne (by omega), s1⟩
  unfold tm_hd3
  rw [q_letE, q_letE, tm_must2 h1, q_letE]
theorem tm_hd2a (Y : y_S X lb) (ha : q_kd X a = 12) (M : tb_M X a τ n B c w t f9 f10) (h : 0 < (τ.1 a 12).toInt) (Kc : ST → Int32 × ST) (v : Int32) : ∃ (τ' : ST) (c' : Int → Int), tm_hd2 X a Kc v τ = Kc τ' ∧ tb_M X a τ' n B c' w t f9 f10 ∧ (∀ j : Int, 0 ≤ j → j < 3720 → c' j = c j) ∧ tl_same a τ τ' := by
  obtain ⟨M1, s1⟩ := M.cw Y.1 ha (i := 3720) (v := v) (A := 3720) rfl (by decide)
  have h1 : 0 < ((q_si τ (q_rf X a 20) (3720 : Int32).toNatClampNeg v).1 a 12).toInt := by rw [s1.1 12 (by decide) (by decide)]; exact h
  obtain ⟨τ', c', e, M2, hc, s2⟩ := tm_hd3a Y ha M1 h1 Kc 0
  refine ⟨τ', c', ?_, M2, fun j a1 a2 => (hc j a1 a2).trans (m_up_ne (by omega)), s1.tr s2⟩
  unfold tm_hd2
  rw [q_letE, q_letE, tm_must2 h1, q_letE, tm_count2 h1, q_biP]
  exact e
theorem tb_head (Y : y_S X lb) (H : tb_D X lb D T g) (ha : q_kd X a = 12) (S : tb_S X D T g σ n B V r f9 f10) (M : tb_M X a τ n B c w t f9 f10) (K : tl_K σ D τ a B n) (h0 : (τ.1 a 12).toInt = 0) (R0 : tb_R0 V r c t) (Kc : ST → Int32 × ST) :
    ∃ (z : Int32) (σ' τ' : ST), F_X9_readHead X σ D = (z, σ') ∧ tm_hd1 X a Kc τ = Kc τ' ∧ tb_U X lb D T g a n B σ τ σ' τ' z := by
  have hDn : lb D / 8192 ≠ 6 := by have := H.2.2.2.1; omega
  unfold F_X9_readHead tm_hd1
  rw [q_letE (F_X12_isKinds X τ a), ← H.2.1]
  obtain ⟨z1, σ1, e1, hz1, ⟨o1, o2, o3⟩⟩ := tl_passWord S.1 M.1 K h0 (r := 0) ⟨by decide, by decide⟩ (v := F_X12_isKinds X τ a) tm_isKinds
  obtain ⟨S1, f1⟩ := S.rd Y H o1
  have M1 := M.rd Y.1 ha o2
  rw [e1, q_biP, q_letE (F_X12_must X τ a (F_X12_isKinds X τ a))]
  obtain ⟨τ1, hτ1⟩ : ∃ s, s = F_X12_must X τ a (F_X12_isKinds X τ a) := ⟨_, rfl⟩
  rw [← hτ1] at M1 o3 ⊢
  rcases o3 with ⟨q1, K1, h01, g1⟩ | ⟨q1, q2⟩
  · rw [if_neg (by omega : ¬ z1.toInt = 0)]
    obtain ⟨z2, w2, σ2, τ2, e3, e4, ⟨o4, o5, o6⟩, v3, v4⟩ := tl_passNum S1.1 M1.1 K1 h01 2 10 (by decide)
    obtain ⟨S2, f2⟩ := S1.rd Y H o4
    have M2 := M1.rd Y.1 ha o5
    rw [e3, q_biP z2 σ2, e4, q_biP w2 τ2]
    rcases o6 with ⟨q3, K2, h02, g2⟩ | ⟨q3, q4⟩
    · obtain ⟨ev2, z22, z210⟩ := v3 q3
      rw [if_neg q3]
      unfold tm_hd2
      obtain ⟨M3, s3⟩ := M2.cw Y.1 ha (i := 3720) (v := w2) (A := 3720) rfl (by decide)
      rw [q_letE (q_si τ2 (q_rf X a 20) (3720 : Int32).toNatClampNeg w2)]
      obtain ⟨τ3, hτ3⟩ : ∃ s, s = q_si τ2 (q_rf X a 20) (3720 : Int32).toNatClampNeg w2 := ⟨_, rfl⟩
      rw [← hτ3] at M3 s3 ⊢
      have K3 := K2.same (tl_sameC.rf (σ := σ2)) s3
      have h03 : (τ3.1 a 12).toInt = 0 := by rw [s3.1 12 (by decide) (by decide)]; exact h02
      rw [q_letE (F_X12_isEach X τ3 a)]
      obtain ⟨z4, σ4, e5, hz4, ⟨o7, o8, o9⟩⟩ := tl_passWord S2.1 M3.1 K3 h03 (r := 1) ⟨by decide, by decide⟩ (v := F_X12_isEach X τ3 a) tm_isEach
      obtain ⟨S4, f4⟩ := S2.rd Y H o7
      have M4 := M3.rd Y.1 ha o8
      rw [e5, q_biP z4 σ4, q_letE (F_X12_must X τ3 a (F_X12_isEach X τ3 a))]
      obtain ⟨τ4, hτ4⟩ : ∃ s, s = F_X12_must X τ3 a (F_X12_isEach X τ3 a) := ⟨_, rfl⟩
      rw [← hτ4] at M4 o9 ⊢
      rcases o9 with ⟨q5, K4, h04, g4⟩ | ⟨q5, q6⟩
      · rw [if_neg (by omega : ¬ z4.toInt = 0)]
        obtain ⟨z5, w5, σ5, τ5, e7, e8, ⟨o10, o11, o12⟩, v5, v6⟩ := tl_passNum S4.1 M4.1 K4 h04 1 8 (by decide)
        obtain ⟨S5, f5⟩ := S4.rd Y H o10
        have M5 := M4.rd Y.1 ha o11
        rw [e7, q_biP z5 σ5, e8, q_biP w5 τ5]
        rcases o12 with ⟨q7, K5, h05, g5⟩ | ⟨q7, q8⟩
        · obtain ⟨ev5, z51, z58⟩ := v5 q7
          rw [if_neg q7]
          unfold tm_hd3
          obtain ⟨M6, s6⟩ := M5.cw Y.1 ha (i := 3721) (v := w5) (A := 3721) rfl (by decide)
          rw [q_letE (q_si τ5 (q_rf X a 20) (3721 : Int32).toNatClampNeg w5)]
          obtain ⟨τ6, hτ6⟩ : ∃ s, s = q_si τ5 (q_rf X a 20) (3721 : Int32).toNatClampNeg w5 := ⟨_, rfl⟩
          rw [← hτ6] at M6 s6 ⊢
          have K6 := K5.same (tl_sameC.rf (σ := σ5)) s6
          have h06 : (τ6.1 a 12).toInt = 0 := by rw [s6.1 12 (by decide) (by decide)]; exact h05
          have W := (((y_W.rf (lb := lb) (g := g) (o := 6) (σ := σ5)).eq S5.2.1).si Y H.2.2.1 (id := 1) (by decide) 0 z2).si Y H.2.2.1 (id := 1) (by decide) 1 z5
          obtain ⟨S7, f7⟩ := S5.gm Y H W
          have K7 := K6.same (tl_sameC.W W hDn) (tl_same.rf (τ := τ6))
          have R7 : tb_R (y_up (y_up V 1 ((0 : Nat) : Int) z2.toInt) 1 ((1 : Nat) : Int) z5.toInt) r (m_up (m_up c 3720 w2.toInt) 3721 w5.toInt) w t := by
            rw [ev2, ev5]
            exact R0.head ⟨z22, z210⟩ ⟨z51, z58⟩
          have eg : y_gA X g 1 = q_rf X g 0 := rfl
          rw [eg] at S7 f7 K7
          rw [q_letE (q_si σ5 (q_rf X g 0) 0 z2), q_letE (q_si (q_si σ5 (q_rf X g 0) 0 z2) (q_rf X g 0) 1 z5), q_letE (F_X12_isSign X τ6 a 59)]
          obtain ⟨z8, σ8, e9, hz8, ⟨p1, p2, p3⟩⟩ := tl_passSemi S7.1 M6.1 K7 h06
          obtain ⟨S8, f8⟩ := S7.rd Y H p1
          have M8 := M6.rd Y.1 ha p2
          rw [e9, q_biP z8 σ8, q_letE]
          have pP : tb_P X a τ (F_X12_must X τ6 a (F_X12_isSign X τ6 a 59)) := tb_P.mk M M8 (fun j a1 a2 => by rw [m_up_ne (by omega), m_up_ne (by omega)]) (fun _ _ _ => rfl)
          refine ⟨z8, σ8, _, rfl, rfl, ((((f1.tr f2).tr f4).tr f5).tr f7).tr f8, pP, ?_⟩
          rcases p3 with ⟨y1, y2, y3, y4⟩ | ⟨y1, y2⟩
          · exact Or.inl ⟨y1, _, _, _, _, _, _, _, S8, M8, y2, y3, R7⟩
          · refine Or.inr ⟨?_, y2⟩
            rcases hz8 with h | h
            · exact h
            · exact absurd h y1
        · have qz : z5.toInt = -1 := Classical.not_not.mp q7
          obtain ⟨τ', c', e, M', hc', s'⟩ := tm_hd3a Y ha M5 q8.2.1 Kc w5
          rw [if_pos qz, e]
          exact ⟨0, σ5, τ', rfl, rfl, ((f1.tr f2).tr f4).tr f5, tb_P.mk M M' (fun j a1 a2 => (hc' j a1 a2).trans (m_up_ne (by omega))) (fun _ _ _ => rfl), Or.inr ⟨rfl, q8.same s'⟩⟩
      · have hz0 : z4.toInt = 0 := by
          rcases hz4 with h | h
          · exact h
          · exact absurd h q5
        obtain ⟨τ', c', e, M', hc', s'⟩ := tm_hd3a Y ha M4 q6.2.1 Kc 0
        rw [if_pos hz0, tm_count2 q6.2.1, q_biP, e]
        exact ⟨0, σ4, τ', rfl, rfl, (f1.tr f2).tr f4, tb_P.mk M M' (fun j a1 a2 => (hc' j a1 a2).trans (m_up_ne (by omega))) (fun _ _ _ => rfl), Or.inr ⟨rfl, q6.same s'⟩⟩
    · have qz : z2.toInt = -1 := Classical.not_not.mp q3
      obtain ⟨τ', c', e, M', hc', s'⟩ := tm_hd2a Y ha M2 q4.2.1 Kc w2
      rw [if_pos qz, e]
      exact ⟨0, σ2, τ', rfl, rfl, f1.tr f2, tb_P.mk M M' hc' (fun _ _ _ => rfl), Or.inr ⟨rfl, q4.same s'⟩⟩
  · have hz0 : z1.toInt = 0 := by
      rcases hz1 with h | h
      · exact h
      · exact absurd h q1
    obtain ⟨τ', c', e, M', hc', s'⟩ := tm_hd2a Y ha M1 q2.2.1 Kc 0
    rw [if_pos hz0, tm_count2 q2.2.1, q_biP, e]
    exact ⟨0, σ1, τ', rfl, rfl, f1, tb_P.mk M M' hc' (fun _ _ _ => rfl), Or.inr ⟨rfl, q2.same s'⟩⟩
end TJ
