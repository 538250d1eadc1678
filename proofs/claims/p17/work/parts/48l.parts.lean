/-! THE PARTS OF A TABLE -/
theorem m_up_eq (c : Int → Int) (A v : Int) : m_up c A v A = v := if_pos rfl
theorem m_up_ne {c : Int → Int} {A v j : Int} (h : j ≠ A) : m_up c A v j = c j := if_neg h
theorem y_up_eq (V : Nat → Int → Int) (id : Nat) (i v : Int) : y_up V id i v id i = v := if_pos ⟨rfl, rfl⟩
theorem y_up_ne {V : Nat → Int → Int} {id id' : Nat} {i i' v : Int} (h : id' ≠ id ∨ i' ≠ i) : y_up V id i v id' i' = V id' i' := by
  refine if_neg ?_
  rintro ⟨h1, h2⟩
  rcases h with h | h
  · exact h h1
  · exact h h2
theorem m_up_e {c : Int → Int} {A v : Int} : ∀ j : Int, 0 ≤ j → m_up c A v j = if j = A then v else c j := fun _ _ => rfl
theorem m_sum_up {c : Int → Int} {A v k : Int} (hk : 0 ≤ k) (h : A < 3754) : m_sum (m_up c A v) 3720 k = m_sum c 3720 k := by
  unfold m_sum
  rw [m_up_ne (by omega), m_up_ne (by omega), m_up_ne (by omega), m_up_ne (by omega), m_up_ne (by omega), m_up_ne (by omega)]
theorem m_S_up {c : Int → Int} {A v b : Int} {n : Nat} (h : A < b) : m_S (m_up c A v) b n = m_S c b n := m_S_ext (fun j a _ => m_up_ne (by omega))
/-- a law, a most, a number of players: nothing else is changed -/
theorem tb_H.up {c r t : Int → Int} {A v : Int} (h : tb_H c r t) (hA : A < 3754) (hA2 : A = 3722 → c 3722 ≤ v) : tb_H (m_up c A v) r t := by
  obtain ⟨h1, h2, h3⟩ := h
  refine ⟨fun j a b => ⟨(h1 j a b).1, fun q => by rw [m_up_ne (by omega)]; exact (h1 j a b).2 q⟩, h2, fun j a b q => h3 j a b ?_⟩
  by_cases e : A = 3722
  · subst e
    rw [m_up_eq] at q
    have := hA2 rfl
    omega
  · rw [m_up_ne (fun z => e z.symm)] at q
    exact q
theorem tb_Z.up {V : Nat → Int → Int} {id : Nat} {i v : Int} (h : tb_Z V) (hid : id = 1 ∨ id = 4 ∨ id = 5 ∨ id = 6 ∨ id = 7 ∨ id = 9 ∨ id = 10 ∨ id = 11) : tb_Z (y_up V id i v) := by
  obtain ⟨h1, h2, h3⟩ := h
  refine ⟨fun j a b => by rw [y_up_ne (Or.inl (by omega))]; exact h1 j a b, fun j a b => by rw [y_up_ne (Or.inl (by omega)), y_up_ne (Or.inl (by omega))]; exact h2 j a b, ?_⟩
  rw [y_up_ne (Or.inl (by omega)), y_up_ne (Or.inl (by omega)), y_up_ne (Or.inl (by omega)), y_up_ne (Or.inl (by omega)), y_up_ne (Or.inl (by omega)), y_up_ne (Or.inl (by omega)), y_up_ne (Or.inl (by omega)), y_up_ne (Or.inl (by omega)), y_up_ne (Or.inl (by omega))]
  exact h3
theorem y_nm.up {V : Nat → Int → Int} {w : Int → Int} {q P : Int} {id : Nat} {i v : Int} (h : y_nm V w q P) (h5 : id ≠ 5) (h6 : id ≠ 6) : y_nm (y_up V id i v) w q P := by
  intro p p0 p1
  obtain ⟨a1, a2, a3⟩ := h p p0 p1
  have e6 : y_up V id i v 6 p = V 6 p := y_up_ne (Or.inl (Ne.symm h6))
  have e5 : (fun j => y_up V id i v 5 (8 * p + j)) = fun j => V 5 (8 * p + j) := by funext j; exact y_up_ne (Or.inl (Ne.symm h5))
  rw [e6]
  refine ⟨a1, fun j j0 j1 => ?_, ?_⟩
  · rw [y_up_ne (Or.inl (Ne.symm h5))]; exact a2 j j0 j1
  · rw [e5]; exact a3
theorem tb_R.law {V : Nat → Int → Int} {r c w t : Int → Int} {v : Int} (h : tb_R V r c w t) (hv : 0 ≤ v ∧ v ≤ 2) : tb_R (y_up V 1 2 v) r (m_up c 3723 v) w t := by
  obtain ⟨⟨⟨n1, n2, n3, n4, n5⟩, n6, n7, n8, n9⟩, z, nm, hh, mn, k1, k2, k3⟩ := h
  refine ⟨⟨⟨?_, ?_, ?_, ?_, ?_⟩, ?_, ?_, ?_, ?_⟩, z.up (Or.inl rfl), ?_, hh.up (by omega) (by omega), mn.wr m_up_e (by omega), ?_, ?_, ?_⟩
  · rw [y_up_ne (Or.inr (by decide)), m_up_ne (by decide)]; exact n1
  · rw [y_up_ne (Or.inr (by decide)), m_up_ne (by decide)]; exact n2
  · rw [y_up_eq, m_up_eq]
  · rw [y_up_ne (Or.inr (by decide)), m_up_ne (by decide)]; exact n4
  · rw [y_up_ne (Or.inr (by decide)), m_up_ne (by decide)]; exact n5
  · intro k a b; rw [y_up_ne (Or.inl (by decide)), m_sum_up a (by decide)]; exact n6 k a b
  · intro j a b; rw [y_up_ne (Or.inl (by decide)), m_up_ne (by omega)]; exact n7 j a b
  · intro p a b; rw [y_up_ne (Or.inl (by decide)), m_S_up (by omega)]; exact n8 p a b
  · intro p a b; rw [y_up_ne (Or.inl (by decide)), y_up_ne (Or.inl (by decide)), m_up_ne (by omega), m_up_ne (by omega)]; exact n9 p a b
  · rw [m_up_ne (by decide)]; exact nm.up (by decide) (by decide)
  · rw [m_up_ne (by decide)]; exact k1
  · rw [m_up_ne (by decide)]; exact k2
  · rw [m_up_ne (by decide)]; exact k3
theorem tb_R.most {V : Nat → Int → Int} {r c w t : Int → Int} {v : Int} (h : tb_R V r c w t) (hv : 1 ≤ v ∧ v ≤ 4) : tb_R (y_up V 1 3 v) r (m_up c 3724 v) w t := by
  obtain ⟨⟨⟨n1, n2, n3, n4, n5⟩, n6, n7, n8, n9⟩, z, nm, hh, mn, k1, k2, k3⟩ := h
  refine ⟨⟨⟨?_, ?_, ?_, ?_, ?_⟩, ?_, ?_, ?_, ?_⟩, z.up (Or.inl rfl), ?_, hh.up (by omega) (by omega), mn.wr m_up_e (by omega), ?_, ?_, ?_⟩
  · rw [y_up_ne (Or.inr (by decide)), m_up_ne (by decide)]; exact n1
  · rw [y_up_ne (Or.inr (by decide)), m_up_ne (by decide)]; exact n2
  · rw [y_up_ne (Or.inr (by decide)), m_up_ne (by decide)]; exact n3
  · rw [y_up_eq, m_up_eq]
  · rw [y_up_ne (Or.inr (by decide)), m_up_ne (by decide)]; exact n5
  · intro k a b; rw [y_up_ne (Or.inl (by decide)), m_sum_up a (by decide)]; exact n6 k a b
  · intro j a b; rw [y_up_ne (Or.inl (by decide)), m_up_ne (by omega)]; exact n7 j a b
  · intro p a b; rw [y_up_ne (Or.inl (by decide)), m_S_up (by omega)]; exact n8 p a b
  · intro p a b; rw [y_up_ne (Or.inl (by decide)), y_up_ne (Or.inl (by decide)), m_up_ne (by omega), m_up_ne (by omega)]; exact n9 p a b
  · rw [m_up_ne (by decide)]; exact nm.up (by decide) (by decide)
  · rw [m_up_ne (by decide)]; exact k1
  · rw [m_up_ne (by decide)]; exact k2
  · rw [m_up_eq]; exact hv.1
/-- both in the middle of a table -/
def tb_I (X : XW) (D T g a : Nat) (n : Int) (B : Int → Int) (σ τ : ST) (V : Nat → Int → Int) (r c w t : Int → Int) (f9 f10 : Int) : Prop := tb_S X D T g σ n B V r f9 f10 ∧ tb_M X a τ n B c w t f9 f10 ∧ tl_K σ D τ a B n ∧ (τ.1 a 12).toInt = 0 ∧ tb_R V r c w t
/-- what the reference's reading leaves alone -/
def tb_P (X : XW) (a : Nat) (τ τ' : ST) : Prop := (∀ j : Int, 0 ≤ j → j < 3720 → m_c X τ' a j = m_c X τ a j) ∧ (∀ j : Int, 0 ≤ j → j < 24 → m_wd X τ' a j = m_wd X τ a j) ∧ (τ'.1 a 0).toInt = (τ.1 a 0).toInt ∧ (τ'.1 a 8).toInt = (τ.1 a 8).toInt
/-- what comes of a part -/
def tb_O (X : XW) (lb : Nat → Nat) (D T g a : Nat) (n : Int) (B : Int → Int) (σ τ σ' τ' : ST) (z : Int32) : Prop :=
  tb_F X lb D σ σ' ∧ tb_P X a τ τ' ∧
  ((z.toInt = 1 ∧ ∃ (V : Nat → Int → Int) (r c w t : Int → Int) (f9 f10 : Int), tb_I X D T g a n B σ' τ' V r c w t f9 f10 ∧ (τ.1 a 15).toInt < (τ'.1 a 15).toInt) ∨ (z.toInt = 0 ∧ tl_F σ' D τ' a))
section TP
variable {X : XW} {lb : Nat → Nat} {D T g a : Nat} {σ τ σ' τ' σ1 τ1 : ST} {n : Int} {B : Int → Int} {V : Nat → Int → Int} {r c w t : Int → Int} {f9 f10 : Int}
theorem tb_P.rf : tb_P X a τ τ := ⟨fun _ _ _ => rfl, fun _ _ _ => rfl, rfl, rfl⟩
theorem tb_P.tr (h : tb_P X a τ τ1) (k : tb_P X a τ1 τ') : tb_P X a τ τ' := ⟨fun j a b => (k.1 j a b).trans (h.1 j a b), fun j a b => (k.2.1 j a b).trans (h.2.1 j a b), k.2.2.1.trans h.2.2.1, k.2.2.2.trans h.2.2.2⟩
theorem tb_P.mk {c' w' t' : Int → Int} {h9 h10 k9 k10 : Int} (M : tb_M X a τ n B c w t h9 h10) (M' : tb_M X a τ' n B c' w' t' k9 k10) (hc : ∀ j : Int, 0 ≤ j → j < 3720 → c' j = c j) (hw : ∀ j : Int, 0 ≤ j → j < 24 → w' j = w j) : tb_P X a τ τ' := ⟨fun j a b => by rw [M.2.1, M'.2.1]; exact hc j a b, fun j a b => by rw [M.2.2.1, M'.2.2.1]; exact hw j a b, M'.2.2.2.2.2.2.1.trans M.2.2.2.2.2.2.1.symm, M'.2.2.2.2.2.2.2.trans M.2.2.2.2.2.2.2.symm⟩
theorem tb_P.rd (hT : q_T X) (ha : q_kd X a = 12) (h : tkl (tn_S2 a) (tn_L a) τ τ') : tb_P X a τ τ' := by
  obtain ⟨k1, k2, k3, k4⟩ := tb_k hT ha
  exact ⟨fun j _ _ => congrArg Int32.toInt (h.1 _ _ (fun q => m_ne k1 ha (by decide) q.1)), fun j _ _ => congrArg Int64.toInt (h.2.1 _ _ (fun q => m_ne k3 ha (by decide) q.1)), congrArg Int32.toInt (h.1 a 0 (fun q => absurd q.2.1 (by decide))), congrArg Int32.toInt (h.1 a 8 (fun q => absurd q.2.1 (by decide)))⟩
theorem tm_must0 (h : (τ.1 a 12).toInt = 0) {v : Int32} (hv : v.toInt = 0) : F_X12_must X τ a v = F_X12_wrong X τ a := by
  simp only [F_X12_must, ↓q_letE]
  rw [h, if_neg (by decide), if_pos hv]
theorem tm_must1 (h : (τ.1 a 12).toInt = 0) {v : Int32} (hv : v.toInt ≠ 0) : F_X12_must X τ a v = F_X12_next X τ a := by
  simp only [F_X12_must, ↓q_letE]
  rw [h, if_neg (by decide), if_neg hv]
/-- a fault, and the reference goes no further -/
theorem tb_O.bad {z : Int32} (hf : tb_F X lb D σ σ') (hp : tb_P X a τ τ') (hz : z.toInt = 0) (h : tl_F σ' D τ' a) (v : Int32) : tb_O X lb D T g a n B σ τ σ' (F_X12_must X τ' a v) z := by
  rw [tm_must2 h.2.1]
  exact ⟨hf, hp, Or.inr ⟨hz, h⟩⟩
/-- the semicolon at a part's end -/
theorem tb_semi (Y : y_S X lb) (H : tb_D X lb D T g) (ha : q_kd X a = 12) (I : tb_I X D T g a n B σ' τ' V r c w t f9 f10) (hf : tb_F X lb D σ σ') (hp : tb_P X a τ τ') (hlt : (τ.1 a 15).toInt ≤ (τ'.1 a 15).toInt) (hlt2 : (τ.1 a 15).toInt < (τ'.1 a 16).toInt) :
    ∃ (z : Int32) (σ2 : ST), F_X3_passSemicolon X σ' D = (z, σ2) ∧ tb_O X lb D T g a n B σ τ σ2 (F_X12_must X τ' a (F_X12_isSign X τ' a 59)) z := by
  obtain ⟨S, M, K, h0, Rr⟩ := I
  obtain ⟨z, σ2, e, hz, o1, o2, o3⟩ := tl_passSemi S.1 M.1 K h0
  obtain ⟨S2, f2⟩ := S.rd Y H o1
  have M2 := M.rd Y.1 ha o2
  refine ⟨z, σ2, e, hf.tr f2, hp.tr (tb_P.rd Y.1 ha o2), ?_⟩
  rcases o3 with ⟨q1, q2, q3, q4⟩ | ⟨q1, q2⟩
  · exact Or.inl ⟨q1, V, r, c, w, t, f9, f10, ⟨S2, M2, q2, q3, Rr⟩, by omega⟩
  · refine Or.inr ⟨?_, q2⟩
    rcases hz with hz | hz
    · exact hz
    · exact absurd hz q1
theorem tl_sameC.s9 (v : Int32) : tl_sameC D σ (q_si σ D 9 v) := fun f _ h => si_f (by omega) D
theorem tl_sameC.s10 (v : Int32) : tl_sameC D σ (q_si σ D 10 v) := fun f _ h => si_f (by omega) D
theorem tb_readLaw (Y : y_S X lb) (H : tb_D X lb D T g) (ha : q_kd X a = 12) (I : tb_I X D T g a n B σ τ V r c w t f9 f10) (h1 : (τ.1 a 14).toInt = 1) :
    ∃ (z : Int32) (σ' : ST), F_X9_readLaw X σ D = (z, σ') ∧ tb_O X lb D T g a n B σ τ σ' (F_X12_must X (F_X12_readLaw X τ a) a (F_X12_isSign X (F_X12_readLaw X τ a) a 59)) z := by
  obtain ⟨S, M, K, h0, Rr⟩ := I
  have kb := K.b
  unfold F_X9_readLaw F_X12_readLaw
  rw [q_letE (σ.1 D 9), q_letE (τ.1 a 25), S.2.2.2.1, M.2.2.2.2.1]
  by_cases q9 : f9 = 0
  · rw [if_pos q9, if_pos q9, q_letE (τ.1 a 12), h0, if_neg (by decide : ¬ (0 : Int) < 0), q_letE (q_si σ D 9 1), q_letE (q_si τ a 25 1)]
    obtain ⟨S1, f1⟩ := S.s9 Y H 1
    obtain ⟨M1, sm1⟩ := M.s9 Y.1 ha 1
    have K1 := K.same (tl_sameC.s9 1) sm1
    have h01 : ((q_si τ a 25 1).1 a 12).toInt = 0 := by rw [sm1.1 12 (by decide) (by decide)]; exact h0
    have p1 : tb_P X a τ (q_si τ a 25 1) := tb_P.mk M M1 (fun _ _ _ => rfl) (fun _ _ _ => rfl)
    have e16 : (q_si τ a 25 1).1 a 16 = τ.1 a 16 := sm1.1 16 (by decide) (by decide)
    obtain ⟨σa, hσa⟩ : ∃ s, s = q_si σ D 9 1 := ⟨_, rfl⟩
    obtain ⟨τa, hτa⟩ : ∃ s, s = q_si τ a 25 1 := ⟨_, rfl⟩
    rw [← hσa] at S1 f1 K1 ⊢
    rw [← hτa] at M1 K1 h01 p1 e16 ⊢
    rw [q_letE (F_X3_advance X σa D), q_letE (F_X12_next X τa a)]
    obtain ⟨c1, m1, K2, g2⟩ := tl_adv2 S1.1 M1.1 K1
    obtain ⟨S2, f2⟩ := S1.rd Y H c1.S2
    have M2 := M1.rd Y.1 ha m1.S2
    have p2 := p1.tr (tb_P.rd Y.1 ha m1.S2)
    have h02 : ((F_X12_next X τa a).1 a 12).toInt = 0 := by rw [tn_12 m1]; exact h01
    obtain ⟨σb, hσb⟩ : ∃ s, s = F_X3_advance X σa D := ⟨_, rfl⟩
    obtain ⟨τb, hτb⟩ : ∃ s, s = F_X12_next X τa a := ⟨_, rfl⟩
    rw [← hσb] at S2 f2 K2 ⊢
    rw [← hτb] at M2 K2 g2 h02 p2 ⊢
    have lw := tm_lawWord (X := X) (σ := τb) (a := a)
    have c3 : y_cw 3 = 688 := rfl
    have c4 : y_cw 4 = 147182 := rfl
    have c5 : y_cw 5 = 624037 := rfl
    rw [← c3, ← c4, ← c5] at lw
    rw [q_letE (F_X3_isWord X σb D 3), q_letE (F_X12_lawWord X τb a), q_letE (F_J9_max_7cf53 X τb 0 (F_X12_lawWord X τb a))]
    -- what the reference has for the law
    have mk : ∀ v : Int, -1 ≤ v → v ≤ 2 → (F_X12_lawWord X τb a).toInt = v → ∃ τc : ST, q_let (q_si τb (q_rf X a 20) (3723 : Int32).toNatClampNeg (F_J9_max_7cf53 X τb 0 (F_X12_lawWord X τb a)) : ST) (fun σ_13 => q_let (F_X12_lawWord X σ_13 a : Int32) (fun r_14 => if r_14.toInt < 0 then q_let (F_X12_must X σ_13 a (0 : Int32) : ST) (fun σ_19 => σ_19) else q_let (F_X12_must X σ_13 a (1 : Int32) : ST) (fun σ_22 => σ_22))) = (if v < 0 then F_X12_wrong X τc a else F_X12_next X τc a) ∧ tb_M X a τc n B (m_up c 3723 (max 0 v)) w t 1 f10 ∧ tl_same a τb τc := by
      intro v v0 v1 hv
      have mx : (F_J9_max_7cf53 X τb 0 (F_X12_lawWord X τb a)).toInt = max 0 v := by
        unfold F_J9_max_7cf53
        have z0 : (0 : Int32).toInt = 0 := rfl
        rw [z0, hv]
        by_cases q : 0 < v
        · rw [if_pos q, hv]; omega
        · rw [if_neg q, z0]; omega
      obtain ⟨M3, sm3⟩ := M2.cw Y.1 ha (i := 3723) (v := F_J9_max_7cf53 X τb 0 (F_X12_lawWord X τb a)) (A := 3723) rfl (by decide)
      rw [mx] at M3
      refine ⟨_, ?_, M3, sm3⟩
      obtain ⟨τc, hτc⟩ : ∃ s, s = q_si τb (q_rf X a 20) (3723 : Int32).toNatClampNeg (F_J9_max_7cf53 X τb 0 (F_X12_lawWord X τb a)) := ⟨_, rfl⟩
      rw [← hτc] at sm3 ⊢
      rw [q_letE, q_letE, q_letE, q_letE]
      have e : (F_X12_lawWord X τc a).toInt = v := by
        rw [tm_lawWord, sm3.1 14 (by decide) (by decide), sm3.2, ← tm_lawWord (X := X)]
        exact hv
      have h03 : (τc.1 a 12).toInt = 0 := by rw [sm3.1 12 (by decide) (by decide)]; exact h02
      rw [e]
      by_cases q : v < 0
      · rw [if_pos q, if_pos q, tm_must0 h03 rfl]
      · rw [if_neg q, if_neg q, tm_must1 h03 (by decide)]
    have iw : ∀ rr : Nat, y_isw rr → (F_X3_isWord X σb D rr).toInt = if (τb.1 a 14).toInt = 1 ∧ (τb.2.1 a 19).toInt = y_cw rr then 1 else 0 := fun rr hr => tl_isWord S2.1 K2 hr
    -- the class goes on with the law v
    have go : ∀ (v : Int32) (vv : Int), v.toInt = vv → 0 ≤ vv → vv ≤ 2 → (F_X12_lawWord X τb a).toInt = vv →
        ∃ (z : Int32) (σ' : ST), q_let (q_si σb (q_rf X (q_rf X D 8) 0) 2 v : ST) (fun σ_18 => q_let (F_X3_advance X σ_18 D : ST) (fun σ_20 => q_bi (F_X3_passSemicolon X σ_20 D) (fun r_21 σ_22 => (r_21, σ_22)))) = (z, σ') ∧ ∃ τ' : ST, q_let (q_si τb (q_rf X a 20) (3723 : Int32).toNatClampNeg (F_J9_max_7cf53 X τb 0 (F_X12_lawWord X τb a)) : ST) (fun σ_13 => q_let (F_X12_lawWord X σ_13 a : Int32) (fun r_14 => if r_14.toInt < 0 then q_let (F_X12_must X σ_13 a (0 : Int32) : ST) (fun σ_19 => σ_19) else q_let (F_X12_must X σ_13 a (1 : Int32) : ST) (fun σ_22 => σ_22))) = τ' ∧ tb_O X lb D T g a n B σ τ σ' (F_X12_must X τ' a (F_X12_isSign X τ' a 59)) z := by
      intro v vv hv v0 v1 hl
      obtain ⟨τc, e1, M3, sm3⟩ := mk vv (by omega) v1 hl
      have em : max 0 vv = vv := by omega
      rw [em] at M3
      rw [if_neg (by omega)] at e1
      have W := (y_W.rf (X := X) (lb := lb) (g := g) (o := 6) (σ := σb)).si Y H.2.2.1 (id := 1) (by decide) 2 v
      rw [S2.2.1, hv] at W
      have hg : q_si σb (y_gA X g 1) 2 v = q_si σb (q_rf X (q_rf X D 8) 0) 2 v := by rw [H.2.1]; rfl
      rw [hg] at W
      obtain ⟨S3, f3⟩ := S2.gm Y H W
      have K3 := K2.same (tl_sameC.W W (by have := H.2.2.2.1; omega)) sm3
      have h03 : (τc.1 a 12).toInt = 0 := by rw [sm3.1 12 (by decide) (by decide)]; exact h02
      obtain ⟨c4, m4, K4, g4⟩ := tl_adv2 S3.1 M3.1 K3
      obtain ⟨S4, f4⟩ := S3.rd Y H c4.S2
      have M4 := M3.rd Y.1 ha m4.S2
      have h04 : ((F_X12_next X τc a).1 a 12).toInt = 0 := by rw [tn_12 m4]; exact h03
      have R4 : tb_R (y_up V 1 2 vv) r (m_up c 3723 vv) w t := Rr.law ⟨v0, v1⟩
      have pP : tb_P X a τ (F_X12_next X τc a) := p2.tr ((tb_P.mk M2 M3 (fun j a b => m_up_ne (by omega)) (fun _ _ _ => rfl)).tr (tb_P.rd Y.1 ha m4.S2))
      have k3b := K3.b
      have k4b := K4.b
      have s15 : τc.1 a 15 = τb.1 a 15 := sm3.1 15 (by decide) (by decide)
      obtain ⟨z, σ2, e2, o⟩ := tb_semi Y H ha (σ := σ) (τ := τ) ⟨S4, M4, K4, h04, R4⟩ (((f1.tr f2).tr f3).tr f4) pP (by rw [e16] at g2; rw [s15] at k3b; omega) (by rw [e16] at g2; rw [s15] at k3b; omega)
      refine ⟨z, σ2, ?_, _, e1, o⟩
      rw [q_letE, q_letE, q_biE, e2]
    rw [iw 3 ⟨by decide, by decide⟩]
    by_cases w3 : (τb.1 a 14).toInt = 1 ∧ (τb.2.1 a 19).toInt = y_cw 3
    · rw [if_pos w3, if_neg (by decide)]
      have l3 : (F_X12_lawWord X τb a).toInt = 0 := by rw [lw, if_pos w3]
      obtain ⟨z, σ', e1, τ', e2, o⟩ := go 0 0 rfl (by decide) (by decide) l3
      rw [e2]
      exact ⟨z, σ', e1, o⟩
    · rw [if_neg w3, if_pos rfl, q_letE (F_X3_isWord X σb D 4), iw 4 ⟨by decide, by decide⟩]
      by_cases w4 : (τb.1 a 14).toInt = 1 ∧ (τb.2.1 a 19).toInt = y_cw 4
      · rw [if_pos w4, if_neg (by decide)]
        have l3 : (F_X12_lawWord X τb a).toInt = 1 := by rw [lw, if_neg w3, if_pos w4]
        obtain ⟨z, σ', e1, τ', e2, o⟩ := go 1 1 rfl (by decide) (by decide) l3
        rw [e2]
        exact ⟨z, σ', e1, o⟩
      · rw [if_neg w4, if_pos rfl, q_letE (F_X3_isWord X σb D 5), iw 5 ⟨by decide, by decide⟩]
        by_cases w5 : (τb.1 a 14).toInt = 1 ∧ (τb.2.1 a 19).toInt = y_cw 5
        · rw [if_pos w5, if_neg (by decide)]
          have l3 : (F_X12_lawWord X τb a).toInt = 2 := by rw [lw, if_neg w3, if_neg w4, if_pos w5]
          obtain ⟨z, σ', e1, τ', e2, o⟩ := go 2 2 rfl (by decide) (by decide) l3
          rw [e2]
          exact ⟨z, σ', e1, o⟩
        · rw [if_neg w5, if_pos rfl]
          have l3 : (F_X12_lawWord X τb a).toInt = -1 := by rw [lw, if_neg w3, if_neg w4, if_neg w5]
          obtain ⟨τc, e1, M3, sm3⟩ := mk (-1) (by decide) (by decide) l3
          rw [if_pos (by decide)] at e1
          have K3 := K2.same tl_sameC.rf sm3
          have h03 : (τc.1 a 12).toInt = 0 := by rw [sm3.1 12 (by decide) (by decide)]; exact h02
          obtain ⟨σ', a1, a2, a3, a4⟩ := tl_wrong (X := X) K3 h03
          rw [e1, q_biE, a1]
          exact ⟨0, σ', rfl, tb_O.bad ((f1.tr f2).tr (S2.rd Y H a2).2) (p2.tr ((tb_P.mk M2 M3 (fun j a b => m_up_ne (by omega)) (fun _ _ _ => rfl)).tr (tb_P.rd Y.1 ha a3))) rfl a4 _⟩
  · rw [if_neg q9, if_neg q9, q_letE, q_letE, q_letE]
    obtain ⟨σ', a1, a2, a3, a4⟩ := tl_fail (X := X) K h0 (by omega) (k := 5) (by decide) (w := τ.1 a 15) rfl
    rw [if_pos a4.2.1, q_biE, a1]
    exact ⟨0, σ', rfl, tb_O.bad (S.rd Y H a2).2 (tb_P.rd Y.1 ha a3) rfl a4 _⟩
theorem tb_readMost (Y : y_S X lb) (H : tb_D X lb D T g) (ha : q_kd X a = 12) (I : tb_I X D T g a n B σ τ V r c w t f9 f10) (h1 : (τ.1 a 14).toInt = 1) :
    ∃ (z : Int32) (σ' : ST), F_X9_readMost X σ D = (z, σ') ∧ tb_O X lb D T g a n B σ τ σ' (F_X12_must X (F_X12_readMost X τ a) a (F_X12_isSign X (F_X12_readMost X τ a) a 59)) z := by
  obtain ⟨S, M, K, h0, Rr⟩ := I
  have kb := K.b
  unfold F_X9_readMost F_X12_readMost
  rw [q_letE (σ.1 D 10), q_letE (τ.1 a 26), S.2.2.2.2, M.2.2.2.2.2.1]
  by_cases q9 : f10 = 0
  · rw [if_pos q9, if_pos q9, q_letE (τ.1 a 12), h0, if_neg (by decide : ¬ (0 : Int) < 0), q_letE (q_si σ D 10 1), q_letE (q_si τ a 26 1)]
    obtain ⟨S1, f1⟩ := S.s10 Y H 1
    obtain ⟨M1, sm1⟩ := M.s10 Y.1 ha 1
    have K1 := K.same (tl_sameC.s10 1) sm1
    have h01 : ((q_si τ a 26 1).1 a 12).toInt = 0 := by rw [sm1.1 12 (by decide) (by decide)]; exact h0
    have p1 : tb_P X a τ (q_si τ a 26 1) := tb_P.mk M M1 (fun _ _ _ => rfl) (fun _ _ _ => rfl)
    have e16 : (q_si τ a 26 1).1 a 16 = τ.1 a 16 := sm1.1 16 (by decide) (by decide)
    obtain ⟨σa, hσa⟩ : ∃ s, s = q_si σ D 10 1 := ⟨_, rfl⟩
    obtain ⟨τa, hτa⟩ : ∃ s, s = q_si τ a 26 1 := ⟨_, rfl⟩
    rw [← hσa] at S1 f1 K1 ⊢
    rw [← hτa] at M1 K1 h01 p1 e16 ⊢
    rw [q_letE (F_X3_advance X σa D), q_letE (F_X12_next X τa a)]
    obtain ⟨c1, m1, K2, g2⟩ := tl_adv2 S1.1 M1.1 K1
    obtain ⟨S2, f2⟩ := S1.rd Y H c1.S2
    have M2 := M1.rd Y.1 ha m1.S2
    have p2 := p1.tr (tb_P.rd Y.1 ha m1.S2)
    have h02 : ((F_X12_next X τa a).1 a 12).toInt = 0 := by rw [tn_12 m1]; exact h01
    obtain ⟨σb, hσb⟩ : ∃ s, s = F_X3_advance X σa D := ⟨_, rfl⟩
    obtain ⟨τb, hτb⟩ : ∃ s, s = F_X12_next X τa a := ⟨_, rfl⟩
    rw [← hσb] at S2 f2 K2 ⊢
    rw [← hτb] at M2 K2 g2 h02 p2 ⊢
    obtain ⟨z, y, σc, τc, e1, e2, ⟨o1, o2, o3⟩, v1, v2⟩ := tl_passNum S2.1 M2.1 K2 h02 1 4 (by decide)
    obtain ⟨S3, f3⟩ := S2.rd Y H o1
    have M3 := M2.rd Y.1 ha o2
    have p3 := p2.tr (tb_P.rd Y.1 ha o2)
    rw [e1, e2, q_biP, q_biP, q_letE (q_si τc (q_rf X a 20) (3724 : Int32).toNatClampNeg y)]
    obtain ⟨M4, sm4⟩ := M3.cw Y.1 ha (i := 3724) (v := y) (A := 3724) rfl (by decide)
    have p4 : tb_P X a τ (q_si τc (q_rf X a 20) (3724 : Int32).toNatClampNeg y) := p3.tr (tb_P.mk M3 M4 (fun j a b => m_up_ne (by omega)) (fun _ _ _ => rfl))
    obtain ⟨τd, hτd⟩ : ∃ s, s = q_si τc (q_rf X a 20) (3724 : Int32).toNatClampNeg y := ⟨_, rfl⟩
    show ∃ (z' : Int32) (σ' : ST), (if z.toInt = -1 then ((0 : Int32), σc) else q_let (q_si σc (q_rf X (q_rf X D 8) 0) 3 z : ST) (fun σ_11 => q_bi (F_X3_passSemicolon X σ_11 D) (fun r_12 σ_13 => (r_12, σ_13)))) = (z', σ') ∧ tb_O X lb D T g a n B σ τ σ' (F_X12_must X (q_si τc (q_rf X a 20) (3724 : Int32).toNatClampNeg y) a (F_X12_isSign X (q_si τc (q_rf X a 20) (3724 : Int32).toNatClampNeg y) a 59)) z'
    rw [← hτd] at M4 sm4 p4 ⊢
    rcases o3 with ⟨q1, q2, q3, q4⟩ | ⟨q1, q2⟩
    · rw [if_neg q1, q_letE, q_biE]
      obtain ⟨w1, w2, w3⟩ := v1 q1
      have W := (y_W.rf (X := X) (lb := lb) (g := g) (o := 6) (σ := σc)).si Y H.2.2.1 (id := 1) (by decide) 3 z
      rw [S3.2.1] at W
      have hg : q_si σc (y_gA X g 1) 3 z = q_si σc (q_rf X (q_rf X D 8) 0) 3 z := by rw [H.2.1]; rfl
      rw [hg] at W
      obtain ⟨S4, f4⟩ := S3.gm Y H W
      have K4 := q2.same (tl_sameC.W W (by have := H.2.2.2.1; omega)) sm4
      have h04 : (τd.1 a 12).toInt = 0 := by rw [sm4.1 12 (by decide) (by decide)]; exact q3
      have e1_ : (1 : Int32).toInt = 1 := rfl
      have e4_ : (4 : Int32).toInt = 4 := rfl
      rw [e1_] at w2
      rw [e4_] at w3
      have R4 : tb_R (y_up V 1 ((3 : Nat) : Int) z.toInt) r (m_up c 3724 y.toInt) w t := by
        rw [w1]
        exact Rr.most ⟨w2, w3⟩
      have k2b := K2.b
      have k4b := K4.b
      have s15 : τd.1 a 15 = τc.1 a 15 := sm4.1 15 (by decide) (by decide)
      obtain ⟨z', σ2, e3, o⟩ := tb_semi Y H ha (σ := σ) (τ := τ) ⟨S4, M4, K4, h04, R4⟩ (((f1.tr f2).tr f3).tr f4) p4 (by rw [e16] at g2; rw [s15]; omega) (by rw [e16] at g2; rw [s15] at k4b; omega)
      rw [e3]
      exact ⟨z', σ2, rfl, o⟩
    · have qz : z.toInt = -1 := Classical.not_not.mp q1
      rw [if_pos qz]
      have F4 : tl_F σc D τd a := by
        obtain ⟨t1, t2, t3⟩ := q2
        refine ⟨?_, ?_, ?_⟩
        · rw [sm4.1 12 (by decide) (by decide)]; exact t1
        · rw [sm4.1 12 (by decide) (by decide)]; exact t2
        · rw [sm4.1 13 (by decide) (by decide)]; exact t3
      exact ⟨0, σc, rfl, tb_O.bad ((f1.tr f2).tr f3) p4 rfl F4 _⟩
  · rw [if_neg q9, if_neg q9, q_letE, q_letE, q_letE]
    obtain ⟨σ', a1, a2, a3, a4⟩ := tl_fail (X := X) K h0 (by omega) (k := 5) (by decide) (w := τ.1 a 15) rfl
    rw [if_pos a4.2.1, q_biE, a1]
    exact ⟨0, σ', rfl, tb_O.bad (S.rd Y H a2).2 (tb_P.rd Y.1 ha a3) rfl a4 _⟩
end TP
