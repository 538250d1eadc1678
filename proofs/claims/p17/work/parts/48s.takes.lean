/-! BOTH TAKE A TABLE -/
section TM
variable {X : XW} {lb : Nat → Nat} {D T g a : Nat} {σ τ σ' τ' σ1 τ1 τ0 : ST} {n : Int} {B : Int → Int} {V : Nat → Int → Int} {r c w t : Int → Int} {f9 f10 : Int}
theorem tm_L51 (k : Nat) : ∀ (x : Int32) (τ : ST), (2147483647 - x.toInt).toNat < k → 0 ≤ x.toInt → x.toInt ≤ 60 → tkl (fun b _ => b = q_rf X a 22) (fun _ _ => False) τ0 τ → (∀ j : Int, 0 ≤ j → j < x.toInt → (τ.1 (q_rf X a 22) j.toNat).toInt = 0) →
    ∃ τ' : ST, F_X12_table_L51_3 X a k x τ = F_X12_table_E70_7 X τ' a ∧ tkl (fun b _ => b = q_rf X a 22) (fun _ _ => False) τ0 τ' ∧ ∀ j : Int, 0 ≤ j → j < 60 → (τ'.1 (q_rf X a 22) j.toNat).toInt = 0 := by
  induction k with
  | zero => intro x τ hm; exact absurd hm (Nat.not_lt_zero _)
  | succ k ih =>
    intro x τ hm h0 h1 ht hz
    have hb := ar_bd x
    rw [F_X12_table_L51_3_s]
    unfold F_X12_table_B51_3
    by_cases q : x.toInt < 60
    · rw [if_pos q, q_letE, q_letE]
      have e : (x + 1).toInt = x.toInt + 1 := y_inc (by omega)
      refine ih (x + 1) _ (by omega) (by omega) (by omega) (ht.si _ rfl) (fun p p0 p1 => ?_)
      show (if q_rf X a 22 = q_rf X a 22 ∧ p.toNat = x.toNatClampNeg then (0 : Int32) else τ.1 (q_rf X a 22) p.toNat).toInt = 0
      by_cases q2 : p = x.toInt
      · rw [if_pos ⟨rfl, by rw [ar_cl, q2]⟩]
        rfl
      · rw [if_neg (fun z => q2 (by have := z.2; rw [ar_cl] at this; omega))]
        exact hz p p0 (by omega)
    · rw [if_neg q]
      exact ⟨τ, rfl, ht, fun p p0 p1 => hz p p0 (by omega)⟩
theorem tm_L25 (k : Nat) : ∀ (x : Int32) (τ : ST), (2147483647 - x.toInt).toNat < k → 0 ≤ x.toInt → x.toInt ≤ 930 → tkl (fun b _ => b = q_rf X a 20) (fun _ _ => False) τ0 τ → (∀ j : Int, 0 ≤ j → m_c X τ a j = if 3720 ≤ j ∧ j < 3720 + x.toInt then 0 else m_c X τ0 a j) →
    ∃ τ' : ST, F_X12_table_L25_1 X a k x τ = F_X12_table_L51_3 X a ((2147483647 - (0 : Int32).toInt).toNat + 1) (0 : Int32) τ' ∧ tkl (fun b _ => b = q_rf X a 20) (fun _ _ => False) τ0 τ' ∧ ∀ j : Int, 0 ≤ j → m_c X τ' a j = if 3720 ≤ j ∧ j < 4650 then 0 else m_c X τ0 a j := by
  induction k with
  | zero => intro x τ hm; exact absurd hm (Nat.not_lt_zero _)
  | succ k ih =>
    intro x τ hm h0 h1 ht hz
    have hb := ar_bd x
    rw [F_X12_table_L25_1_s]
    unfold F_X12_table_B25_1
    by_cases q : x.toInt < 930
    · rw [if_pos q, q_letE, q_letE, q_letE]
      have e : (x + 1).toInt = x.toInt + 1 := y_inc (by omega)
      have ei : ((3720 : Int32) + x).toInt = 3720 + x.toInt := by
        have e3 : (3720 : Int32).toInt = 3720 := rfl
        rw [ar_add, e3, ar_wr (by omega) (by omega)]
      refine ih (x + 1) _ (by omega) (by omega) (by omega) (ht.si _ rfl) (fun j j0 => ?_)
      rw [m_wr (X := X) (a := a) rfl ei (by omega) j j0, hz j j0, e]
      have z0 : (0 : Int32).toInt = 0 := rfl
      by_cases q2 : j = 3720 + x.toInt
      · rw [if_pos q2, if_pos ⟨by omega, by omega⟩, z0]
      · rw [if_neg q2]
        by_cases q3 : 3720 ≤ j ∧ j < 3720 + x.toInt
        · rw [if_pos q3, if_pos ⟨q3.1, by omega⟩]
        · rw [if_neg q3, if_neg (fun z => q3 ⟨z.1, by omega⟩)]
    · rw [if_neg q]
      refine ⟨τ, rfl, ht, fun j j0 => ?_⟩
      rw [hz j j0]
      by_cases q3 : 3720 ≤ j ∧ j < 4650
      · rw [if_pos q3, if_pos ⟨q3.1, by omega⟩]
      · rw [if_neg q3, if_neg (fun z => q3 ⟨z.1, by omega⟩)]
/-- cells kept by the class's reading -/
def tb_G (X : XW) (lb : Nat → Nat) (D : Nat) (σ σ' : ST) : Prop := (∀ b, lb b / 8192 ≠ 6 → b ≠ D → b ≠ tb_T X D → ∀ f, σ'.1 b f = σ.1 b f) ∧ σ'.2.1 = σ.2.1 ∧ ∀ b, b ≠ D → σ'.2.2 b = σ.2.2 b
theorem tb_F.tg (h : tb_F X lb D σ σ') : tb_G X lb D σ σ' := ⟨h.1, by rw [h.2.2], fun b _ => by rw [h.2.2]⟩
theorem tb_G.tr {ρ : ST} (h : tb_G X lb D σ σ') (k : tb_G X lb D σ' ρ) : tb_G X lb D σ ρ := ⟨fun b b1 b2 b3 f => (k.1 b b1 b2 b3 f).trans (h.1 b b1 b2 b3 f), k.2.1.trans h.2.1, fun b q => (k.2.2 b q).trans (h.2.2 b q)⟩
theorem tb_TT (H : tb_D X lb D T g) : T ≠ tb_T X D := by
  intro e
  have h7 := H.2.2.2.2.2.2.1
  have h9 := H.2.2.2.2.2.2.2.2
  rw [← e, h9] at h7
  exact absurd h7 (by decide)
/-- the class's new game, its flags and hands, and its text -/
theorem tb_begin (Y : y_S X lb) (H : tb_D X lb D T g) (hTl : q_ln X T = 900) (hTD : T ≠ D) {v : Int32} (hv : v.toInt = n) (hn : 0 ≤ n ∧ n ≤ 900) (hB : ∀ p : Int, 0 ≤ p → p < n → (σ.1 T p.toNat).toInt = B p ∧ -128 ≤ B p ∧ B p ≤ 127) :
    ∃ (ρ : ST) (V : Nat → Int → Int), F_X9_takes X σ D T v = q_bi (F_X9_readHead X (F_X3_advance X ρ D) D) (fun r_9 σ_10 => if r_9.toInt = 0 then ((0 : Int32), σ_10) else F_X9_takes_L41_1 X D ((2147483647 - (0 : Int32).toInt).toNat + 1) (0 : Int32) σ_10) ∧ tb_S X D T g ρ n B V (fun _ => 0) 0 0 ∧ tb_Rv V ∧ (ρ.1 D 3).toInt = 0 ∧ (ρ.1 D 6).toInt = 0 ∧ (ρ.1 D 7).toInt = -1 ∧ tb_G X lb D σ ρ := by
  have hD : lb D / 8192 ≠ 6 := by have := H.2.2.2.1; omega
  have hT : lb T / 8192 ≠ 6 := by have := H.2.2.2.2.1; omega
  have hA : lb (tb_T X D) / 8192 ≠ 6 := by have := H.2.2.2.2.2.1; omega
  have hTA := tb_TT H
  have hDA : D ≠ tb_T X D := Ne.symm (tb_TD H)
  obtain ⟨V, W, Rv⟩ := tb_reset (σ := σ) Y H.2.2.1
  unfold F_X9_takes
  rw [← H.2.1, q_letE (F_X0_reset X σ g)]
  obtain ⟨σ2, h2⟩ : ∃ s, s = F_X0_reset X σ g := ⟨_, rfl⟩
  rw [← h2] at W ⊢
  rw [q_letE (q_si σ2 D 9 0), q_letE (q_si (q_si σ2 D 9 0) D 10 0)]
  have t4 : tk (fun b f => b = D ∧ (f = 9 ∨ f = 10)) σ2 (q_si (q_si σ2 D 9 0) D 10 0) := (tk.rf.si _ ⟨rfl, Or.inl rfl⟩).si _ ⟨rfl, Or.inr rfl⟩
  have d9 : (q_si (q_si σ2 D 9 0) D 10 0).1 D 9 = 0 := by rw [si_f (by decide), si_eq]
  have d10 : (q_si (q_si σ2 D 9 0) D 10 0).1 D 10 = 0 := si_eq _ _ _ _
  obtain ⟨σ4, h4⟩ : ∃ s, s = q_si (q_si σ2 D 9 0) D 10 0 := ⟨_, rfl⟩
  rw [← h4] at t4 d9 d10 ⊢
  rw [q_letE (F_X5_clear X σ4 (q_rf X D 11))]
  obtain ⟨t6, z6⟩ := tb_clear (X := X) (D := D) (σ := σ4) H.2.2.2.2.2.2.2.1
  obtain ⟨σ6, h6⟩ : ∃ s, s = F_X5_clear X σ4 (q_rf X D 11) := ⟨_, rfl⟩
  rw [← h6] at t6 z6 ⊢
  have b6 : ∀ p : Int, 0 ≤ p → p < n → (σ6.1 T p.toNat).toInt = B p ∧ -128 ≤ B p ∧ B p ≤ 127 := fun p p0 p1 => by
    rw [t6.1 T _ hTA, t4.1 T _ (fun q => hTD q.1), W.1 T hT]
    exact hB p p0 p1
  obtain ⟨ρ, e1, E, e3, e6, e7, k⟩ := tc_start hTl hTD hv hn b6
  rw [e1, q_letE (F_X3_advance X ρ D)]
  have kD : ∀ b, b ≠ D → b ≠ tb_T X D → ∀ f, ρ.1 b f = σ2.1 b f := fun b b1 b2 f => by
    rw [k.1 b f (fun q => b1 q.1), t6.1 b f b2, t4.1 b f (fun q => b1 q.1)]
  refine ⟨ρ, V, rfl, ⟨E, ?_, fun p p0 p1 => ?_, ?_, ?_⟩, Rv, e3, e6, e7, fun b b1 b2 b3 f => ?_, ?_, fun b b1 => ?_⟩
  · rw [tb_v Y H (fun b b1 b2 f => kD b b1 b2 f)]
    exact W.2.2
  · rw [k.1 _ _ (fun q => (tb_TD H) q.1)]
    exact z6 p p0 p1
  · rw [k.1 D 9 (fun q => by have := q.2; omega), t6.1 D 9 hDA, d9]
    rfl
  · rw [k.1 D 10 (fun q => by have := q.2; omega), t6.1 D 10 hDA, d10]
    rfl
  · rw [kD b b2 b3]
    exact W.1 b b1 f
  · rw [k.2.1, t6.2, t4.2, W.2.1]
  · rw [k.2.2 b b1, t6.2, t4.2, W.2.1]
/-- both take a table out of the same bytes -/
theorem tb_takes (Y : y_S X lb) (H : tb_D X lb D T g) (ha : q_kd X a = 12) (hTl : q_ln X T = 900) (hTD : T ≠ D) {v : Int32} (hv : v.toInt = n) (hn : 0 ≤ n ∧ n ≤ 900) (hB : ∀ p : Int, 0 ≤ p → p < n → (σ.1 T p.toNat).toInt = B p ∧ -128 ≤ B p ∧ B p ≤ 127) (M0 : tm_E X τ a n B) (h16 : (τ.1 a 16).toInt = 0) (h12 : (τ.1 a 12).toInt = 0) (h0a : (τ.1 a 0).toInt = 0) (h8a : (τ.1 a 8).toInt = 0) :
    ∃ (z : Int32) (σ' τ' : ST), F_X9_takes X σ D T v = (z, σ') ∧ F_X12_table_L25_1 X a ((2147483647 - (0 : Int32).toInt).toNat + 1) (0 : Int32) (F_X12_next X τ a) = F_X12_table_E232_6 X τ' a ∧ tb_G X lb D σ σ' ∧ tb_P X a τ τ' ∧
      ((z.toInt = 1 ∧ ∃ (V : Nat → Int → Int) (r c w t : Int → Int) (f9 f10 : Int), tb_I X D T g a n B σ' τ' V r c w t f9 f10) ∨ (z.toInt = 0 ∧ tl_F σ' D τ' a)) := by
  have z0 : (0 : Int32).toInt = 0 := rfl
  obtain ⟨k20, k22, k23, k7⟩ := tb_k Y.1 ha
  have n20a : a ≠ q_rf X a 20 := Ne.symm (m_ne k20 ha (by decide))
  have n22a : a ≠ q_rf X a 22 := Ne.symm (m_ne k22 ha (by decide))
  have n207 : q_rf X a 7 ≠ q_rf X a 20 := m_ne k7 k20 (by decide)
  have n227 : q_rf X a 7 ≠ q_rf X a 22 := m_ne k7 k22 (by decide)
  obtain ⟨ρ, V, e, S, Rv, e3, e6, e7, G0⟩ := tb_begin Y H hTl hTD hv hn hB
  rw [e]
  obtain ⟨c1, m1, K, -⟩ := tl_adv S.1 M0 e3 h16 ⟨Int.le_refl 0, hn.1⟩ e6 e7
  obtain ⟨S1, f1⟩ := S.rd Y H c1.S2
  have p1 : tb_P X a τ (F_X12_next X τ a) := tb_P.rd Y.1 ha m1.S2
  have M1 := M0.k2 m1.S2
  have h01 : ((F_X12_next X τ a).1 a 12).toInt = 0 := by rw [tn_12 m1]; exact h12
  obtain ⟨σ1, hσ1⟩ : ∃ s, s = F_X3_advance X ρ D := ⟨_, rfl⟩
  obtain ⟨τ1, hτ1⟩ : ∃ s, s = F_X12_next X τ a := ⟨_, rfl⟩
  rw [← hσ1] at K S1 f1 ⊢
  rw [← hτ1] at K M1 h01 p1 ⊢
  obtain ⟨τ2, e2, t2, c2⟩ := tm_L25 (X := X) (a := a) (τ0 := τ1) ((2147483647 - (0 : Int32).toInt).toNat + 1) 0 τ1 (by decide) (by decide) (by decide) tkl.rf (fun j j0 => by rw [if_neg (by omega)])
  obtain ⟨τ3, e4, t3, c3⟩ := tm_L51 (X := X) (a := a) (τ0 := τ2) ((2147483647 - (0 : Int32).toInt).toNat + 1) 0 τ2 (by decide) (by decide) (by decide) tkl.rf (fun j j0 j1 => by omega)
  rw [e2, e4, tm_E70]
  have s13 : tl_same a τ1 τ3 := ⟨fun f _ _ => (t3.1 a f n22a).trans (t2.1 a f n20a), (t3.2.1 a 19 (fun q => q)).trans (t2.2.1 a 19 (fun q => q))⟩
  have M3 : tb_M X a τ3 n B (m_c X τ3 a) (m_wd X τ3 a) (fun _ => 0) (τ3.1 a 25).toInt (τ3.1 a 26).toInt := by
    obtain ⟨x1, x2, x3, x4⟩ := M1
    refine ⟨⟨?_, x2, x3, fun p p0 p1 => ?_⟩, rfl, rfl, c3, rfl, rfl, ?_, ?_⟩
    · rw [t3.1 a 9 n22a, t2.1 a 9 n20a]
      exact x1
    · rw [t3.1 _ _ n227, t2.1 _ _ n207]
      exact x4 p p0 p1
    · rw [t3.1 a 0 n22a, t2.1 a 0 n20a, p1.2.2.1]
      exact h0a
    · rw [t3.1 a 8 n22a, t2.1 a 8 n20a, p1.2.2.2]
      exact h8a
  have mc3 : ∀ j : Int, 0 ≤ j → m_c X τ3 a j = if 3720 ≤ j ∧ j < 4650 then 0 else m_c X τ1 a j := fun j j0 => by
    rw [← c2 j j0]
    exact congrArg Int32.toInt (t3.1 _ _ (m_ne k20 k22 (by decide)))
  have mw3 : ∀ j : Int, m_wd X τ3 a j = m_wd X τ1 a j := fun j => (congrArg Int64.toInt (t3.2.1 _ _ (fun q => q))).trans (congrArg Int64.toInt (t2.2.1 _ _ (fun q => q)))
  obtain ⟨M4, s4⟩ := M3.s9 Y.1 ha 0
  obtain ⟨M5, s5⟩ := M4.s10 Y.1 ha 0
  obtain ⟨M6, s6⟩ := M5.cw Y.1 ha (i := 3724) (v := 4) (A := 3724) rfl (by decide)
  have e4_ : (4 : Int32).toInt = 4 := rfl
  rw [z0, e4_] at M6
  rw [q_letE (q_si τ3 a 25 0), q_letE (q_si (q_si τ3 a 25 0) a 26 0), q_letE (q_si (q_si (q_si τ3 a 25 0) a 26 0) (q_rf X a 20) (3724 : Int32).toNatClampNeg 4)]
  have s16 := ((s13.tr s4).tr s5).tr s6
  obtain ⟨τ6, hτ6⟩ : ∃ s, s = q_si (q_si (q_si τ3 a 25 0) a 26 0) (q_rf X a 20) (3724 : Int32).toNatClampNeg 4 := ⟨_, rfl⟩
  rw [← hτ6] at M6 s16 ⊢
  have K6 := K.same (tl_sameC.rf (σ := σ1)) s16
  have h06 : (τ6.1 a 12).toInt = 0 := by rw [s16.1 12 (by decide) (by decide)]; exact h01
  have R0 : tb_R0 V (fun _ => 0) (m_up (m_c X τ3 a) 3724 4) (fun _ => 0) := by
    obtain ⟨v1, v2, v3, v4, v5⟩ := Rv
    refine ⟨v1, v2, v3, v4, v5, fun _ _ _ => rfl, fun j a1 a2 => ?_, fun _ _ _ => rfl⟩
    show (if j = 3724 then (4 : Int) else m_c X τ3 a j) = if j = 3724 then 4 else 0
    by_cases q : j = 3724
    · rw [if_pos q, if_pos q]
    · rw [if_neg q, if_neg q, mc3 j (by omega), if_pos ⟨a1, a2⟩]
  have p6 : tb_P X a τ1 τ6 := by
    refine ⟨fun j a1 a2 => ?_, fun j a1 a2 => ?_, M6.2.2.2.2.2.2.1.trans (p1.2.2.1.trans h0a).symm, M6.2.2.2.2.2.2.2.trans (p1.2.2.2.trans h8a).symm⟩
    · rw [M6.2.1, m_up_ne (by omega), mc3 j a1, if_neg (by omega)]
    · rw [M6.2.2.1]
      exact mw3 j
  obtain ⟨z1, σ7, τ7, e8, e9, u1, u2, u3⟩ := tb_head Y H ha S1 M6 K6 h06 R0 (tm_Kc X a)
  rw [e8, q_biP, e9]
  rcases u3 with ⟨q1, V', r', c', w', t', f9', f10', I⟩ | ⟨q1, q2⟩
  · rw [if_neg (by omega : ¬ z1.toInt = 0)]
    unfold tm_Kc
    have h07 := I.2.2.2.1
    have b7 := I.2.2.1.2.2.2.2.2.2.1
    obtain ⟨z, σ8, τ8, a1, a2, x1, x2, x3⟩ := tb_takesL Y H ha ((2147483647 - (0 : Int32).toInt).toNat + 1) ((901 - (τ7.1 a 15).toInt).toNat + (1 - (τ7.1 a 12).toInt).toNat + 1) 0 σ7 τ7 V' r' c' w' t' f9' f10' (by decide) (by omega) (by decide) (by rw [z0]; exact b7) I
    rw [a1, a2]
    exact ⟨z, σ8, τ8, rfl, rfl, ((G0.tr f1.tg).tr u1.tg).tr x1.tg, ((p1.tr p6).tr u2).tr x2, x3⟩
  · have q3 := q2.2.1
    rw [if_pos q1]
    unfold tm_Kc
    obtain ⟨m, hm⟩ : ∃ m, m = (901 - (τ7.1 a 15).toInt).toNat + (1 - (τ7.1 a 12).toInt).toNat := ⟨_, rfl⟩
    rw [← hm, F_X12_table_L145_5_s, tm_B145, if_neg (by omega : ¬ (τ7.1 a 12).toInt = 0)]
    exact ⟨0, σ7, τ7, rfl, rfl, (G0.tr f1.tg).tr u1.tg, (p1.tr p6).tr u2, Or.inr ⟨rfl, q2⟩⟩
end TM
