/-! A PLAYER TOLD -/
/-- letters f put from place b on, s of them -/
def y_ad (V : Nat → Int → Int) (id : Nat) (b s : Int) (f : Int → Int) : Nat → Int → Int := fun id' i => if id' = id ∧ b ≤ i ∧ i < b + s then f (i - b) else V id' i
theorem y_ad0 {V : Nat → Int → Int} {id : Nat} {b : Int} {f : Int → Int} : y_ad V id b 0 f = V := by
  funext j i
  show (if j = id ∧ b ≤ i ∧ i < b + 0 then f (i - b) else V j i) = V j i
  rw [if_neg (by omega)]
theorem y_ad_s {V : Nat → Int → Int} {id : Nat} {b s v : Int} {f : Int → Int} (h : 0 ≤ s) (hv : v = f s) : y_up (y_ad V id b s f) id (b + s) v = y_ad V id b (s + 1) f := by
  subst hv
  funext j i
  show (if j = id ∧ i = b + s then f s else if j = id ∧ b ≤ i ∧ i < b + s then f (i - b) else V j i) = if j = id ∧ b ≤ i ∧ i < b + (s + 1) then f (i - b) else V j i
  by_cases q : j = id ∧ i = b + s
  · obtain ⟨rfl, rfl⟩ := q
    rw [if_pos ⟨rfl, rfl⟩, if_pos ⟨rfl, by omega, by omega⟩]
    congr 1
    omega
  · rw [if_neg q]
    by_cases q2 : j = id ∧ b ≤ i ∧ i < b + s
    · rw [if_pos q2, if_pos ⟨q2.1, q2.2.1, by omega⟩]
    · rw [if_neg q2, if_neg]
      rintro ⟨e1, e2, e3⟩
      exact q2 ⟨e1, e2, by have : i ≠ b + s := fun e => q ⟨e1, e⟩; omega⟩
theorem y_ad_ne {V : Nat → Int → Int} {id id' : Nat} {b s i : Int} {f : Int → Int} (h : id' ≠ id) : y_ad V id b s f id' i = V id' i := by
  refine if_neg ?_
  rintro ⟨h1, _⟩
  exact h h1
theorem y_up_id (V : Nat → Int → Int) (id : Nat) (i : Int) : y_up V id i (V id i) = V := by
  funext j k
  show (if j = id ∧ k = i then V id i else V j k) = V j k
  by_cases q : j = id ∧ k = i
  · rw [if_pos q, q.1, q.2]
  · rw [if_neg q]
theorem m_up_id (c : Int → Int) (A : Int) : m_up c A (c A) = c := by
  funext j
  show (if j = A then c A else c j) = c j
  by_cases q : j = A
  · rw [if_pos q, q]
  · rw [if_neg q]
section TQ
variable {X : XW} {lb : Nat → Nat} {D T g a : Nat} {σ τ σ' τ' σ1 τ1 : ST} {n : Int} {B : Int → Int} {V : Nat → Int → Int} {r c w t : Int → Int} {f9 f10 : Int}
theorem tc_E.W {o : Nat} {V' : Nat → Int → Int} (E : tc_E X σ D T n B) (h : y_W X lb g o σ σ' V') (hD : lb D / 8192 ≠ o) (hT : lb T / 8192 ≠ o) : tc_E X σ' D T n B := by
  obtain ⟨e1, e2, e3, e4, e5, e6⟩ := E
  exact ⟨by rw [h.2.1]; exact e1, by rw [h.1 D hD]; exact e2, e3, e4, e5, fun p p0 p1 => by rw [h.1 T hT]; exact e6 p p0 p1⟩
theorem tc_addL (Y : y_S X lb) (H : tb_D X lb D T g) (E : tc_E X σ D T n B) {b e : Int} (hb : (σ.1 D 2).toInt = b) (he : (σ.1 D 3).toInt = e) (h0 : 0 ≤ b) (hbe : b ≤ e) (hen : e ≤ n) (h8 : e - b ≤ 8) {P : Int} (hP : 0 ≤ P ∧ P < 6) (k : Nat) : ∀ (x : Int32) (ρ : ST), (2147483647 - x.toInt).toNat < k → 0 ≤ x.toInt → x.toInt ≤ e - b → y_W X lb g 6 σ ρ (y_ad V 5 (8 * P) x.toInt (fun j => B (b + j))) → V 1 4 = P →
    ∃ ρ' : ST, F_X6_addPlayer_L21_1 X D (q_rf X g 0) k x ρ = F_X6_addPlayer_E56_2 X ρ' (q_rf X g 0) D ∧ y_W X lb g 6 σ ρ' (y_ad V 5 (8 * P) (e - b) (fun j => B (b + j))) := by
  have E3 := E.2.2.1
  have hD : lb D / 8192 ≠ 6 := by have := H.2.2.2.1; omega
  have hT : lb T / 8192 ≠ 6 := by have := H.2.2.2.2.1; omega
  induction k with
  | zero => intro x ρ hm; exact absurd hm (Nat.not_lt_zero _)
  | succ k ih =>
    intro x ρ hm x0 x1 W hV
    have Eρ := E.W W hD hT
    have b2 : (ρ.1 D 2).toInt = b := by rw [W.1 D hD]; exact hb
    have b3 : (ρ.1 D 3).toInt = e := by rw [W.1 D hD]; exact he
    have sz : (F_X3_size X ρ D).toInt = e - b := by
      simp only [F_X3_size, ↓q_letE]
      rw [ar_sub, b3, b2, ar_wr (by omega) (by omega)]
    have p4 : (ρ.1 (q_rf X g 0) 4).toInt = P := by
      have z := y_v_rdn (X := X) (g := g) (σ := ρ) (id := 1) (by decide) 4
      rw [W.2.2, y_ad_ne (by decide)] at z
      exact z.trans hV
    rw [F_X6_addPlayer_L21_1_s]
    simp only [F_X6_addPlayer_B21_1, ↓q_letE]
    rw [sz]
    by_cases q : x.toInt < e - b
    · rw [if_pos q]
      have e8 : (8 : Int32).toInt = 8 := rfl
      have ei : (ρ.1 (q_rf X g 0) 4 * 8 + x).toInt = 8 * P + x.toInt := by rw [ar_add, ar_mul, p4, e8, ar_wr (n := P * 8) (by omega) (by omega), ar_wr (by omega) (by omega)]; omega
      have sg := tc_sig Eρ b2 ⟨h0, by omega⟩ (v := x) rfl ⟨x0, by omega⟩
      rw [tx_D_in (by omega) (by omega)] at sg
      have gn : ((y_gn 5 : Nat) : Int) = 48 := rfl
      have W2 := W.set Y H.2.2.1 (id := 5) (r := q_rf X (q_rf X g 0) 6) ⟨by decide, by decide⟩ rfl (ρ.1 (q_rf X g 0) 4 * 8 + x) (F_X3_signAt X ρ D x) (by rw [ei]; omega) (by rw [ei, gn]; omega)
      rw [ei, sg] at W2
      have e1 : (x + 1).toInt = x.toInt + 1 := y_inc (by omega)
      have zz := ih (x + 1) _ (by omega) (by omega) (by omega) (by rw [e1]; exact W2.eq (y_ad_s x0 rfl)) hV
      exact zz
    · rw [if_neg q]
      have ex : x.toInt = e - b := by omega
      rw [ex] at W
      exact ⟨ρ, rfl, W⟩
theorem tc_addPlayer (Y : y_S X lb) (H : tb_D X lb D T g) (E : tc_E X σ D T n B) {b e : Int} (hb : (σ.1 D 2).toInt = b) (he : (σ.1 D 3).toInt = e) (h0 : 0 ≤ b) (hbe : b ≤ e) (hen : e ≤ n) (h8 : e - b ≤ 8) {P : Int} (hP : 0 ≤ P ∧ P < 6) (hv : y_v X g σ = V) (hV : V 1 4 = P) : y_W X lb g 6 σ (F_X6_addPlayer X σ (q_rf X g 0) D) (y_up (y_up (y_ad V 5 (8 * P) (e - b) (fun j => B (b + j))) 6 P (e - b)) 1 4 (P + 1)) := by
  have E3 := E.2.2.1
  have hD : lb D / 8192 ≠ 6 := by have := H.2.2.2.1; omega
  have hT : lb T / 8192 ≠ 6 := by have := H.2.2.2.2.1; omega
  have sz : (F_X3_size X σ D).toInt = e - b := by
    simp only [F_X3_size, ↓q_letE]
    rw [ar_sub, he, hb, ar_wr (by omega) (by omega)]
  have p4 : (σ.1 (q_rf X g 0) 4).toInt = P := by
    have z := y_v_rdn (X := X) (g := g) (σ := σ) (id := 1) (by decide) 4
    rw [hv] at z
    exact z.trans hV
  have W0 : y_W X lb g 6 σ σ (y_ad V 5 (8 * P) (0 : Int32).toInt (fun j => B (b + j))) := by
    have z0 : (0 : Int32).toInt = 0 := rfl
    rw [z0, y_ad0]
    exact y_W.rf.eq hv
  obtain ⟨ρ', a1, a2⟩ := tc_addL Y H E hb he h0 hbe hen h8 hP ((2147483647 - (0 : Int32).toInt).toNat + 1) 0 σ (by decide) (by decide) (by show (0 : Int) ≤ _; omega) W0 hV
  unfold F_X6_addPlayer
  rw [q_letE, p4, if_pos (by omega), q_letE, sz, if_neg (by omega), a1]
  have b2 : (ρ'.1 D 2).toInt = b := by rw [a2.1 D hD]; exact hb
  have b3 : (ρ'.1 D 3).toInt = e := by rw [a2.1 D hD]; exact he
  have sz2 : (F_X3_size X ρ' D).toInt = e - b := by
    simp only [F_X3_size, ↓q_letE]
    rw [ar_sub, b3, b2, ar_wr (by omega) (by omega)]
  have p5 : (ρ'.1 (q_rf X g 0) 4).toInt = P := by
    have z := y_v_rdn (X := X) (g := g) (σ := ρ') (id := 1) (by decide) 4
    rw [a2.2.2, y_ad_ne (by decide)] at z
    exact z.trans hV
  unfold F_X6_addPlayer_E56_2
  rw [q_letE, q_letE, q_letE, q_letE, q_letE, q_letE]
  have gn : ((y_gn 6 : Nat) : Int) = 6 := rfl
  have W3 := a2.set Y H.2.2.1 (id := 6) (r := q_rf X (q_rf X g 0) 7) ⟨by decide, by decide⟩ rfl (ρ'.1 (q_rf X g 0) 4) (F_X3_size X ρ' D) (by rw [p5]; omega) (by rw [p5, gn]; omega)
  rw [p5, sz2] at W3
  obtain ⟨ρ2, hρ2⟩ : ∃ s, s = F_X5_set X ρ' (q_rf X (q_rf X g 0) 7) (ρ'.1 (q_rf X g 0) 4) (F_X3_size X ρ' D) := ⟨_, rfl⟩
  rw [← hρ2] at W3 ⊢
  have p6 : (ρ2.1 (q_rf X g 0) 4).toInt = P := by
    have z := y_v_rdn (X := X) (g := g) (σ := ρ2) (id := 1) (by decide) 4
    rw [W3.2.2, y_up_ne (Or.inl (by decide)), y_ad_ne (by decide)] at z
    exact z.trans hV
  have W4 := W3.si Y H.2.2.1 (id := 1) (by decide) 4 (ρ2.1 (q_rf X g 0) 4 + 1)
  rw [y_inc (by omega), p6] at W4
  exact W4
/-- lies and doubts, if they are told -/
theorem tb_six (Y : y_S X lb) (H : tb_D X lb D T g) (ha : q_kd X a = 12) (S : tb_S X D T g σ n B V r f9 f10) (M : tb_M X a τ n B c w t f9 f10) (K : tl_K σ D τ a B n) (h0 : (τ.1 a 12).toInt = 0) {rr : Nat} (hrr : y_isw rr) {flag : Int32} (hfl : flag.toInt = if (τ.1 a 14).toInt = 1 ∧ (τ.2.1 a 19).toInt = y_cw rr then 1 else 0) {id row : Nat} (hid : id = 10 ∨ id = 11) (hrow : q_rf X row 0 = y_gA X g id) {pl : Int32} {P : Int} (hpl : pl.toInt = P) (hP : 0 ≤ P ∧ P < 6) {Ab : Int32} {A : Int} (hA : Ab.toInt = A) (hA2 : 3730 ≤ A ∧ A ≤ 3736) (hVc : V id P = c (A + P)) :
    ∃ (z : Int32) (σ' τ' : ST) (v u : Int), F_X9_readSixteenths X σ D rr row pl = (z, σ') ∧
      (∀ Kc : ST → ST, (if flag.toInt = 0 then Kc τ else q_let (F_X12_next X τ a : ST) (fun s1 => q_let (Ab + pl : Int32) (fun z1 => q_bi (F_X12_count X s1 a (0 : Int32) (16 : Int32)) (fun r1 s2 => q_let (q_si s2 (q_rf X a 20) z1.toNatClampNeg r1 : ST) (fun s3 => Kc s3))))) = Kc τ') ∧
      (z.toInt = 0 ∨ z.toInt = 1) ∧ tb_F X lb D σ σ' ∧ tb_S X D T g σ' n B (y_up V id P u) r f9 f10 ∧ tb_M X a τ' n B (m_up c (A + P) v) w t f9 f10 ∧
      ((z.toInt = 1 ∧ u = v ∧ tl_K σ' D τ' a B n ∧ (τ'.1 a 12).toInt = 0 ∧ (τ.1 a 15).toInt ≤ (τ'.1 a 15).toInt) ∨ (z.toInt = 0 ∧ tl_F σ' D τ' a)) := by
  have hDn : lb D / 8192 ≠ 6 := by have := H.2.2.2.1; omega
  unfold F_X9_readSixteenths
  rw [q_letE, tl_isWord S.1 K hrr, hfl]
  by_cases q : (τ.1 a 14).toInt = 1 ∧ (τ.2.1 a 19).toInt = y_cw rr
  · rw [if_pos q, if_neg (by decide), q_letE, q_biE]
    obtain ⟨c1, m1, K2, g2⟩ := tl_adv2 S.1 M.1 K
    obtain ⟨S2, f2⟩ := S.rd Y H c1.S2
    have M2 := M.rd Y.1 ha m1.S2
    have h02 : ((F_X12_next X τ a).1 a 12).toInt = 0 := by rw [tn_12 m1]; exact h0
    have kb := K.b
    obtain ⟨σb, hσb⟩ : ∃ s, s = F_X3_advance X σ D := ⟨_, rfl⟩
    obtain ⟨τb, hτb⟩ : ∃ s, s = F_X12_next X τ a := ⟨_, rfl⟩
    rw [← hσb] at S2 f2 K2 ⊢
    rw [← hτb] at M2 K2 g2 h02 ⊢
    obtain ⟨z, y, σc, τc, e1, e2, ⟨o1, o2, o3⟩, v1, v2⟩ := tl_passNum S2.1 M2.1 K2 h02 0 16 (by decide)
    obtain ⟨S3, f3⟩ := S2.rd Y H o1
    have M3 := M2.rd Y.1 ha o2
    have gn : ((y_gn id : Nat) : Int) = 6 := by rcases hid with h | h <;> rw [h] <;> rfl
    have W := (y_W.rf (X := X) (lb := lb) (g := g) (o := 6) (σ := σc)).set Y H.2.2.1 (id := id) (r := row) ⟨by omega, by omega⟩ hrow pl z (by omega) (by rw [gn]; omega)
    rw [S3.2.1, hpl] at W
    obtain ⟨S4, f4⟩ := S3.gm Y H W
    have ei : (Ab + pl).toInt = A + P := by rw [ar_add, hA, hpl, ar_wr (by omega) (by omega)]
    obtain ⟨M4, sm4⟩ := M3.cw Y.1 ha (i := Ab + pl) (v := y) ei (by omega)
    have e0_ : (0 : Int32).toInt = 0 := rfl
    have e16_ : (16 : Int32).toInt = 16 := rfl
    have sC : tl_sameC D σc (F_X5_set X σc row pl z) := tl_sameC.W W hDn
    rw [e1]
    refine ⟨(if z.toInt = -1 then 0 else 1), F_X5_set X σc row pl z, q_si τc (q_rf X a 20) (Ab + pl).toNatClampNeg y, y.toInt, z.toInt, ?_, fun Kc => ?_, ?_, (f2.tr f3).tr f4, S4, M4, ?_⟩
    · rw [q_letE]
      show (if z.toInt = -1 then ((0 : Int32), F_X5_set X σc row pl z) else ((1 : Int32), F_X5_set X σc row pl z)) = _
      split <;> rfl
    · rw [if_neg (by decide), q_letE, q_letE, e2, q_biP, q_letE]
    · split
      · exact Or.inl rfl
      · exact Or.inr rfl
    · rcases o3 with ⟨q1, q2, q3, q4⟩ | ⟨q1, q2⟩
      · rw [if_neg q1]
        refine Or.inl ⟨rfl, (v1 q1).1, q2.same sC sm4, ?_, ?_⟩
        · rw [sm4.1 12 (by decide) (by decide)]; exact q3
        · rw [sm4.1 15 (by decide) (by decide)]; have := K2.b; omega
      · have qz : z.toInt = -1 := Classical.not_not.mp q1
        rw [if_pos qz]
        obtain ⟨t1, t2, t3⟩ := q2
        refine Or.inr ⟨rfl, ?_, ?_, ?_⟩
        · rw [sm4.1 12 (by decide) (by decide), sC 6 (by decide) (by decide)]; exact t1
        · rw [sm4.1 12 (by decide) (by decide)]; exact t2
        · rw [sm4.1 13 (by decide) (by decide), sC 7 (by decide) (by decide)]; exact t3
  · rw [if_neg q, if_pos rfl]
    refine ⟨1, σ, τ, c (A + P), V id P, rfl, fun Kc => by rw [if_pos rfl], Or.inr rfl, tb_F.rf, by rw [y_up_id]; exact S, by rw [m_up_id]; exact M, Or.inl ⟨rfl, hVc, K, h0, Int.le_refl _⟩⟩
/-- a new player stands in the relation -/
theorem tb_R.player {b e P v1 v2 : Int} (h : tb_R V r c w t) (hP : c 3722 = P) (hP6 : 0 ≤ P ∧ P < 6) (hbe : b < e) (h8 : e - b ≤ 8) (hl : ∀ j, b ≤ j → j < e → tx_le (B j)) :
    tb_R (y_up (y_up (y_up (y_up (y_ad V 5 (8 * P) (e - b) (fun j => B (b + j))) 6 P (e - b)) 1 4 (P + 1)) 10 P v1) 11 P v2) r (m_up (m_up (m_up c (3730 + P) v1) (3736 + P) v2) 3722 (P + 1)) (m_up w (24 + P) (tx_wv B b (e - b).toNat)) t := by
  obtain ⟨⟨⟨n1, n2, n3, n4, n5⟩, n6, n7, n8, n9⟩, z, nm, hh, mn, k1, k2, k3⟩ := h
  have rd : ∀ (id : Nat) (i : Int), id ≠ 5 → (id = 6 → i ≠ P) → (id = 1 → i ≠ 4) → (id = 10 → i ≠ P) → (id = 11 → i ≠ P) → y_up (y_up (y_up (y_up (y_ad V 5 (8 * P) (e - b) (fun j => B (b + j))) 6 P (e - b)) 1 4 (P + 1)) 10 P v1) 11 P v2 id i = V id i := by
    intro id i h5 h6 h1 h10 h11
    rw [y_up_ne (by by_cases q : id = 11; exact Or.inr (h11 q); exact Or.inl q), y_up_ne (by by_cases q : id = 10; exact Or.inr (h10 q); exact Or.inl q), y_up_ne (by by_cases q : id = 1; exact Or.inr (h1 q); exact Or.inl q), y_up_ne (by by_cases q : id = 6; exact Or.inr (h6 q); exact Or.inl q), y_ad_ne h5]
  have rc : ∀ j : Int, j ≠ 3722 → j ≠ 3736 + P → j ≠ 3730 + P → m_up (m_up (m_up c (3730 + P) v1) (3736 + P) v2) 3722 (P + 1) j = c j := fun j a1 a2 a3 => by rw [m_up_ne a1, m_up_ne a2, m_up_ne a3]
  refine ⟨⟨⟨?_, ?_, ?_, ?_, ?_⟩, ?_, ?_, ?_, ?_⟩, ?_, ?_, ?_, ?_, ?_, ?_, ?_⟩
  · rw [rd 1 0 (by omega) (by omega) (by omega) (by omega) (by omega), rc _ (by decide) (by omega) (by omega)]; exact n1
  · rw [rd 1 1 (by omega) (by omega) (by omega) (by omega) (by omega), rc _ (by decide) (by omega) (by omega)]; exact n2
  · rw [rd 1 2 (by omega) (by omega) (by omega) (by omega) (by omega), rc _ (by decide) (by omega) (by omega)]; exact n3
  · rw [rd 1 3 (by omega) (by omega) (by omega) (by omega) (by omega), rc _ (by decide) (by omega) (by omega)]; exact n4
  · rw [y_up_ne (Or.inl (by decide)), y_up_ne (Or.inl (by decide)), y_up_eq, m_up_eq]
  · intro k a1 a2
    rw [rd 4 k (by omega) (by omega) (by omega) (by omega) (by omega), m_sum_up a1 (by decide), m_sum_up a1 (by omega), m_sum_up a1 (by omega)]
    exact n6 k a1 a2
  · intro j a1 a2
    rw [rd 7 j (by omega) (by omega) (by omega) (by omega) (by omega), rc _ (by omega) (by omega) (by omega)]
    exact n7 j a1 a2
  · intro p a1 a2
    rw [rd 9 p (by omega) (by omega) (by omega) (by omega) (by omega), m_S_up (by omega), m_S_up (by omega), m_S_up (by omega)]
    exact n8 p a1 a2
  · intro p a1 a2
    by_cases q : p = P
    · subst q
      rw [y_up_ne (Or.inl (by decide)), y_up_eq, y_up_eq, m_up_ne (by omega), m_up_ne (by omega), m_up_eq, m_up_ne (by omega), m_up_eq]
      exact ⟨rfl, rfl⟩
    · rw [rd 10 p (by omega) (by omega) (by omega) (fun _ => q) (by omega), rd 11 p (by omega) (by omega) (by omega) (by omega) (fun _ => q), rc _ (by omega) (by omega) (by omega), rc _ (by omega) (by omega) (by omega)]
      exact n9 p a1 a2
  · have ad : tb_Z (y_ad V 5 (8 * P) (e - b) (fun j => B (b + j))) := by
      obtain ⟨z1, z2, z3⟩ := z
      refine ⟨fun j a b => by rw [y_ad_ne (by decide)]; exact z1 j a b, fun j a b => by rw [y_ad_ne (by decide), y_ad_ne (by decide)]; exact z2 j a b, ?_⟩
      rw [y_ad_ne (by decide), y_ad_ne (by decide), y_ad_ne (by decide), y_ad_ne (by decide), y_ad_ne (by decide), y_ad_ne (by decide), y_ad_ne (by decide), y_ad_ne (by decide), y_ad_ne (by decide)]
      exact z3
    exact (((ad.up (by omega)).up (by omega)).up (by omega)).up (by omega)
  · rw [m_up_eq]
    intro p p0 p1
    have r5 : ∀ i : Int, y_up (y_up (y_up (y_up (y_ad V 5 (8 * P) (e - b) (fun j => B (b + j))) 6 P (e - b)) 1 4 (P + 1)) 10 P v1) 11 P v2 5 i = y_ad V 5 (8 * P) (e - b) (fun j => B (b + j)) 5 i := fun i => by rw [y_up_ne (Or.inl (by decide)), y_up_ne (Or.inl (by decide)), y_up_ne (Or.inl (by decide)), y_up_ne (Or.inl (by decide))]
    by_cases q : p = P
    · subst q
      have e6 : y_up (y_up (y_up (y_up (y_ad V 5 (8 * p) (e - b) (fun j => B (b + j))) 6 p (e - b)) 1 4 (p + 1)) 10 p v1) 11 p v2 6 p = e - b := by rw [y_up_ne (Or.inl (by decide)), y_up_ne (Or.inl (by decide)), y_up_ne (Or.inl (by decide)), y_up_eq]
      have e5 : ∀ i : Int, 0 ≤ i → i < e - b → y_up (y_up (y_up (y_up (y_ad V 5 (8 * p) (e - b) (fun j => B (b + j))) 6 p (e - b)) 1 4 (p + 1)) 10 p v1) 11 p v2 5 (8 * p + i) = B (b + i) := by
        intro i i0 i1
        rw [r5]
        show (if (5 : Nat) = 5 ∧ 8 * p ≤ 8 * p + i ∧ 8 * p + i < 8 * p + (e - b) then B (b + (8 * p + i - 8 * p)) else _) = _
        rw [if_pos ⟨rfl, by omega, by omega⟩]
        congr 1
        omega
      rw [e6, m_up_eq]
      refine ⟨⟨by omega, h8⟩, fun i i0 i1 => by rw [e5 i i0 i1]; exact hl _ (by omega) (by omega), ?_⟩
      refine tx_wv_ext (fun i hi => ?_)
      show B (b + (i : Int)) = _
      rw [Int.zero_add, e5 (i : Int) (Int.natCast_nonneg i) (by omega)]
    · obtain ⟨a1, a2, a3⟩ := nm p p0 (by omega)
      have e6 : y_up (y_up (y_up (y_up (y_ad V 5 (8 * P) (e - b) (fun j => B (b + j))) 6 P (e - b)) 1 4 (P + 1)) 10 P v1) 11 P v2 6 p = V 6 p := rd 6 p (by omega) (fun _ => q) (by omega) (by omega) (by omega)
      have e5 : ∀ i : Int, 0 ≤ i → i < V 6 p → y_up (y_up (y_up (y_up (y_ad V 5 (8 * P) (e - b) (fun j => B (b + j))) 6 P (e - b)) 1 4 (P + 1)) 10 P v1) 11 P v2 5 (8 * p + i) = V 5 (8 * p + i) := by
        intro i i0 i1
        rw [r5]
        show (if (5 : Nat) = 5 ∧ 8 * P ≤ 8 * p + i ∧ 8 * p + i < 8 * P + (e - b) then _ else V 5 (8 * p + i)) = _
        rw [if_neg (by omega)]
      rw [e6, m_up_ne (by omega)]
      refine ⟨a1, fun i i0 i1 => by rw [e5 i i0 i1]; exact a2 i i0 i1, ?_⟩
      rw [a3]
      refine tx_wv_ext (fun i hi => ?_)
      show V 5 (8 * p + (0 + (i : Int))) = _
      rw [Int.zero_add, e5 (i : Int) (Int.natCast_nonneg i) (by omega)]
  · exact ((hh.up (by omega) (fun q => by omega)).up (by omega) (fun q => by omega)).up (by decide) (fun _ => by rw [m_up_ne (by omega), m_up_ne (by omega)]; omega)
  · exact ((mn.wr m_up_e (by omega)).wr m_up_e (by omega)).wr m_up_e (by omega)
  · rw [rc _ (by decide) (by omega) (by omega)]; exact k1
  · rw [rc _ (by decide) (by omega) (by omega)]; exact k2
  · rw [rc _ (by decide) (by omega) (by omega)]; exact k3
end TQ
