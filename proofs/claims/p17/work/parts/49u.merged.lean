/-! FROM 49u.when.lean.txt -/
/-! A ROUND BEING READ: a when -/
/-- what a when's line and step have -/
def rd_w (U : Nat → Int → Int) (c : Int → Int) (l W : Int) : Prop :=
  (c (W + 6) = 0 ∧ U 1 l = 5 ∧ U 3 l = c (W + 1) ∧ U 4 l = c (W + 7) ∧ U 5 l = c (W + 2)) ∨ (c (W + 6) = 1 ∧ U 1 l = 6 ∧ U 4 l = c (W + 7) ∧ U 5 l = c (W + 2)) ∨ (c (W + 6) = 2 ∧ U 1 l = 7 ∧ U 3 l = c (W + 1) ∧ U 4 l = c (W + 7) ∧ U 5 l = c (W + 2)) ∨ (c (W + 6) = 3 ∧ U 1 l = 8)
theorem rd_1.tr {U U1 U2 : Nat → Int → Int} {c c1 c2 : Int → Int} {l W : Int} (h : rd_1 U U1 c c1 l W) (k : rd_1 U1 U2 c1 c2 l W) : rd_1 U U2 c c2 l W := ⟨fun id i q => (k.1 id i q).trans (h.1 id i q), fun j q => (k.2 j q).trans (h.2 j q)⟩
section RU
variable {X : XW} {lb : Nat → Nat} {R T a g : Nat} {σ τ σ' τ' : ST} {n dp s l W : Int} {B c w : Int → Int} {U Vg : Nat → Int → Int}
theorem hn_val (r : Int32) {k : Int} (h : r.toInt = k) (σ0 : ST) : (F_X8_hasName X σ0 r).toInt = if k = 1 ∨ k = 2 ∨ k = 5 ∨ k = 7 then 1 else 0 := by
  unfold F_X8_hasName
  rw [h]
  by_cases q1 : k = 1
  · rw [if_pos q1, if_pos (Or.inl q1)]; rfl
  · rw [if_neg q1]
    by_cases q2 : k = 2
    · rw [if_pos q2, if_pos (Or.inr (Or.inl q2))]; rfl
    · rw [if_neg q2]
      by_cases q5 : k = 5
      · rw [if_pos q5, if_pos (Or.inr (Or.inr (Or.inl q5)))]; rfl
      · rw [if_neg q5]
        by_cases q7 : k = 7
        · rw [if_pos q7, if_pos (Or.inr (Or.inr (Or.inr q7)))]; rfl
        · rw [if_neg q7, if_neg (by omega)]; rfl
theorem hn_1 (r : Int32) {k : Int} (h : r.toInt = k) (σ0 : ST) (q : k = 1 ∨ k = 2 ∨ k = 5 ∨ k = 7) : (F_X8_hasName X σ0 r).toInt = 1 := by rw [hn_val r h, if_pos q]
theorem hn_0 (r : Int32) {k : Int} (h : r.toInt = k) (σ0 : ST) (q : ¬ (k = 1 ∨ k = 2 ∨ k = 5 ∨ k = 7)) : (F_X8_hasName X σ0 r).toInt = 0 := by rw [hn_val r h, if_neg q]
/-- the class's operands behind a test: without a name, with one -/
theorem op_tail (Y : y_S X lb) (D : rd_D X lb R T) (ha : q_kd X a = 12) (G : y_G X lb g 1) (I : rd_I X R T a g n B Vg w σ τ U dp c s) (hP6 : 0 ≤ c 2 ∧ c 2 ≤ 6) (hP : Vg 1 4 = c 2) (N : y_nm Vg w 0 (c 2)) {v x t : Int32} (hv : v.toInt = l) (hl : 0 ≤ l ∧ l < 60) (hx : x.toInt = W) (hW : 3720 ≤ W ∧ W ≤ 5000) (ht : 0 ≤ t.toInt ∧ t.toInt ≤ 2) (hU : U 1 l = 5 + t.toInt) (hc6 : c (W + 6) = t.toInt) :
    ∃ (z : Int32) (σ' : ST), F_X4_readOperands X σ R v (q_rf X g 0) = (z, σ') ∧ rd_O X R T a g n B Vg w dp s σ τ z σ' (if t.toInt = 1 then F_X12_readTest_J50_2 X a t x τ else q_let (x + (1 : Int32) : Int32) (fun z_164 => q_bi (F_X12_readTold X τ a (0 : Int32)) (fun r_166 σ_167 => q_let (q_si σ_167 (q_rf X a 20) z_164.toNatClampNeg r_166 : ST) (fun σ_168 => F_X12_readTest_J50_2 X a t x σ_168)))) (fun U' c' => rd_1 U U' c c' l W ∧ rd_w U' c' l W) := by
  have I0 := I
  obtain ⟨S, M, K, h0, hV⟩ := I
  have one : (1 : Int32).toInt = 1 := rfl
  have n1 : ((rdN 1 : Nat) : Int) = 60 := rfl
  have kb := K.b
  have r1 : (F_X5_get X σ (q_rf X (q_rf X R 8) 3) v).toInt = 5 + t.toInt := (S.get Y D (id := 1) (r := q_rf X (q_rf X R 8) 3) ⟨by decide, by decide⟩ rfl hv hl.1 (by rw [n1]; exact hl.2)).trans hU
  have i1 : (x + 1).toInt = W + 1 := by rw [ar_add, hx, one, ar_wr (by omega) (by omega)]
  obtain ⟨r, hr⟩ : ∃ r, r = F_X5_get X σ (q_rf X (q_rf X R 8) 3) v := ⟨_, rfl⟩
  rw [← hr] at r1
  unfold F_X4_readOperands
  rw [q_letE (F_X5_get X σ (q_rf X (q_rf X R 8) 3) v), ← hr, q_letE (F_X8_hasName X σ r)]
  by_cases q : t.toInt = 1
  · rw [hn_0 r r1 σ (by omega), if_pos rfl, if_pos q]
    obtain ⟨z, σ', e, fr, o⟩ := op_cmp Y D ha G I0 hv hl hx hW ht r1
    refine ⟨z, σ', e, fr, ?_⟩
    rcases o with ⟨o1, ⟨U', c', I', p1, p2, p3, p4, p5, p6, p7⟩, o3⟩ | o
    · exact Or.inl ⟨o1, ⟨U', c', I', p1, Or.inr (Or.inl ⟨by rw [p5, hc6]; exact q, by rw [p2, hU]; omega, p6, p7⟩)⟩, o3⟩
    · exact Or.inr o
  · rw [hn_1 r r1 σ (by omega), if_neg (by decide : ¬ (1 : Int) = 0), if_neg q]
    obtain ⟨z, y, σ1, τ1, e1, e2, o⟩ := op_player Y D ha G I0 hP6 hP N hv hl i1 (by omega)
    rw [e1, q_biP z σ1, q_letE (x + 1), e2, q_biP y τ1, q_letE (q_si τ1 (q_rf X a 20) (x + 1).toNatClampNeg y)]
    rcases o with ⟨q1, I2, fr2, g2⟩ | ⟨q1, F1, fr1⟩
    · rw [if_neg q1, q_letE (F_X5_set X σ1 (q_rf X (q_rf X R 8) 5) v z)]
      obtain ⟨z3, σ3, e3, fr3, o⟩ := op_cmp Y D ha G I2 hv hl hx hW ht r1
      rw [e3]
      have k2 := I2.2.2.1.b
      refine ⟨z3, σ3, rfl, fr2.tr fr3, ?_⟩
      rcases o with ⟨o1, ⟨U', c', I', p1, p2, p3, p4, p5, p6, p7⟩, o3⟩ | o
      · refine Or.inl ⟨o1, ⟨U', c', I', ?_, ?_⟩, by omega⟩
        · refine rd_1.tr ⟨fun id i h => ?_, fun j h => ?_⟩ p1
          · rw [y_up_ne (by omega)]
          · rw [m_up_ne (by omega)]
        · have f6 : c' (W + 6) = t.toInt := by rw [p5, m_up_ne (by omega)]; exact hc6
          have fU : U' 1 l = 5 + t.toInt := by rw [p2, y_up_ne (Or.inl (by decide))]; exact hU
          have f3 : U' 3 l = c' (W + 1) := by rw [p3, p4, y_up_eq, m_up_eq]
          by_cases qt : t.toInt = 0
          · exact Or.inl ⟨by omega, by omega, f3, p6, p7⟩
          · exact Or.inr (Or.inr (Or.inl ⟨by omega, by omega, f3, p6, p7⟩))
      · exact Or.inr o
    · have j50 : F_X12_readTest_J50_2 X a t x (q_si τ1 (q_rf X a 20) (x + 1).toNatClampNeg y) = q_si τ1 (q_rf X a 20) (x + 1).toNatClampNeg y := by
        unfold F_X12_readTest_J50_2
        rw [q_letE, if_pos F1.2.1]
      rw [if_pos q1, j50]
      exact ⟨0, σ1, rfl, fr1, Or.inr ⟨rfl, F1⟩⟩
/-- a when: its test, a name, a comparison -/
theorem op_when (Y : y_S X lb) (D : rd_D X lb R T) (ha : q_kd X a = 12) (G : y_G X lb g 1) (I : rd_I X R T a g n B Vg w σ τ U dp c s) (hP6 : 0 ≤ c 2 ∧ c 2 ≤ 6) (hP : Vg 1 4 = c 2) (N : y_nm Vg w 0 (c 2)) {v x : Int32} (hv : v.toInt = l) (hl : 0 ≤ l ∧ l < 60) (hx : x.toInt = W) (hW : 3720 ≤ W ∧ W ≤ 5000) (hk : c W = 3) (hU : U 1 l = 8) :
    ∃ (z : Int32) (σ' : ST), q_bi (F_X4_readTest X σ R v) (fun r1 σ1 => if r1.toInt = 0 then ((0 : Int32), σ1) else F_X4_readOperands X σ1 R v (q_rf X g 0)) = (z, σ') ∧ rd_O X R T a g n B Vg w dp s σ τ z σ' (F_X12_readRest X τ a x) (fun U' c' => rd_1 U U' c c' l W ∧ rd_w U' c' l W) := by
  have I0 := I
  obtain ⟨S, M, K, h0, hV⟩ := I
  have six : (6 : Int32).toInt = 6 := rfl
  have n1 : ((rdN 1 : Nat) : Int) = 60 := rfl
  have kb := K.b
  have i6 : (x + 6).toInt = W + 6 := by rw [ar_add, hx, six, ar_wr (by omega) (by omega)]
  have f1 : (τ.1 (q_rf X a 20) x.toNatClampNeg).toInt = 3 := (gm_cell M.2.1 hx).trans hk
  have hT := Y.1
  have tw := tm_testWord (X := X) (σ := τ) (a := a)
  have c18 : y_cw 18 = 3197075 := rfl
  have c19 : y_cw 19 = 267312 := rfl
  have c20 : y_cw 20 = 20201198 := rfl
  have c21 : y_cw 21 = 24046 := rfl
  rw [← c18, ← c19, ← c20, ← c21] at tw
  have iw : ∀ rr : Nat, y_isw rr → (F_X3_isWord X σ R rr).toInt = if (τ.1 a 14).toInt = 1 ∧ (τ.2.1 a 19).toInt = y_cw rr then 1 else 0 := fun rr hr => tl_isWord S.1 K hr
  have ref : F_X12_readRest X τ a x = F_X12_readTest X τ a x := by
    unfold F_X12_readRest
    rw [q_letE (τ.1 (q_rf X a 20) x.toNatClampNeg), f1, if_neg (by decide : ¬ (3 : Int) = 1), if_neg (by decide : ¬ (3 : Int) = 2), if_pos rfl, q_letE]
  rw [ref]
  unfold F_X12_readTest
  rw [q_letE (F_X12_testWord X τ a)]
  obtain ⟨t, ht⟩ : ∃ t, t = F_X12_testWord X τ a := ⟨_, rfl⟩
  rw [← ht] at tw ⊢
  -- the class's word of test k, the action put down
  have good : ∀ (k A : Int32), t.toInt = k.toInt → 0 ≤ k.toInt → k.toInt ≤ 2 → A.toInt = 5 + k.toInt → ∃ (z : Int32) (σ' : ST), F_X4_readOperands X (F_X3_advance X (F_X5_set X σ (q_rf X (q_rf X R 8) 3) v A) R) R v (q_rf X g 0) = (z, σ') ∧ rd_O X R T a g n B Vg w dp s σ τ z σ' (if t.toInt < 0 then F_X12_readTest_J15_1 X τ a x t (0 : Int32) else F_X12_readTest_J15_1 X τ a x t (1 : Int32)) (fun U' c' => rd_1 U U' c c' l W ∧ rd_w U' c' l W) := by
    intro k A tk0 k0 k2 hA
    obtain ⟨S1, f1'⟩ := S.set Y D (id := 1) (r := q_rf X (q_rf X R 8) 3) ⟨by decide, by decide⟩ rfl hv A hl.1 (by rw [n1]; exact hl.2)
    have sc := rd_sameS (σ := σ) Y D (id := 1) (r := q_rf X (q_rf X R 8) 3) ⟨by decide, by decide⟩ rfl (x := v) A (by omega) (by rw [n1]; omega)
    have K1 := K.same sc (tl_same.rf (a := a) (τ := τ))
    have fr1 : rd_Fr X R a σ _ τ τ := rd_Fr.cl f1'
    obtain ⟨σ1, h1⟩ : ∃ t, t = F_X5_set X σ (q_rf X (q_rf X R 8) 3) v A := ⟨_, rfl⟩
    rw [← h1] at S1 f1' K1 fr1 ⊢
    obtain ⟨x1, x2, K2, g2⟩ := tl_adv2 S1.1 M.1 K1
    obtain ⟨S2, f2⟩ := S1.rd D x1.S2
    have M2 := M.rd hT ha x2.S2
    have fr2 := fr1.tr (rd_Fr.rd (τ := τ) hT ha D S1 x1.S2 x2.S2)
    have h02 : ((F_X12_next X τ a).1 a 12).toInt = 0 := by rw [tn_12 x2]; exact h0
    have mu := tm_must1 (X := X) (v := 1) h0 (by decide)
    obtain ⟨σ2, h2⟩ : ∃ t, t = F_X3_advance X σ1 R := ⟨_, rfl⟩
    obtain ⟨τ2, u2⟩ : ∃ t, t = F_X12_next X τ a := ⟨_, rfl⟩
    rw [← h2] at S2 f2 K2 fr2 ⊢
    rw [← u2] at M2 K2 fr2 h02 g2 mu
    obtain ⟨M3, sm3⟩ := M2.cw hT ha (i := x + 6) (v := t) i6 (by omega)
    have K3 := K2.same tl_sameC.rf sm3
    have fr3 := fr2.tr (rd_Fr.cw (τ := τ2) (v := t) hT ha (rd_F.rf (X := X) (R := R) (σ := σ2)) i6 (by omega))
    have V3 : y_v X g σ2 = Vg := by rw [fr2.1.v Y D G (by decide), hV]
    obtain ⟨τ3, u3⟩ : ∃ t', t' = q_si τ2 (q_rf X a 20) (x + 6).toNatClampNeg t := ⟨_, rfl⟩
    rw [← u3] at M3 sm3 K3 fr3
    have h03 : (τ3.1 a 12).toInt = 0 := by rw [sm3.1 12 (by decide) (by decide)]; exact h02
    rw [hA] at S2
    obtain ⟨z, σ', e, fr4, o⟩ := op_tail Y D ha G (v := v) (x := x) (t := t) ⟨S2, M3, K3, h03, V3⟩ (by rw [m_up_ne (by omega)]; exact hP6) (by rw [m_up_ne (by omega)]; exact hP) (by rw [m_up_ne (by omega)]; exact N) hv hl hx hW (by omega) (by rw [y_up_eq]; omega) (m_up_eq _ _ _)
    have rj : (if t.toInt < 0 then F_X12_readTest_J15_1 X τ a x t (0 : Int32) else F_X12_readTest_J15_1 X τ a x t (1 : Int32)) = (if t.toInt = 1 then F_X12_readTest_J50_2 X a t x τ3 else q_let (x + (1 : Int32) : Int32) (fun z_164 => q_bi (F_X12_readTold X τ3 a (0 : Int32)) (fun r_166 σ_167 => q_let (q_si σ_167 (q_rf X a 20) z_164.toNatClampNeg r_166 : ST) (fun σ_168 => F_X12_readTest_J50_2 X a t x σ_168)))) := by
      rw [if_neg (by omega)]
      unfold F_X12_readTest_J15_1
      rw [mu, q_letE τ2, q_letE (x + 6), q_letE (q_si τ2 (q_rf X a 20) (x + 6).toNatClampNeg t), ← u3]
      by_cases q0 : t.toInt = 0
      · rw [if_pos q0, if_neg (by omega)]
      · rw [if_neg q0]
        by_cases q2 : t.toInt = 2
        · rw [if_pos q2, if_neg (by omega)]
        · rw [if_neg q2, if_pos (by omega)]
    have k3b := K3.b
    have e15 : τ3.1 a 15 = τ2.1 a 15 := sm3.1 15 (by decide) (by decide)
    rw [rj]
    refine ⟨z, σ', e, fr3.tr fr4, ?_⟩
    rcases o with ⟨o1, ⟨U', c', I', p1, p2⟩, o3⟩ | o
    · refine Or.inl ⟨o1, ⟨U', c', I', rd_1.tr ⟨fun id i h => ?_, fun j h => ?_⟩ p1, p2⟩, by rw [e15] at o3; omega⟩
      · rw [y_up_ne (by omega)]
      · rw [m_up_ne (by omega)]
    · exact Or.inr o
  unfold F_X4_readTest
  rw [q_letE (F_X3_isWord X σ R 18), iw 18 ⟨by decide, by decide⟩]
  by_cases w18 : (τ.1 a 14).toInt = 1 ∧ (τ.2.1 a 19).toInt = y_cw 18
  · rw [if_pos w18] at tw
    rw [if_pos w18, if_neg (by decide : ¬ (1 : Int) = 0), q_letE (F_X5_set X σ (q_rf X (q_rf X R 8) 3) v 5), q_letE (F_X3_advance X (F_X5_set X σ (q_rf X (q_rf X R 8) 3) v 5) R), q_biP 1, if_neg (by decide : ¬ (1 : Int32).toInt = 0)]
    exact good 0 5 tw (by decide) (by decide) rfl
  rw [if_neg w18] at tw
  rw [if_neg w18, if_pos rfl, q_letE (F_X3_isWord X σ R 19), iw 19 ⟨by decide, by decide⟩]
  by_cases w19 : (τ.1 a 14).toInt = 1 ∧ (τ.2.1 a 19).toInt = y_cw 19
  · rw [if_pos w19] at tw
    rw [if_pos w19, if_neg (by decide : ¬ (1 : Int) = 0), q_letE (F_X5_set X σ (q_rf X (q_rf X R 8) 3) v 6), q_letE (F_X3_advance X (F_X5_set X σ (q_rf X (q_rf X R 8) 3) v 6) R), q_biP 1, if_neg (by decide : ¬ (1 : Int32).toInt = 0)]
    exact good 1 6 tw (by decide) (by decide) rfl
  rw [if_neg w19] at tw
  rw [if_neg w19, if_pos rfl, q_letE (F_X3_isWord X σ R 20), iw 20 ⟨by decide, by decide⟩]
  by_cases w20 : (τ.1 a 14).toInt = 1 ∧ (τ.2.1 a 19).toInt = y_cw 20
  · rw [if_pos w20] at tw
    rw [if_pos w20, if_neg (by decide : ¬ (1 : Int) = 0), q_letE (F_X5_set X σ (q_rf X (q_rf X R 8) 3) v 7), q_letE (F_X3_advance X (F_X5_set X σ (q_rf X (q_rf X R 8) 3) v 7) R), q_biP 1, if_neg (by decide : ¬ (1 : Int32).toInt = 0)]
    exact good 2 7 tw (by decide) (by decide) rfl
  rw [if_neg w20] at tw
  rw [if_neg w20, if_pos rfl, q_letE (F_X3_isWord X σ R 21), iw 21 ⟨by decide, by decide⟩]
  by_cases w21 : (τ.1 a 14).toInt = 1 ∧ (τ.2.1 a 19).toInt = y_cw 21
  · rw [if_pos w21] at tw
    rw [if_pos w21, if_neg (by decide : ¬ (1 : Int) = 0), q_letE (F_X3_advance X σ R), q_biP 1, if_neg (by decide : ¬ (1 : Int32).toInt = 0)]
    obtain ⟨x1, x2, K2, g2⟩ := tl_adv2 S.1 M.1 K
    obtain ⟨S2, f2⟩ := S.rd D x1.S2
    have M2 := M.rd hT ha x2.S2
    have fr2 := rd_Fr.rd (τ := τ) hT ha D S x1.S2 x2.S2
    have h02 : ((F_X12_next X τ a).1 a 12).toInt = 0 := by rw [tn_12 x2]; exact h0
    have mu := tm_must1 (X := X) (v := 1) h0 (by decide)
    obtain ⟨σ2, h2⟩ : ∃ t, t = F_X3_advance X σ R := ⟨_, rfl⟩
    obtain ⟨τ2, u2⟩ : ∃ t, t = F_X12_next X τ a := ⟨_, rfl⟩
    rw [← h2] at S2 f2 K2 fr2 ⊢
    rw [← u2] at M2 K2 fr2 h02 g2 mu
    obtain ⟨M3, sm3⟩ := M2.cw hT ha (i := x + 6) (v := t) i6 (by omega)
    have K3 := K2.same tl_sameC.rf sm3
    have fr3 := fr2.tr (rd_Fr.cw (τ := τ2) (v := t) hT ha (rd_F.rf (X := X) (R := R) (σ := σ2)) i6 (by omega))
    have V3 : y_v X g σ2 = Vg := by rw [fr2.1.v Y D G (by decide), hV]
    have h03 : ((q_si τ2 (q_rf X a 20) (x + 6).toNatClampNeg t).1 a 12).toInt = 0 := by rw [sm3.1 12 (by decide) (by decide)]; exact h02
    have rj : (if t.toInt < 0 then F_X12_readTest_J15_1 X τ a x t (0 : Int32) else F_X12_readTest_J15_1 X τ a x t (1 : Int32)) = q_si τ2 (q_rf X a 20) (x + 6).toNatClampNeg t := by
      rw [if_neg (by omega)]
      unfold F_X12_readTest_J15_1
      rw [mu, q_letE τ2, q_letE (x + 6), q_letE (q_si τ2 (q_rf X a 20) (x + 6).toNatClampNeg t), if_neg (by omega), if_neg (by omega)]
      unfold F_X12_readTest_J50_2
      rw [q_letE, h03, if_neg (by decide : ¬ (0 : Int) < 0), if_pos tw]
    have r1 : (F_X5_get X σ2 (q_rf X (q_rf X R 8) 3) v).toInt = 8 := (S2.get Y D (id := 1) (r := q_rf X (q_rf X R 8) 3) ⟨by decide, by decide⟩ rfl hv hl.1 (by rw [n1]; exact hl.2)).trans hU
    obtain ⟨r, hr⟩ : ∃ r, r = F_X5_get X σ2 (q_rf X (q_rf X R 8) 3) v := ⟨_, rfl⟩
    rw [← hr] at r1
    have hh : (F_X8_hasComparison X σ2 r).toInt = 0 := by
      unfold F_X8_hasComparison F_X8_isWhen
      have e8 : (8 : Int32).toInt = 8 := rfl
      rw [r1, if_neg (by decide), if_neg (by decide), q_letE, if_neg (by decide), if_pos rfl]
      rfl
    have hi : F_X8_highest X σ2 r = -1 := by
      unfold F_X8_highest
      rw [r1]
      rfl
    rw [rj]
    unfold F_X4_readOperands
    rw [q_letE (F_X5_get X σ2 (q_rf X (q_rf X R 8) 3) v), ← hr, q_letE (F_X8_hasName X σ2 r), hn_0 r r1 σ2 (by decide), if_pos rfl]
    unfold F_X4_readOperands_J47_1
    rw [q_letE (F_X8_hasComparison X σ2 r), hh, if_pos rfl, q_letE (F_X8_highest X σ2 r), hi, if_pos (by decide : (-1 : Int32).toInt = -1)]
    have e15 : (q_si τ2 (q_rf X a 20) (x + 6).toNatClampNeg t).1 a 15 = τ2.1 a 15 := sm3.1 15 (by decide) (by decide)
    refine ⟨1, σ2, rfl, fr3, Or.inl ⟨rfl, ⟨U, _, ⟨S2, M3, K3, h03, V3⟩, ⟨fun _ _ _ => rfl, fun j h => m_up_ne (by omega)⟩, Or.inr (Or.inr (Or.inr ⟨?_, hU⟩))⟩, by rw [e15]; omega⟩⟩
    rw [m_up_eq]
    exact tw
  · rw [if_neg w21] at tw
    obtain ⟨σ', y1, y2, y3, y4⟩ := tl_wrong (X := X) K h0
    have fr2 := rd_Fr.rd (τ := τ) hT ha D S y2 y3
    rw [if_neg w21, if_pos rfl, y1, q_biP 0 σ', q_biP 0 σ', if_pos (by decide : (0 : Int32).toInt = 0)]
    have mu := tm_must0 (X := X) (v := 0) h0 rfl
    have rj : (if t.toInt < 0 then F_X12_readTest_J15_1 X τ a x t (0 : Int32) else F_X12_readTest_J15_1 X τ a x t (1 : Int32)) = q_si (F_X12_wrong X τ a) (q_rf X a 20) (x + 6).toNatClampNeg t := by
      rw [if_pos (by omega)]
      unfold F_X12_readTest_J15_1
      rw [mu, q_letE (F_X12_wrong X τ a), q_letE (x + 6), q_letE (q_si (F_X12_wrong X τ a) (q_rf X a 20) (x + 6).toNatClampNeg t), if_neg (by omega), if_neg (by omega)]
      unfold F_X12_readTest_J50_2
      rw [q_letE, if_pos (y4.tab hT ha (x + 6).toNatClampNeg t).2.1]
    rw [rj]
    exact ⟨0, σ', rfl, fr2.tr (rd_Fr.cw hT ha rd_F.rf i6 (by omega)), Or.inr ⟨rfl, y4.tab hT ha _ _⟩⟩
end RU
