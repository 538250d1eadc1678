/-! FROM 49t.whens.lean.txt -/
/-! A ROUND BEING READ: a when's test -/
theorem is_sg {X : XW} {τ : ST} {a : Nat} (v : Int32) : (F_X12_isSign X τ a v).toInt = if (τ.1 a 14).toInt = 3 ∧ (τ.1 a 17).toInt = v.toInt then 1 else 0 := by
  unfold F_X12_isSign
  rw [q_letE]
  by_cases q : (τ.1 a 14).toInt = 3
  · rw [if_pos q, q_letE]
    by_cases q2 : (τ.1 a 17).toInt = v.toInt
    · rw [if_pos q2, if_pos ⟨q, q2⟩]; rfl
    · rw [if_neg q2, if_neg (fun z => q2 z.2)]; rfl
  · rw [if_neg q, if_neg (fun z => q z.1)]; rfl
noncomputable def tl_q (X : XW) (a : Nat) (x r : Int32) (τ5 : ST) : ST := q_let (x + (2 : Int32) : Int32) (fun z => if r.toInt = 2 then q_bi (F_X12_count X τ5 a (0 : Int32) (999 : Int32)) (fun p q => q_let (q_si q (q_rf X a 20) z.toNatClampNeg p : ST) (fun u => u)) else q_bi (F_X12_count X τ5 a (0 : Int32) (80 : Int32)) (fun p q => q_let (q_si q (q_rf X a 20) z.toNatClampNeg p : ST) (fun u => u)))
theorem tl_q2 {X : XW} {a : Nat} {τ5 : ST} (h : 0 < (τ5.1 a 12).toInt) (x r : Int32) : tl_q X a x r τ5 = q_si τ5 (q_rf X a 20) (x + 2).toNatClampNeg 0 := by
  unfold tl_q
  rw [q_letE]
  by_cases q : r.toInt = 2
  · rw [if_pos q, tm_count2 h, q_biP, q_letE]
  · rw [if_neg q, tm_count2 h, q_biP, q_letE]
section RT
variable {X : XW} {lb : Nat → Nat} {R T a g : Nat} {σ τ σ' τ' : ST} {n dp s l W : Int} {B c w : Int → Int} {U Vg : Nat → Int → Int}
theorem cmp_ref (hT : q_T X) (ha : q_kd X a = 12) (h0 : (τ.1 a 12).toInt = 0) (x r : Int32) (hr : r.toInt ≠ 3) (sg : (τ.1 a 14).toInt = 3 → (τ.1 a 17).toInt = 59 ∨ (τ.1 a 17).toInt = 60 ∨ (τ.1 a 17).toInt = 61 ∨ (τ.1 a 17).toInt = 62) :
    ((τ.1 a 14).toInt = 3 ∧ (τ.1 a 17).toInt ≠ 59 → F_X12_readTest_J50_2 X a r x τ = tl_q X a x r (F_X12_next X (q_si τ (q_rf X a 20) (x + 7).toNatClampNeg (τ.1 a 17)) a)) ∧
    (¬ ((τ.1 a 14).toInt = 3 ∧ (τ.1 a 17).toInt ≠ 59) → ∃ v : Int32, F_X12_readTest_J50_2 X a r x τ = tl_q X a x r (F_X12_wrong X (q_si τ (q_rf X a 20) (x + 7).toNatClampNeg v) a)) := by
  have na : a ≠ q_rf X a 20 := Ne.symm (m_ne (tb_k hT ha).1 ha (by decide))
  have e60 : (60 : Int32).toInt = 60 := rfl
  have e61 : (61 : Int32).toInt = 61 := rfl
  have e62 : (62 : Int32).toInt = 62 := rfl
  have st : ∀ (v : Int32) (f : Nat), (q_si τ (q_rf X a 20) (x + 7).toNatClampNeg v).1 a f = τ.1 a f := fun v f => q_si_ne na f
  have isg : ∀ (v u : Int32), (F_X12_isSign X (q_si τ (q_rf X a 20) (x + 7).toNatClampNeg v) a u).toInt = if (τ.1 a 14).toInt = 3 ∧ (τ.1 a 17).toInt = u.toInt then 1 else 0 := fun v u => by
    rw [is_sg, st, st]
  have is1 : ∀ (v u : Int32), (τ.1 a 14).toInt = 3 ∧ (τ.1 a 17).toInt = u.toInt → (F_X12_isSign X (q_si τ (q_rf X a 20) (x + 7).toNatClampNeg v) a u).toInt = 1 := fun v u h => by rw [isg, if_pos h]
  have is0 : ∀ (v u : Int32), ¬ ((τ.1 a 14).toInt = 3 ∧ (τ.1 a 17).toInt = u.toInt) → (F_X12_isSign X (q_si τ (q_rf X a 20) (x + 7).toNatClampNeg v) a u).toInt = 0 := fun v u h => by rw [isg, if_neg h]
  have m1 : ∀ v : Int32, F_X12_must X (q_si τ (q_rf X a 20) (x + 7).toNatClampNeg v) a 1 = F_X12_next X (q_si τ (q_rf X a 20) (x + 7).toNatClampNeg v) a := fun v => tm_must1 (by rw [st]; exact h0) (by decide)
  have m0 : ∀ v : Int32, F_X12_must X (q_si τ (q_rf X a 20) (x + 7).toNatClampNeg v) a 0 = F_X12_wrong X (q_si τ (q_rf X a 20) (x + 7).toNatClampNeg v) a := fun v => tm_must0 (by rw [st]; exact h0) rfl
  unfold F_X12_readTest_J50_2
  rw [q_letE (τ.1 a 12), h0, if_neg (by decide : ¬ (0 : Int) < 0), if_neg hr, q_letE (x + 7), q_letE (τ.1 a 14)]
  by_cases q3 : (τ.1 a 14).toInt = 3
  · have sg' := sg q3
    rw [if_pos q3, q_letE (τ.1 a 17), q_letE (q_si τ (q_rf X a 20) (x + 7).toNatClampNeg (τ.1 a 17)), q_letE (F_X12_isSign X (q_si τ (q_rf X a 20) (x + 7).toNatClampNeg (τ.1 a 17)) a 60)]
    constructor
    · rintro ⟨-, q59⟩
      by_cases q60 : (τ.1 a 17).toInt = 60
      · rw [is1 _ 60 ⟨q3, q60⟩, if_neg (by decide : ¬ (1 : Int) = 0), q_letE (F_X12_must X (q_si τ (q_rf X a 20) (x + 7).toNatClampNeg (τ.1 a 17)) a 1), m1]
        rfl
      · rw [is0 _ 60 (fun z => q60 z.2), if_pos rfl, q_letE (F_X12_isSign X (q_si τ (q_rf X a 20) (x + 7).toNatClampNeg (τ.1 a 17)) a 62)]
        by_cases q62 : (τ.1 a 17).toInt = 62
        · rw [is1 _ 62 ⟨q3, q62⟩, if_neg (by decide : ¬ (1 : Int) = 0), q_letE (F_X12_must X (q_si τ (q_rf X a 20) (x + 7).toNatClampNeg (τ.1 a 17)) a 1), m1]
          rfl
        · rw [is0 _ 62 (fun z => q62 z.2), if_pos rfl, q_letE (F_X12_isSign X (q_si τ (q_rf X a 20) (x + 7).toNatClampNeg (τ.1 a 17)) a 61), is1 _ 61 ⟨q3, by omega⟩, if_neg (by decide : ¬ (1 : Int) = 0), q_letE (F_X12_must X (q_si τ (q_rf X a 20) (x + 7).toNatClampNeg (τ.1 a 17)) a 1), m1]
          rfl
    · intro q59
      have q59' : (τ.1 a 17).toInt = 59 := Classical.not_not.mp (fun z => q59 ⟨q3, z⟩)
      refine ⟨τ.1 a 17, ?_⟩
      rw [is0 _ 60 (by omega), if_pos rfl, q_letE (F_X12_isSign X (q_si τ (q_rf X a 20) (x + 7).toNatClampNeg (τ.1 a 17)) a 62), is0 _ 62 (by omega), if_pos rfl, q_letE (F_X12_isSign X (q_si τ (q_rf X a 20) (x + 7).toNatClampNeg (τ.1 a 17)) a 61), is0 _ 61 (by omega), if_pos rfl, q_letE (F_X12_must X (q_si τ (q_rf X a 20) (x + 7).toNatClampNeg (τ.1 a 17)) a 0), m0]
      rfl
  · refine ⟨fun z => absurd z.1 q3, fun _ => ⟨0, ?_⟩⟩
    rw [if_neg q3, q_letE (q_si τ (q_rf X a 20) (x + 7).toNatClampNeg 0), q_letE (F_X12_isSign X (q_si τ (q_rf X a 20) (x + 7).toNatClampNeg 0) a 60), is0 _ 60 (fun z => q3 z.1), if_pos rfl, q_letE (F_X12_isSign X (q_si τ (q_rf X a 20) (x + 7).toNatClampNeg 0) a 62), is0 _ 62 (fun z => q3 z.1), if_pos rfl, q_letE (F_X12_isSign X (q_si τ (q_rf X a 20) (x + 7).toNatClampNeg 0) a 61), is0 _ 61 (fun z => q3 z.1), if_pos rfl, q_letE (F_X12_must X (q_si τ (q_rf X a 20) (x + 7).toNatClampNeg 0) a 0), m0]
    rfl
/-- what must be compared, and with which number -/
theorem op_cmp (Y : y_S X lb) (D : rd_D X lb R T) (ha : q_kd X a = 12) (G : y_G X lb g 1) (I : rd_I X R T a g n B Vg w σ τ U dp c s) {v x r t : Int32} (hv : v.toInt = l) (hl : 0 ≤ l ∧ l < 60) (hx : x.toInt = W) (hW : 3720 ≤ W ∧ W ≤ 5000) (ht : 0 ≤ t.toInt ∧ t.toInt ≤ 2) (hr : r.toInt = 5 + t.toInt) :
    ∃ (z : Int32) (σ' : ST), F_X4_readOperands_J47_1 X r R v σ = (z, σ') ∧ rd_O X R T a g n B Vg w dp s σ τ z σ' (F_X12_readTest_J50_2 X a t x τ) (fun U' c' => rd_1 U U' c c' l W ∧ U' 1 l = U 1 l ∧ U' 3 l = U 3 l ∧ c' (W + 1) = c (W + 1) ∧ c' (W + 6) = c (W + 6) ∧ U' 4 l = c' (W + 7) ∧ U' 5 l = c' (W + 2)) := by
  have I0 := I
  obtain ⟨S, M, K, h0, hV⟩ := I
  have kb := K.b
  have nb := S.1.2.2.1
  obtain ⟨k1, k2, k3, k4, k5, k6, k7, k8⟩ := id K
  have two : (2 : Int32).toInt = 2 := rfl
  have e7 : (7 : Int32).toInt = 7 := rfl
  have n4 : ((rdN 4 : Nat) : Int) = 60 := rfl
  have i2 : (x + 2).toInt = W + 2 := by rw [ar_add, hx, two, ar_wr (by omega) (by omega)]
  have i7 : (x + 7).toInt = W + 7 := by rw [ar_add, hx, e7, ar_wr (by omega) (by omega)]
  -- a sign is one of four
  have sgn : (τ.1 a 14).toInt = 3 → (τ.1 a 17).toInt = 59 ∨ (τ.1 a 17).toInt = 60 ∨ (τ.1 a 17).toInt = 61 ∨ (τ.1 a 17).toInt = 62 := fun q => by
    rw [k6.1 q]
    rcases k5 with z | z | z | z
    · omega
    · omega
    · rcases z.2.2.2 with z | z <;> omega
    · rcases z.2.2.2.2 with y | y
      · have y1 := y.1
        unfold tx_sg at y1
        omega
      · omega
  obtain ⟨c1, c2⟩ := cmp_ref (X := X) (τ := τ) Y.1 ha h0 x t (by omega) sgn
  have hh : (F_X8_hasComparison X σ r).toInt = 1 := by
    unfold F_X8_hasComparison F_X8_isWhen
    rw [if_neg (by omega), if_neg (by have e8 : (8 : Int32).toInt = 8 := rfl; omega), q_letE, if_neg (by decide), if_neg (by omega)]
    rfl
  have hh' : ∀ σ0 : ST, F_X8_highest X σ0 r = if t.toInt = 2 then 999 else 80 := fun σ0 => by
    unfold F_X8_highest
    rw [if_neg (by omega), if_neg (by omega), if_neg (by omega), if_neg (by omega)]
    by_cases q : t.toInt = 0
    · rw [if_pos (by omega), if_neg (by omega)]
    · rw [if_neg (by omega)]
      by_cases q2 : t.toInt = 1
      · rw [if_pos (by omega), if_neg (by omega)]
      · rw [if_neg (by omega), if_pos (by omega), if_pos (by omega)]
  unfold F_X4_readOperands_J47_1
  rw [q_letE (F_X8_hasComparison X σ r), hh, if_neg (by decide : ¬ (1 : Int) = 0), q_letE (F_X3_signAt X σ R 0), q_letE (σ.1 R 4), k3]
  by_cases q : (τ.1 a 14).toInt = 3 ∧ (τ.1 a 17).toInt ≠ 59
  · have sg := tc_sig S.1 k1 ⟨k7, by omega⟩ (v := 0) (i := 0) rfl ⟨by decide, by decide⟩
    rw [Int.add_zero, tx_D_in k7 (by omega), ← k6.1 q.1] at sg
    rw [if_pos q.1, sg, if_neg q.2, q_letE (F_X5_set X σ (q_rf X (q_rf X R 8) 6) v (F_X3_signAt X σ R 0)), c1 q]
    obtain ⟨sv, hsv⟩ : ∃ t, t = F_X3_signAt X σ R 0 := ⟨_, rfl⟩
    rw [← hsv] at sg ⊢
    obtain ⟨S1, f1⟩ := S.set Y D (id := 4) (r := q_rf X (q_rf X R 8) 6) ⟨by decide, by decide⟩ rfl hv sv hl.1 (by rw [n4]; exact hl.2)
    obtain ⟨M1, sm1⟩ := M.cw Y.1 ha (i := x + 7) (v := τ.1 a 17) i7 (by omega)
    have sc := rd_sameS (σ := σ) Y D (id := 4) (r := q_rf X (q_rf X R 8) 6) ⟨by decide, by decide⟩ rfl (x := v) sv (by omega) (by rw [n4]; omega)
    have K1 := K.same sc sm1
    have fr1 := rd_Fr.cw (τ := τ) (v := τ.1 a 17) Y.1 ha f1 i7 (by omega)
    obtain ⟨σ1, h1⟩ : ∃ t, t = F_X5_set X σ (q_rf X (q_rf X R 8) 6) v sv := ⟨_, rfl⟩
    obtain ⟨τ1, u1⟩ : ∃ t, t = q_si τ (q_rf X a 20) (x + 7).toNatClampNeg (τ.1 a 17) := ⟨_, rfl⟩
    rw [← h1] at S1 f1 K1 fr1 ⊢
    rw [← u1] at M1 sm1 K1 fr1 ⊢
    obtain ⟨x1, x2, K2, g2⟩ := tl_adv2 S1.1 M1.1 K1
    obtain ⟨S2, f2⟩ := S1.rd D x1.S2
    have M2 := M1.rd Y.1 ha x2.S2
    have fr2 := fr1.tr (rd_Fr.rd (τ := τ1) Y.1 ha D S1 x1.S2 x2.S2)
    have h02 : ((F_X12_next X τ1 a).1 a 12).toInt = 0 := by
      rw [tn_12 x2, sm1.1 12 (by decide) (by decide)]; exact h0
    obtain ⟨σ2, h2⟩ : ∃ t, t = F_X3_advance X σ1 R := ⟨_, rfl⟩
    obtain ⟨τ2, u2⟩ : ∃ t, t = F_X12_next X τ1 a := ⟨_, rfl⟩
    rw [q_letE (F_X3_advance X σ1 R), ← h2, ← u2]
    rw [← h2] at S2 f2 K2 fr2
    rw [← u2] at M2 K2 fr2 h02 g2
    have V2 : y_v X g σ2 = Vg := by rw [fr2.1.v Y D G (by decide), hV]
    have k2b := K2.b
    have e16 : τ1.1 a 16 = τ.1 a 16 := sm1.1 16 (by decide) (by decide)
    rw [q_letE (F_X8_highest X σ2 r), hh' σ2]
    unfold tl_q
    rw [q_letE (x + 2)]
    -- the number
    have fin : ∀ hi : Int32, hi.toInt ≠ -1 → ∃ (z : Int32) (σ' : ST), q_bi (F_X3_passNumber X σ2 R (0 : Int32) hi) (fun r_43 σ_44 => q_let (F_X5_set X σ_44 (q_rf X (q_rf X R 8) 7) v r_43 : ST) (fun σ_46 => if r_43.toInt = (-1) then ((0 : Int32), σ_46) else ((1 : Int32), σ_46))) = (z, σ') ∧ rd_O X R T a g n B Vg w dp s σ τ z σ' (q_bi (F_X12_count X τ2 a (0 : Int32) hi) (fun p q => q_let (q_si q (q_rf X a 20) (x + 2).toNatClampNeg p : ST) (fun u => u))) (fun U' c' => rd_1 U U' c c' l W ∧ U' 1 l = U 1 l ∧ U' 3 l = U 3 l ∧ c' (W + 1) = c (W + 1) ∧ c' (W + 6) = c (W + 6) ∧ U' 4 l = c' (W + 7) ∧ U' 5 l = c' (W + 2)) := by
      intro hi _
      obtain ⟨z3, y3, σ3, τ3, e3, e4, o⟩ := op_num Y D ha G ⟨S2, M2, K2, h02, V2⟩ 0 hi (by decide) hv hl i2 (by omega)
      rw [e3, q_biP z3 σ3, e4, q_biP y3 τ3, q_letE (F_X5_set X σ3 (q_rf X (q_rf X R 8) 7) v z3), q_letE (q_si τ3 (q_rf X a 20) (x + 2).toNatClampNeg y3)]
      rcases o with ⟨q3, I4, fr4, g4, -⟩ | ⟨q3, F3, fr3⟩
      · rw [if_neg q3]
        refine ⟨1, _, rfl, fr2.tr fr4, Or.inl ⟨rfl, ⟨_, _, I4, ⟨fun id i h => ?_, fun j h => ?_⟩, ?_, ?_, ?_, ?_, ?_, ?_⟩, by rw [e16] at g2; omega⟩⟩
        · rw [y_up_ne (by omega), y_up_ne (by omega)]
        · rw [m_up_ne (by omega), m_up_ne (by omega)]
        · rw [y_up_ne (Or.inl (by decide)), y_up_ne (Or.inl (by decide))]
        · rw [y_up_ne (Or.inl (by decide)), y_up_ne (Or.inl (by decide))]
        · rw [m_up_ne (by omega), m_up_ne (by omega)]
        · rw [m_up_ne (by omega), m_up_ne (by omega)]
        · rw [y_up_ne (Or.inl (by decide)), y_up_eq, m_up_ne (by omega), m_up_eq, sg]
        · rw [y_up_eq, m_up_eq]
      · rw [if_pos q3]
        exact ⟨0, _, rfl, fr2.tr fr3, Or.inr ⟨rfl, F3⟩⟩
    by_cases qt : t.toInt = 2
    · rw [if_pos qt, if_pos qt, if_neg (by decide : ¬ (999 : Int32).toInt = -1), if_neg (by omega : ¬ r.toInt = 4)]
      exact fin 999 (by decide)
    · rw [if_neg qt, if_neg qt, if_neg (by decide : ¬ (80 : Int32).toInt = -1), if_neg (by omega : ¬ r.toInt = 4)]
      exact fin 80 (by decide)
  · obtain ⟨u, c2'⟩ := c2 q
    obtain ⟨M1, sm1⟩ := M.cw Y.1 ha (i := x + 7) (v := u) i7 (by omega)
    have K1 := K.same tl_sameC.rf sm1
    have fr1 := rd_Fr.cw (τ := τ) (v := u) Y.1 ha (rd_F.rf (X := X) (R := R) (σ := σ)) i7 (by omega)
    obtain ⟨τ1, u1⟩ : ∃ t, t = q_si τ (q_rf X a 20) (x + 7).toNatClampNeg u := ⟨_, rfl⟩
    rw [← u1] at M1 sm1 K1 fr1 c2'
    have h01 : (τ1.1 a 12).toInt = 0 := by rw [sm1.1 12 (by decide) (by decide)]; exact h0
    obtain ⟨σ', y1, y2, y3, y4⟩ := tl_wrong (X := X) K1 h01
    have fr2 := fr1.tr (rd_Fr.rd (τ := τ1) Y.1 ha D S y2 y3)
    rw [c2', tl_q2 y4.2.1]
    have fin : rd_O X R T a g n B Vg w dp s σ τ 0 σ' (q_si (F_X12_wrong X τ1 a) (q_rf X a 20) (x + 2).toNatClampNeg 0) (fun U' c' => rd_1 U U' c c' l W ∧ U' 1 l = U 1 l ∧ U' 3 l = U 3 l ∧ c' (W + 1) = c (W + 1) ∧ c' (W + 6) = c (W + 6) ∧ U' 4 l = c' (W + 7) ∧ U' 5 l = c' (W + 2)) := ⟨fr2.tr (rd_Fr.cw Y.1 ha rd_F.rf i2 (by omega)), Or.inr ⟨rfl, y4.tab Y.1 ha _ _⟩⟩
    by_cases q3 : (τ.1 a 14).toInt = 3
    · have q59 : (τ.1 a 17).toInt = 59 := Classical.not_not.mp (fun z => q ⟨q3, z⟩)
      have sg := tc_sig S.1 k1 ⟨k7, by omega⟩ (v := 0) (i := 0) rfl ⟨by decide, by decide⟩
      rw [Int.add_zero, tx_D_in k7 (by omega), ← k6.1 q3, q59] at sg
      rw [if_pos q3, if_pos sg, y1, q_biP 0 σ']
      exact ⟨0, σ', rfl, fin⟩
    · rw [if_neg q3, y1, q_biP 0 σ']
      exact ⟨0, σ', rfl, fin⟩
end RT
