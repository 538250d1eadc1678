/-! FROM 49w.step.lean.txt -/
/-! A ROUND BEING READ: a step's line -/
noncomputable def hd_K (X : XW) (R : Nat) : Int32 → ST → Int32 × ST := fun r_17 σ_18 => if r_17.toInt = 0 then ((0 : Int32), σ_18) else q_bi (F_X3_passSemicolon X σ_18 R) (fun r_20 σ_21 => if r_20.toInt = 0 then ((0 : Int32), σ_21) else ((1 : Int32), σ_21))
noncomputable def hd_C (X : XW) (R r1 : Nat) (z8 r : Int32) (σ3 : ST) : Int32 × ST := q_let (F_X3_advance X σ3 R : ST) (fun σ_13 => q_let (F_X8_isWhen X σ_13 r : Int32) (fun r_14 => if r_14.toInt = 0 then q_bi (F_X4_readOperands X σ_13 R z8 r1) (hd_K X R) else q_bi (F_X4_readTest X σ_13 R z8) (fun r_23 σ_24 => if r_23.toInt = 0 then ((0 : Int32), σ_24) else q_bi (F_X4_readOperands X σ_24 R z8 r1) (hd_K X R))))
theorem hd_K0 {X : XW} {R : Nat} (z : Int32) (σ : ST) (h : z.toInt = 0) : hd_K X R z σ = (0, σ) := if_pos h
/-- one line and one step are written anew -/
def rd_2 (U U' : Nat → Int → Int) (c c' : Int → Int) (l W : Int) : Prop := (∀ (id : Nat) (i : Int), id = 0 ∨ id = 2 ∨ id = 6 ∨ i ≠ l → U' id i = U id i) ∧ ∀ j : Int, j < W ∨ W + 8 ≤ j → c' j = c j
section RW
variable {X : XW} {lb : Nat → Nat} {R T a g : Nat} {σ τ σ' τ' : ST} {n dp s L : Int} {B c w : Int → Int} {U Vg : Nat → Int → Int}
/-- what a step's head leaves, k its kind -/
def hd_O (X : XW) (R T a g : Nat) (n : Int) (B : Int → Int) (Vg : Nat → Int → Int) (w : Int → Int) (dp s : Int) (U : Nat → Int → Int) (c : Int → Int) (L k : Int) (σ τ : ST) (z : Int32) (σ' τ' : ST) : Prop :=
  rd_Fr X R a σ σ' τ τ' ∧ ((z.toInt = 1 ∧ (∃ (U' : Nat → Int → Int) (c' : Int → Int), rd_I X R T a g n B Vg w σ' τ' U' dp c' (s + 1) ∧ rd_2 U U' c c' L (4376 + 9 * s) ∧ c' (4376 + 9 * s) = k ∧ st_l (uV U') (uc c') s L) ∧ (τ.1 a 15).toInt < (τ'.1 a 15).toInt) ∨ (z.toInt = 0 ∧ tl_F σ' R τ' a))
theorem rd_1w {U U1 U' : Nat → Int → Int} {c c' : Int → Int} {L W k : Int} (h : rd_1 U U' (m_up c W k) c' L W) : (∀ (id : Nat) (i : Int), id = 0 ∨ id = 2 ∨ id = 6 ∨ i ≠ L → U' id i = U id i) ∧ (∀ j : Int, j < W ∨ W + 8 ≤ j → c' j = c j) ∧ c' W = k := by
  refine ⟨h.1, fun j q => ?_, ?_⟩
  · rw [h.2 j (by omega), m_up_ne (by omega)]
  · rw [h.2 W (by omega), m_up_eq]
/-- both behind the semicolon -/
theorem op_rest (Y : y_S X lb) (D : rd_D X lb R T) (ha : q_kd X a = 12) (G : y_G X lb g 1) (I : rd_I X R T a g n B Vg w σ τ U dp c s) (hP6 : 0 ≤ c 2 ∧ c 2 ≤ 6) (hP : Vg 1 4 = c 2) (N : y_nm Vg w 0 (c 2)) {v r rk : Int32} {A k : Int} (hv : v.toInt = L) (hl : 0 ≤ L ∧ L < 60) (hs : 0 ≤ s ∧ s < 30) (ht : (τ.1 a 14).toInt ≠ 0) (hA : r.toInt = A) (hrk : rk.toInt = k) (hk : rd_k k A) (hU : U 1 L = A) :
    ∃ (z : Int32) (σ' : ST), hd_C X R (q_rf X g 0) v r σ = (z, σ') ∧ rd_Fr X R a σ σ' τ (hd_M X a rk τ) ∧ ((z.toInt = 1 ∧ (∃ (U' : Nat → Int → Int) (c' : Int → Int), rd_I X R T a g n B Vg w σ' (hd_M X a rk τ) U' dp c' (s + 1) ∧ rd_1 U U' (m_up c (4376 + 9 * s) k) c' L (4376 + 9 * s) ∧ st_l (uV U') (uc c') s L) ∧ (τ.1 a 15).toInt < ((hd_M X a rk τ).1 a 15).toInt) ∨ (z.toInt = 0 ∧ tl_F σ' R (hd_M X a rk τ) a)) := by
  obtain ⟨S, M, K, h0, hV⟩ := I
  have kb := K.b
  have hT := Y.1
  have one : (1 : Int32).toInt = 1 := rfl
  have e9 : (9 : Int32).toInt = 9 := rfl
  have eW : (4376 : Int32).toInt = 4376 := rfl
  have f27 : (τ.1 a 27).toInt = s := M.2.2.2.1
  have ns : (τ.1 a 27 + 1).toInt = s + 1 := by rw [ar_add, f27, one, ar_wr (by omega) (by omega)]
  have ix : ((4376 : Int32) + 9 * τ.1 a 27).toInt = 4376 + 9 * s := by
    rw [ar_add, ar_mul, f27, e9, eW, ar_wr (n := 9 * s) (by omega) (by omega), ar_wr (by omega) (by omega)]
  obtain ⟨M1, sm1⟩ := M.ns hT ha (τ.1 a 27 + 1)
  rw [ns] at M1
  have K1 := K.same tl_sameC.rf sm1
  have fr1 : rd_Fr X R a σ σ τ (q_si τ a 27 (τ.1 a 27 + 1)) := ⟨rd_F.rf, tkl.rf.si _ (Or.inr ⟨rfl, by decide, Or.inr rfl⟩), fun j _ _ => by rw [mv_cell hT ha]⟩
  unfold hd_M
  obtain ⟨x, hx⟩ : ∃ x, x = (4376 : Int32) + 9 * τ.1 a 27 := ⟨_, rfl⟩
  rw [← hx] at ix ⊢
  obtain ⟨τ1, u1⟩ : ∃ t, t = q_si τ a 27 (τ.1 a 27 + 1) := ⟨_, rfl⟩
  rw [← u1] at M1 sm1 K1 fr1 ⊢
  have e16 : τ1.1 a 16 = τ.1 a 16 := sm1.1 16 (by decide) (by decide)
  obtain ⟨x1, x2, K2, g2⟩ := tl_adv2 S.1 M1.1 K1
  obtain ⟨S2, f2⟩ := S.rd D x1.S2
  have M2 := M1.rd hT ha x2.S2
  have fr2 := fr1.tr (rd_Fr.rd (τ := τ1) hT ha D S x1.S2 x2.S2)
  have h02 : ((F_X12_next X τ1 a).1 a 12).toInt = 0 := by
    rw [tn_12 x2, sm1.1 12 (by decide) (by decide)]; exact h0
  obtain ⟨σ2, h2⟩ : ∃ t, t = F_X3_advance X σ R := ⟨_, rfl⟩
  obtain ⟨τ2, u2⟩ : ∃ t, t = F_X12_next X τ1 a := ⟨_, rfl⟩
  unfold hd_C
  rw [q_letE (F_X3_advance X σ R), ← h2, ← u2]
  rw [← h2] at S2 f2 K2 fr2
  rw [← u2] at M2 K2 fr2 h02 g2
  obtain ⟨M3, sm3⟩ := M2.cw hT ha (i := x) (v := rk) ix (by omega)
  rw [hrk] at M3
  have K3 := K2.same tl_sameC.rf sm3
  have fr3 := fr2.tr (rd_Fr.cw (τ := τ2) (v := rk) hT ha (rd_F.rf (X := X) (R := R) (σ := σ2)) ix (by omega))
  have V3 : y_v X g σ2 = Vg := by rw [fr2.1.v Y D G (by decide), hV]
  have e15 : (q_si τ2 (q_rf X a 20) x.toNatClampNeg rk).1 a 15 = τ2.1 a 15 := sm3.1 15 (by decide) (by decide)
  have h03 : ((q_si τ2 (q_rf X a 20) x.toNatClampNeg rk).1 a 12).toInt = 0 := by rw [sm3.1 12 (by decide) (by decide)]; exact h02
  obtain ⟨τ3, u3⟩ : ∃ t, t = q_si τ2 (q_rf X a 20) x.toNatClampNeg rk := ⟨_, rfl⟩
  rw [← u3] at M3 sm3 K3 fr3 e15 h03 ⊢
  obtain ⟨z4, σ4, e4, fr4, o⟩ := op_any Y D ha G (r := r) (v := v) (x := x) (A := A) (j := s) ⟨S2, M3, K3, h03, V3⟩ (by rw [m_up_ne (by omega)]; exact hP6) (by rw [m_up_ne (by omega)]; exact hP) (by rw [m_up_ne (by omega)]; exact N) hv hl hs ix hA (by rw [m_up_eq]; exact hk) hU
  have cls : (q_let (F_X8_isWhen X σ2 r : Int32) (fun r_14 => if r_14.toInt = 0 then q_bi (F_X4_readOperands X σ2 R v (q_rf X g 0)) (hd_K X R) else q_bi (F_X4_readTest X σ2 R v) (fun r_23 σ_24 => if r_23.toInt = 0 then ((0 : Int32), σ_24) else q_bi (F_X4_readOperands X σ_24 R v (q_rf X g 0)) (hd_K X R)))) = hd_K X R z4 σ4 := by
    rw [q_letE]
    by_cases q : (F_X8_isWhen X σ2 r).toInt = 0
    · rw [if_pos q] at e4
      rw [if_pos q, e4, q_biP z4 σ4]
    · rw [if_neg q] at e4
      rw [if_neg q, ot_eq hd_K0, e4, q_biP z4 σ4]
  rw [cls]
  obtain ⟨τ4, u4⟩ : ∃ t, t = F_X12_readRest X τ3 a x := ⟨_, rfl⟩
  rw [← u4] at fr4 o ⊢
  rcases o with ⟨o1, ⟨U', c', I', p1, p2⟩, o3⟩ | ⟨o1, o2⟩
  · obtain ⟨S5, M5, K5, h05, V5⟩ := I'
    obtain ⟨z6, σ6, e6, hz6, ⟨y1, y2, y3⟩⟩ := tl_passSemi S5.1 M5.1 K5 h05
    obtain ⟨S6, f6⟩ := S5.rd D y1
    have M6 := M5.rd hT ha y2
    have fr6 := (fr3.tr fr4).tr (rd_Fr.rd (τ := τ4) hT ha D S5 y1 y2)
    have V6 : y_v X g σ6 = Vg := by rw [fr6.1.v Y D G (by decide), hV]
    unfold hd_K
    rw [if_neg (by omega : ¬ z4.toInt = 0), e6, q_biP z6 σ6]
    have k5b := K5.b
    rcases y3 with ⟨q1, K7, h07, g7⟩ | ⟨q1, F7⟩
    · rw [if_neg (by omega : ¬ z6.toInt = 0)]
      refine ⟨1, σ6, rfl, fr6, Or.inl ⟨rfl, ⟨U', c', ⟨S6, M6, K7, h07, V6⟩, p1, p2⟩, ?_⟩⟩
      rw [e15] at o3
      rw [e16] at g2
      omega
    · rw [if_pos (by omega : z6.toInt = 0)]
      exact ⟨0, σ6, rfl, fr6, Or.inr ⟨rfl, F7⟩⟩
  · rw [hd_K0 z4 σ4 o1, tm_must2 o2.2.1]
    exact ⟨0, σ4, rfl, fr3.tr fr4, Or.inr ⟨rfl, o2⟩⟩
/-- the class's counts in the script's head -/
theorem op_cnt (Y : y_S X lb) (D : rd_D X lb R T) (S : rd_S X R T σ n B U dp) (h1 : U 0 1 = s) (hs : 0 ≤ s ∧ s < 30) : (σ.1 (q_rf X R 8) 1).toInt = s ∧ ∀ u : Int32, u.toInt = s + 1 → rd_S X R T (q_si σ (q_rf X R 8) 1 u) n B (y_up U 0 1 (s + 1)) dp ∧ rd_F X R σ (q_si σ (q_rf X R 8) 1 u) ∧ tl_sameC R σ (q_si σ (q_rf X R 8) 1 u) := by
  have z := rv_n (X := X) (R := R) (σ := σ) (id := 0) (by decide) 1
  rw [S.2.1] at z
  refine ⟨z.trans h1, fun u hu => ?_⟩
  obtain ⟨S2, x2⟩ := S.cell D (id := 0) (by decide) 1 u
  rw [hu] at S2
  exact ⟨S2, x2, rd_same D (id := 0) (by decide) 1 u⟩
/-- a step without a body -/
theorem op_flat (Y : y_S X lb) (D : rd_D X lb R T) (ha : q_kd X a = 12) (G : y_G X lb g 1) (I : rd_I X R T a g n B Vg w σ τ U dp c s) (hP6 : 0 ≤ c 2 ∧ c 2 ≤ 6) (hP : Vg 1 4 = c 2) (N : y_nm Vg w 0 (c 2)) {r rk x64 : Int32} {A k : Int} (hU1 : U 0 1 = s) (hL : U 0 2 = L) (hl : 0 ≤ L ∧ L < 60) (hs : 0 ≤ s ∧ s < 30) (ht : (τ.1 a 14).toInt ≠ 0) (hA : r.toInt = A) (hrk : rk.toInt = k) (hk : rd_k k A) (hx : x64.toInt = 0) :
    ∃ (z : Int32) (σ' : ST), F_X4_readStep_J72_4 X σ R r x64 (q_rf X g 0) = (z, σ') ∧ hd_O X R T a g n B Vg w dp s (y_up (y_up U 0 2 (L + 1)) 0 1 (s + 1)) c L k σ τ z σ' (hd_M X a rk τ) := by
  obtain ⟨S, M, K, h0, hV⟩ := I
  have one : (1 : Int32).toInt = 1 := rfl
  obtain ⟨z8, σ1, e1, hz8, S1, x1, sc1⟩ := op_add Y D S hL hl r
  obtain ⟨f8, cn⟩ := op_cnt (s := s) Y D S1 (by rw [y_up_ne (Or.inr (by decide)), y_up_ne (Or.inl (by decide))]; exact hU1) hs
  unfold F_X4_readStep_J72_4
  rw [e1, q_biP z8 σ1, q_letE (σ1.1 (q_rf X R 8) 1)]
  obtain ⟨u, hu⟩ : ∃ u, u = σ1.1 (q_rf X R 8) 1 + 1 := ⟨_, rfl⟩
  have uv : u.toInt = s + 1 := by rw [hu, ar_add, f8, one, ar_wr (by omega) (by omega)]
  obtain ⟨S2, x2, sc2⟩ := cn u uv
  rw [← hu, q_letE u, q_letE (q_si σ1 (q_rf X R 8) 1 u), if_pos hx]
  have fr := rd_Fr.cl (a := a) (τ := τ) (x1.tr x2)
  have V2 : y_v X g (q_si σ1 (q_rf X R 8) 1 u) = Vg := by rw [fr.1.v Y D G (by decide), hV]
  have K2 := K.same (fun f a1 a2 => (sc2 f a1 a2).trans (sc1 f a1 a2)) (tl_same.rf (a := a) (τ := τ))
  obtain ⟨z, σ', e, fr2, o⟩ := op_rest Y D ha G (v := z8) (r := r) (rk := rk) (A := A) (k := k) ⟨S2, M, K2, h0, V2⟩ hP6 hP N hz8 hl hs ht hA hrk hk (by rw [y_up_ne (Or.inl (by decide)), y_up_ne (Or.inl (by decide)), y_up_eq]; exact hA)
  refine ⟨z, σ', e, fr.tr fr2, ?_⟩
  rcases o with ⟨o1, ⟨U', c', I', p1, p2⟩, o3⟩ | o
  · obtain ⟨y1, y2, y3⟩ := rd_1w (U1 := U) p1
    refine Or.inl ⟨o1, ⟨U', c', I', ⟨fun id i h => ?_, y2⟩, y3, p2⟩, o3⟩
    · rw [y1 id i h]
      by_cases q0 : id = 0
      · subst q0
        by_cases q1 : i = 1
        · rw [q1, y_up_eq, y_up_eq]
        · rw [y_up_ne (Or.inr q1), y_up_ne (Or.inr q1)]
          by_cases q2 : i = 2
          · rw [q2, y_up_eq, y_up_eq]
          · rw [y_up_ne (Or.inr q2), y_up_ne (Or.inr q2), y_up_ne (Or.inl (by decide))]
      · rw [y_up_ne (Or.inl q0), y_up_ne (Or.inl q0), y_up_ne (Or.inl q0), y_up_ne (Or.inl q0), y_up_ne (by omega)]
  · exact Or.inr o
/-- a step with a body: the class remembers where it began -/
theorem op_block (Y : y_S X lb) (D : rd_D X lb R T) (ha : q_kd X a = 12) (G : y_G X lb g 1) (I : rd_I X R T a g n B Vg w σ τ U dp c s) (hP6 : 0 ≤ c 2 ∧ c 2 ≤ 6) (hP : Vg 1 4 = c 2) (N : y_nm Vg w 0 (c 2)) {r rk : Int32} {A k : Int} (hU1 : U 0 1 = s) (hL : U 0 2 = L) (hl : 0 ≤ L ∧ L < 60) (hs : 0 ≤ s ∧ s < 30) (hd : 0 ≤ dp ∧ dp < 3) (ht : (τ.1 a 14).toInt ≠ 0) (hA : r.toInt = A) (hrk : rk.toInt = k) (hk : rd_k k A) :
    ∃ (z : Int32) (σ' : ST), F_X4_readStep_J72_2 X σ R r (q_rf X g 0) = (z, σ') ∧ hd_O X R T a g n B Vg w (dp + 1) s (y_up (y_up (y_up U 0 2 (L + 1)) 0 1 (s + 1)) 6 dp L) c L k σ τ z σ' (hd_M X a rk τ) := by
  obtain ⟨S, M, K, h0, hV⟩ := I
  have one : (1 : Int32).toInt = 1 := rfl
  have n6 : ((rdN 6 : Nat) : Int) = 3 := rfl
  obtain ⟨z8, σ1, e1, hz8, S1, x1, sc1⟩ := op_add Y D S hL hl r
  obtain ⟨f8, cn⟩ := op_cnt (s := s) Y D S1 (by rw [y_up_ne (Or.inr (by decide)), y_up_ne (Or.inl (by decide))]; exact hU1) hs
  unfold F_X4_readStep_J72_2
  rw [e1, q_biP z8 σ1, q_letE (σ1.1 (q_rf X R 8) 1)]
  obtain ⟨u, hu⟩ : ∃ u, u = σ1.1 (q_rf X R 8) 1 + 1 := ⟨_, rfl⟩
  have uv : u.toInt = s + 1 := by rw [hu, ar_add, f8, one, ar_wr (by omega) (by omega)]
  obtain ⟨S2, x2, sc2⟩ := cn u uv
  rw [← hu, q_letE u, q_letE (q_si σ1 (q_rf X R 8) 1 u), if_neg (by decide : ¬ (1 : Int) = 0)]
  obtain ⟨σ2, h2⟩ : ∃ t, t = q_si σ1 (q_rf X R 8) 1 u := ⟨_, rfl⟩
  rw [← h2] at S2 x2 sc2 ⊢
  rw [q_letE (σ2.1 R 10)]
  have f10 : (σ2.1 R 10).toInt = dp := S2.2.2
  obtain ⟨S3, x3⟩ := S2.set Y D (id := 6) (r := q_rf X R 9) ⟨by decide, by decide⟩ rfl f10 z8 hd.1 (by rw [n6]; exact hd.2)
  have sc3 := rd_sameS (σ := σ2) Y D (id := 6) (r := q_rf X R 9) ⟨by decide, by decide⟩ rfl (x := σ2.1 R 10) z8 (by omega) (by rw [n6]; omega)
  rw [hz8] at S3
  rw [q_letE (F_X5_set X σ2 (q_rf X R 9) (σ2.1 R 10) z8)]
  obtain ⟨σ3, h3⟩ : ∃ t, t = F_X5_set X σ2 (q_rf X R 9) (σ2.1 R 10) z8 := ⟨_, rfl⟩
  rw [← h3] at S3 x3 sc3 ⊢
  obtain ⟨u4, hu4⟩ : ∃ u, u = σ3.1 R 10 + 1 := ⟨_, rfl⟩
  have uv4 : u4.toInt = dp + 1 := by rw [hu4, ar_add, S3.2.2, one, ar_wr (by omega) (by omega)]
  obtain ⟨S4, x4⟩ := S3.dep D u4
  rw [uv4] at S4
  have sc4 := rd_sameD (σ := σ3) (R := R) u4
  rw [q_letE (σ3.1 R 10), ← hu4, q_letE u4, q_letE (q_si σ3 R 10 u4)]
  have fr := rd_Fr.cl (a := a) (τ := τ) (((x1.tr x2).tr x3).tr x4)
  have V4 : y_v X g (q_si σ3 R 10 u4) = Vg := by rw [fr.1.v Y D G (by decide), hV]
  have K4 := K.same (fun f a1 a2 => (sc4 f a1 a2).trans ((sc3 f a1 a2).trans ((sc2 f a1 a2).trans (sc1 f a1 a2)))) (tl_same.rf (a := a) (τ := τ))
  obtain ⟨z, σ', e, fr2, o⟩ := op_rest Y D ha G (v := z8) (r := r) (rk := rk) (A := A) (k := k) ⟨S4, M, K4, h0, V4⟩ hP6 hP N hz8 hl hs ht hA hrk hk (by rw [y_up_ne (Or.inl (by decide)), y_up_ne (Or.inl (by decide)), y_up_ne (Or.inl (by decide)), y_up_eq]; exact hA)
  refine ⟨z, σ', e, fr.tr fr2, ?_⟩
  rcases o with ⟨o1, ⟨U', c', I', p1, p2⟩, o3⟩ | o
  · obtain ⟨y1, y2, y3⟩ := rd_1w (U1 := U) p1
    refine Or.inl ⟨o1, ⟨U', c', I', ⟨fun id i h => ?_, y2⟩, y3, p2⟩, o3⟩
    rw [y1 id i h]
    by_cases q6 : id = 6 ∧ i = dp
    · rw [q6.1, q6.2, y_up_eq, y_up_eq]
    · rw [y_up_ne (V := y_up (y_up (y_up U 1 L r.toInt) 0 2 (L + 1)) 0 1 (s + 1)) (id := 6) (i := dp) (by omega), y_up_ne (V := y_up (y_up U 0 2 (L + 1)) 0 1 (s + 1)) (id := 6) (i := dp) (by omega)]
      by_cases q0 : id = 0
      · subst q0
        by_cases q1 : i = 1
        · rw [q1, y_up_eq, y_up_eq]
        · rw [y_up_ne (Or.inr q1), y_up_ne (Or.inr q1)]
          by_cases q2 : i = 2
          · rw [q2, y_up_eq, y_up_eq]
          · rw [y_up_ne (Or.inr q2), y_up_ne (Or.inr q2), y_up_ne (Or.inl (by decide))]
      · rw [y_up_ne (Or.inl q0), y_up_ne (Or.inl q0), y_up_ne (Or.inl q0), y_up_ne (Or.inl q0), y_up_ne (by omega)]
  · exact Or.inr o
end RW
