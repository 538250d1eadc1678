/-! FROM 49s.operands.lean.txt -/
/-! A ROUND BEING READ: operands -/
def rd_T (X : XW) (a : Nat) (b f : Nat) : Prop := b = q_rf X a 20 ∨ b = a ∧ 12 ≤ f ∧ (f ≤ 18 ∨ f = 27)
/-- both read the same, at the same place, without a fault -/
def rd_I (X : XW) (R T a g : Nat) (n : Int) (B : Int → Int) (Vg : Nat → Int → Int) (w : Int → Int) (σ τ : ST) (U : Nat → Int → Int) (dp : Int) (c : Int → Int) (s : Int) : Prop := rd_S X R T σ n B U dp ∧ rd_M X a τ n B c w s ∧ tl_K σ R τ a B n ∧ (τ.1 a 12).toInt = 0 ∧ y_v X g σ = Vg
def rd_Fr (X : XW) (R a : Nat) (σ σ' τ τ' : ST) : Prop := rd_F X R σ σ' ∧ tkl (rd_T X a) (tn_L a) τ τ' ∧ ∀ j : Int, 0 ≤ j → j < 3720 → m_c X τ' a j = m_c X τ a j
theorem rd_Fr.rf {X : XW} {R a : Nat} {σ τ : ST} : rd_Fr X R a σ σ τ τ := ⟨rd_F.rf, tkl.rf, fun _ _ _ => rfl⟩
theorem rd_Fr.tr {X : XW} {R a : Nat} {σ σ1 σ2 τ τ1 τ2 : ST} (h : rd_Fr X R a σ σ1 τ τ1) (k : rd_Fr X R a σ1 σ2 τ1 τ2) : rd_Fr X R a σ σ2 τ τ2 := ⟨h.1.tr k.1, h.2.1.tr k.2.1, fun j a b => (k.2.2 j a b).trans (h.2.2 j a b)⟩
section RO
variable {X : XW} {lb : Nat → Nat} {R T a g : Nat} {σ τ σ' τ' : ST} {n dp s l W : Int} {B c w : Int → Int} {U Vg : Nat → Int → Int}
theorem rd_T2 : ∀ b f, tn_S2 a b f → rd_T X a b f := fun b f h => Or.inr ⟨h.1, h.2.1, Or.inl h.2.2⟩
/-- a step of both readers -/
theorem rd_Fr.rd (hT : q_T X) (ha : q_kd X a = 12) (D : rd_D X lb R T) (S : rd_S X R T σ n B U dp) (h : tk (tc_S2 R) σ σ') (k : tkl (tn_S2 a) (tn_L a) τ τ') : rd_Fr X R a σ σ' τ τ' := by
  refine ⟨(S.rd D h).2, k.mono rd_T2 (fun _ _ z => z), fun j _ _ => ?_⟩
  have k1 := (tb_k hT ha).1
  exact congrArg Int32.toInt (k.1 _ _ (fun q => m_ne k1 ha (by decide) q.1))
/-- a row of the class, a cell of the reference -/
theorem rd_Fr.cw (hT : q_T X) (ha : q_kd X a = 12) (h : rd_F X R σ σ') {i v : Int32} {A : Int} (hi : i.toInt = A) (hA : 3720 ≤ A) : rd_Fr X R a σ σ' τ (q_si τ (q_rf X a 20) i.toNatClampNeg v) := by
  refine ⟨h, tkl.rf.si _ (Or.inl rfl), fun j j0 j1 => ?_⟩
  rw [m_c_up A (by omega) hi, m_up_ne (by omega)]
theorem rd_Fr.cl (h : rd_F X R σ σ') : rd_Fr X R a σ σ' τ τ := ⟨h, tkl.rf, fun _ _ _ => rfl⟩
theorem tl_F.tab (hT : q_T X) (ha : q_kd X a = 12) (h : tl_F σ R τ a) (i : Nat) (v : Int32) : tl_F σ R (q_si τ (q_rf X a 20) i v) a := by
  have na : a ≠ q_rf X a 20 := Ne.symm (m_ne (tb_k hT ha).1 ha (by decide))
  unfold tl_F
  rw [q_si_ne na, q_si_ne na]
  exact h
theorem tl_F.row (Y : y_S X lb) (D : rd_D X lb R T) (h : tl_F σ R τ a) {id r : Nat} (hid : 1 ≤ id ∧ id < 7) (hr : q_rf X r 0 = rdA X R id) {x : Int32} (v : Int32) (h0 : 0 ≤ x.toInt) (h1 : x.toInt < ((rdN id : Nat) : Int)) : tl_F (F_X5_set X σ r x v) R τ a := by
  have z := rd_sameS (σ := σ) Y D hid hr v h0 h1
  unfold tl_F
  rw [z 6 (by decide) (by decide), z 7 (by decide) (by decide)]
  exact h
/-- a player's name -/
theorem op_player (Y : y_S X lb) (D : rd_D X lb R T) (ha : q_kd X a = 12) (G : y_G X lb g 1) (I : rd_I X R T a g n B Vg w σ τ U dp c s) (hP6 : 0 ≤ c 2 ∧ c 2 ≤ 6) (hP : Vg 1 4 = c 2) (N : y_nm Vg w 0 (c 2)) {v x : Int32} (hv : v.toInt = l) (hl : 0 ≤ l ∧ l < 60) (hx : x.toInt = W) (hW : 3720 ≤ W) :
    ∃ (z y : Int32) (σ1 τ1 : ST), F_X3_passPlayer X σ R (q_rf X g 0) = (z, σ1) ∧ F_X12_readTold X τ a 0 = (y, τ1) ∧
      ((z.toInt ≠ -1 ∧ rd_I X R T a g n B Vg w (F_X5_set X σ1 (q_rf X (q_rf X R 8) 5) v z) (q_si τ1 (q_rf X a 20) x.toNatClampNeg y) (y_up U 3 l z.toInt) dp (m_up c W z.toInt) s ∧ rd_Fr X R a σ (F_X5_set X σ1 (q_rf X (q_rf X R 8) 5) v z) τ (q_si τ1 (q_rf X a 20) x.toNatClampNeg y) ∧ (τ.1 a 16).toInt ≤ ((q_si τ1 (q_rf X a 20) x.toNatClampNeg y).1 a 15).toInt) ∨
       (z.toInt = -1 ∧ tl_F σ1 R (q_si τ1 (q_rf X a 20) x.toNatClampNeg y) a ∧ rd_Fr X R a σ σ1 τ (q_si τ1 (q_rf X a 20) x.toNatClampNeg y))) := by
  obtain ⟨S, M, K, h0, hV⟩ := I
  have w0 : y_W X lb g 1 σ σ Vg := by
    rw [← hV]; exact y_W.rf
  have nm : y_nm Vg (m_wd X τ a) (6 * 0) (c 2) := by
    rw [M.2.2.1]
    exact N
  obtain ⟨z, y, σ1, τ1, e1, e2, ⟨o1, o2, o3⟩, v1, v2⟩ := tl_passPlayer Y G w0 S.1 M.1 K h0 (v := 0) (bl := 0) rfl ⟨by decide, by decide⟩ (P := c 2) (by rw [M.2.1]; rfl) hP6 hP nm
  obtain ⟨S1, f1⟩ := S.rd D o1
  have M1 := M.rd Y.1 ha o2
  have fr1 := rd_Fr.rd (σ' := σ1) (τ' := τ1) Y.1 ha D S o1 o2
  have n3 : ((rdN 3 : Nat) : Int) = 60 := rfl
  refine ⟨z, y, σ1, τ1, e1, e2, ?_⟩
  rcases o3 with ⟨q1, K1, h1, g1⟩ | ⟨q1, F1⟩
  · obtain ⟨ev, y0, y1⟩ := v1 q1
    obtain ⟨S2, f2⟩ := S1.set Y D (id := 3) (r := q_rf X (q_rf X R 8) 5) ⟨by decide, by decide⟩ rfl hv z hl.1 (by rw [n3]; exact hl.2)
    obtain ⟨M2, sm2⟩ := M1.cw Y.1 ha (i := x) (v := y) hx (by omega)
    have sc := rd_sameS (σ := σ1) Y D (id := 3) (r := q_rf X (q_rf X R 8) 5) ⟨by decide, by decide⟩ rfl (x := v) z (by omega) (by rw [n3]; omega)
    rw [← ev] at M2
    have fr2 := fr1.tr (rd_Fr.cw (τ := τ1) (v := y) Y.1 ha f2 hx hW)
    refine Or.inl ⟨q1, ⟨S2, M2, K1.same sc sm2, ?_, ?_⟩, fr2, ?_⟩
    · rw [sm2.1 12 (by decide) (by decide)]; exact h1
    · rw [fr2.1.v Y D G (by decide), hV]
    · rw [sm2.1 15 (by decide) (by decide)]; exact g1
  · have qz : z.toInt = -1 := Classical.not_not.mp q1
    exact Or.inr ⟨qz, F1.tab Y.1 ha _ _, fr1.tr (rd_Fr.cw Y.1 ha rd_F.rf hx hW)⟩
/-- a number -/
theorem op_num (Y : y_S X lb) (D : rd_D X lb R T) (ha : q_kd X a = 12) (G : y_G X lb g 1) (I : rd_I X R T a g n B Vg w σ τ U dp c s) (lo hi : Int32) (hlo : 0 ≤ lo.toInt) {v x : Int32} (hv : v.toInt = l) (hl : 0 ≤ l ∧ l < 60) (hx : x.toInt = W) (hW : 3720 ≤ W) :
    ∃ (z y : Int32) (σ1 τ1 : ST), F_X3_passNumber X σ R lo hi = (z, σ1) ∧ F_X12_count X τ a lo hi = (y, τ1) ∧
      ((z.toInt ≠ -1 ∧ rd_I X R T a g n B Vg w (F_X5_set X σ1 (q_rf X (q_rf X R 8) 7) v z) (q_si τ1 (q_rf X a 20) x.toNatClampNeg y) (y_up U 5 l z.toInt) dp (m_up c W z.toInt) s ∧ rd_Fr X R a σ (F_X5_set X σ1 (q_rf X (q_rf X R 8) 7) v z) τ (q_si τ1 (q_rf X a 20) x.toNatClampNeg y) ∧ (τ.1 a 16).toInt ≤ ((q_si τ1 (q_rf X a 20) x.toNatClampNeg y).1 a 15).toInt ∧ lo.toInt ≤ z.toInt ∧ z.toInt ≤ hi.toInt) ∨
       (z.toInt = -1 ∧ tl_F (F_X5_set X σ1 (q_rf X (q_rf X R 8) 7) v z) R (q_si τ1 (q_rf X a 20) x.toNatClampNeg y) a ∧ rd_Fr X R a σ (F_X5_set X σ1 (q_rf X (q_rf X R 8) 7) v z) τ (q_si τ1 (q_rf X a 20) x.toNatClampNeg y))) := by
  obtain ⟨S, M, K, h0, hV⟩ := I
  obtain ⟨z, y, σ1, τ1, e1, e2, ⟨o1, o2, o3⟩, v1, v2⟩ := tl_passNum S.1 M.1 K h0 lo hi hlo
  obtain ⟨S1, f1⟩ := S.rd D o1
  have M1 := M.rd Y.1 ha o2
  have fr1 := rd_Fr.rd (σ' := σ1) (τ' := τ1) Y.1 ha D S o1 o2
  have n5 : ((rdN 5 : Nat) : Int) = 60 := rfl
  obtain ⟨S2, f2⟩ := S1.set Y D (id := 5) (r := q_rf X (q_rf X R 8) 7) ⟨by decide, by decide⟩ rfl hv z hl.1 (by rw [n5]; exact hl.2)
  have fr2 := fr1.tr (rd_Fr.cw (τ := τ1) (v := y) Y.1 ha f2 hx hW)
  refine ⟨z, y, σ1, τ1, e1, e2, ?_⟩
  rcases o3 with ⟨q1, K1, h1, g1⟩ | ⟨q1, F1⟩
  · obtain ⟨ev, y0, y1⟩ := v1 q1
    obtain ⟨M2, sm2⟩ := M1.cw Y.1 ha (i := x) (v := y) hx (by omega)
    have sc := rd_sameS (σ := σ1) Y D (id := 5) (r := q_rf X (q_rf X R 8) 7) ⟨by decide, by decide⟩ rfl (x := v) z (by omega) (by rw [n5]; omega)
    rw [← ev] at M2
    refine Or.inl ⟨q1, ⟨S2, M2, K1.same sc sm2, ?_, ?_⟩, fr2, ?_, by omega, by omega⟩
    · rw [sm2.1 12 (by decide) (by decide)]; exact h1
    · rw [fr2.1.v Y D G (by decide), hV]
    · rw [sm2.1 15 (by decide) (by decide)]; exact g1
  · have qz : z.toInt = -1 := Classical.not_not.mp q1
    exact Or.inr ⟨qz, (F1.row Y D (id := 5) (r := q_rf X (q_rf X R 8) 7) ⟨by decide, by decide⟩ rfl z (by omega) (by rw [n5]; omega)).tab Y.1 ha _ _, fr2⟩
/-- what came of it: the class's answer, both states; Q says what was read -/
def rd_O (X : XW) (R T a g : Nat) (n : Int) (B : Int → Int) (Vg : Nat → Int → Int) (w : Int → Int) (dp s : Int) (σ τ : ST) (z : Int32) (σ' τ' : ST) (Q : (Nat → Int → Int) → (Int → Int) → Prop) : Prop :=
  rd_Fr X R a σ σ' τ τ' ∧ ((z.toInt = 1 ∧ (∃ (U' : Nat → Int → Int) (c' : Int → Int), rd_I X R T a g n B Vg w σ' τ' U' dp c' s ∧ Q U' c') ∧ (τ.1 a 15).toInt ≤ (τ'.1 a 15).toInt) ∨ (z.toInt = 0 ∧ tl_F σ' R τ' a))
/-- nothing but one line and one step are written -/
def rd_1 (U U' : Nat → Int → Int) (c c' : Int → Int) (l W : Int) : Prop := (∀ (id : Nat) (i : Int), id = 0 ∨ id = 2 ∨ id = 6 ∨ i ≠ l → U' id i = U id i) ∧ ∀ j : Int, j ≤ W ∨ W + 8 ≤ j → c' j = c j
theorem rd_out (X : XW) (R T a g : Nat) (v : Int32) (τ0 : ST) (h : 0 < (τ0.1 a 12).toInt) (x : Int32) : q_bi (F_X12_count X τ0 a 0 16) (fun r_11 σ_12 => q_let (q_si σ_12 (q_rf X a 20) x.toNatClampNeg r_11 : ST) (fun σ_13 => σ_13)) = q_si τ0 (q_rf X a 20) x.toNatClampNeg 0 := by
  rw [tm_count2 h, q_biP, q_letE]
/-- lies and doubts -/
theorem op_bends (Y : y_S X lb) (D : rd_D X lb R T) (ha : q_kd X a = 12) (G : y_G X lb g 1) (I : rd_I X R T a g n B Vg w σ τ U dp c s) (hP6 : 0 ≤ c 2 ∧ c 2 ≤ 6) (hP : Vg 1 4 = c 2) (N : y_nm Vg w 0 (c 2)) {v x : Int32} (hv : v.toInt = l) (hl : 0 ≤ l ∧ l < 60) (hx : x.toInt = W) (hW : 3720 ≤ W ∧ W ≤ 5000) (hk : c W = 1 ∨ c W = 2) (hU : U 1 l = c W) :
    ∃ (z : Int32) (σ' : ST), F_X4_readOperands X σ R v (q_rf X g 0) = (z, σ') ∧ rd_O X R T a g n B Vg w dp s σ τ z σ' (F_X12_readRest X τ a x) (fun U' c' => rd_1 U U' c c' l W ∧ U' 1 l = U 1 l ∧ U' 3 l = c' (W + 1) ∧ U' 5 l = c' (W + 2)) := by
  have I0 := I
  obtain ⟨S, M, K, h0, hV⟩ := I
  have one : (1 : Int32).toInt = 1 := rfl
  have two : (2 : Int32).toInt = 2 := rfl
  have n1 : ((rdN 1 : Nat) : Int) = 60 := rfl
  have r1 : (F_X5_get X σ (q_rf X (q_rf X R 8) 3) v).toInt = c W := (S.get Y D (id := 1) (r := q_rf X (q_rf X R 8) 3) ⟨by decide, by decide⟩ rfl hv hl.1 (by rw [n1]; exact hl.2)).trans hU
  have f1 : (τ.1 (q_rf X a 20) x.toNatClampNeg).toInt = c W := gm_cell M.2.1 hx
  have i1 : (x + 1).toInt = W + 1 := by rw [ar_add, hx, one, ar_wr (by omega) (by omega)]
  have i2 : (x + 2).toInt = W + 2 := by rw [ar_add, hx, two, ar_wr (by omega) (by omega)]
  obtain ⟨z, y, σ1, τ1, e1, e2, o⟩ := op_player Y D ha G I0 hP6 hP N hv hl i1 (by omega)
  -- the reference, for lies and for doubts
  have ref : F_X12_readRest X τ a x = q_bi (F_X12_count X (q_si τ1 (q_rf X a 20) (x + 1).toNatClampNeg y) a 0 16) (fun r_11 σ_12 => q_let (q_si σ_12 (q_rf X a 20) (x + 2).toNatClampNeg r_11 : ST) (fun σ_13 => σ_13)) := by
    unfold F_X12_readRest
    rw [q_letE (τ.1 (q_rf X a 20) x.toNatClampNeg), f1]
    rcases hk with hk | hk
    · rw [if_pos hk, q_letE (x + 1), e2, q_biP y τ1, q_letE (q_si τ1 (q_rf X a 20) (x + 1).toNatClampNeg y), q_letE (x + 2)]
    · rw [if_neg (by omega : ¬ c W = 1), if_pos hk, q_letE (x + 1), e2, q_biP y τ1, q_letE (q_si τ1 (q_rf X a 20) (x + 1).toNatClampNeg y), q_letE (x + 2)]
  -- the class
  obtain ⟨r, hr⟩ : ∃ r, r = F_X5_get X σ (q_rf X (q_rf X R 8) 3) v := ⟨_, rfl⟩
  rw [← hr] at r1
  have hn : ∀ σ0 : ST, (F_X8_hasName X σ0 r).toInt = 1 := fun σ0 => by
    unfold F_X8_hasName
    rw [r1]
    rcases hk with hk | hk
    · rw [if_pos hk]; rfl
    · rw [if_neg (by omega), if_pos hk]; rfl
  have hh : ∀ σ0 : ST, (F_X8_hasComparison X σ0 r).toInt = 0 := fun σ0 => by
    unfold F_X8_hasComparison F_X8_isWhen
    rw [r1, if_pos (by omega), q_letE, if_pos (by decide)]
    rfl
  have hi : ∀ σ0 : ST, F_X8_highest X σ0 r = 16 := fun σ0 => by
    unfold F_X8_highest
    rw [r1]
    rcases hk with hk | hk
    · rw [if_pos hk]
    · rw [if_neg (by omega), if_pos hk]
  unfold F_X4_readOperands
  rw [q_letE (F_X5_get X σ (q_rf X (q_rf X R 8) 3) v), ← hr, q_letE (F_X8_hasName X σ r), hn σ, if_neg (by decide : ¬ (1 : Int) = 0), e1, q_biP z σ1, ref]
  rcases o with ⟨q1, I2, fr2, g2⟩ | ⟨q1, F1, fr1⟩
  · rw [if_neg q1, q_letE (F_X5_set X σ1 (q_rf X (q_rf X R 8) 5) v z)]
    obtain ⟨σ2, h2⟩ : ∃ t, t = F_X5_set X σ1 (q_rf X (q_rf X R 8) 5) v z := ⟨_, rfl⟩
    obtain ⟨τ2, u2⟩ : ∃ t, t = q_si τ1 (q_rf X a 20) (x + 1).toNatClampNeg y := ⟨_, rfl⟩
    rw [← h2] at I2 fr2 ⊢
    rw [← u2] at I2 fr2 g2 ⊢
    obtain ⟨z3, y3, σ3, τ3, e3, e4, o⟩ := op_num Y D ha G I2 0 16 (by decide) hv hl i2 (by omega)
    unfold F_X4_readOperands_J47_1
    rw [q_letE (F_X8_hasComparison X σ2 r), hh σ2, if_pos rfl, q_letE (F_X8_highest X σ2 r), hi σ2, if_neg (by decide : ¬ (16 : Int32).toInt = -1), r1, if_neg (by omega : ¬ c W = 4), e3, q_biP z3 σ3, e4, q_biP y3 τ3, q_letE (F_X5_set X σ3 (q_rf X (q_rf X R 8) 7) v z3), q_letE (q_si τ3 (q_rf X a 20) (x + 2).toNatClampNeg y3)]
    have k2 := I2.2.2.1.b
    have k0 := K.b
    rcases o with ⟨q3, I4, fr4, g4, -⟩ | ⟨q3, F3, fr3⟩
    · rw [if_neg q3]
      refine ⟨1, _, rfl, fr2.tr fr4, Or.inl ⟨rfl, ⟨_, _, I4, ⟨fun id i h => ?_, fun j h => ?_⟩, ?_, ?_, ?_⟩, by omega⟩⟩
      · rw [y_up_ne (by omega), y_up_ne (by omega)]
      · rw [m_up_ne (by omega), m_up_ne (by omega)]
      · rw [y_up_ne (Or.inl (by decide)), y_up_ne (Or.inl (by decide))]
      · rw [y_up_ne (Or.inl (by decide)), y_up_eq, m_up_ne (by omega), m_up_eq]
      · rw [y_up_eq, m_up_eq]
    · rw [if_pos q3]
      exact ⟨0, _, rfl, fr2.tr fr3, Or.inr ⟨rfl, F3⟩⟩
  · rw [if_pos q1, rd_out X R T a g v _ F1.2.1]
    exact ⟨0, _, rfl, fr1.tr (rd_Fr.cw Y.1 ha rd_F.rf i2 (by omega)), Or.inr ⟨rfl, F1.tab Y.1 ha _ _⟩⟩
/-- a loop's number -/
theorem op_loop (Y : y_S X lb) (D : rd_D X lb R T) (ha : q_kd X a = 12) (G : y_G X lb g 1) (I : rd_I X R T a g n B Vg w σ τ U dp c s) {v x : Int32} (hv : v.toInt = l) (hl : 0 ≤ l ∧ l < 60) (hx : x.toInt = W) (hW : 3720 ≤ W ∧ W ≤ 5000) (hk : c W = 4) (hU : U 1 l = 4) :
    ∃ (z : Int32) (σ' : ST), F_X4_readOperands X σ R v (q_rf X g 0) = (z, σ') ∧ rd_O X R T a g n B Vg w dp s σ τ z σ' (F_X12_readRest X τ a x) (fun U' c' => rd_1 U U' c c' l W ∧ U' 1 l = U 1 l ∧ U' 5 l = c' (W + 1) ∧ 1 ≤ c' (W + 1) ∧ c' (W + 1) ≤ 99) := by
  have I0 := I
  obtain ⟨S, M, K, h0, hV⟩ := I
  have one : (1 : Int32).toInt = 1 := rfl
  have n1 : ((rdN 1 : Nat) : Int) = 60 := rfl
  have r1 : (F_X5_get X σ (q_rf X (q_rf X R 8) 3) v).toInt = 4 := (S.get Y D (id := 1) (r := q_rf X (q_rf X R 8) 3) ⟨by decide, by decide⟩ rfl hv hl.1 (by rw [n1]; exact hl.2)).trans hU
  have f1 : (τ.1 (q_rf X a 20) x.toNatClampNeg).toInt = 4 := (gm_cell M.2.1 hx).trans hk
  have i1 : (x + 1).toInt = W + 1 := by rw [ar_add, hx, one, ar_wr (by omega) (by omega)]
  obtain ⟨r, hr⟩ : ∃ r, r = F_X5_get X σ (q_rf X (q_rf X R 8) 3) v := ⟨_, rfl⟩
  rw [← hr] at r1
  have hn : (F_X8_hasName X σ r).toInt = 0 := by
    unfold F_X8_hasName
    rw [r1]
    rfl
  have hh : (F_X8_hasComparison X σ r).toInt = 0 := by
    unfold F_X8_hasComparison F_X8_isWhen
    rw [r1, if_pos (by decide), q_letE, if_pos (by decide)]
    rfl
  have hi : F_X8_highest X σ r = 99 := by
    unfold F_X8_highest
    rw [r1]
    rfl
  obtain ⟨z3, y3, σ3, τ3, e3, e4, o⟩ := op_num Y D ha G I0 1 99 (by decide) hv hl i1 (by omega)
  unfold F_X4_readOperands F_X12_readRest
  rw [q_letE (F_X5_get X σ (q_rf X (q_rf X R 8) 3) v), ← hr, q_letE (F_X8_hasName X σ r), hn, if_pos rfl, q_letE (τ.1 (q_rf X a 20) x.toNatClampNeg), f1, if_neg (by decide : ¬ (4 : Int) = 1), if_neg (by decide : ¬ (4 : Int) = 2), if_neg (by decide : ¬ (4 : Int) = 3), if_pos rfl, q_letE (x + 1)]
  unfold F_X4_readOperands_J47_1
  rw [q_letE (F_X8_hasComparison X σ r), hh, if_pos rfl, q_letE (F_X8_highest X σ r), hi, if_neg (by decide : ¬ (99 : Int32).toInt = -1), r1, if_pos rfl, e3, q_biP z3 σ3, e4, q_biP y3 τ3, q_letE (F_X5_set X σ3 (q_rf X (q_rf X R 8) 7) v z3), q_letE (q_si τ3 (q_rf X a 20) (x + 1).toNatClampNeg y3)]
  have k0 := K.b
  rcases o with ⟨q3, I4, fr4, g4, lo⟩ | ⟨q3, F3, fr3⟩
  · rw [if_neg q3]
    refine ⟨1, _, rfl, fr4, Or.inl ⟨rfl, ⟨_, _, I4, ⟨fun id i h => ?_, fun j h => ?_⟩, ?_, ?_, ?_⟩, by omega⟩⟩
    · rw [y_up_ne (by omega)]
    · rw [m_up_ne (by omega)]
    · rw [y_up_ne (Or.inl (by decide))]
    · rw [y_up_eq, m_up_eq]
    · rw [m_up_eq]
      exact lo
  · rw [if_pos q3]
    exact ⟨0, _, rfl, fr3, Or.inr ⟨rfl, F3⟩⟩
/-- turn and stop have none -/
theorem op_none (Y : y_S X lb) (D : rd_D X lb R T) (I : rd_I X R T a g n B Vg w σ τ U dp c s) {v x : Int32} (hv : v.toInt = l) (hl : 0 ≤ l ∧ l < 60) (hx : x.toInt = W) (hk : c W = 0 ∧ U 1 l = 0 ∨ c W = 5 ∧ U 1 l = 3) :
    ∃ (z : Int32) (σ' : ST), F_X4_readOperands X σ R v (q_rf X g 0) = (z, σ') ∧ rd_O X R T a g n B Vg w dp s σ τ z σ' (F_X12_readRest X τ a x) (fun U' c' => rd_1 U U' c c' l W ∧ U' 1 l = U 1 l) := by
  have I0 := I
  obtain ⟨S, M, K, h0, hV⟩ := I
  have n1 : ((rdN 1 : Nat) : Int) = 60 := rfl
  have r1 : (F_X5_get X σ (q_rf X (q_rf X R 8) 3) v).toInt = U 1 l := S.get Y D (id := 1) (r := q_rf X (q_rf X R 8) 3) ⟨by decide, by decide⟩ rfl hv hl.1 (by rw [n1]; exact hl.2)
  have f1 : (τ.1 (q_rf X a 20) x.toNatClampNeg).toInt = c W := gm_cell M.2.1 hx
  obtain ⟨r, hr⟩ : ∃ r, r = F_X5_get X σ (q_rf X (q_rf X R 8) 3) v := ⟨_, rfl⟩
  rw [← hr] at r1
  have hn : (F_X8_hasName X σ r).toInt = 0 := by
    unfold F_X8_hasName
    rcases hk with ⟨_, hk⟩ | ⟨_, hk⟩ <;> rw [r1, hk] <;> rfl
  have hh : (F_X8_hasComparison X σ r).toInt = 0 := by
    unfold F_X8_hasComparison F_X8_isWhen
    rw [r1, if_pos (by omega), q_letE, if_pos (by decide)]
    rfl
  have hi : F_X8_highest X σ r = -1 := by
    unfold F_X8_highest
    rcases hk with ⟨_, hk⟩ | ⟨_, hk⟩ <;> rw [r1, hk] <;> rfl
  unfold F_X4_readOperands F_X12_readRest
  rw [q_letE (F_X5_get X σ (q_rf X (q_rf X R 8) 3) v), ← hr, q_letE (F_X8_hasName X σ r), hn, if_pos rfl, q_letE (τ.1 (q_rf X a 20) x.toNatClampNeg), f1, if_neg (by omega : ¬ c W = 1), if_neg (by omega : ¬ c W = 2), if_neg (by omega : ¬ c W = 3), if_neg (by omega : ¬ c W = 4)]
  unfold F_X4_readOperands_J47_1
  rw [q_letE (F_X8_hasComparison X σ r), hh, if_pos rfl, q_letE (F_X8_highest X σ r), hi, if_pos (by decide : (-1 : Int32).toInt = -1)]
  exact ⟨1, σ, rfl, rd_Fr.rf, Or.inl ⟨rfl, ⟨U, c, I0, ⟨fun _ _ _ => rfl, fun _ _ => rfl⟩, rfl⟩, Int.le_refl _⟩⟩
end RO
