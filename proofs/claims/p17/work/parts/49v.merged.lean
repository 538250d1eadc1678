/-! FROM 49v.head.lean.txt -/
/-! A ROUND BEING READ: a step up to its semicolon -/
def uV (U : Nat → Int → Int) : Nat → Int → Int := fun id i => U (id - 17) i
def uc (c : Int → Int) : Int → Int := fun j => c (3720 + j)
/-- the reference, from a step's word to behind its semicolon -/
noncomputable def hd_M (X : XW) (a : Nat) (r : Int32) (τ : ST) : ST := F_X12_must X (F_X12_readRest X (q_si (F_X12_next X (q_si τ a 27 (τ.1 a 27 + 1)) a) (q_rf X a 20) ((4376 : Int32) + 9 * τ.1 a 27).toNatClampNeg r) a ((4376 : Int32) + 9 * τ.1 a 27)) a (F_X12_isSign X (F_X12_readRest X (q_si (F_X12_next X (q_si τ a 27 (τ.1 a 27 + 1)) a) (q_rf X a 20) ((4376 : Int32) + 9 * τ.1 a 27).toNatClampNeg r) a ((4376 : Int32) + 9 * τ.1 a 27)) a 59)
theorem ot_eq {A : Int32 × ST} {O : ST → Int32 × ST} {K : Int32 → ST → Int32 × ST} (hK : ∀ (z : Int32) (σ : ST), z.toInt = 0 → K z σ = (0, σ)) : q_bi A (fun r σ => if r.toInt = 0 then ((0 : Int32), σ) else q_bi (O σ) K) = q_bi (q_bi A (fun r σ => if r.toInt = 0 then ((0 : Int32), σ) else O σ)) K := by
  obtain ⟨r, σ⟩ := A
  rw [q_biP r σ, q_biP r σ]
  by_cases q : r.toInt = 0
  · rw [if_pos q, if_pos q, q_biP 0 σ, hK 0 σ rfl]
  · rw [if_neg q, if_neg q]
section RH
variable {X : XW} {lb : Nat → Nat} {R T a g : Nat} {σ τ σ' τ' : ST} {n dp s L : Int} {B c w : Int → Int} {U Vg : Nat → Int → Int}
/-- a line more in the script -/
theorem op_add (Y : y_S X lb) (D : rd_D X lb R T) (S : rd_S X R T σ n B U dp) (hL : U 0 2 = L) (hl : 0 ≤ L ∧ L < 60) (r : Int32) : ∃ (z : Int32) (σ' : ST), F_X8_add X σ (q_rf X R 8) r = (z, σ') ∧ z.toInt = L ∧ rd_S X R T σ' n B (y_up (y_up U 1 L r.toInt) 0 2 (L + 1)) dp ∧ rd_F X R σ σ' ∧ tl_sameC R σ σ' := by
  have one : (1 : Int32).toInt = 1 := rfl
  have n1 : ((rdN 1 : Nat) : Int) = 60 := rfl
  have f1 : (σ.1 (q_rf X R 8) 2).toInt = L := by
    have z := rv_n (X := X) (R := R) (σ := σ) (id := 0) (by decide) 2
    rw [S.2.1] at z
    exact z.trans hL
  unfold F_X8_add
  rw [q_letE (σ.1 (q_rf X R 8) 2)]
  obtain ⟨u, hu⟩ : ∃ u, u = σ.1 (q_rf X R 8) 2 := ⟨_, rfl⟩
  rw [← hu] at f1 ⊢
  obtain ⟨S1, x1⟩ := S.set Y D (id := 1) (r := q_rf X (q_rf X R 8) 3) ⟨by decide, by decide⟩ rfl f1 r hl.1 (by rw [n1]; exact hl.2)
  have sc1 := rd_sameS (σ := σ) Y D (id := 1) (r := q_rf X (q_rf X R 8) 3) ⟨by decide, by decide⟩ rfl (x := u) r (by omega) (by rw [n1]; omega)
  rw [q_letE (F_X5_set X σ (q_rf X (q_rf X R 8) 3) u r)]
  obtain ⟨σ1, h1⟩ : ∃ t, t = F_X5_set X σ (q_rf X (q_rf X R 8) 3) u r := ⟨_, rfl⟩
  rw [← h1] at S1 x1 sc1 ⊢
  have f4 : (σ1.1 (q_rf X R 8) 2).toInt = L := by
    have z := rv_n (X := X) (R := R) (σ := σ1) (id := 0) (by decide) 2
    rw [S1.2.1, y_up_ne (Or.inl (by decide))] at z
    exact z.trans hL
  rw [q_letE (σ1.1 (q_rf X R 8) 2)]
  obtain ⟨u4, hu4⟩ : ∃ u, u = σ1.1 (q_rf X R 8) 2 + 1 := ⟨_, rfl⟩
  have uv : u4.toInt = L + 1 := by rw [hu4, ar_add, f4, one, ar_wr (by omega) (by omega)]
  rw [← hu4, q_letE u4, q_letE (q_si σ1 (q_rf X R 8) 2 u4), q_letE ((q_si σ1 (q_rf X R 8) 2 u4).1 (q_rf X R 8) 2), si_eq, q_letE (u4 - 1)]
  obtain ⟨S2, x2⟩ := S1.cell D (id := 0) (by decide) 2 u4
  rw [uv] at S2
  have sc2 := rd_same (σ := σ1) D (id := 0) (by decide) 2 u4
  refine ⟨u4 - 1, _, rfl, by rw [ar_sub, uv, one, ar_wr (by omega) (by omega)]; omega, S2, x1.tr x2, fun f a1 a2 => (sc2 f a1 a2).trans (sc1 f a1 a2)⟩
/-- which actions go with which kinds -/
def rd_k (k A : Int) : Prop := k = 0 ∧ A = 0 ∨ k = 1 ∧ A = 1 ∨ k = 2 ∧ A = 2 ∨ k = 5 ∧ A = 3 ∨ k = 4 ∧ A = 4 ∨ k = 3 ∧ A = 8
theorem op_any (Y : y_S X lb) (D : rd_D X lb R T) (ha : q_kd X a = 12) (G : y_G X lb g 1) (I : rd_I X R T a g n B Vg w σ τ U dp c s) (hP6 : 0 ≤ c 2 ∧ c 2 ≤ 6) (hP : Vg 1 4 = c 2) (N : y_nm Vg w 0 (c 2)) {v x r : Int32} {j A : Int} (hv : v.toInt = L) (hl : 0 ≤ L ∧ L < 60) (hj : 0 ≤ j ∧ j < 30) (hx : x.toInt = 4376 + 9 * j) (hA : r.toInt = A) (hk : rd_k (c (4376 + 9 * j)) A) (hU : U 1 L = A) :
    ∃ (z : Int32) (σ' : ST), (if (F_X8_isWhen X σ r).toInt = 0 then F_X4_readOperands X σ R v (q_rf X g 0) else q_bi (F_X4_readTest X σ R v) (fun r1 σ1 => if r1.toInt = 0 then ((0 : Int32), σ1) else F_X4_readOperands X σ1 R v (q_rf X g 0))) = (z, σ') ∧ rd_O X R T a g n B Vg w dp s σ τ z σ' (F_X12_readRest X τ a x) (fun U' c' => rd_1 U U' c c' L (4376 + 9 * j) ∧ st_l (uV U') (uc c') j L) := by
  have e0 : (3720 : Int) + (656 + 9 * j) = 4376 + 9 * j := by omega
  have e1 : (3720 : Int) + (656 + 9 * j + 1) = 4376 + 9 * j + 1 := by omega
  have e2 : (3720 : Int) + (656 + 9 * j + 2) = 4376 + 9 * j + 2 := by omega
  have e6 : (3720 : Int) + (656 + 9 * j + 6) = 4376 + 9 * j + 6 := by omega
  have e7 : (3720 : Int) + (656 + 9 * j + 7) = 4376 + 9 * j + 7 := by omega
  have e8_ : (8 : Int32).toInt = 8 := rfl
  obtain ⟨W, hWe⟩ : ∃ W, W = 4376 + 9 * j := ⟨_, rfl⟩
  have hW : 3720 ≤ W ∧ W ≤ 5000 := by omega
  have st : ∀ (U' : Nat → Int → Int) (c' : Int → Int), st_l (uV U') (uc c') j L ↔ ((c' W = 0 ∧ U' 1 L = 0) ∨ (c' W = 1 ∧ U' 1 L = 1 ∧ U' 3 L = c' (W + 1) ∧ U' 5 L = c' (W + 2)) ∨ (c' W = 2 ∧ U' 1 L = 2 ∧ U' 3 L = c' (W + 1) ∧ U' 5 L = c' (W + 2)) ∨ (c' W = 5 ∧ U' 1 L = 3) ∨ (c' W = 4 ∧ U' 1 L = 4 ∧ U' 5 L = c' (W + 1) ∧ 1 ≤ c' (W + 1) ∧ c' (W + 1) ≤ 99) ∨ (c' W = 3 ∧ c' (W + 6) = 0 ∧ U' 1 L = 5 ∧ U' 3 L = c' (W + 1) ∧ U' 4 L = c' (W + 7) ∧ U' 5 L = c' (W + 2)) ∨ (c' W = 3 ∧ c' (W + 6) = 1 ∧ U' 1 L = 6 ∧ U' 4 L = c' (W + 7) ∧ U' 5 L = c' (W + 2)) ∨ (c' W = 3 ∧ c' (W + 6) = 2 ∧ U' 1 L = 7 ∧ U' 3 L = c' (W + 1) ∧ U' 4 L = c' (W + 7) ∧ U' 5 L = c' (W + 2)) ∨ (c' W = 3 ∧ c' (W + 6) = 3 ∧ U' 1 L = 8)) := by
    intro U' c'
    unfold st_l uV uc
    rw [e0, e1, e2, e6, e7, ← hWe]
  rw [← hWe] at hx hk ⊢
  have wn : A ≠ 8 → (F_X8_isWhen X σ r).toInt = 0 := fun h => by
    unfold F_X8_isWhen
    rw [hA, if_pos (by unfold rd_k at hk; omega)]
    rfl
  rcases hk with ⟨k1, k2⟩ | ⟨k1, k2⟩ | ⟨k1, k2⟩ | ⟨k1, k2⟩ | ⟨k1, k2⟩ | ⟨k1, k2⟩
  · rw [if_pos (wn (by omega))]
    obtain ⟨z, σ', e, fr, o⟩ := op_none (g := g) Y D I hv hl hx (Or.inl ⟨k1, by omega⟩)
    refine ⟨z, σ', e, fr, ?_⟩
    rcases o with ⟨o1, ⟨U', c', I', p1, p2⟩, o3⟩ | o
    · have cw := p1.2 W (Or.inl (Int.le_refl _))
      exact Or.inl ⟨o1, ⟨U', c', I', p1, (st U' c').mpr (Or.inl ⟨by omega, by omega⟩)⟩, o3⟩
    · exact Or.inr o
  · rw [if_pos (wn (by omega))]
    obtain ⟨z, σ', e, fr, o⟩ := op_bends Y D ha G I hP6 hP N hv hl hx hW (Or.inl k1) (by omega)
    refine ⟨z, σ', e, fr, ?_⟩
    rcases o with ⟨o1, ⟨U', c', I', p1, p2, p3, p4⟩, o3⟩ | o
    · have cw := p1.2 W (Or.inl (Int.le_refl _))
      exact Or.inl ⟨o1, ⟨U', c', I', p1, (st U' c').mpr (Or.inr (Or.inl ⟨by omega, by omega, p3, p4⟩))⟩, o3⟩
    · exact Or.inr o
  · rw [if_pos (wn (by omega))]
    obtain ⟨z, σ', e, fr, o⟩ := op_bends Y D ha G I hP6 hP N hv hl hx hW (Or.inr k1) (by omega)
    refine ⟨z, σ', e, fr, ?_⟩
    rcases o with ⟨o1, ⟨U', c', I', p1, p2, p3, p4⟩, o3⟩ | o
    · have cw := p1.2 W (Or.inl (Int.le_refl _))
      exact Or.inl ⟨o1, ⟨U', c', I', p1, (st U' c').mpr (Or.inr (Or.inr (Or.inl ⟨by omega, by omega, p3, p4⟩)))⟩, o3⟩
    · exact Or.inr o
  · rw [if_pos (wn (by omega))]
    obtain ⟨z, σ', e, fr, o⟩ := op_none (g := g) Y D I hv hl hx (Or.inr ⟨k1, by omega⟩)
    refine ⟨z, σ', e, fr, ?_⟩
    rcases o with ⟨o1, ⟨U', c', I', p1, p2⟩, o3⟩ | o
    · have cw := p1.2 W (Or.inl (Int.le_refl _))
      exact Or.inl ⟨o1, ⟨U', c', I', p1, (st U' c').mpr (Or.inr (Or.inr (Or.inr (Or.inl ⟨by omega, by omega⟩))))⟩, o3⟩
    · exact Or.inr o
  · rw [if_pos (wn (by omega))]
    obtain ⟨z, σ', e, fr, o⟩ := op_loop Y D ha G I hv hl hx hW k1 (by omega)
    refine ⟨z, σ', e, fr, ?_⟩
    rcases o with ⟨o1, ⟨U', c', I', p1, p2, p3, p4⟩, o3⟩ | o
    · have cw := p1.2 W (Or.inl (Int.le_refl _))
      exact Or.inl ⟨o1, ⟨U', c', I', p1, (st U' c').mpr (Or.inr (Or.inr (Or.inr (Or.inr (Or.inl ⟨by omega, by omega, p3, p4⟩)))))⟩, o3⟩
    · exact Or.inr o
  · have wy : ¬ (F_X8_isWhen X σ r).toInt = 0 := by
      unfold F_X8_isWhen
      rw [hA, if_neg (by omega), if_neg (by omega)]
      decide
    rw [if_neg wy]
    obtain ⟨z, σ', e, fr, o⟩ := op_when Y D ha G I hP6 hP N hv hl hx hW k1 (by omega)
    refine ⟨z, σ', e, fr, ?_⟩
    rcases o with ⟨o1, ⟨U', c', I', p1, p2⟩, o3⟩ | o
    · have cw := p1.2 W (Or.inl (Int.le_refl _))
      refine Or.inl ⟨o1, ⟨U', c', I', p1, (st U' c').mpr ?_⟩, o3⟩
      rcases p2 with ⟨y1, y2, y3, y4, y5⟩ | ⟨y1, y2, y3, y4⟩ | ⟨y1, y2, y3, y4, y5⟩ | ⟨y1, y2⟩
      · exact Or.inr (Or.inr (Or.inr (Or.inr (Or.inr (Or.inl ⟨by omega, y1, y2, y3, y4, y5⟩)))))
      · exact Or.inr (Or.inr (Or.inr (Or.inr (Or.inr (Or.inr (Or.inl ⟨by omega, y1, y2, y3, y4⟩))))))
      · exact Or.inr (Or.inr (Or.inr (Or.inr (Or.inr (Or.inr (Or.inr (Or.inl ⟨by omega, y1, y2, y3, y4, y5⟩)))))))
      · exact Or.inr (Or.inr (Or.inr (Or.inr (Or.inr (Or.inr (Or.inr (Or.inr ⟨by omega, y1, y2⟩)))))))
    · exact Or.inr o
end RH
