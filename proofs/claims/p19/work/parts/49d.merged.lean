/-! FROM 49zl.other.lean.txt -/
/-! A ROUND PLAYED: both draw alike, both find the same other kind -/
section PA
variable {X : XW} {lb : Nat → Nat} {g o a R : Nat} {σ τ σ0 : ST} {V : Nat → Int → Int} {c : Int → Int}
theorem pl_draw (h : σ.1 R 6 = τ.1 a 39) : ∃ (z s : Int32), F_X7_draw X σ R = (z, q_si σ R 6 s) ∧ F_X12_draw X τ a = (z, q_si τ a 39 s) := by
  obtain ⟨w, hw⟩ : ∃ w, w = (σ.1 R 6 * (2861 : Int32) + (10259 : Int32)) % (65536 : Int32) := ⟨_, rfl⟩
  refine ⟨w / 8 % 16, w, ?_, ?_⟩
  · unfold F_X7_draw
    rw [q_letE (σ.1 R 6), q_letE (σ.1 R 6 * (2861 : Int32)), q_letE (σ.1 R 6 * (2861 : Int32) + (10259 : Int32)), q_letE ((σ.1 R 6 * (2861 : Int32) + (10259 : Int32)) % (65536 : Int32)), ← hw, q_letE (q_si σ R 6 w), q_letE ((q_si σ R 6 w).1 R 6), si_eq, q_letE (w / (8 : Int32)), q_letE (w / (8 : Int32) % (16 : Int32))]
  · unfold F_X12_draw
    rw [← h, q_letE (σ.1 R 6), q_letE (σ.1 R 6 * (2861 : Int32)), q_letE (σ.1 R 6 * (2861 : Int32) + (10259 : Int32)), q_letE ((σ.1 R 6 * (2861 : Int32) + (10259 : Int32)) % (65536 : Int32)), ← hw, q_letE (q_si τ a 39 w), q_letE ((q_si τ a 39 w).1 a 39), si_eq, q_letE (w / (8 : Int32)), q_letE (w / (8 : Int32) % (16 : Int32))]
theorem gm_min (x y : Int32) : (F_J9_min_7cf53 X σ x y).toInt = if y.toInt < x.toInt then y.toInt else x.toInt := by
  unfold F_J9_min_7cf53
  split <;> rfl
theorem gm_held (Y : y_S X lb) (G : y_G X lb g o) (w : y_W X lb g o σ0 σ V) {x y : Int32} {p k : Int} (hx : x.toInt = p) (hy : y.toInt = k) (hp : 0 ≤ p ∧ p < 6) (hk : 0 ≤ k ∧ k < 10) : (F_X1_heldBy X σ (q_rf X g 1) x y).toInt = V 7 (10 * p + k) := by
  have e10 : (10 : Int32).toInt = 10 := rfl
  have n7 : ((y_gn 7 : Nat) : Int) = 60 := rfl
  have ix : (x * (10 : Int32) + y).toInt = 10 * p + k := by
    rw [ar_add, ar_mul, e10, hx, hy, ar_wr (n := p * 10) (by omega) (by omega), ar_wr (by omega) (by omega)]
    omega
  unfold F_X1_heldBy
  rw [q_letE (x * (10 : Int32)), q_letE (x * (10 : Int32) + y), q_letE]
  exact y_getI Y G w (id := 7) (r := q_rf X (q_rf X g 1) 0) ⟨by decide, by decide⟩ rfl ix (by omega) (by rw [n7]; omega)
theorem pl_otherL (Y : y_S X lb) (G : y_G X lb g o) (w : y_W X lb g o σ0 σ V) (Rg : rg V c) (hG : m_G c) (hc : m_c X τ a = c) {p : Int} (h6 : V 0 5 = p) (hp : 0 ≤ p ∧ p < 6) {v1 : Int32} (hv : v1.toInt = p) (fu : Nat) : ∀ x m y : Int32, (2147483647 - y.toInt).toNat < fu → 0 ≤ y.toInt → y.toInt ≤ c 0 →
    ((x.toInt = -1 ∧ m.toInt = 0 ∧ ∀ k : Int, 0 ≤ k → k < y.toInt → k ≠ c 5 → c (34 + 10 * p + k) ≤ 0) ∨ ((0 ≤ x.toInt ∧ x.toInt < c 0) ∧ x.toInt ≠ c 5 ∧ m.toInt = c (34 + 10 * p + x.toInt) ∧ 0 < m.toInt)) →
    ∃ z : Int32, F_X7_fullestOther_L6_1 X σ g fu x m y = z ∧ F_X12_otherKind_L4_1 X τ a v1 fu x y = z ∧ ((z.toInt = -1 ∧ ∀ k : Int, 0 ≤ k → k < c 0 → k ≠ c 5 → c (34 + 10 * p + k) ≤ 0) ∨ ((0 ≤ z.toInt ∧ z.toInt < c 0) ∧ z.toInt ≠ c 5 ∧ 0 < c (34 + 10 * p + z.toInt))) := by
  obtain ⟨b0, b2, b4, b5, b6, b7, b9, b79⟩ := hG.1
  have f0 : (σ.1 (q_rf X g 0) 0).toInt = c 0 := (w.rd (id := 1) (by decide) 0 rfl).trans Rg.1.1
  have f5 : (σ.1 g 5).toInt = p := (w.rd (id := 0) (by decide) 5 rfl).trans h6
  have f4 : (σ.1 g 4).toInt = c 5 := (w.rd (id := 0) (by decide) 4 rfl).trans Rg.2.1.1
  have t0 : (τ.1 (q_rf X a 20) (0 : Int32).toNatClampNeg).toInt = c 0 := gm_cell (A := 0) hc rfl
  have t5 : (τ.1 (q_rf X a 20) (5 : Int32).toNatClampNeg).toInt = c 5 := gm_cell (A := 5) hc rfl
  induction fu with
  | zero => intro x m y h; exact absurd h (Nat.not_lt_zero _)
  | succ fu ih =>
    intro x m y hf y0 y1 inv
    rw [F_X7_fullestOther_L6_1_s, F_X12_otherKind_L4_1_s]
    unfold F_X7_fullestOther_B6_1 F_X12_otherKind_B4_1
    rw [q_letE (σ.1 (q_rf X g 0) 0), f0, q_letE (τ.1 (q_rf X a 20) (0 : Int32).toNatClampNeg), t0]
    by_cases q : y.toInt < c 0
    · have e1 : (y + 1).toInt = y.toInt + 1 := y_inc (by omega)
      obtain ⟨hh, ehh⟩ : ∃ h, h = c (34 + 10 * p + y.toInt) := ⟨_, rfl⟩
      have e34 : (34 : Int) + (10 * p + y.toInt) = 34 + 10 * p + y.toInt := by omega
      have hl : (F_X1_heldBy X σ (q_rf X g 1) (σ.1 g 5) y).toInt = hh := by
        rw [gm_held Y G w f5 rfl hp ⟨y0, by omega⟩, Rg.2.2.2.1.1 _ (by omega) (by omega), e34, ehh]
      have ho : (F_X12_handOf X τ a v1 y).toInt = hh := (gm_handOf hc hv rfl hp ⟨y0, by omega⟩).trans ehh.symm
      rw [if_pos q, if_pos q, q_letE (σ.1 g 5), q_letE (F_X1_heldBy X σ (q_rf X g 1) (σ.1 g 5) y), q_letE (σ.1 g 4), f4, q_letE (τ.1 (q_rf X a 20) (5 : Int32).toNatClampNeg), t5, hl]
      by_cases q5 : y.toInt = c 5
      · rw [if_pos q5, if_pos q5, q_letE (y + 1), q_letE (y + 1)]
        refine ih x m (y + 1) (by omega) (by omega) (by omega) ?_
        rcases inv with ⟨i1, i2, i3⟩ | i
        · refine Or.inl ⟨i1, i2, fun k k0 k1 k5 => i3 k k0 ?_ k5⟩
          rw [e1] at k1
          rw [← q5] at k5
          omega
        · exact Or.inr i
      · rw [if_neg q5, if_neg q5, q_letE (F_X12_handOf X τ a v1 y), ho]
        rcases inv with ⟨i1, i2, i3⟩ | ⟨i1, i2, i3, i4⟩
        · rw [i2]
          by_cases q0 : 0 < hh
          · rw [if_pos q0, if_pos q0, if_pos (by omega : x.toInt < 0), q_letE (y + 1), q_letE (y + 1)]
            exact ih y _ (y + 1) (by omega) (by omega) (by omega) (Or.inr ⟨⟨y0, q⟩, q5, hl.trans ehh, by rw [hl]; exact q0⟩)
          · rw [if_neg q0, if_neg q0, q_letE (y + 1), q_letE (y + 1)]
            refine ih x m (y + 1) (by omega) (by omega) (by omega) (Or.inl ⟨i1, i2, fun k k0 k1 k5 => ?_⟩)
            rw [e1] at k1
            by_cases e : k = y.toInt
            · rw [e, ← ehh]; omega
            · exact i3 k k0 (by omega) k5
        · have hx : (F_X12_handOf X τ a v1 x).toInt = m.toInt := (gm_handOf hc hv rfl hp ⟨i1.1, by omega⟩).trans i3.symm
          by_cases q0 : m.toInt < hh
          · rw [if_pos q0, if_pos (by omega : 0 < hh), if_neg (by omega : ¬ x.toInt < 0), q_letE (F_X12_handOf X τ a v1 y), q_letE (F_X12_handOf X τ a v1 x), ho, hx, if_pos q0, q_letE (y + 1), q_letE (y + 1)]
            exact ih y _ (y + 1) (by omega) (by omega) (by omega) (Or.inr ⟨⟨y0, q⟩, q5, hl.trans ehh, by rw [hl]; omega⟩)
          · rw [if_neg q0, q_letE (y + 1)]
            have nx := ih x m (y + 1) (by omega) (by omega) (by omega) (Or.inr ⟨i1, i2, i3, i4⟩)
            by_cases q1 : 0 < hh
            · rw [if_pos q1, if_neg (by omega : ¬ x.toInt < 0), q_letE (F_X12_handOf X τ a v1 y), q_letE (F_X12_handOf X τ a v1 x), ho, hx, if_neg q0, q_letE (y + 1)]
              exact nx
            · rw [if_neg q1, q_letE (y + 1)]
              exact nx
    · have ey : y.toInt = c 0 := by omega
      rw [if_neg q, if_neg q]
      refine ⟨x, rfl, rfl, ?_⟩
      rcases inv with ⟨i1, i2, i3⟩ | ⟨i1, i2, i3, i4⟩
      · rw [ey] at i3
        exact Or.inl ⟨i1, i3⟩
      · rw [i3] at i4
        exact Or.inr ⟨i1, i2, i4⟩
/-- the fullest other kind -/
theorem pl_other (Y : y_S X lb) (G : y_G X lb g o) (w : y_W X lb g o σ0 σ V) (Rg : rg V c) (hG : m_G c) (hc : m_c X τ a = c) {p : Int} (h6 : V 0 5 = p) (hp : 0 ≤ p ∧ p < 6) {v1 : Int32} (hv : v1.toInt = p) :
    ∃ z : Int32, F_X7_fullestOther X σ g = z ∧ F_X12_otherKind X τ a v1 = z ∧ ((z.toInt = -1 ∧ ∀ k : Int, 0 ≤ k → k < c 0 → k ≠ c 5 → c (34 + 10 * p + k) ≤ 0) ∨ ((0 ≤ z.toInt ∧ z.toInt < c 0) ∧ z.toInt ≠ c 5 ∧ 0 < c (34 + 10 * p + z.toInt))) := by
  have z0 : (0 : Int32).toInt = 0 := rfl
  unfold F_X7_fullestOther F_X12_otherKind
  exact pl_otherL Y G w Rg hG hc h6 hp hv _ (-1) 0 0 (by decide) (by decide) (by rw [z0]; have := hG.1.1; omega) (Or.inl ⟨rfl, rfl, fun k k0 k1 => by rw [z0] at k1; omega⟩)
end PA

/-! FROM 49zm.choose.lean.txt -/
/-! A ROUND PLAYED: what is laid, in both -/
/-- what the class writes in a turn: the game's own cells, the run's numbers -/
def pl_Sc (lb : Nat → Nat) (o R : Nat) (b f : Nat) : Prop := lb b / 8192 = o ∨ b = R ∧ 1 ≤ f ∧ f ≤ 6 ∧ f ≠ 5
/-- what the reference writes in a turn -/
def pl_Sr (X : XW) (a : Nat) (b f : Nat) : Prop := b = q_rf X a 20 ∨ b = q_rf X a 28 ∨ b = a ∧ (f = 39 ∨ 42 ≤ f ∧ f ≤ 44)
/-- what stays in a turn -/
def pl_fix (V V' : Nat → Int → Int) (c c' : Int → Int) : Prop := (∀ (id : Nat) (i : Int), id = 1 ∨ id = 3 ∨ id = 5 ∨ id = 6 ∨ 18 ≤ id ∧ id < 23 → V' id i = V id i) ∧ ∀ j : Int, 0 ≤ j → j ≤ 4 ∨ 654 ≤ j → c' j = c j
theorem pl_fix.rf {V : Nat → Int → Int} {c : Int → Int} : pl_fix V V c c := ⟨fun _ _ _ => rfl, fun _ _ _ => rfl⟩
theorem pl_fix.tr {V V' V2 : Nat → Int → Int} {c c' c2 : Int → Int} (h : pl_fix V V' c c') (k : pl_fix V' V2 c' c2) : pl_fix V V2 c c2 := ⟨fun id i q => (k.1 id i q).trans (h.1 id i q), fun j j0 q => (k.2 j j0 q).trans (h.2 j j0 q)⟩
theorem m_S_z {f : Int → Int} {b : Int} {n : Nat} (h : ∀ j : Int, b ≤ j → j < b + (n : Int) → f j = 0) : m_S f b n = 0 := by
  induction n with
  | zero => rfl
  | succ n ih =>
    show m_S f b n + f (b + (n : Int)) = 0
    rw [ih (fun j j0 j1 => h j j0 (by omega)), h (b + (n : Int)) (by omega) (by omega)]
    rfl
/-- a hand of one kind alone, or of another one too -/
theorem pl_hand {c : Int → Int} (hG : m_G c) {p : Int} (hp : 0 ≤ p ∧ p < 6) : c (34 + 10 * p + c 5) ≤ m_S c (34 + 10 * p) 10 ∧ ((∀ k : Int, 0 ≤ k → k < c 0 → k ≠ c 5 → c (34 + 10 * p + k) ≤ 0) → m_S c (34 + 10 * p) 10 = c (34 + 10 * p + c 5)) ∧ ∀ z : Int, 0 ≤ z ∧ z < c 0 → z ≠ c 5 → c (34 + 10 * p + z) + c (34 + 10 * p + c 5) ≤ m_S c (34 + 10 * p) 10 := by
  obtain ⟨b0, b2, b4, b5, b6, b7, b9, b79⟩ := hG.1
  have nn : ∀ j : Int, 34 + 10 * p ≤ j → j < 34 + 10 * p + ((10 : Nat) : Int) → 0 ≤ c j := fun j j0 j1 => hG.hand0 (by omega) (by omega)
  obtain ⟨A, hA⟩ : ∃ A, A = 34 + 10 * p + c 5 := ⟨_, rfl⟩
  obtain ⟨f, hf⟩ : ∃ f : Int → Int, f = fun j => if j = A then 0 else c j := ⟨_, rfl⟩
  have f1 : ∀ j : Int, f j = if j = A then 0 else c j := fun j => by rw [hf]
  have u := m_S_upd (c := c) (c' := f) (b := 34 + 10 * p) (A := A) (v := 0) (n := 10) (fun j _ _ => f1 j) (by omega) (by omega)
  have fn : ∀ j : Int, 34 + 10 * p ≤ j → j < 34 + 10 * p + ((10 : Nat) : Int) → 0 ≤ f j := fun j j0 j1 => by
    rw [f1]
    split
    · exact Int.le_refl 0
    · exact nn j j0 j1
  rw [← hA]
  refine ⟨m_S_ge nn (by omega) (by omega), fun h => ?_, fun z z0 z5 => ?_⟩
  · have e := m_S_z (f := f) (b := 34 + 10 * p) (n := 10) (fun j j0 j1 => by
      rw [f1]
      split
      · rfl
      · rename_i q
        have x := nn j j0 j1
        have ej : j = 34 + 10 * p + (j - (34 + 10 * p)) := by omega
        by_cases k : j - (34 + 10 * p) < c 0
        · have y := h (j - (34 + 10 * p)) (by omega) k (by omega)
          rw [← ej] at y
          omega
        · have y := (hG.2.1 p (j - (34 + 10 * p)) hp.1 hp.2 (by omega) (by omega)).2 (by omega)
          rw [← ej] at y
          exact y)
    omega
  · have e := m_S_ge (c := f) (A := 34 + 10 * p + z) fn (by omega) (by omega)
    rw [f1 (34 + 10 * p + z), if_neg (by omega)] at e
    omega
section PB
variable {X : XW} {lb : Nat → Nat} {g o a R : Nat} {σ σ' τ τ' σ0 τ0 : ST} {V V' : Nat → Int → Int} {c : Int → Int}
theorem pl_W (hV : y_v X g σ = V) : y_W X lb g o σ σ V := ⟨fun _ _ _ => rfl, rfl, hV⟩
theorem pl_Wt (w : y_W X lb g o σ σ' V') : tkl (pl_Sc lb o R) (fun _ _ => False) σ σ' := ⟨fun b f q => w.1 b (fun e => q (Or.inl e)) f, fun b f _ => by rw [w.2.1], by rw [w.2.1]⟩
theorem pl_vR (Y : y_S X lb) (G : y_G X lb g o) (hR : lb R / 8192 ≠ o) (f : Nat) (v : Int32) : y_v X g (q_si σ R f v) = y_v X g σ := y_v.k Y G (fun b hb f' => q_si_ne (fun e => hR (by rw [← e]; exact hb)) f')
theorem pl_vt (Y : y_S X lb) (G : y_G X lb g o) (hR : lb R / 8192 ≠ o) {P : Nat → Prop} (h : tkl (fun b f => b = R ∧ P f) (fun _ _ => False) σ σ') : y_v X g σ' = y_v X g σ := y_v.k Y G (fun b hb f' => h.1 b f' (fun z => hR (by rw [← z.1]; exact hb)))
theorem pl_mc (h : ∀ f, τ'.1 (q_rf X a 20) f = τ.1 (q_rf X a 20) f) : m_c X τ' a = m_c X τ a := by
  funext j
  exact congrArg Int32.toInt (h _)
theorem pl_k28 (hT : q_T X) (ha : q_kd X a = 12) : q_rf X a 28 ≠ q_rf X a 20 ∧ q_rf X a 28 ≠ a ∧ q_rf X a 20 ≠ a := by
  have k28 : q_kd X (q_rf X a 28) = 39 := (hT.1 a 28 (by rw [ha]; decide)).trans (by rw [ha]; rfl)
  have k20 := (tb_k hT ha).1
  exact ⟨m_ne k28 k20 (by decide), m_ne k28 ha (by decide), m_ne k20 ha (by decide)⟩
theorem pl_want (Y : y_S X lb) (G : y_G X lb g o) (w : y_W X lb g o σ0 σ V) {v n : Int32} {k m : Int} (hv : v.toInt = k) (hn : n.toInt = m) (hk : 0 ≤ k ∧ k < 10) (hm : 0 ≤ m ∧ m ≤ 10) (b : 0 ≤ V 23 k ∧ V 23 k ≤ 10) (b9 : 0 ≤ V 0 9 ∧ V 0 9 ≤ 20) :
    ∃ V' : Nat → Int → Int, y_W X lb g o σ0 (F_X0_want X σ g v n) V' ∧ (∀ (id : Nat) (i : Int), id ≠ 23 → (id ≠ 0 ∨ i ≠ 9) → V' id i = V id i) ∧ (∀ j : Int, V' 23 j = V 23 j + (if j = k then m else 0)) ∧ V' 0 9 = V 0 9 + m := by
  have gn : ((y_gn 23 : Nat) : Int) = 10 := rfl
  unfold F_X0_want
  rw [if_neg (by omega : ¬ v.toInt = -1), q_letE (F_X5_add X σ (q_rf X g 8) v n)]
  have w1 := w.add Y G (id := 23) (r := q_rf X g 8) ⟨by decide, by decide⟩ rfl v n (by omega) (by rw [gn]; omega)
  rw [hv, hn, ar_wr (by omega) (by omega)] at w1
  obtain ⟨τ1, e1⟩ : ∃ s, s = F_X5_add X σ (q_rf X g 8) v n := ⟨_, rfl⟩
  rw [← e1] at w1 ⊢
  have f9 : (τ1.1 g 9).toInt = V 0 9 := (w1.rd (id := 0) (by decide) 9 rfl).trans (y_up_ne (Or.inl (by decide)))
  rw [q_letE (τ1.1 g 9)]
  obtain ⟨u, hu⟩ : ∃ u, u = τ1.1 g 9 + n := ⟨_, rfl⟩
  have uv : u.toInt = V 0 9 + m := by rw [hu, ar_add, f9, hn, ar_wr (by omega) (by omega)]
  rw [← hu, q_letE u, q_letE (q_si τ1 g 9 u)]
  have w2 : y_W X lb g o σ0 (q_si τ1 g 9 u) (y_up (y_up V 23 k (V 23 k + m)) 0 9 u.toInt) := w1.si Y G (id := 0) (by decide) 9 u
  rw [uv] at w2
  refine ⟨_, w2, fun id i i23 i0 => ?_, fun j => ?_, y_up_eq _ _ _ _⟩
  · rw [y_up_ne i0, y_up_ne (Or.inl i23)]
  · rw [y_up_ne (Or.inl (by decide))]
    by_cases e : j = k
    · rw [if_pos e, e, y_up_eq]
    · rw [if_neg e, y_up_ne (Or.inr e)]
      omega
theorem pl_clear (Y : y_S X lb) (G : y_G X lb g o) (w : y_W X lb g o σ0 σ V) :
    ∃ V' : Nat → Int → Int, y_W X lb g o σ0 (F_X0_clearWanted X σ g) V' ∧ (∀ (id : Nat) (i : Int), id ≠ 23 → (id ≠ 0 ∨ i ≠ 9) → V' id i = V id i) ∧ (∀ j : Int, 0 ≤ j → j < 10 → V' 23 j = 0) ∧ V' 0 9 = 0 := by
  have gn23 : ((y_gn 23 : Nat) : Int) = 10 := rfl
  have wa := w.clear Y G (id := 23) (r := q_rf X g 8) ⟨by decide, by decide⟩ rfl
  have wb : y_W X lb g o σ0 (q_si (F_X5_clear X σ (q_rf X g 8)) g 9 0) (y_up (y_bl V 23 ((y_gn 23 : Nat) : Int) (fun _ => 0)) 0 9 0) := wa.si Y G (id := 0) (by decide) 9 0
  refine ⟨y_up (y_bl V 23 ((y_gn 23 : Nat) : Int) (fun _ => 0)) 0 9 0, ?_, fun id i i23 i0 => (y_up_ne i0).trans (if_neg (fun z => i23 z.1)), fun j j0 j1 => (y_up_ne (Or.inl (by decide))).trans (if_pos ⟨rfl, j0, by rw [gn23]; exact j1⟩), y_up_eq _ _ _ _⟩
  unfold F_X0_clearWanted
  rw [q_letE (F_X5_clear X σ (q_rf X g 8)), q_letE (q_si (F_X5_clear X σ (q_rf X g 8)) g 9 0)]
  exact wb
theorem pl_clr {v1 : Int32} (fu : Nat) : ∀ (x : Int32) (τ : ST), (2147483647 - x.toInt).toNat < fu → 0 ≤ x.toInt → x.toInt ≤ 10 → (∀ j : Int, 0 ≤ j → j < x.toInt → (τ.1 (q_rf X a 28) j.toNat).toInt = 0) → ∃ τ' : ST, F_X12_turns_L61_2 X a v1 fu x τ = F_X12_turns_E80_8 X τ' a v1 ∧ tkl (fun b _ => b = q_rf X a 28) (fun _ _ => False) τ τ' ∧ ∀ j : Int, 0 ≤ j → j < 10 → (τ'.1 (q_rf X a 28) j.toNat).toInt = 0 := by
  induction fu with
  | zero => intro x τ h; exact absurd h (Nat.not_lt_zero _)
  | succ fu ih =>
    intro x τ hf x0 x1 hz
    rw [F_X12_turns_L61_2_s]
    unfold F_X12_turns_B61_2
    by_cases q : x.toInt < 10
    · have ex : (x + 1).toInt = x.toInt + 1 := y_inc (by omega)
      rw [if_pos q, q_letE (q_si τ (q_rf X a 28) x.toNatClampNeg 0), q_letE (x + 1)]
      obtain ⟨τ', i1, i2, i3⟩ := ih (x + 1) (q_si τ (q_rf X a 28) x.toNatClampNeg 0) (by omega) (by omega) (by omega) (fun j j0 j1 => by
        show (if q_rf X a 28 = q_rf X a 28 ∧ j.toNat = x.toNatClampNeg then (0 : Int32) else τ.1 (q_rf X a 28) j.toNat).toInt = 0
        by_cases e : j = x.toInt
        · rw [if_pos ⟨rfl, by rw [ar_cl, e]⟩]; rfl
        · rw [if_neg (fun z => e (by have := z.2; rw [ar_cl] at this; omega))]
          exact hz j j0 (by omega))
      have t0 : tkl (fun b _ => b = q_rf X a 28) (fun _ _ => False) τ (q_si τ (q_rf X a 28) x.toNatClampNeg 0) := tkl.rf.si _ rfl
      exact ⟨τ', i1, t0.tr i2, i3⟩
    · rw [if_neg q]
      exact ⟨τ, rfl, tkl.rf, fun j j0 j1 => hz j j0 (by omega)⟩
/-- a card of another kind beside -/
theorem pl_l28 {l : Int → Int} {x v : Int32} {k m : Int} (hl : ∀ j : Int, 0 ≤ j → j < 10 → (τ.1 (q_rf X a 28) j.toNat).toInt = l j) (hx : x.toInt = k) (hk : 0 ≤ k ∧ k < 10) (hv : v.toInt = m) : ∀ j : Int, 0 ≤ j → j < 10 → ((q_si τ (q_rf X a 28) x.toNatClampNeg v).1 (q_rf X a 28) j.toNat).toInt = if j = k then m else l j := by
  intro j j0 j1
  show (if q_rf X a 28 = q_rf X a 28 ∧ j.toNat = x.toNatClampNeg then v else τ.1 (q_rf X a 28) j.toNat).toInt = _
  by_cases e : j = k
  · rw [if_pos ⟨rfl, by rw [ar_cl, hx, e]⟩, if_pos e, hv]
  · rw [if_neg (fun z => e (by have := z.2; rw [ar_cl] at this; omega)), if_neg e, hl j j0 j1]
/-- what both choose to lay -/
def pl_chosen (X : XW) (lb : Nat → Nat) (g o a R : Nat) (σ σ' τ τ' : ST) (V : Nat → Int → Int) (c l : Int → Int) : Prop :=
  tkl (pl_Sc lb o R) (fun _ _ => False) σ σ' ∧ (∀ f, f ≠ 6 → σ'.1 R f = σ.1 R f) ∧ σ'.1 R 6 = τ'.1 a 39 ∧ (∃ V' : Nat → Int → Int, y_v X g σ' = V' ∧ (∀ (id : Nat) (i : Int), id ≠ 23 → (id ≠ 0 ∨ i ≠ 9) → V' id i = V id i) ∧ ∀ j : Int, 0 ≤ j → j < 10 → V' 23 j = l j) ∧
  tkl (fun b f => b = q_rf X a 28 ∨ b = a ∧ f = 39) (fun _ _ => False) τ τ' ∧ m_c X τ' a = c ∧ (∀ j : Int, 0 ≤ j → j < 10 → (τ'.1 (q_rf X a 28) j.toNat).toInt = l j) ∧ m_lo c l (c 6)
theorem pl_choose (Y : y_S X lb) (G : y_G X lb g o) (ha : q_kd X a = 12) (hR : lb R / 8192 ≠ o) (hV : y_v X g σ = V) (Rg : rg V c) (hG : m_G c) (hc : m_c X τ a = c) (hd : σ.1 R 6 = τ.1 a 39) (h2 : 2 ≤ c 2) (hS : m_S c (34 + 10 * c 6) 10 ≠ 0) {v1 : Int32} (hv : v1.toInt = c 6) :
    ∃ (σ' τ' : ST) (l : Int → Int), F_X7_choose X σ R g = σ' ∧ F_X12_turns_L61_2 X a v1 ((2147483647 - (0 : Int32).toInt).toNat + 1) 0 τ = F_X12_turns_J163_4 X a v1 τ' ∧ pl_chosen X lb g o a R σ σ' τ τ' V c l := by
  obtain ⟨b0, b2, b4, b5, b6, b7, b9, b79⟩ := hG.1
  have hp : 0 ≤ c 6 ∧ c 6 < 6 := by omega
  have gn9 : ((y_gn 9 : Nat) : Int) = 6 := rfl
  have gn10 : ((y_gn 10 : Nat) : Int) = 6 := rfl
  have one : (1 : Int32).toInt = 1 := rfl
  have e10 : (10 : Int32).toInt = 10 := rfl
  obtain ⟨n80, n8a, n0a⟩ := pl_k28 Y.1 ha
  have w := pl_W (lb := lb) (o := o) hV
  have v5 : V 0 5 = c 6 := by
    have z := Rg.2.1.2.1
    rw [if_neg (by omega)] at z
    exact z
  have v4 : V 0 4 = c 5 := Rg.2.1.1
  obtain ⟨hd1, hd2, hd3⟩ := pl_hand hG hp
  obtain ⟨h, hh⟩ : ∃ h, h = c (34 + 10 * c 6 + c 5) := ⟨_, rfl⟩
  obtain ⟨S, hSS⟩ : ∃ S, S = m_S c (34 + 10 * c 6) 10 := ⟨_, rfl⟩
  have hb := hG.h80 (p := c 6) (k := c 5) hp.1 hp.2 b5.1 (by omega)
  rw [← hh] at hd1 hd2 hd3 hb
  rw [← hSS] at hd1 hd2 hd3 hS
  have v9 : V 9 (c 6) = S := (Rg.2.2.2.1.2 (c 6) hp.1 hp.2).trans hSS.symm
  have v10 : V 10 (c 6) = c (10 + c 6) := (Rg.2.2.1 (c 6) hp.1 hp.2).1
  obtain ⟨n, hn⟩ : ∃ n, n = if c 4 < h then c 4 else h := ⟨_, rfl⟩
  have hn' : n = if h < c 4 then h else c 4 := by
    rw [hn]
    split <;> split <;> omega
  have nb : (0 ≤ n ∧ n ≤ c 4) ∧ n ≤ h ∧ (n < c 4 → n = h) ∧ (n = 0 ↔ h = 0) := by
    rw [hn]
    split <;> omega
  -- the class: as many of the kind as it has
  have f1 : (σ.1 g 5).toInt = c 6 := (w.rd (id := 0) (by decide) 5 rfl).trans v5
  have f2 : (σ.1 g 4).toInt = c 5 := (w.rd (id := 0) (by decide) 4 rfl).trans v4
  have f3 : (F_X1_heldBy X σ (q_rf X g 1) (σ.1 g 5) (σ.1 g 4)).toInt = h := by
    rw [gm_held Y G w f1 f2 hp ⟨b5.1, by omega⟩, Rg.2.2.2.1.1 _ (by omega) (by omega), hh]
    congr 1
    omega
  have f5 : (σ.1 (q_rf X g 0) 3).toInt = c 4 := (w.rd (id := 1) (by decide) 3 rfl).trans Rg.1.2.2.2.1
  have f6 : (F_J9_min_7cf53 X σ (F_X1_heldBy X σ (q_rf X g 1) (σ.1 g 5) (σ.1 g 4)) (σ.1 (q_rf X g 0) 3)).toInt = n := by
    rw [gm_min, f5, f3, hn]
  unfold F_X7_choose
  rw [q_letE (σ.1 g 5), q_letE (σ.1 g 4), q_letE (F_X1_heldBy X σ (q_rf X g 1) (σ.1 g 5) (σ.1 g 4))]
  obtain ⟨r3, e3⟩ : ∃ r, r = F_X1_heldBy X σ (q_rf X g 1) (σ.1 g 5) (σ.1 g 4) := ⟨_, rfl⟩
  rw [← e3] at f3 f6 ⊢
  rw [q_letE (σ.1 (q_rf X g 0) 3), q_letE (F_J9_min_7cf53 X σ r3 (σ.1 (q_rf X g 0) 3))]
  obtain ⟨r6, e6⟩ : ∃ r, r = F_J9_min_7cf53 X σ r3 (σ.1 (q_rf X g 0) 3) := ⟨_, rfl⟩
  rw [← e6] at f6 ⊢
  obtain ⟨V9, w9, k9, z9, s9⟩ := pl_clear Y G w
  rw [q_letE (F_X0_clearWanted X σ g)]
  obtain ⟨σ9, e9⟩ : ∃ s, s = F_X0_clearWanted X σ g := ⟨_, rfl⟩
  rw [← e9] at w9 ⊢
  have f10 : (σ9.1 g 4).toInt = c 5 := (w9.rd (id := 0) (by decide) 4 rfl).trans ((k9 0 4 (by decide) (Or.inr (by decide))).trans v4)
  rw [q_letE (σ9.1 g 4)]
  obtain ⟨V12, w12, k12, z12, s12⟩ := pl_want Y G w9 f10 f6 ⟨b5.1, by omega⟩ ⟨nb.1.1, by omega⟩ (by rw [z9 _ b5.1 (by omega)]; decide) (by rw [s9]; decide)
  rw [q_letE (F_X0_want X σ9 g (σ9.1 g 4) r6)]
  obtain ⟨σ12, e12⟩ : ∃ s, s = F_X0_want X σ9 g (σ9.1 g 4) r6 := ⟨_, rfl⟩
  rw [← e12] at w12 ⊢
  have K12 : ∀ (id : Nat) (i : Int), id ≠ 23 → (id ≠ 0 ∨ i ≠ 9) → V12 id i = V id i := fun id i i1 i2 => (k12 id i i1 i2).trans (k9 id i i1 i2)
  have Z12 : ∀ j : Int, 0 ≤ j → j < 10 → V12 23 j = if j = c 5 then n else 0 := fun j j0 j1 => by
    rw [z12 j, z9 j j0 j1]
    omega
  have S12 : V12 0 9 = n := by rw [s12, s9]; omega
  have R12 : rg V12 c := Rg.w hG (fun id i i1 i2 i3 => K12 id i i1 (by omega))
  have f13 : (σ12.1 (q_rf X g 0) 3).toInt = c 4 := (w12.rd (id := 1) (by decide) 3 rfl).trans R12.1.2.2.2.1
  have f33 : (σ12.1 g 5).toInt = c 6 := (w12.rd (id := 0) (by decide) 5 rfl).trans ((K12 0 5 (by decide) (Or.inr (by decide))).trans v5)
  have f34 : (F_X5_get X σ12 (q_rf X (q_rf X g 1) 2) (σ12.1 g 5)).toInt = S := by
    rw [y_getI Y G w12 (id := 9) (r := q_rf X (q_rf X g 1) 2) ⟨by decide, by decide⟩ rfl f33 hp.1 (by rw [gn9]; exact hp.2), K12 9 _ (by decide) (Or.inl (by decide)), v9]
  have t12 : tkl (pl_Sc lb o R) (fun _ _ => False) σ σ12 := pl_Wt w12
  have r12 : ∀ f, σ12.1 R f = σ.1 R f := fun f => w12.1 R hR f
  have v12 : y_v X g σ12 = V12 := w12.2.2
  rw [q_letE (σ12.1 (q_rf X g 0) 3), f6, f13]
  -- the reference
  have z0 : (0 : Int32).toInt = 0 := rfl
  obtain ⟨τz, tz, kz, lz⟩ := pl_clr (X := X) (a := a) (v1 := v1) ((2147483647 - (0 : Int32).toInt).toNat + 1) 0 τ (by omega) (by decide) (by decide) (fun j j0 j1 => by rw [z0] at j1; omega)
  rw [tz]
  have mz : m_c X τz a = c := (pl_mc (fun f => kz.1 _ f (fun e => n80 e.symm))).trans hc
  have dz : τz.1 a 39 = τ.1 a 39 := kz.1 a 39 (fun e => n8a e.symm)
  have g4 : (τz.1 (q_rf X a 20) (4 : Int32).toNatClampNeg).toInt = c 4 := gm_cell (A := 4) mz rfl
  have g5 : (τz.1 (q_rf X a 20) (5 : Int32).toNatClampNeg).toInt = c 5 := gm_cell (A := 5) mz rfl
  unfold F_X12_turns_E80_8
  rw [q_letE (τz.1 (q_rf X a 20) (4 : Int32).toNatClampNeg), q_letE (τz.1 (q_rf X a 20) (5 : Int32).toNatClampNeg)]
  obtain ⟨u4, q4⟩ : ∃ u, u = τz.1 (q_rf X a 20) (4 : Int32).toNatClampNeg := ⟨_, rfl⟩
  obtain ⟨u5, q5⟩ : ∃ u, u = τz.1 (q_rf X a 20) (5 : Int32).toNatClampNeg := ⟨_, rfl⟩
  rw [← q4] at g4 ⊢
  rw [← q5] at g5 ⊢
  have g18 : (F_X12_handOf X τz a v1 u5).toInt = h := (gm_handOf mz hv g5 hp ⟨b5.1, by omega⟩).trans hh.symm
  have g20 : (F_J9_min_7cf53 X τz u4 (F_X12_handOf X τz a v1 u5)).toInt = n := by rw [gm_min, g18, g4, hn']
  rw [q_letE (F_X12_handOf X τz a v1 u5), q_letE (F_J9_min_7cf53 X τz u4 (F_X12_handOf X τz a v1 u5))]
  obtain ⟨r20, e20⟩ : ∃ r, r = F_J9_min_7cf53 X τz u4 (F_X12_handOf X τz a v1 u5) := ⟨_, rfl⟩
  rw [← e20] at g20 ⊢
  rw [q_letE u5, q_letE (q_si τz (q_rf X a 28) u5.toNatClampNeg r20)]
  have l1 := pl_l28 (X := X) (a := a) lz g5 ⟨b5.1, by omega⟩ g20
  obtain ⟨τ1, e1⟩ : ∃ t, t = q_si τz (q_rf X a 28) u5.toNatClampNeg r20 := ⟨_, rfl⟩
  have k1 : tkl (fun b f => b = q_rf X a 28 ∨ b = a ∧ f = 39) (fun _ _ => False) τ τ1 := by
    rw [e1]
    exact (kz.mono (fun b f z => Or.inl z) (fun _ _ z => z)).si _ (Or.inl rfl)
  have m1 : m_c X τ1 a = c := (pl_mc (fun f => by rw [e1]; exact q_si_ne (fun e => n80 e.symm) f)).trans mz
  have d1 : τ1.1 a 39 = τ.1 a 39 := by rw [e1, q_si_ne (fun e => n8a e.symm), dz]
  rw [← e1] at l1 ⊢
  have g26 : (τ1.1 (q_rf X a 20) (4 : Int32).toNatClampNeg).toInt = c 4 := gm_cell (A := 4) m1 rfl
  obtain ⟨zo, o1, o2, o3⟩ := pl_other Y G w12 R12 hG m1 ((K12 0 5 (by decide) (Or.inr (by decide))).trans v5) hp hv
  rw [q_letE (F_X12_otherKind X τ1 a v1), o2, q_letE (τ1.1 (q_rf X a 20) (4 : Int32).toNatClampNeg), g20, g26]
  obtain ⟨f, hf⟩ : ∃ f : Int → Int, f = fun j => if j = c 5 then n else 0 := ⟨_, rfl⟩
  have ff : ∀ j : Int, f j = if j = c 5 then n else 0 := fun j => by rw [hf]
  have hm1 : m_l1 f (c 5) n := fun j _ _ => ff j
  -- of the kind alone
  have alone : ∀ (σ' τ' : ST), tkl (pl_Sc lb o R) (fun _ _ => False) σ12 σ' → (∀ f, f ≠ 6 → σ'.1 R f = σ12.1 R f) → σ'.1 R 6 = τ'.1 a 39 → y_v X g σ' = V12 → tkl (fun b f => b = a ∧ f = 39) (fun _ _ => False) τ1 τ' → 1 ≤ n → pl_chosen X lb g o a R σ σ' τ τ' V c f := by
    intro σ' τ' s1 s2 s3 s4 t1 n1
    refine ⟨t12.tr s1, fun f hf => (s2 f hf).trans (r12 f), s3, ⟨V12, s4, K12, fun j j0 j1 => by rw [ff]; exact Z12 j j0 j1⟩, k1.tr (t1.mono (fun b f z => Or.inr z) (fun _ _ z => z)), (pl_mc (fun f => t1.1 _ f (fun e => n0a e.1))).trans m1, fun j j0 j1 => ?_, ?_⟩
    · rw [t1.1 _ _ (fun e => n8a e.1), l1 j j0 j1, ff]
    · exact m_lo.one hG hp hm1 ⟨n1, by omega⟩ (by rw [← hh]; exact nb.2.1)
  -- and one of another kind
  have beside : ∀ (σ' τ' : ST), tkl (pl_Sc lb o R) (fun _ _ => False) σ12 σ' → (∀ f, f ≠ 6 → σ'.1 R f = σ12.1 R f) → σ'.1 R 6 = τ'.1 a 39 → y_v X g σ' = V12 → tkl (fun b f => b = a ∧ f = 39) (fun _ _ => False) τ1 τ' → n < c 4 → 0 ≤ zo.toInt → pl_chosen X lb g o a R σ (F_X0_want X σ' g zo 1) τ (q_si τ' (q_rf X a 28) zo.toNatClampNeg (τ'.1 (q_rf X a 28) zo.toNatClampNeg + 1)) V c (fun j => if j = zo.toInt then f j + 1 else f j) := by
    intro σ' τ' s1 s2 s3 s4 t1 n1 z1
    have zz : (0 ≤ zo.toInt ∧ zo.toInt < c 0) ∧ zo.toInt ≠ c 5 ∧ 0 < c (34 + 10 * c 6 + zo.toInt) := by
      rcases o3 with o | o
      · have := o.1; omega
      · exact o
    have fz : f zo.toInt = 0 := by rw [ff, if_neg zz.2.1]
    obtain ⟨V3, w3, k3, z3, -⟩ := pl_want (lb := lb) (o := o) Y G (pl_W s4) (v := zo) (n := 1) rfl one ⟨by omega, by omega⟩ ⟨by decide, by decide⟩ (by rw [Z12 _ (by omega) (by omega), if_neg zz.2.1]; decide) (by rw [S12]; omega)
    have lt : ∀ j : Int, 0 ≤ j → j < 10 → (τ'.1 (q_rf X a 28) j.toNat).toInt = f j := fun j j0 j1 => by rw [t1.1 _ _ (fun e => n8a e.1), l1 j j0 j1, ff]
    have ez : (τ'.1 (q_rf X a 28) zo.toNatClampNeg).toInt = 0 := by
      have q := lt zo.toInt (by omega) (by omega)
      rw [fz] at q
      exact q
    have ez1 : (τ'.1 (q_rf X a 28) zo.toNatClampNeg + 1).toInt = 1 := by rw [ar_add, ez, one, ar_wr (by decide) (by decide)]; rfl
    have l2 := pl_l28 (X := X) (a := a) (x := zo) lt rfl ⟨by omega, by omega⟩ ez1
    refine ⟨(t12.tr s1).tr (pl_Wt w3), fun f hf => (w3.1 R hR f).trans ((s2 f hf).trans (r12 f)), ?_, ⟨V3, w3.2.2, fun id i i1 i2 => (k3 id i i1 i2).trans (K12 id i i1 i2), fun j j0 j1 => ?_⟩, (k1.tr (t1.mono (fun b f z => Or.inr z) (fun _ _ z => z))).si _ (Or.inl rfl), ?_, fun j j0 j1 => ?_, ?_⟩
    · rw [w3.1 R hR 6, s3, q_si_ne (fun e => n8a e.symm)]
    · show V3 23 j = if j = zo.toInt then f j + 1 else f j
      rw [z3 j, Z12 j j0 j1, ← ff j]
      by_cases e : j = zo.toInt
      · rw [if_pos e, if_pos e]
      · rw [if_neg e, if_neg e]; omega
    · refine (pl_mc (fun f => q_si_ne (fun e => n80 e.symm) f)).trans ((pl_mc (fun f => t1.1 _ f (fun e => n0a e.1))).trans m1)
    · rw [l2 j j0 j1]
      show (if j = zo.toInt then (1 : Int) else f j) = if j = zo.toInt then f j + 1 else f j
      by_cases e : j = zo.toInt
      · rw [if_pos e, if_pos e, e, fz]; rfl
      · rw [if_neg e, if_neg e]
    · refine m_lo.two (v := f zo.toInt + 1) hG hp hm1 (fun j _ => ?_) rfl ⟨nb.1.1, by omega⟩ (by rw [← hh]; exact nb.2.1) ⟨by omega, by omega⟩ zz.2.1 zz.2.2
      by_cases e : j = zo.toInt
      · rw [if_pos e, if_pos e, e]
      · rw [if_neg e, if_neg e]
  have s12' : σ12.1 R 6 = τ1.1 a 39 := (r12 6).trans (hd.trans d1.symm)
  by_cases q1 : n < c 4
  · rw [if_pos q1, if_pos q1, q_letE (σ12.1 g 5), q_letE (F_X5_get X σ12 (q_rf X (q_rf X g 1) 2) (σ12.1 g 5)), f34, f3]
    by_cases q2 : h < S
    · have zp : 0 ≤ zo.toInt := by
        rcases o3 with o | o
        · have := hd2 o.2; omega
        · exact o.1.1
      rw [if_pos q2, if_neg (by decide : ¬ (1 : Int) = 0), if_neg (by omega : ¬ zo.toInt < 0)]
      by_cases q3 : h = 0
      · rw [if_pos q3, if_pos (nb.2.2.2.mpr q3), q_letE (F_X7_fullestOther X σ12 g), o1, q_letE (F_X0_want X σ12 g zo 1), q_letE (τ1.1 (q_rf X a 28) zo.toNatClampNeg), q_letE (τ1.1 (q_rf X a 28) zo.toNatClampNeg + 1), q_letE (q_si τ1 (q_rf X a 28) zo.toNatClampNeg (τ1.1 (q_rf X a 28) zo.toNatClampNeg + 1))]
        exact ⟨_, _, _, rfl, rfl, beside σ12 τ1 tkl.rf (fun _ _ => rfl) s12' v12 tkl.rf q1 zp⟩
      · have n0 : ¬ n = 0 := fun e => q3 (nb.2.2.2.mp e)
        obtain ⟨d, s, x1, x2⟩ := pl_draw (X := X) (a := a) (R := R) s12'
        rw [if_neg q3, if_neg n0, x1, q_biP d (q_si σ12 R 6 s), x2, q_biP d (q_si τ1 a 39 s)]
        have vs : y_v X g (q_si σ12 R 6 s) = V12 := (pl_vR Y G hR 6 s).trans v12
        have ws := pl_W (lb := lb) (o := o) vs
        have ms : m_c X (q_si τ1 a 39 s) a = c := (mv_cell Y.1 ha 39 s).trans m1
        have cs1 : tkl (pl_Sc lb o R) (fun _ _ => False) σ12 (q_si σ12 R 6 s) := tkl.rf.si _ (Or.inr ⟨rfl, by decide, by decide, by decide⟩)
        have cs2 : ∀ f, f ≠ 6 → (q_si σ12 R 6 s).1 R f = σ12.1 R f := fun f hf => si_f hf _
        have cs3 : (q_si σ12 R 6 s).1 R 6 = (q_si τ1 a 39 s).1 a 39 := by rw [si_eq, si_eq]
        have cs4 : tkl (fun b f => b = a ∧ f = 39) (fun _ _ => False) τ1 (q_si τ1 a 39 s) := tkl.rf.si _ ⟨rfl, rfl⟩
        have f64 : ((q_si σ12 R 6 s).1 g 5).toInt = c 6 := (ws.rd (id := 0) (by decide) 5 rfl).trans ((K12 0 5 (by decide) (Or.inr (by decide))).trans v5)
        have f65 : (F_X5_get X (q_si σ12 R 6 s) (q_rf X (q_rf X g 1) 3) ((q_si σ12 R 6 s).1 g 5)).toInt = c (10 + c 6) := by
          rw [y_getI Y G ws (id := 10) (r := q_rf X (q_rf X g 1) 3) ⟨by decide, by decide⟩ rfl f64 hp.1 (by rw [gn10]; exact hp.2), K12 10 _ (by decide) (Or.inl (by decide)), v10]
        have g82 : ((q_si τ1 a 39 s).1 (q_rf X a 20) ((10 : Int32) + v1).toNatClampNeg).toInt = c (10 + c 6) := gm_cell (A := 10 + c 6) ms (by rw [ar_add, e10, hv, ar_wr (by omega) (by omega)])
        obtain ⟨σs, es⟩ : ∃ t, t = q_si σ12 R 6 s := ⟨_, rfl⟩
        obtain ⟨τs, us⟩ : ∃ t, t = q_si τ1 a 39 s := ⟨_, rfl⟩
        rw [← es] at vs ws cs1 cs2 cs3 f64 f65 ⊢
        rw [← us] at ms cs3 cs4 g82 ⊢
        rw [q_letE (σs.1 g 5), q_letE (F_X5_get X σs (q_rf X (q_rf X g 1) 3) (σs.1 g 5)), f65, q_letE ((10 : Int32) + v1), q_letE (τs.1 (q_rf X a 20) ((10 : Int32) + v1).toNatClampNeg), g82]
        by_cases q4 : d.toInt < c (10 + c 6)
        · obtain ⟨zo', o1', o2', -⟩ := pl_other Y G ws R12 hG m1 ((K12 0 5 (by decide) (Or.inr (by decide))).trans v5) hp hv
          rw [o2] at o2'
          rw [← o2'] at o1'
          rw [if_pos q4, if_pos q4, q_letE (F_X7_fullestOther X σs g), o1', q_letE (F_X0_want X σs g zo 1), q_letE (τs.1 (q_rf X a 28) zo.toNatClampNeg), q_letE (τs.1 (q_rf X a 28) zo.toNatClampNeg + 1), q_letE (q_si τs (q_rf X a 28) zo.toNatClampNeg (τs.1 (q_rf X a 28) zo.toNatClampNeg + 1))]
          exact ⟨_, _, _, rfl, rfl, beside σs τs cs1 cs2 cs3 vs cs4 q1 zp⟩
        · rw [if_neg q4, if_neg q4]
          exact ⟨_, _, _, rfl, rfl, alone σs τs cs1 cs2 cs3 vs cs4 (by omega)⟩
    · have zn : zo.toInt < 0 := by
        rcases o3 with o | o
        · have := o.1; omega
        · have := hd3 _ o.1 o.2.1
          have := o.2.2
          omega
      rw [if_neg q2, if_pos (rfl : (0 : Int) = 0), if_pos zn]
      exact ⟨_, _, _, rfl, rfl, alone σ12 τ1 tkl.rf (fun _ _ => rfl) s12' v12 tkl.rf (by omega)⟩
  · rw [if_neg q1, if_neg q1, if_pos (rfl : (0 : Int) = 0)]
    exact ⟨_, _, _, rfl, rfl, alone σ12 τ1 tkl.rf (fun _ _ => rfl) s12' v12 tkl.rf (by omega)⟩
end PB

/-! FROM 49zn.first.lean.txt -/
/-! A ROUND PLAYED: who doubts first, in both -/
theorem pl_add1 {p x m : Int} (hm : 0 < m) (hp : 0 ≤ p ∧ p < m) (hx : 0 ≤ x) : ((p + x) % m + 1) % m = (p + (x + 1)) % m := by
  rw [Int.emod_add_emod]
  congr 1
  omega
theorem pl_round {p x m : Int} (hp : 0 ≤ p ∧ p < m) (hx : 1 ≤ x ∧ x ≤ m) : ((p + x) % m = p ↔ x = m) ∧ (0 ≤ (p + x) % m ∧ (p + x) % m < m) := by
  have e : (p + x) % m = if p + x < m then p + x else p + x - m := by
    split
    · exact Int.emod_eq_of_lt (by omega) (by omega)
    · have z := Int.sub_emod_right (p + x) m
      rw [← z]
      exact Int.emod_eq_of_lt (by omega) (by omega)
  rw [e]
  split <;> exact ⟨⟨fun z => by omega, fun z => by omega⟩, by omega, by omega⟩
section PC
variable {X : XW} {lb : Nat → Nat} {g o a R : Nat} {σ σ' τ τ' σ0 τ0 : ST} {V V' : Nat → Int → Int} {c : Int → Int}
/-- impossible for one, in both -/
theorem pl_imp (Y : y_S X lb) (G : y_G X lb g o) (hV : y_v X g σ = V) (Rg : rg V c) (hG : m_G c) (hc : m_c X τ a = c) (h9 : 1 ≤ c 9) {v v' : Int32} {q : Int} (hv : v.toInt = q) (hv' : v'.toInt = q) (hq : 0 ≤ q ∧ q < c 2) : (F_X0_isImpossibleFor X σ g v).toInt = (F_X12_isImpossible X τ a v').toInt ∧ ((F_X12_isImpossible X τ a v').toInt = 0 ∨ (F_X12_isImpossible X τ a v').toInt = 1) := by
  obtain ⟨b0, b2, b4, b5, b6, b7, b9, b79⟩ := hG.1
  have w := pl_W (lb := lb) (o := o) hV
  have one : (1 : Int32).toInt = 1 := rfl
  have e2 : (2 : Int32).toInt = 2 := rfl
  have n4 : ((y_gn 4 : Nat) : Int) = 10 := rfl
  have n16 : ((y_gn 16 : Nat) : Int) = 80 := rfl
  have ub := hG.U_bd (p := q) (k := c 5) hq.1 hq.2 b5.1 (by omega)
  have ib := hG.I_bd (k := c 5) b5.1 (by omega)
  have f4 : (σ.1 g 4).toInt = c 5 := (w.rd (id := 0) (by decide) 4 rfl).trans Rg.2.1.1
  have f0 : (σ.1 (q_rf X g 2) 0).toInt = c 9 := (w.rd (id := 2) (by decide) 0 rfl).trans Rg.2.2.2.2.1.1
  have g5 : (τ.1 (q_rf X a 20) (5 : Int32).toNatClampNeg).toInt = c 5 := gm_cell (A := 5) hc rfl
  have g9 : (τ.1 (q_rf X a 20) (9 : Int32).toNatClampNeg).toInt = c 9 := gm_cell (A := 9) hc rfl
  have kn1 := (rg.know (X := X) (τ := τ) Y G w Rg hG hc (v1 := v) (v2 := σ.1 g 4) hv f4 hq ⟨b5.1, by omega⟩).1
  have kn2 := (rg.know (X := X) (τ := τ) Y G w Rg hG hc (v1 := v') (v2 := τ.1 (q_rf X a 20) (5 : Int32).toNatClampNeg) hv' g5 hq ⟨b5.1, by omega⟩).2.2.2
  have top := (Rg.2.2.2.2.1.2.2 (c 9 - 1) (by omega) (by omega)).2.2.1
  have ts : (F_X2_topSize X σ (q_rf X g 2)).toInt = c (94 + 7 * (c 9 - 1) + 2) := by
    unfold F_X2_topSize
    rw [q_letE (σ.1 (q_rf X g 2) 0), q_letE (σ.1 (q_rf X g 2) 0 - 1), q_letE, y_getI Y G w (id := 16) (r := q_rf X (q_rf X g 2) 4) ⟨by decide, by decide⟩ rfl (i := c 9 - 1) (by rw [ar_sub, f0, one, ar_wr (by omega) (by omega)]) (by omega) (by rw [n16]; omega)]
    exact top
  have de : (F_X5_get X σ (q_rf X (q_rf X g 0) 5) (σ.1 g 4)).toInt = m_I c (c 5) := (y_getI Y G w (id := 4) (r := q_rf X (q_rf X g 0) 5) ⟨by decide, by decide⟩ rfl f4 b5.1 (by rw [n4]; omega)).trans (Rg.2.2.2.2.2.2 _ b5.1 (by omega))
  have ud : m_U c q (c 5) = m_I c (c 5) - (c (34 + 10 * q + c 5) + m_A c q (c 5) (c 9).toNat) := rfl
  have df : (F_X5_get X σ (q_rf X (q_rf X g 0) 5) (σ.1 g 4) - F_X1_knownTo X σ (q_rf X g 1) v (σ.1 g 4)).toInt = m_U c q (c 5) := by
    rw [ar_sub, de, kn1, ← ud, ar_wr (by omega) (by omega)]
  have cls : (F_X0_isImpossibleFor X σ g v).toInt = if m_U c q (c 5) < c (94 + 7 * (c 9 - 1) + 2) then 1 else 0 := by
    unfold F_X0_isImpossibleFor
    rw [q_letE (σ.1 g 4), q_letE (F_X5_get X σ (q_rf X (q_rf X g 0) 5) (σ.1 g 4)), q_letE (σ.1 g 4), q_letE (F_X1_knownTo X σ (q_rf X g 1) v (σ.1 g 4)), q_letE (F_X5_get X σ (q_rf X (q_rf X g 0) 5) (σ.1 g 4) - F_X1_knownTo X σ (q_rf X g 1) v (σ.1 g 4)), q_letE (F_X2_topSize X σ (q_rf X g 2)), df, ts]
    split <;> rfl
  have ref : (F_X12_isImpossible X τ a v').toInt = if m_U c q (c 5) < c (94 + 7 * (c 9 - 1) + 2) then 1 else 0 := by
    have l1 : (τ.1 (q_rf X a 20) (9 : Int32).toNatClampNeg - 1).toInt = c 9 - 1 := by rw [ar_sub, g9, one, ar_wr (by omega) (by omega)]
    have l2 := gm_laid (X := X) (τ := τ) l1 ⟨by omega, by omega⟩
    have l3 : (τ.1 (q_rf X a 20) (F_X12_laid X τ (τ.1 (q_rf X a 20) (9 : Int32).toNatClampNeg - 1) + 2).toNatClampNeg).toInt = c (94 + 7 * (c 9 - 1) + 2) := gm_cell hc (by rw [ar_add, l2, e2, ar_wr (by omega) (by omega)])
    unfold F_X12_isImpossible
    rw [q_letE (τ.1 (q_rf X a 20) (5 : Int32).toNatClampNeg), q_letE (F_X12_unknownOf X τ a v' (τ.1 (q_rf X a 20) (5 : Int32).toNatClampNeg)), q_letE (τ.1 (q_rf X a 20) (9 : Int32).toNatClampNeg), q_letE (τ.1 (q_rf X a 20) (9 : Int32).toNatClampNeg - 1), q_letE (F_X12_laid X τ (τ.1 (q_rf X a 20) (9 : Int32).toNatClampNeg - 1)), q_letE (F_X12_laid X τ (τ.1 (q_rf X a 20) (9 : Int32).toNatClampNeg - 1) + 2), q_letE, kn2, l3]
    split <;> rfl
  rw [cls, ref]
  refine ⟨rfl, ?_⟩
  split
  · exact Or.inr rfl
  · exact Or.inl rfl
theorem pl_after (Y : y_S X lb) (G : y_G X lb g o) (hV : y_v X g σ = V) (Rg : rg V c) (hG : m_G c) (h2 : 1 ≤ c 2) {x y : Int32} {p k : Int} (hx : x.toInt = p) (hy : y.toInt = k) (hp : 0 ≤ p ∧ p < c 2) (hk : 0 ≤ k ∧ k ≤ 400) : (F_X6_playerAfter X σ (q_rf X g 0) x y).toInt = (p + k) % c 2 := by
  have b2 := hG.1.2.1
  have w := pl_W (lb := lb) (o := o) hV
  have e4 : (σ.1 (q_rf X g 0) 4).toInt = c 2 := (w.rd (id := 1) (by decide) 4 rfl).trans Rg.1.2.2.2.2.1
  unfold F_X6_playerAfter
  rw [q_letE (σ.1 (q_rf X g 0) 4), e4, if_pos (by omega), q_letE, q_letE, q_letE]
  exact gm_fm (by rw [ar_add, hx, hy, ar_wr (by omega) (by omega)]) e4 ⟨by omega, by omega⟩ ⟨by omega, by omega⟩
/-- how far the reference has to go yet -/
def pl_mq (p q : Int) : Nat := (p - q + 20 * min 1 (max 0 (q - p))).toNat
theorem pl_mqE (p q : Int) : pl_mq p q = (if p < q then p - q + 20 else p - q).toNat := by
  unfold pl_mq
  split
  · congr 1; omega
  · congr 1; omega
theorem pl_mqS {p q m : Int} (hp : 0 ≤ p ∧ p < m) (hq : 0 ≤ q ∧ q < m) (hm : m ≤ 6) (h : q ≠ p) : pl_mq p ((q + 1) % m) < pl_mq p q := by
  have e : (q + 1) % m = if q + 1 < m then q + 1 else 0 := by
    split
    · exact Int.emod_eq_of_lt (by omega) (by omega)
    · have e1 : q + 1 = m := by omega
      rw [e1]
      exact Int.emod_self
  rw [e, pl_mqE, pl_mqE]
  split <;> split <;> split <;> omega
/-- what is the same behind the draws -/
def pl_drawn (X : XW) (a R : Nat) (σ σ' τ τ' : ST) : Prop := tkl (fun b f => b = R ∧ f = 6) (fun _ _ => False) σ σ' ∧ tkl (fun b f => b = a ∧ f = 39) (fun _ _ => False) τ τ' ∧ σ'.1 R 6 = τ'.1 a 39
theorem pl_firstL (Y : y_S X lb) (G : y_G X lb g o) (ha : q_kd X a = 12) (hR : lb R / 8192 ≠ o) (Rg : rg V c) (hG : m_G c) (h9 : 1 ≤ c 9) (h2 : 2 ≤ c 2) {v1 : Int32} (hv : v1.toInt = c 6) (fu : Nat) : ∀ (fv : Nat) (x q : Int32) (σ τ : ST), (2147483647 - x.toInt).toNat < fu → pl_mq (c 6) q.toInt < fv → 1 ≤ x.toInt → x.toInt ≤ c 2 → q.toInt = (c 6 + x.toInt) % c 2 → y_v X g σ = V → m_c X τ a = c → σ.1 R 6 = τ.1 a 39 →
    ∃ (z : Int32) (σ' τ' : ST), F_X7_firstDoubter_L2_1 X g R fu x σ = (z, σ') ∧ pl_drawn X a R σ σ' τ τ' ∧
      ((z.toInt = -1 ∧ F_X12_turns_L189_5 X v1 a fv q τ = F_X12_turns_E271_6 X τ' a) ∨ ((0 ≤ z.toInt ∧ z.toInt < c 2) ∧ z.toInt ≠ c 6 ∧ ∃ z' : Int32, z'.toInt = z.toInt ∧ F_X12_turns_L189_5 X v1 a fv q τ = F_X12_turns_E224_7 X τ' a z' v1)) := by
  obtain ⟨b0, b2, b4, b5, b6, b7, b9, b79⟩ := id hG.1
  obtain ⟨n80, n8a, n0a⟩ := pl_k28 Y.1 ha
  have hp : 0 ≤ c 6 ∧ c 6 < c 2 := by omega
  have n11 : ((y_gn 11 : Nat) : Int) = 6 := rfl
  have e16 : (16 : Int32).toInt = 16 := rfl
  have v5 : V 0 5 = c 6 := by
    have z := Rg.2.1.2.1
    rw [if_neg (by omega)] at z
    exact z
  induction fu with
  | zero => intro fv x q σ τ h; exact absurd h (Nat.not_lt_zero _)
  | succ fu ih =>
    intro fv x q σ τ hf hfv x1 x2 hq hV hc hd
    obtain ⟨fv', efv⟩ : ∃ k, fv = k + 1 := ⟨fv - 1, by omega⟩
    subst efv
    have w := pl_W (lb := lb) (o := o) hV
    have pr := pl_round (x := x.toInt) hp ⟨x1, x2⟩
    rw [← hq] at pr
    have f4 : (σ.1 (q_rf X g 0) 4).toInt = c 2 := (w.rd (id := 1) (by decide) 4 rfl).trans Rg.1.2.2.2.2.1
    have f5 : (σ.1 g 5).toInt = c 6 := (w.rd (id := 0) (by decide) 5 rfl).trans v5
    rw [F_X7_firstDoubter_L2_1_s, F_X12_turns_L189_5_s]
    unfold F_X7_firstDoubter_B2_1 F_X12_turns_B189_5
    rw [q_letE (σ.1 (q_rf X g 0) 4), f4, hv]
    by_cases qe : x.toInt = c 2
    · rw [if_neg (by omega : ¬ x.toInt < c 2), if_pos (pr.1.mpr qe)]
      exact ⟨-1, σ, τ, rfl, ⟨tkl.rf, tkl.rf, hd⟩, Or.inl ⟨rfl, rfl⟩⟩
    · have xl : x.toInt < c 2 := by omega
      have qn : q.toInt ≠ c 6 := fun e => qe (pr.1.mp e)
      have pa : (F_X6_playerAfter X σ (q_rf X g 0) (σ.1 g 5) x).toInt = q.toInt := (pl_after Y G hV Rg hG (by omega) f5 rfl hp ⟨by omega, by omega⟩).trans hq.symm
      rw [if_pos xl, if_neg qn, q_letE (σ.1 g 5), q_letE (F_X6_playerAfter X σ (q_rf X g 0) (σ.1 g 5) x)]
      obtain ⟨y, ey⟩ : ∃ y, y = F_X6_playerAfter X σ (q_rf X g 0) (σ.1 g 5) x := ⟨_, rfl⟩
      rw [← ey] at pa ⊢
      obtain ⟨im, im01⟩ := pl_imp (X := X) (τ := τ) (a := a) Y G hV Rg hG hc h9 pa (rfl : q.toInt = q.toInt) pr.2
      rw [q_letE (F_X0_isImpossibleFor X σ g y), im, q_letE (F_X12_isImpossible X τ a q)]
      by_cases qi : (F_X12_isImpossible X τ a q).toInt = 0
      · obtain ⟨d, s, d1, d2⟩ := pl_draw (X := X) (a := a) (R := R) hd
        have vs : y_v X g (q_si σ R 6 s) = V := (pl_vR Y G hR 6 s).trans hV
        have ms : m_c X (q_si τ a 39 s) a = c := (mv_cell Y.1 ha 39 s).trans hc
        have f14 : (F_X5_get X (q_si σ R 6 s) (q_rf X (q_rf X g 1) 4) y).toInt = c (16 + q.toInt) := by
          rw [y_getI Y G (pl_W (lb := lb) (o := o) vs) (id := 11) (r := q_rf X (q_rf X g 1) 4) ⟨by decide, by decide⟩ rfl pa pr.2.1 (by rw [n11]; omega)]
          exact (Rg.2.2.1 q.toInt pr.2.1 (by omega)).2.1
        have g58 : ((q_si τ a 39 s).1 (q_rf X a 20) ((16 : Int32) + q).toNatClampNeg).toInt = c (16 + q.toInt) := gm_cell (A := 16 + q.toInt) ms (by rw [ar_add, e16, ar_wr (by omega) (by omega)])
        have t1 : tkl (fun b f => b = R ∧ f = 6) (fun _ _ => False) σ (q_si σ R 6 s) := tkl.rf.si _ ⟨rfl, rfl⟩
        have t2 : tkl (fun b f => b = a ∧ f = 39) (fun _ _ => False) τ (q_si τ a 39 s) := tkl.rf.si _ ⟨rfl, rfl⟩
        have hd' : (q_si σ R 6 s).1 R 6 = (q_si τ a 39 s).1 a 39 := by rw [si_eq, si_eq]
        rw [if_pos qi, if_pos qi, d1, q_biP d (q_si σ R 6 s), d2, q_biP d (q_si τ a 39 s)]
        obtain ⟨σs, es⟩ : ∃ t, t = q_si σ R 6 s := ⟨_, rfl⟩
        obtain ⟨τs, us⟩ : ∃ t, t = q_si τ a 39 s := ⟨_, rfl⟩
        rw [← es] at vs f14 t1 hd' ⊢
        rw [← us] at ms g58 t2 hd' ⊢
        rw [q_letE (F_X5_get X σs (q_rf X (q_rf X g 1) 4) y), f14, q_letE ((16 : Int32) + q), q_letE (τs.1 (q_rf X a 20) ((16 : Int32) + q).toNatClampNeg), g58]
        by_cases qd : d.toInt < c (16 + q.toInt)
        · rw [if_pos qd, if_pos qd]
          exact ⟨y, σs, τs, rfl, ⟨t1, t2, hd'⟩, Or.inr ⟨by rw [pa]; exact pr.2, by rw [pa]; exact qn, q, pa.symm, rfl⟩⟩
        · have x1' : (x + 1).toInt = x.toInt + 1 := y_inc (by omega)
          have bq := gm_behindOf (X := X) ms b2 (rfl : q.toInt = q.toInt) pr.2
          rw [if_neg qd, if_neg qd, q_letE (x + 1), q_letE (F_X12_behindOf X τs a q)]
          obtain ⟨z, σ', τ', i1, ⟨i2, i3, i4⟩, i5⟩ := ih fv' (x + 1) (F_X12_behindOf X τs a q) σs τs (by omega) (by
            rw [bq]
            have := pl_mqS hp pr.2 b2.2 qn
            omega) (by omega) (by omega) (by rw [bq, hq, x1']; exact pl_add1 (by omega) hp (by omega)) vs ms hd'
          exact ⟨z, σ', τ', i1, ⟨t1.tr i2, t2.tr i3, i4⟩, i5⟩
      · rw [if_neg qi, if_neg qi]
        exact ⟨y, σ, τ, rfl, ⟨tkl.rf, tkl.rf, hd⟩, Or.inr ⟨by rw [pa]; exact pr.2, by rw [pa]; exact qn, q, pa.symm, rfl⟩⟩
end PC

/-! FROM 49zo.turn.lean.txt -/
/-! A ROUND PLAYED: a turn in both -/
def pl_cnt (a R : Nat) (σ τ : ST) : Prop := σ.1 R 6 = τ.1 a 39 ∧ σ.1 R 2 = τ.1 a 42 ∧ σ.1 R 3 = τ.1 a 43 ∧ σ.1 R 4 = τ.1 a 44
/-- both games the same, and what stays -/
def pl_gm (X : XW) (g a : Nat) (σ' τ' : ST) (V : Nat → Int → Int) (c : Int → Int) (n : Int) : Prop := ∃ (V' : Nat → Int → Int) (c' : Int → Int), y_v X g σ' = V' ∧ m_c X τ' a = c' ∧ rg V' c' ∧ m_G c' ∧ m_W c' n ∧ pl_fix V V' c c'
def pl_turned (X : XW) (lb : Nat → Nat) (g o a R : Nat) (σ σ' τ τ' : ST) (V : Nat → Int → Int) (c : Int → Int) (n : Int) (z : Int32) : Prop :=
  tkl (pl_Sc lb o R) (fun _ _ => False) σ σ' ∧ tkl (pl_Sr X a) (fun _ _ => False) τ τ' ∧ pl_cnt a R σ' τ' ∧ σ'.1 R 1 = (if z.toInt = 0 then σ.1 R 1 + 1 else σ.1 R 1) ∧ pl_gm X g a σ' τ' V c (n + 1)
section PD
variable {X : XW} {lb : Nat → Nat} {g o a R : Nat} {σ σ' τ τ' σ0 τ0 : ST} {V V' : Nat → Int → Int} {c : Int → Int} {n : Int}
theorem pl_20 : ∀ {τ τ' : ST}, tkl (fun b _ => b = q_rf X a 20) (fun _ _ => False) τ τ' → tkl (pl_Sr X a) (fun _ _ => False) τ τ' := fun h => h.mono (fun _ _ z => Or.inl z) (fun _ _ z => z)
theorem pl_top (Y : y_S X lb) (G : y_G X lb g o) (hV : y_v X g σ = V) (Rg : rg V c) (hG : m_G c) (hc : m_c X τ a = c) (h9 : 1 ≤ c 9) : (F_X2_topTruth X σ (q_rf X g 2)).toInt = (F_X12_sortOf X τ a (τ.1 (q_rf X a 20) (9 : Int32).toNatClampNeg - 1)).toInt := by
  have b9 := hG.1.2.2.2.2.2.2.1
  have w := pl_W (lb := lb) (o := o) hV
  have one : (1 : Int32).toInt = 1 := rfl
  have f0 : (σ.1 (q_rf X g 2) 0).toInt = c 9 := (w.rd (id := 2) (by decide) 0 rfl).trans Rg.2.2.2.2.1.1
  have g9 : (τ.1 (q_rf X a 20) (9 : Int32).toNatClampNeg).toInt = c 9 := gm_cell (A := 9) hc rfl
  unfold F_X2_topTruth
  rw [q_letE (σ.1 (q_rf X g 2) 0), q_letE (σ.1 (q_rf X g 2) 0 - 1), q_letE]
  exact (rg.sort Y G w Rg hG hc (k := c 9 - 1) (by rw [ar_sub, f0, one, ar_wr (by omega) (by omega)]) (by rw [ar_sub, g9, one, ar_wr (by omega) (by omega)]) ⟨by omega, by omega⟩).1
theorem pl_Wd {c c' : Int → Int} {t P kd tn W u : Int} (h : m_W c n) (hP : 0 ≤ P ∧ P < 6) (r : gd_C c c' t P kd tn W u) (ht : 0 ≤ t) (hu : u = 0 ∨ u = 1) : m_W c' (n + 1) := by
  intro q q0 q1
  have hq := h q q0 q1
  by_cases e : q = P
  · have e1 := r.2.2.1
    have e2 := r.2.2.2.1
    rw [e] at hq ⊢
    omega
  · have e1 := r.1 (22 + q) (by omega) (by omega) (by omega) (by omega) (by omega) (by omega) (by omega) (by omega) (by omega)
    have e2 := r.1 (28 + q) (by omega) (by omega) (by omega) (by omega) (by omega) (by omega) (by omega) (by omega) (by omega)
    omega
/-- left, or doubted -/
theorem pl_leave (Y : y_S X lb) (G : y_G X lb g o) (ha : q_kd X a = 12) (hR : lb R / 8192 ≠ o) (hV : y_v X g σ = V) (Rg : rg V c) (hG : m_G c) (hW : m_W c n) (hc : m_c X τ a = c) (h7 : c 7 = 1) (K : pl_cnt a R σ τ) :
    tkl (pl_Sc lb o R) (fun _ _ => False) σ (F_X0_letLie X σ g) ∧ tkl (pl_Sr X a) (fun _ _ => False) τ (F_X12_leaves X τ a) ∧ pl_cnt a R (F_X0_letLie X σ g) (F_X12_leaves X τ a) ∧ (∀ f, (F_X0_letLie X σ g).1 R f = σ.1 R f) ∧ pl_gm X g a (F_X0_letLie X σ g) (F_X12_leaves X τ a) V c n := by
  obtain ⟨n80, n8a, n0a⟩ := pl_k28 Y.1 ha
  obtain ⟨V', c', w', m', t', R', hV', hc', G'⟩ := gm_letLie Y G ha (pl_W (lb := lb) (o := o) hV) Rg hG hc h7
  have kr : ∀ f, (F_X0_letLie X σ g).1 R f = σ.1 R f := fun f => w'.1 R hR f
  have kt : ∀ f, (F_X12_leaves X τ a).1 a f = τ.1 a f := fun f => t'.1 a f (fun e => n0a e.symm)
  refine ⟨pl_Wt w', pl_20 t', ?_, kr, V', c', w'.2.2, m', R', G', m_W.ext (fun j j0 j1 => hc' j (by omega) (by omega) (by omega) (by omega)) hW, fun id i h => hV' id i (by omega), fun j j0 h => hc' j (by omega) (by omega) (by omega) (by omega)⟩
  unfold pl_cnt
  rw [kr, kr, kr, kr, kt, kt, kt, kt]
  exact K
theorem pl_doubt (Y : y_S X lb) (G : y_G X lb g o) (ha : q_kd X a = 12) (hR : lb R / 8192 ≠ o) (hV : y_v X g σ = V) (Rg : rg V c) (hG : m_G c) (hW : m_W c n) (hn : n ≤ 900000) (hc : m_c X τ a = c) (h7 : c 7 = 1) (h9 : 1 ≤ c 9) (K : pl_cnt a R σ τ) {v v' v1 : Int32} (hv : v'.toInt = v.toInt) (hq : 0 ≤ v.toInt ∧ v.toInt < c 2) (hne : v.toInt ≠ c 6) (hv1 : v1.toInt = c 6) {f3 : Int32} (ef3 : f3 = σ.1 R 3 + 1) (A B : ST → ST)
    (eA : ∀ s, A s = q_bi (F_X0_challenge X s g v) (fun _ s' => s')) (eB : ∀ s, B s = q_let (s.1 R 4) (fun f => q_let (f + 1) (fun z => q_let (q_si s R 4 z) (fun s' => q_bi (F_X0_challenge X s' g v) (fun _ s2 => s2))))) :
    ∃ (σ' τ' : ST), (if (F_X2_topTruth X (q_si σ R 3 f3) (q_rf X g 2)).toInt = 0 then A (q_si σ R 3 f3) else B (q_si σ R 3 f3)) = σ' ∧ F_X12_turns_E224_7 X τ a v' v1 = (1, τ') ∧ tkl (pl_Sc lb o R) (fun _ _ => False) σ σ' ∧ tkl (pl_Sr X a) (fun _ _ => False) τ τ' ∧ pl_cnt a R σ' τ' ∧ σ'.1 R 1 = σ.1 R 1 ∧ pl_gm X g a σ' τ' V c (n + 1) := by
  obtain ⟨b0, b2, b4, b5, b6, b7, b9, b79⟩ := id hG.1
  obtain ⟨n80, n8a, n0a⟩ := pl_k28 Y.1 ha
  obtain ⟨K6, K2, K3, K4⟩ := K
  have na0 : a ≠ q_rf X a 20 := fun e => n0a e.symm
  have hWW : ∀ q : Int, 0 ≤ q → q < 6 → (0 ≤ c (22 + q) ∧ c (22 + q) ≤ 1000000) ∧ 0 ≤ c (28 + q) ∧ c (28 + q) ≤ 1000000 := fun q q0 q1 => by
    have := hW q q0 q1
    omega
  -- the reference
  have m1 : m_c X (q_si τ a 43 f3) a = c := (mv_cell Y.1 ha 43 f3).trans hc
  have e43 : τ.1 a 43 + 1 = f3 := by rw [ef3, K3]
  have e44 : (q_si τ a 43 f3).1 a 44 = τ.1 a 44 := si_f (by decide) _
  have c1 : tkl (pl_Sc lb o R) (fun _ _ => False) σ (q_si σ R 3 f3) := tkl.rf.si _ (Or.inr ⟨rfl, by decide, by decide, by decide⟩)
  have v1' : y_v X g (q_si σ R 3 f3) = V := (pl_vR Y G hR 3 f3).trans hV
  have r1 : ∀ f, f ≠ 3 → (q_si σ R 3 f3).1 R f = σ.1 R f := fun f h => si_f h _
  have s3 : (q_si σ R 3 f3).1 R 3 = f3 := si_eq _ _ _ _
  obtain ⟨σ1, es⟩ : ∃ s, s = q_si σ R 3 f3 := ⟨_, rfl⟩
  obtain ⟨τ1, et⟩ : ∃ s, s = q_si τ a 43 f3 := ⟨_, rfl⟩
  have T1 : tkl (pl_Sr X a) (fun _ _ => False) τ τ1 := by
    rw [et]
    exact tkl.rf.si _ (Or.inr (Or.inr ⟨rfl, Or.inr ⟨by decide, by decide⟩⟩))
  have tt1 : ∀ f, f ≠ 43 → τ1.1 a f = τ.1 a f := fun f h => by rw [et]; exact si_f h _
  have t43 : τ1.1 a 43 = f3 := by rw [et]; exact si_eq _ _ _ _
  rw [← es] at c1 v1' r1 s3 ⊢
  rw [← et] at m1 e44
  have tp := pl_top Y G v1' Rg hG m1 h9
  have ref : ∀ (z : Int32) (τ2 : ST), F_X12_doubts X τ1 a v' = (z, τ2) → F_X12_turns_E224_7 X τ a v' v1 = (1, q_si τ2 a 44 (if z.toInt = c 6 then τ.1 a 44 + 1 else τ.1 a 44)) := by
    intro z τ2 h
    unfold F_X12_turns_E224_7
    rw [q_letE (τ.1 a 43), e43, q_letE f3, q_letE (q_si τ a 43 f3), ← et, q_letE (τ1.1 a 44), h, q_biP z τ2, hv1, e44]
    by_cases q : z.toInt = c 6
    · rw [if_pos q, if_pos q, q_letE, q_letE]
    · rw [if_neg q, if_neg q, q_letE, q_letE]
      congr 2
      exact Int32.add_zero _
  have key : ∀ (σ2 : ST) (s : Int32), y_v X g σ2 = V → tkl (pl_Sc lb o R) (fun _ _ => False) σ σ2 → (∀ f, f ≠ 4 → σ2.1 R f = σ1.1 R f) → σ2.1 R 4 = s → (F_X2_topTruth X σ2 (q_rf X g 2)).toInt = (F_X12_sortOf X τ1 a (τ1.1 (q_rf X a 20) (9 : Int32).toNatClampNeg - 1)).toInt → s = (if (F_X2_topTruth X σ2 (q_rf X g 2)).toInt = 0 then σ.1 R 4 else σ.1 R 4 + 1) →
      ∃ (σ' τ' : ST), q_bi (F_X0_challenge X σ2 g v) (fun _ s' => s') = σ' ∧ F_X12_turns_E224_7 X τ a v' v1 = (1, τ') ∧ tkl (pl_Sc lb o R) (fun _ _ => False) σ σ' ∧ tkl (pl_Sr X a) (fun _ _ => False) τ τ' ∧ pl_cnt a R σ' τ' ∧ σ'.1 R 1 = σ.1 R 1 ∧ pl_gm X g a σ' τ' V c (n + 1) := by
    intro σ2 s y2 x2 x3 x4 x5 x6
    obtain ⟨z, z', σ3, τ3, V3, c3, t, P, kd, tn, W, u, d1, d2, d3, d4, d5, d6, d7, d8, d9, d10, d11, d12, d13, d14, d15⟩ := gm_doubt2 Y G (pl_W (lb := lb) (o := o) y2) Rg m1 hG h7 hWW (v := v) (v' := v') rfl hv hq
    rw [d1, q_biP z σ3]
    have rr := ref z' τ3 d2
    have kr : ∀ f, σ3.1 R f = σ2.1 R f := fun f => d6.1 R hR f
    have kt : ∀ f, τ3.1 a f = τ1.1 a f := fun f => d8.1 a f na0
    obtain ⟨y, ey⟩ : ∃ y, y = if z'.toInt = c 6 then τ.1 a 44 + 1 else τ.1 a 44 := ⟨_, rfl⟩
    rw [← ey] at rr
    have ys : s = y := by
      rw [x6, ey, d4, K4]
      by_cases q : (F_X2_topTruth X σ2 (q_rf X g 2)).toInt = 0
      · rw [if_pos q, if_neg (fun e => by
          have := d14.mp (e.trans d13.symm)
          rcases this with k | k
          · exact k q
          · exact hne (k.trans d13))]
      · rw [if_neg q, if_pos ((d14.mpr (Or.inl q)).trans d13)]
    have t0 : 0 ≤ t := by rcases d5 with e | e <;> omega
    refine ⟨σ3, q_si τ3 a 44 y, rfl, rr, x2.tr (pl_Wt d6), (T1.tr (pl_20 d8)).si _ (Or.inr (Or.inr ⟨rfl, Or.inr ⟨by decide, by decide⟩⟩)), ⟨?_, ?_, ?_, ?_⟩, ?_, V3, c3, d6.2.2, (mv_cell Y.1 ha 44 y).trans d7, d9, d10, pl_Wd hW (by omega) d12 t0 d15, fun id i h => d11.1 id i (by omega) (by omega) (by omega) (by omega) (by omega) (by omega) (by omega), fun j j0 h => d12.1 j j0 (by omega) (by omega) (by omega) (by omega) (by omega) (by omega) (by omega) (by omega)⟩
    · rw [kr, x3 6 (by decide), r1 6 (by decide), si_f (by decide), kt, tt1 39 (by decide), K6]
    · rw [kr, x3 2 (by decide), r1 2 (by decide), si_f (by decide), kt, tt1 42 (by decide), K2]
    · rw [kr, x3 3 (by decide), s3, si_f (by decide), kt, t43]
    · rw [kr, x4, si_eq, ys]
    · rw [kr, x3 1 (by decide), r1 1 (by decide)]
  by_cases q : (F_X2_topTruth X σ1 (q_rf X g 2)).toInt = 0
  · rw [if_pos q, eA]
    exact key σ1 _ v1' c1 (fun _ _ => rfl) (r1 4 (by decide)) tp (by rw [if_pos q])
  · rw [if_neg q, eB, q_letE (σ1.1 R 4), q_letE (σ1.1 R 4 + 1), q_letE (q_si σ1 R 4 (σ1.1 R 4 + 1))]
    have v2' : y_v X g (q_si σ1 R 4 (σ1.1 R 4 + 1)) = V := (pl_vR Y G hR 4 _).trans v1'
    have tp2 := pl_top Y G v2' Rg hG m1 h9
    refine key _ _ v2' (c1.si _ (Or.inr ⟨rfl, by decide, by decide, by decide⟩)) (fun f h => si_f h _) (si_eq _ _ _ _) tp2 ?_
    rw [if_neg (by rw [tp2, ← tp]; exact q), r1 4 (by decide)]
/-- what comes behind what was left before -/
theorem pl_turnJ (Y : y_S X lb) (G : y_G X lb g o) (ha : q_kd X a = 12) (hR : lb R / 8192 ≠ o) (hV : y_v X g σ = V) (Rg : rg V c) (hG : m_G c) (hW : m_W c n) (hn : n ≤ 900000) (hc : m_c X τ a = c) (K : pl_cnt a R σ τ) :
    ∃ (z : Int32) (σ' τ' : ST), F_X7_takeTurn_J11_1 X g R σ = σ' ∧ F_X12_turns_J15_1 X a τ = (z, τ') ∧ pl_turned X lb g o a R σ σ' τ τ' V c n z := by
  obtain ⟨b0, b2, b4, b5, b6, b7, b9, b79⟩ := id hG.1
  obtain ⟨n80, n8a, n0a⟩ := pl_k28 Y.1 ha
  obtain ⟨K6, K2, K3, K4⟩ := id K
  have na0 : a ≠ q_rf X a 20 := fun e => n0a e.symm
  have gn9 : ((y_gn 9 : Nat) : Int) = 6 := rfl
  have w := pl_W (lb := lb) (o := o) hV
  have s3 := Rg.2.1.2.2.1
  have f6 : (σ.1 g 6).toInt = c 8 := (w.rd (id := 0) (by decide) 6 rfl).trans s3.1
  have f4 : (σ.1 (q_rf X g 0) 4).toInt = c 2 := (w.rd (id := 1) (by decide) 4 rfl).trans Rg.1.2.2.2.2.1
  have g8 : (τ.1 (q_rf X a 20) (8 : Int32).toNatClampNeg).toInt = c 8 := gm_cell (A := 8) hc rfl
  have g2 : (τ.1 (q_rf X a 20) (2 : Int32).toNatClampNeg).toInt = c 2 := gm_cell (A := 2) hc rfl
  have g6 : (τ.1 (q_rf X a 20) (6 : Int32).toNatClampNeg).toInt = c 6 := gm_cell (A := 6) hc rfl
  have missed : ∀ z : Int32, z.toInt = 0 → pl_turned X lb g o a R σ (q_si σ R 1 (σ.1 R 1 + 1)) τ τ V c n z := by
    intro z hz
    refine ⟨tkl.rf.si _ (Or.inr ⟨rfl, by decide, by decide, by decide⟩), tkl.rf, ⟨?_, ?_, ?_, ?_⟩, ?_, V, c, (pl_vR Y G hR 1 _).trans hV, hc, Rg, hG, hW.le (by omega), pl_fix.rf⟩
    · rw [si_f (by decide)]; exact K6
    · rw [si_f (by decide)]; exact K2
    · rw [si_f (by decide)]; exact K3
    · rw [si_f (by decide)]; exact K4
    · rw [if_pos hz, si_eq]
  unfold F_X7_takeTurn_J11_1 F_X12_turns_J15_1
  rw [q_letE (σ.1 g 6), f6, q_letE (τ.1 (q_rf X a 20) (8 : Int32).toNatClampNeg), g8]
  by_cases q8 : ¬ c 8 = -1
  · rw [if_neg q8, if_neg (by omega : ¬ c 8 < 0), q_letE (σ.1 R 1), q_letE (σ.1 R 1 + 1), q_letE (q_si σ R 1 (σ.1 R 1 + 1))]
    exact ⟨0, _, τ, rfl, rfl, missed 0 rfl⟩
  have q8' := Classical.not_not.mp q8
  rw [if_pos q8', if_pos (by omega : c 8 < 0), q_letE (σ.1 (q_rf X g 0) 4), f4, q_letE (τ.1 (q_rf X a 20) (2 : Int32).toNatClampNeg), g2]
  by_cases q2 : c 2 < 2
  · rw [if_pos q2, if_pos q2, q_letE (σ.1 R 1), q_letE (σ.1 R 1 + 1), q_letE (q_si σ R 1 (σ.1 R 1 + 1))]
    exact ⟨0, _, τ, rfl, rfl, missed 0 rfl⟩
  have hp : 0 ≤ c 6 ∧ c 6 < 6 := by omega
  have v5 : V 0 5 = c 6 := by
    have z := Rg.2.1.2.1
    rw [if_neg (by omega)] at z
    exact z
  have f5 : (σ.1 g 5).toInt = c 6 := (w.rd (id := 0) (by decide) 5 rfl).trans v5
  have f9 : (F_X5_get X σ (q_rf X (q_rf X g 1) 2) (σ.1 g 5)).toInt = m_S c (34 + 10 * c 6) 10 := (y_getI Y G w (id := 9) (r := q_rf X (q_rf X g 1) 2) ⟨by decide, by decide⟩ rfl f5 hp.1 (by rw [gn9]; exact hp.2)).trans (Rg.2.2.2.1.2 (c 6) hp.1 hp.2)
  have g9 := gm_cardsOf (X := X) hc hG g6 hp
  rw [if_neg q2, if_neg q2, q_letE (σ.1 g 5), q_letE (F_X5_get X σ (q_rf X (q_rf X g 1) 2) (σ.1 g 5)), f9, q_letE (τ.1 (q_rf X a 20) (6 : Int32).toNatClampNeg), q_letE (F_X12_cardsOf X τ a (τ.1 (q_rf X a 20) (6 : Int32).toNatClampNeg)), g9]
  by_cases qS : m_S c (34 + 10 * c 6) 10 = 0
  · rw [if_pos qS, if_pos qS, q_letE (σ.1 R 1), q_letE (σ.1 R 1 + 1), q_letE (q_si σ R 1 (σ.1 R 1 + 1))]
    exact ⟨0, _, τ, rfl, rfl, missed 0 rfl⟩
  rw [if_neg qS, if_neg qS, q_letE (τ.1 (q_rf X a 20) (6 : Int32).toNatClampNeg)]
  obtain ⟨v1, ev1⟩ : ∃ v, v = τ.1 (q_rf X a 20) (6 : Int32).toNatClampNeg := ⟨_, rfl⟩
  rw [← ev1] at g6 ⊢
  -- what is laid
  obtain ⟨σ1, τ1, l, x1, x2, t1, r1, d1, ⟨V1, hV1, kV1, l1⟩, u1, m1, of1, lo⟩ := pl_choose Y G ha hR hV Rg hG hc K6 (by omega) qS g6
  rw [q_letE (F_X7_choose X σ R g), x1, x2]
  have R1 : rg V1 c := Rg.w hG (fun id i i1 i2 i3 => kV1 id i i1 (by omega))
  have b79' := lo.c9
  have s80 := hG.S80 (p := c 6) (k := 10) hp.1 hp.2 (by decide) (by decide)
  have z10 : m_S c (34 + 10 * c 6) (10 : Int).toNat = m_S c (34 + 10 * c 6) 10 := rfl
  have l80 := hG.L80 b9.1 (Int.le_refl (c 9))
  have gp : gl_p V1 l (c 6) (c 9) (c 0) := by
    refine ⟨(kV1 0 5 (by decide) (Or.inr (by decide))).trans v5, R1.1.1, hp, ⟨by omega, by omega⟩, ⟨by omega, by omega⟩, fun t a0 a1 => ⟨l1 t a0 a1, (lo.2.2.1 t a0 a1).1⟩, lo.2.2.2.2, ?_, fun t a0 a1 => ⟨?_, ?_⟩, ?_⟩
    · rw [R1.2.2.2.2.1.2.1]; omega
    · rw [R1.2.2.2.1.1 (10 * c 6 + t) (by omega) (by omega)]
      have := hG.h80 (p := c 6) (k := t) hp.1 hp.2 a0 a1
      have e : (34 : Int) + (10 * c 6 + t) = 34 + 10 * c 6 + t := by omega
      rw [e]
      omega
    · rw [R1.2.2.2.2.2.1 (c 6) t hp.1 hp.2 a0 a1]
      have := hG.A_bd (c 6) t (c 9).toNat (by omega)
      omega
    · rw [R1.2.2.2.1.2 (c 6) hp.1 hp.2]; omega
  obtain ⟨V5, w5, gv⟩ := gm_layWanted Y G (pl_W (lb := lb) (o := o) hV1) gp R1.2.2.2.2.1.1
  unfold F_X12_turns_J163_4
  obtain ⟨c5, mc, tc, gr, gG⟩ := gm_laysDown (X := X) (τ := τ1) Y.1 ha m1 lo rfl (v1 := v1) g6 of1
  rw [q_letE (F_X0_layWanted X σ1 g), q_letE (F_X12_laysDown X τ1 a v1 (q_rf X a 28))]
  obtain ⟨σ5, e5⟩ : ∃ t, t = F_X0_layWanted X σ1 g := ⟨_, rfl⟩
  obtain ⟨τ5, u5⟩ : ∃ t, t = F_X12_laysDown X τ1 a v1 (q_rf X a 28) := ⟨_, rfl⟩
  rw [← e5] at w5 ⊢
  rw [← u5] at mc tc ⊢
  have R5 := rg.lay R1 lo rfl gv gr
  have hV5 : y_v X g σ5 = y_up V5 0 7 1 := w5.2.2
  obtain ⟨V6, e6⟩ : ∃ v, v = y_up V5 0 7 1 := ⟨_, rfl⟩
  rw [← e6] at R5 hV5
  have c57 : c5 7 = 1 := gr.2.2.2.2.2.2.1
  have c59 : c5 9 = c 9 + 1 := gr.2.2.2.2.2.1
  have c5j : ∀ j : Int, 0 ≤ j → j < 34 → j ≠ 7 → j ≠ 9 → c5 j = c j := fun j j0 j1 j2 j3 => gr.1 j j0 (by omega) (by omega) j3 j2
  have fx5 : pl_fix V V6 c c5 := by
    refine ⟨fun id i h => ?_, fun j j0 h => gr.1 j j0 (by omega) (by omega) (by omega) (by omega)⟩
    rw [e6, y_up_ne (by omega), gv.1 id i (by omega) (by omega) (by omega) (by omega) (by omega) (by omega) (by omega) (by omega)]
    exact kV1 id i (by omega) (by omega)
  have W5 : m_W c5 n := m_W.ext (fun j j0 j1 => c5j j (by omega) j1 (by omega) (by omega)) hW
  have c52 : c5 2 = c 2 := c5j 2 (by decide) (by decide) (by decide) (by decide)
  have c56 : c5 6 = c 6 := c5j 6 (by decide) (by decide) (by decide) (by decide)
  have kr5 : ∀ f, σ5.1 R f = σ1.1 R f := fun f => w5.1 R hR f
  have kt5 : ∀ f, τ5.1 a f = τ1.1 a f := fun f => tc.1 a f na0
  have kt1 : ∀ f, f ≠ 39 → τ1.1 a f = τ.1 a f := fun f h => u1.1 a f (fun z => by
    rcases z with z | z
    · exact n8a z.symm
    · exact h z.2)
  have T5 : tkl (pl_Sr X a) (fun _ _ => False) τ τ5 := (u1.mono (fun b f z => by
    rcases z with z | z
    · exact Or.inr (Or.inl z)
    · exact Or.inr (Or.inr ⟨z.1, Or.inl z.2⟩)) (fun _ _ z => z)).tr (pl_20 tc)
  have S5 : tkl (pl_Sc lb o R) (fun _ _ => False) σ σ5 := t1.tr (pl_Wt w5)
  -- one laying more
  have y42 : σ5.1 R 2 = τ5.1 a 42 := by rw [kr5, kt5, r1 2 (by decide), kt1 42 (by decide), K2]
  obtain ⟨m2, em2⟩ : ∃ m, m = τ5.1 a 42 + 1 := ⟨_, rfl⟩
  rw [q_letE (σ5.1 R 2), y42, q_letE (τ5.1 a 42), ← em2, q_letE m2, q_letE (q_si σ5 R 2 m2), q_letE m2, q_letE (q_si τ5 a 42 m2)]
  have hV6 : y_v X g (q_si σ5 R 2 m2) = V6 := (pl_vR Y G hR 2 m2).trans hV5
  have mc6 : m_c X (q_si τ5 a 42 m2) a = c5 := (mv_cell Y.1 ha 42 m2).trans mc
  have K6' : pl_cnt a R (q_si σ5 R 2 m2) (q_si τ5 a 42 m2) := by
    refine ⟨?_, by rw [si_eq, si_eq], ?_, ?_⟩
    · rw [si_f (by decide), si_f (by decide), kr5, kt5, d1]
    · rw [si_f (by decide), si_f (by decide), kr5, kt5, r1 3 (by decide), kt1 43 (by decide), K3]
    · rw [si_f (by decide), si_f (by decide), kr5, kt5, r1 4 (by decide), kt1 44 (by decide), K4]
  have R1' : (q_si σ5 R 2 m2).1 R 1 = σ.1 R 1 := by rw [si_f (by decide), kr5, r1 1 (by decide)]
  have S6 : tkl (pl_Sc lb o R) (fun _ _ => False) σ (q_si σ5 R 2 m2) := S5.si _ (Or.inr ⟨rfl, by decide, by decide, by decide⟩)
  have T6 : tkl (pl_Sr X a) (fun _ _ => False) τ (q_si τ5 a 42 m2) := T5.si _ (Or.inr (Or.inr ⟨rfl, Or.inr ⟨by decide, by decide⟩⟩))
  obtain ⟨σ6, es6⟩ : ∃ t, t = q_si σ5 R 2 m2 := ⟨_, rfl⟩
  obtain ⟨τ6, et6⟩ : ∃ t, t = q_si τ5 a 42 m2 := ⟨_, rfl⟩
  rw [← es6] at hV6 K6' R1' S6 ⊢
  rw [← et6] at mc6 K6' T6 ⊢
  -- who doubts
  have bq := gm_behindOf (X := X) mc6 (by rw [c52]; exact b2) (x := v1) (p := c5 6) (by rw [c56]; exact g6) (by rw [c56, c52]; omega)
  rw [q_letE (F_X12_behindOf X τ6 a v1)]
  obtain ⟨q, eq⟩ : ∃ q, q = F_X12_behindOf X τ6 a v1 := ⟨_, rfl⟩
  rw [← eq] at bq ⊢
  have one : (1 : Int32).toInt = 1 := rfl
  obtain ⟨z, σ7, τ7, y1, ⟨y2, y3, y4⟩, y5⟩ := pl_firstL (R := R) Y G ha hR R5 gG (by rw [c59]; omega) (by rw [c52]; omega) (v1 := v1) (by rw [c56]; exact g6) ((2147483647 - (1 : Int32).toInt).toNat + 1) ((v1.toInt - q.toInt + 20 * min 1 (max 0 (q.toInt - v1.toInt))).toNat + 1) 1 q σ6 τ6 (Nat.lt_succ_self _) (by
      rw [g6, c56]
      exact Nat.lt_succ_self _) (by decide) (by rw [one, c52]; omega) (by rw [bq, one]) hV6 mc6 K6'.1
  have fd : F_X7_firstDoubter X σ6 R g = (z, σ7) := y1
  rw [fd, q_biP z σ7]
  have hV7 : y_v X g σ7 = V6 := (pl_vt Y G hR y2).trans hV6
  have mc7 : m_c X τ7 a = c5 := (pl_mc (fun f => y3.1 _ f (fun e => n0a e.1))).trans mc6
  have kr7 : ∀ f, f ≠ 6 → σ7.1 R f = σ6.1 R f := fun f h => y2.1 R f (fun e => h e.2)
  have kt7 : ∀ f, f ≠ 39 → τ7.1 a f = τ6.1 a f := fun f h => y3.1 a f (fun e => h e.2)
  have K7 : pl_cnt a R σ7 τ7 := by
    refine ⟨y4, ?_, ?_, ?_⟩
    · rw [kr7 2 (by decide), kt7 42 (by decide)]; exact K6'.2.1
    · rw [kr7 3 (by decide), kt7 43 (by decide)]; exact K6'.2.2.1
    · rw [kr7 4 (by decide), kt7 44 (by decide)]; exact K6'.2.2.2
  have S7 : tkl (pl_Sc lb o R) (fun _ _ => False) σ σ7 := S6.tr (y2.mono (fun b f e => Or.inr ⟨e.1, by rw [e.2]; decide⟩) (fun _ _ e => e))
  have T7 : tkl (pl_Sr X a) (fun _ _ => False) τ τ7 := T6.tr (y3.mono (fun b f e => Or.inr (Or.inr ⟨e.1, Or.inl e.2⟩)) (fun _ _ e => e))
  have R7 : σ7.1 R 1 = σ.1 R 1 := (kr7 1 (by decide)).trans R1'
  rcases y5 with ⟨zn, yl⟩ | ⟨zb, zne, z', ez, yl⟩
  · have lv := pl_leave Y G ha hR hV7 R5 gG W5 mc7 c57 K7
    rw [if_pos zn, q_letE (F_X0_letLie X σ7 g), yl]
    unfold F_X12_turns_E271_6
    rw [q_letE (F_X12_leaves X τ7 a)]
    obtain ⟨V8, c8, i1, i2, i3, i4, i5, i6⟩ := lv.2.2.2.2
    refine ⟨1, _, _, rfl, rfl, S7.tr lv.1, T7.tr lv.2.1, lv.2.2.1, ?_, V8, c8, i1, i2, i3, i4, i5.le (by omega), fx5.tr i6⟩
    rw [if_neg (by decide), lv.2.2.2.1, R7]
  · obtain ⟨σ', τ', j1, j2, j3, j4, j5, j6, V8, c8, i1, i2, i3, i4, i5, i6⟩ := pl_doubt Y G ha hR hV7 R5 gG W5 hn mc7 c57 (by rw [c59]; omega) K7 (v := z) (v' := z') (v1 := v1) ez zb zne (by rw [c56]; exact g6) (f3 := σ7.1 R 3 + 1) rfl (fun s => q_bi (F_X0_challenge X s g z) (fun _ s' => s')) (fun s => q_let (s.1 R 4) (fun f => q_let (f + 1) (fun z_ => q_let (q_si s R 4 z_) (fun s' => q_bi (F_X0_challenge X s' g z) (fun _ s2 => s2))))) (fun _ => rfl) (fun _ => rfl)
    rw [if_neg (by omega : ¬ z.toInt = -1), yl, j2, q_letE (σ7.1 R 3), q_letE (σ7.1 R 3 + 1), q_letE (q_si σ7 R 3 (σ7.1 R 3 + 1)), q_letE (F_X2_topTruth X (q_si σ7 R 3 (σ7.1 R 3 + 1)) (q_rf X g 2))]
    refine ⟨1, σ', τ', j1, rfl, S7.tr j3, T7.tr j4, j5, ?_, V8, c8, i1, i2, i3, i4, i5, fx5.tr i6⟩
    rw [if_neg (by decide), j6, R7]
theorem pl_turn (Y : y_S X lb) (G : y_G X lb g o) (ha : q_kd X a = 12) (hR : lb R / 8192 ≠ o) (hV : y_v X g σ = V) (Rg : rg V c) (hG : m_G c) (hW : m_W c n) (hn : n ≤ 900000) (hc : m_c X τ a = c) (K : pl_cnt a R σ τ) :
    ∃ (z : Int32) (σ' τ' : ST), F_X7_takeTurn X σ R g = σ' ∧ F_X12_turns X τ a = (z, τ') ∧ pl_turned X lb g o a R σ σ' τ τ' V c n z := by
  have b7 := hG.1.2.2.2.2.2.1
  have w := pl_W (lb := lb) (o := o) hV
  have f7 : (σ.1 g 7).toInt = c 7 := (w.rd (id := 0) (by decide) 7 rfl).trans Rg.2.1.2.2.2
  have g7 : (τ.1 (q_rf X a 20) (7 : Int32).toNatClampNeg).toInt = c 7 := gm_cell (A := 7) hc rfl
  unfold F_X7_takeTurn F_X12_turns
  rw [q_letE (σ.1 g 7), f7, q_letE (τ.1 (q_rf X a 20) (7 : Int32).toNatClampNeg), g7]
  by_cases q : c 7 = 0
  · rw [if_pos q, if_neg (by omega)]
    exact pl_turnJ Y G ha hR hV Rg hG hW hn hc K
  · have q1 : c 7 = 1 := by omega
    obtain ⟨s1, s2, s3, s4, V1, c1, i1, i2, i3, i4, i5, i6⟩ := pl_leave Y G ha hR hV Rg hG hW hc q1 K
    rw [if_neg q, if_pos q1, q_letE (F_X0_letLie X σ g), q_letE (F_X12_leaves X τ a)]
    obtain ⟨z, σ', τ', j1, j2, k1, k2, k3, k4, V2, c2, l1, l2, l3, l4, l5, l6⟩ := pl_turnJ Y G ha hR i1 i3 i4 i5 hn i2 s3
    refine ⟨z, σ', τ', j1, j2, s1.tr k1, s2.tr k2, k3, ?_, V2, c2, l1, l2, l3, l4, l5, i6.tr l6⟩
    rw [k4, s4]
end PD

/-! FROM 49zp.moves.lean.txt -/
/-! A ROUND PLAYED: the moves of the class's loop, the marks of both -/
def pl_T (X : XW) (R : Nat) : Nat := q_rf X (q_rf X R 7) 0
/-- a run of its own, beside the game -/
def pl_D (X : XW) (lb : Nat → Nat) (o R : Nat) : Prop := q_kd X R = 7 ∧ lb R / 8192 ≠ o ∧ lb (pl_T X R) / 8192 ≠ o ∧ q_kd X (pl_T X R) = 20 ∧ q_ln X (pl_T X R) = 60
def pl_Sg (X : XW) (lb : Nat → Nat) (o R : Nat) (b f : Nat) : Prop := lb b / 8192 = o ∨ b = R ∧ f ≤ 6 ∨ b = pl_T X R
def pl_Sq (X : XW) (a : Nat) (b f : Nat) : Prop := b = q_rf X a 20 ∨ b = q_rf X a 28 ∨ b = a ∧ 38 ≤ f ∧ f ≤ 45
/-- both runs, both games the same -/
def pl_J (X : XW) (g a R : Nat) (V0 : Nat → Int → Int) (c0 : Int → Int) (n : Int) (σ τ : ST) : Prop :=
  pl_cnt a R σ τ ∧ σ.1 R 0 = τ.1 a 40 ∧ σ.1 R 1 = τ.1 a 41 ∧ σ.1 R 5 = τ.1 a 45 ∧ (0 ≤ (τ.1 a 40).toInt ∧ (τ.1 a 40).toInt ≤ 300) ∧ pl_gm X g a σ τ V0 c0 (n + (τ.1 a 40).toInt)
/-- neither is at its end -/
def pl_on (a : Nat) (τ : ST) : Prop := (τ.1 a 38).toInt = 0 ∧ (τ.1 a 45).toInt = 0
noncomputable def pl_L (X : XW) (g R : Nat) (x i : Int32) (σ : ST) : ST := F_X7_go_L46_1 X g R ((2147483647 - i.toInt).toNat + 1) x i σ
/-- what a piece of the round does: steps l to l', at most B moves more than a hundred a step -/
def pl_O (X : XW) (lb : Nat → Nat) (g o a R : Nat) (V0 : Nat → Int → Int) (c0 : Int → Int) (n : Int) (σ τ τ' : ST) (l l' B : Int) (x i : Int32) : Prop :=
  ∃ σ' : ST, tkl (pl_Sg X lb o R) (fun _ _ => False) σ σ' ∧ tkl (pl_Sq X a) (fun _ _ => False) τ τ' ∧ pl_J X g a R V0 c0 n σ' τ' ∧ (∀ y : Nat, (y : Int) < l ∨ l' ≤ (y : Int) → σ'.1 (pl_T X R) y = σ.1 (pl_T X R) y) ∧
    ((pl_on a τ' ∧ ∃ x' i' : Int32, x'.toInt = l' ∧ 0 ≤ i'.toInt ∧ i'.toInt - 100 * (τ'.1 a 40).toInt ≤ B ∧ pl_L X g R x i σ = pl_L X g R x' i' σ') ∨ ((τ'.1 a 38).toInt = 1 ∧ pl_L X g R x i σ = σ'))
section PE
variable {X : XW} {lb : Nat → Nat} {g o a R : Nat} {σ σ' τ τ' : ST} {V0 V : Nat → Int → Int} {c0 c : Int → Int} {n : Int}
theorem pl_len (Y : y_S X lb) (a : Nat) {k : Nat} (h : q_ln X a = k) : (q_len X a).toInt = (k : Int) := by rw [y_len Y, h]
theorem pl_tget (Y : y_S X lb) (D : pl_D X lb o R) {x : Int32} (hx : 0 ≤ x.toInt ∧ x.toInt < 60) : F_X5_get X σ (q_rf X R 7) x = σ.1 (pl_T X R) x.toNatClampNeg := by
  have e : (q_len X (pl_T X R)).toInt = 60 := pl_len Y _ D.2.2.2.2
  unfold F_X5_get
  show (if x.toInt < 0 then (0 : Int32) else q_let (q_len X (pl_T X R)) (fun n_2 => if x.toInt < n_2.toInt then q_let (σ.1 (pl_T X R) x.toNatClampNeg) (fun f_4 => f_4) else (0 : Int32))) = _
  rw [if_neg (by omega), q_letE (q_len X (pl_T X R)), e, if_pos hx.2, q_letE]
theorem pl_tset (Y : y_S X lb) (D : pl_D X lb o R) {x v : Int32} (hx : 0 ≤ x.toInt ∧ x.toInt < 60) : F_X5_set X σ (q_rf X R 7) x v = q_si σ (pl_T X R) x.toNatClampNeg v := by
  have e : (q_len X (pl_T X R)).toInt = 60 := pl_len Y _ D.2.2.2.2
  unfold F_X5_set
  show (if x.toInt < 0 then σ else q_let (q_len X (pl_T X R)) (fun n_2 => if x.toInt < n_2.toInt then q_let (q_si σ (pl_T X R) x.toNatClampNeg v) (fun f_4 => f_4) else σ)) = _
  rw [if_neg (by omega), q_letE (q_len X (pl_T X R)), e, if_pos hx.2, q_letE]
theorem pl_tadd (Y : y_S X lb) (D : pl_D X lb o R) {x v : Int32} (hx : 0 ≤ x.toInt ∧ x.toInt < 60) : F_X5_add X σ (q_rf X R 7) x v = q_si σ (pl_T X R) x.toNatClampNeg (σ.1 (pl_T X R) x.toNatClampNeg + v) := by
  have e : (q_len X (pl_T X R)).toInt = 60 := pl_len Y _ D.2.2.2.2
  unfold F_X5_add
  show (if x.toInt < 0 then σ else q_let (q_len X (pl_T X R)) (fun n_2 => if x.toInt < n_2.toInt then q_let (σ.1 (pl_T X R) x.toNatClampNeg) (fun f_4 => q_let (f_4 + v) (fun z_5 => q_let (q_si σ (pl_T X R) x.toNatClampNeg z_5) (fun s => s))) else σ)) = _
  rw [if_neg (by omega), q_letE (q_len X (pl_T X R)), e, if_pos hx.2, q_letE (σ.1 (pl_T X R) x.toNatClampNeg), q_letE (σ.1 (pl_T X R) x.toNatClampNeg + v), q_letE]
theorem pl_D.ne (D : pl_D X lb o R) : pl_T X R ≠ R := m_ne D.2.2.2.1 D.1 (by decide)
/-- a write beside the game -/
theorem pl_vo (Y : y_S X lb) (G : y_G X lb g o) {b : Nat} (hb : lb b / 8192 ≠ o) (f : Nat) (v : Int32) : y_v X g (q_si σ b f v) = y_v X g σ := pl_vR Y G hb f v
/-- a line of the round, in the class -/
theorem pl_line (Y : y_S X lb) (G : y_G X lb g o) (hV : y_v X g σ = V) {x : Int32} {l : Int} (hx : x.toInt = l) (hl : 0 ≤ l ∧ l < 60) : (F_X5_get X σ (q_rf X (q_rf X g 3) 3) x).toInt = V 18 l ∧ (F_X5_get X σ (q_rf X (q_rf X g 3) 4) x).toInt = V 19 l ∧ (F_X5_get X σ (q_rf X (q_rf X g 3) 5) x).toInt = V 20 l ∧ (F_X5_get X σ (q_rf X (q_rf X g 3) 6) x).toInt = V 21 l ∧ (F_X5_get X σ (q_rf X (q_rf X g 3) 7) x).toInt = V 22 l := by
  have w := pl_W (lb := lb) (o := o) hV
  have n18 : ((y_gn 18 : Nat) : Int) = 60 := rfl
  have n19 : ((y_gn 19 : Nat) : Int) = 60 := rfl
  have n20 : ((y_gn 20 : Nat) : Int) = 60 := rfl
  have n21 : ((y_gn 21 : Nat) : Int) = 60 := rfl
  have n22 : ((y_gn 22 : Nat) : Int) = 60 := rfl
  exact ⟨y_getI Y G w (id := 18) (r := q_rf X (q_rf X g 3) 3) ⟨by decide, by decide⟩ rfl hx hl.1 (by rw [n18]; exact hl.2), y_getI Y G w (id := 19) (r := q_rf X (q_rf X g 3) 4) ⟨by decide, by decide⟩ rfl hx hl.1 (by rw [n19]; exact hl.2), y_getI Y G w (id := 20) (r := q_rf X (q_rf X g 3) 5) ⟨by decide, by decide⟩ rfl hx hl.1 (by rw [n20]; exact hl.2), y_getI Y G w (id := 21) (r := q_rf X (q_rf X g 3) 6) ⟨by decide, by decide⟩ rfl hx hl.1 (by rw [n21]; exact hl.2), y_getI Y G w (id := 22) (r := q_rf X (q_rf X g 3) 7) ⟨by decide, by decide⟩ rfl hx hl.1 (by rw [n22]; exact hl.2)⟩
theorem pl_Ln {i x : Int32} (hi : 0 ≤ i.toInt ∧ i.toInt < 1000000) : F_X7_go_L46_1 X g R (2147483647 - i.toInt).toNat x (i + 1) σ = pl_L X g R x (i + 1) σ := by
  unfold pl_L
  have e : (i + 1).toInt = i.toInt + 1 := y_inc (by omega)
  have e2 : (2147483647 - i.toInt).toNat = (2147483647 - (i + 1).toInt).toNat + 1 := by rw [e]; omega
  rw [e2]
/-- one move -/
theorem pl_Lstep {i x : Int32} (hi : 0 ≤ i.toInt ∧ i.toInt < 1000000) (hx : x.toInt < (σ.1 (q_rf X g 3) 2).toInt) (h5 : (σ.1 R 5).toInt = 0) : pl_L X g R x i σ = if (F_X5_get X σ (q_rf X (q_rf X g 3) 3) x).toInt = 9 then q_bi (F_X7_behindEnd X σ R (q_rf X g 3) x) (fun r s => pl_L X g R r (i + 1) s) else if (σ.1 R 0).toInt = 300 then pl_L X g R x (i + 1) (q_si σ R 5 1) else q_bi (F_X7_behindStep X (q_si σ R 0 (σ.1 R 0 + 1)) R g x) (fun r s => pl_L X g R r (i + 1) s) := by
  have d : pl_L X g R x i σ = F_X7_go_B46_1 X g R (F_X7_go_L46_1 X g R (2147483647 - i.toInt).toNat) x i σ := by
    unfold pl_L
    rw [F_X7_go_L46_1_s]
  rw [d]
  unfold F_X7_go_B46_1
  rw [if_pos hi.2, q_letE (σ.1 (q_rf X g 3) 2), if_pos hx, q_letE (σ.1 R 5), if_pos h5, q_letE (F_X5_get X σ (q_rf X (q_rf X g 3) 3) x), q_letE (σ.1 R 0)]
  by_cases q : (F_X5_get X σ (q_rf X (q_rf X g 3) 3) x).toInt = 9
  · rw [if_pos q, if_pos q]
    obtain ⟨r, s, e⟩ : ∃ r s, F_X7_behindEnd X σ R (q_rf X g 3) x = (r, s) := ⟨_, _, rfl⟩
    rw [e, q_biP r s, q_biP r s, q_letE (i + 1), pl_Ln hi]
  · rw [if_neg q, if_neg q]
    by_cases q3 : (σ.1 R 0).toInt = 300
    · rw [if_pos q3, if_pos q3, q_letE (q_si σ R 5 1), q_letE (i + 1), pl_Ln hi]
    · rw [if_neg q3, if_neg q3, q_letE (σ.1 R 0), q_letE (σ.1 R 0 + 1), q_letE (q_si σ R 0 (σ.1 R 0 + 1))]
      obtain ⟨r, s, e⟩ : ∃ r s, F_X7_behindStep X (q_si σ R 0 (σ.1 R 0 + 1)) R g x = (r, s) := ⟨_, _, rfl⟩
      rw [e, q_biP r s, q_biP r s, q_letE (i + 1), pl_Ln hi]
/-- at its end -/
theorem pl_Lstop {i x : Int32} (h : (σ.1 R 5).toInt ≠ 0 ∨ (σ.1 (q_rf X g 3) 2).toInt ≤ x.toInt) : pl_L X g R x i σ = σ := by
  unfold pl_L
  rw [F_X7_go_L46_1_s]
  unfold F_X7_go_B46_1
  by_cases q : i.toInt < 1000000
  · rw [if_pos q, q_letE (σ.1 (q_rf X g 3) 2)]
    by_cases q2 : x.toInt < (σ.1 (q_rf X g 3) 2).toInt
    · rw [if_pos q2, q_letE (σ.1 R 5), if_neg (by
        rcases h with h | h
        · exact h
        · omega)]
    · rw [if_neg q2]
  · rw [if_neg q]
/-- behind a body -/
theorem pl_endMove (Y : y_S X lb) (G : y_G X lb g o) (D : pl_D X lb o R) (hV : y_v X g σ = V) {x i : Int32} {m l : Int} (hi : 0 ≤ i.toInt ∧ i.toInt < 1000000) (hx : x.toInt = m) (hm : l < m ∧ m < V 3 2) (hl : 0 ≤ l) (h60 : V 3 2 ≤ 60) (h5 : (σ.1 R 5).toInt = 0) (v18 : V 18 m = 9) (v19 : V 19 m = l) :
    ∃ y : Int32, y.toInt = l ∧ pl_L X g R x i σ = if V 18 l = 4 then pl_L X g R (if 0 < (σ.1 (pl_T X R) l.toNat - 1).toInt then y + 1 else x + 1) (i + 1) (q_si σ (pl_T X R) l.toNat (σ.1 (pl_T X R) l.toNat - 1)) else pl_L X g R (x + 1) (i + 1) σ := by
  have w := pl_W (lb := lb) (o := o) hV
  have f2 : (σ.1 (q_rf X g 3) 2).toInt = V 3 2 := w.rd (id := 3) (by decide) 2 rfl
  have ln := pl_line Y G hV hx ⟨by omega, by omega⟩
  obtain ⟨y, ey⟩ : ∃ y, y = F_X5_get X σ (q_rf X (q_rf X g 3) 4) x := ⟨_, rfl⟩
  have hy : y.toInt = l := by rw [ey, ln.2.1, v19]
  have l2 := pl_line Y G hV hy ⟨hl, by omega⟩
  have yn : y.toNatClampNeg = l.toNat := by rw [ar_cl, hy]
  refine ⟨y, hy, ?_⟩
  rw [pl_Lstep hi (by rw [f2]; omega) h5, ln.1, v18, if_pos rfl]
  unfold F_X7_behindEnd
  rw [q_letE (F_X5_get X σ (q_rf X (q_rf X g 3) 4) x), ← ey, q_letE (F_X5_get X σ (q_rf X (q_rf X g 3) 3) y), l2.1]
  by_cases q : V 18 l = 4
  · have em : σ.1 (pl_T X R) l.toNat + (-1) = σ.1 (pl_T X R) l.toNat - 1 := by
      apply Int32.toInt_inj.mp
      rw [ar_add, ar_sub, ar_m1]
      rfl
    rw [if_pos q, if_pos q, pl_tadd Y D ⟨by omega, by omega⟩, yn, em, q_letE (q_si σ (pl_T X R) l.toNat (σ.1 (pl_T X R) l.toNat - 1)), pl_tget Y D ⟨by omega, by omega⟩, yn, si_eq, q_letE (σ.1 (pl_T X R) l.toNat - 1)]
    by_cases q2 : 0 < (σ.1 (pl_T X R) l.toNat - 1).toInt
    · rw [if_pos q2, if_pos q2, q_letE (y + 1), q_biP (y + 1)]
    · rw [if_neg q2, if_neg q2, q_letE (x + 1), q_biP (x + 1)]
  · rw [if_neg q, if_neg q, q_letE (x + 1), q_biP (x + 1)]
theorem pl_J.sq (Y : y_S X lb) (ha : q_kd X a = 12) (J : pl_J X g a R V0 c0 n σ τ) {f : Nat} {v : Int32} (h : f ≠ 39 ∧ f ≠ 40 ∧ f ≠ 41 ∧ f ≠ 42 ∧ f ≠ 43 ∧ f ≠ 44 ∧ f ≠ 45) : pl_J X g a R V0 c0 n σ (q_si τ a f v) := by
  obtain ⟨⟨k6, k2, k3, k4⟩, j0, j1, j5, jb, V', c', i1, i2, i3⟩ := J
  have e : ∀ f', f' ≠ f → (q_si τ a f v).1 a f' = τ.1 a f' := fun f' hf => si_f hf _
  refine ⟨⟨?_, ?_, ?_, ?_⟩, ?_, ?_, ?_, ?_, V', c', i1, (mv_cell Y.1 ha f v).trans i2, ?_⟩
  · rw [e 39 (Ne.symm h.1)]; exact k6
  · rw [e 42 (by omega)]; exact k2
  · rw [e 43 (by omega)]; exact k3
  · rw [e 44 (by omega)]; exact k4
  · rw [e 40 (by omega)]; exact j0
  · rw [e 41 (by omega)]; exact j1
  · rw [e 45 (by omega)]; exact j5
  · rw [e 40 (by omega)]; exact jb
  · rw [e 40 (by omega)]; exact i3
theorem pl_J.st (Y : y_S X lb) (G : y_G X lb g o) (D : pl_D X lb o R) (J : pl_J X g a R V0 c0 n σ τ) (f : Nat) (v : Int32) : pl_J X g a R V0 c0 n (q_si σ (pl_T X R) f v) τ := by
  obtain ⟨⟨k6, k2, k3, k4⟩, j0, j1, j5, jb, V', c', i1, i2, i3⟩ := J
  have e : ∀ f', (q_si σ (pl_T X R) f v).1 R f' = σ.1 R f' := fun f' => q_si_ne (Ne.symm D.ne) f'
  refine ⟨⟨?_, ?_, ?_, ?_⟩, ?_, ?_, ?_, jb, V', c', (pl_vo Y G D.2.2.1 f v).trans i1, i2, i3⟩
  · rw [e]; exact k6
  · rw [e]; exact k2
  · rw [e]; exact k3
  · rw [e]; exact k4
  · rw [e]; exact j0
  · rw [e]; exact j1
  · rw [e]; exact j5
/-- a cell written as it was -/
theorem pl_same (τ : ST) (b f : Nat) : q_si τ b f (τ.1 b f) = τ := by
  have e : (fun b' f' => if b' = b ∧ f' = f then τ.1 b f else τ.1 b' f') = τ.1 := by
    funext b' f'
    split
    · rename_i h
      rw [h.1, h.2]
    · rfl
  unfold q_si
  rw [e]
/-- a step counted in both -/
theorem pl_J.step (Y : y_S X lb) (G : y_G X lb g o) (D : pl_D X lb o R) (ha : q_kd X a = 12) (J : pl_J X g a R V0 c0 n σ τ) (h : (τ.1 a 40).toInt ≠ 300) : pl_J X g a R V0 c0 n (q_si σ R 0 (σ.1 R 0 + 1)) (q_si τ a 40 (τ.1 a 40 + 1)) ∧ ((q_si τ a 40 (τ.1 a 40 + 1)).1 a 40).toInt = (τ.1 a 40).toInt + 1 := by
  obtain ⟨⟨k6, k2, k3, k4⟩, j0, j1, j5, jb, V', c', i1, i2, i3, i4, i5, i6⟩ := J
  have e : ∀ f', f' ≠ 40 → (q_si τ a 40 (τ.1 a 40 + 1)).1 a f' = τ.1 a f' := fun f' hf => si_f hf _
  have e' : ∀ f', f' ≠ 0 → (q_si σ R 0 (σ.1 R 0 + 1)).1 R f' = σ.1 R f' := fun f' hf => si_f hf _
  have e1 : ((q_si τ a 40 (τ.1 a 40 + 1)).1 a 40).toInt = (τ.1 a 40).toInt + 1 := by
    rw [si_eq]
    exact y_inc (by omega)
  refine ⟨⟨⟨?_, ?_, ?_, ?_⟩, ?_, ?_, ?_, ?_, V', c', (pl_vo Y G D.2.1 _ _).trans i1, (mv_cell Y.1 ha _ _).trans i2, i3, i4, i5.le (by omega), i6⟩, e1⟩
  · rw [e 39 (by decide), e' 6 (by decide)]; exact k6
  · rw [e 42 (by decide), e' 2 (by decide)]; exact k2
  · rw [e 43 (by decide), e' 3 (by decide)]; exact k3
  · rw [e 44 (by decide), e' 4 (by decide)]; exact k4
  · rw [si_eq, si_eq, j0]
  · rw [e 41 (by decide), e' 1 (by decide)]; exact j1
  · rw [e 45 (by decide), e' 5 (by decide)]; exact j5
  · omega
end PE

/-! FROM 49zq.plain.lean.txt -/
/-! A ROUND PLAYED: a step without a body -/
section PF
variable {X : XW} {lb : Nat → Nat} {g o a R : Nat} {σ σ' τ τ' : ST} {V0 V : Nat → Int → Int} {c0 c : Int → Int} {n : Int}
theorem st_l.act {s l : Int} (h : st_l V c s l) : 0 ≤ V 18 l ∧ V 18 l ≤ 8 ∧ (V 18 l = 4 ↔ c (656 + 9 * s) = 4) := by
  unfold st_l at h
  omega
theorem pl_fix.st (F : pl_fix V0 V c0 c) {s l : Int} (hs : 0 ≤ s ∧ s < 30) (hl : 0 ≤ l ∧ l < 60) (h : st_l V0 c0 s l) : st_l V c s l := h.x hs hl (fun id i h1 h2 _ _ => F.1 id i (by omega)) (fun j j0 _ => F.2 j (by omega) (by omega))
theorem pl_Sc_Sg (D : pl_D X lb o R) (h : tkl (pl_Sc lb o R) (fun _ _ => False) σ σ') : tkl (pl_Sg X lb o R) (fun _ _ => False) σ σ' ∧ σ'.1 R 0 = σ.1 R 0 ∧ σ'.1 R 5 = σ.1 R 5 ∧ ∀ y : Nat, σ'.1 (pl_T X R) y = σ.1 (pl_T X R) y := by
  refine ⟨h.mono (fun b f z => ?_) (fun _ _ z => z), h.1 R 0 ?_, h.1 R 5 ?_, fun y => h.1 _ y ?_⟩
  · rcases z with z | ⟨z, z1, z2, z3⟩
    · exact Or.inl z
    · exact Or.inr (Or.inl ⟨z, z2⟩)
  · rintro (z | ⟨-, z, -⟩)
    · exact D.2.1 z
    · omega
  · rintro (z | ⟨-, -, -, z⟩)
    · exact D.2.1 z
    · exact z rfl
  · rintro (z | ⟨z, -⟩)
    · exact D.2.2.1 z
    · exact D.ne z
theorem pl_Sr_Sq (ha : q_rf X a 20 ≠ a) (ha8 : q_rf X a 28 ≠ a) (h : tkl (pl_Sr X a) (fun _ _ => False) τ τ') : tkl (pl_Sq X a) (fun _ _ => False) τ τ' ∧ ∀ f, f ≠ 39 → f ≠ 42 → f ≠ 43 → f ≠ 44 → τ'.1 a f = τ.1 a f := by
  refine ⟨h.mono (fun b f z => ?_) (fun _ _ z => z), fun f h1 h2 h3 h4 => h.1 a f ?_⟩
  · rcases z with z | z | ⟨z, z1⟩
    · exact Or.inl z
    · exact Or.inr (Or.inl z)
    · exact Or.inr (Or.inr ⟨z, by omega, by omega⟩)
  · rintro (z | z | ⟨-, z⟩)
    · exact ha z.symm
    · exact ha8 z.symm
    · omega
theorem pl_w656 {v1 : Int32} {s : Int} (hv : v1.toInt = s) (hs : 0 ≤ s ∧ s < 30) : ((656 : Int32) + (9 : Int32) * v1).toInt = 656 + 9 * s := by
  have e9 : (9 : Int32).toInt = 9 := rfl
  have e6 : (656 : Int32).toInt = 656 := rfl
  rw [ar_add, ar_mul, e6, e9, hv, ar_wr (n := 9 * s) (by omega) (by omega), ar_wr (by omega) (by omega)]
theorem pl_cellk {z : Int32} {W : Int} (hc : m_c X τ a = c) (hz : z.toInt = W) (hW : 0 ≤ W ∧ W ≤ 5000) (k : Int32) {j : Int} (hk : k.toInt = j) (hj : 0 ≤ j ∧ j ≤ 10) : (τ.1 (q_rf X a 20) (z + k).toNatClampNeg).toInt = c (W + j) := gm_cell hc (by rw [ar_add, hz, hk, ar_wr (by omega) (by omega)])
/-- lies and doubts of a player set by a step -/
theorem pl_bent (Y : y_S X lb) (G : y_G X lb g o) (D : pl_D X lb o R) (ha : q_kd X a = 12) (J : pl_J X g a R V0 c0 n σ τ) {x y q z : Int32} {p : Int} {id : Nat} {r : Nat} {A : Int} (hid : id = 10 ∧ A = 10 ∧ r = q_rf X (q_rf X g 1) 3 ∨ id = 11 ∧ A = 16 ∧ r = q_rf X (q_rf X g 1) 4) (hx : x.toInt = p) (hp : 0 ≤ p ∧ p < 6) (hy : y.toInt = z.toInt) (hq : q.toInt = A + p) :
    pl_J X g a R V0 c0 n (F_X5_set X σ r x y) (q_si τ (q_rf X a 20) q.toNatClampNeg z) ∧ tkl (pl_Sc lb o R) (fun _ _ => False) σ (F_X5_set X σ r x y) := by
  obtain ⟨⟨k6, k2, k3, k4⟩, j0, j1, j5, jb, V', c', i1, i2, i3, i4, i5, i6⟩ := J
  obtain ⟨n80, n8a, n0a⟩ := pl_k28 Y.1 ha
  have n10 : ((y_gn 10 : Nat) : Int) = 6 := rfl
  have n11 : ((y_gn 11 : Nat) : Int) = 6 := rfl
  have w := pl_W (lb := lb) (o := o) i1
  have w1 : y_W X lb g o σ (F_X5_set X σ r x y) (y_up V' id p y.toInt) := by
    rw [← hx]
    rcases hid with ⟨h1, h2, h3⟩ | ⟨h1, h2, h3⟩
    · subst h1
      rw [h3]
      exact w.set Y G (id := 10) ⟨by decide, by decide⟩ rfl x y (by omega) (by rw [n10]; omega)
    · subst h1
      rw [h3]
      exact w.set Y G (id := 11) ⟨by decide, by decide⟩ rfl x y (by omega) (by rw [n11]; omega)
  have m1 : m_c X (q_si τ (q_rf X a 20) q.toNatClampNeg z) a = m_up c' (A + p) z.toInt := by rw [m_c_up (A + p) (by omega) hq, i2]
  have kr : ∀ f, (F_X5_set X σ r x y).1 R f = σ.1 R f := fun f => w1.1 R D.2.1 f
  have kt : ∀ f, (q_si τ (q_rf X a 20) q.toNatClampNeg z).1 a f = τ.1 a f := fun f => q_si_ne (Ne.symm n0a) f
  have ids : (id = 10 ∧ A = 10) ∨ (id = 11 ∧ A = 16) := by
    rcases hid with h | h
    · exact Or.inl ⟨h.1, h.2.1⟩
    · exact Or.inr ⟨h.1, h.2.1⟩
  refine ⟨⟨⟨?_, ?_, ?_, ?_⟩, ?_, ?_, ?_, ?_, y_up V' id p y.toInt, m_up c' (A + p) z.toInt, w1.2.2, m1, ?_, ?_, ?_, ?_⟩, pl_Wt w1⟩
  · rw [kr, kt]; exact k6
  · rw [kr, kt]; exact k2
  · rw [kr, kt]; exact k3
  · rw [kr, kt]; exact k4
  · rw [kr, kt]; exact j0
  · rw [kr, kt]; exact j1
  · rw [kr, kt]; exact j5
  · rw [kt]; exact jb
  · refine i3.bend (fun id' i h1 h2 => y_up_ne (Or.inl (by omega))) (fun j h => m_up_ne (by omega)) (fun p' p0 p1 => ?_)
    have hh := i3.2.2.1 p' p0 p1
    rcases ids with ⟨h1, h2⟩ | ⟨h1, h2⟩
    · subst h1
      subst h2
      refine ⟨?_, ?_⟩
      · by_cases e : p' = p
        · rw [e, y_up_eq, m_up_eq, hy]
        · rw [y_up_ne (Or.inr e), m_up_ne (by omega)]; exact hh.1
      · rw [y_up_ne (Or.inl (by decide)), m_up_ne (by omega)]; exact hh.2.1
    · subst h1
      subst h2
      refine ⟨?_, ?_⟩
      · rw [y_up_ne (Or.inl (by decide)), m_up_ne (by omega)]; exact hh.1
      · by_cases e : p' = p
        · rw [e, y_up_eq, m_up_eq, hy]
        · rw [y_up_ne (Or.inr e), m_up_ne (by omega)]; exact hh.2.1
  · exact i4.wr m_up_e (Or.inr (Or.inr (Or.inl ⟨by omega, by omega⟩)))
  · rw [kt]
    exact i5.wr m_up_e (Or.inl (by omega))
  · exact i6.tr ⟨fun id' i h => y_up_ne (Or.inl (by omega)), fun j j0 h => m_up_ne (by omega)⟩
/-- cut behind three hundred steps -/
theorem pl_cut (Y : y_S X lb) (G : y_G X lb g o) (D : pl_D X lb o R) (ha : q_kd X a = 12) (J : pl_J X g a R V0 c0 n σ τ) {l l' B : Int} {x i : Int32} (step : pl_L X g R x i σ = pl_L X g R x (i + 1) (q_si σ R 5 1)) : pl_O X lb g o a R V0 c0 n σ τ (q_si (q_si τ a 38 1) a 45 1) l l' B x i := by
  obtain ⟨⟨k6, k2, k3, k4⟩, j0, j1, j5, jb, V', c', i1, i2, i3, i4, i5, i6⟩ := J
  have r5 : (q_si σ R 5 1).1 R 5 = 1 := si_eq _ _ _ _
  have e' : ∀ f', f' ≠ 5 → (q_si σ R 5 1).1 R f' = σ.1 R f' := fun f' hf => si_f hf _
  have t' : ∀ f', f' ≠ 38 → f' ≠ 45 → (q_si (q_si τ a 38 1) a 45 1).1 a f' = τ.1 a f' := fun f' h1 h2 => (si_f h2 _).trans (si_f h1 _)
  have t45 : (q_si (q_si τ a 38 1) a 45 1).1 a 45 = 1 := si_eq _ _ _ _
  have t38 : (q_si (q_si τ a 38 1) a 45 1).1 a 38 = 1 := (si_f (by decide) _).trans (si_eq _ _ _ _)
  refine ⟨q_si σ R 5 1, tkl.rf.si _ (Or.inr (Or.inl ⟨rfl, by decide⟩)), (tkl.rf.si _ (Or.inr (Or.inr ⟨rfl, by decide, by decide⟩))).si _ (Or.inr (Or.inr ⟨rfl, by decide, by decide⟩)), ⟨⟨?_, ?_, ?_, ?_⟩, ?_, ?_, ?_, ?_, V', c', (pl_vo Y G D.2.1 5 1).trans i1, (mv_cell Y.1 ha 45 1).trans ((mv_cell Y.1 ha 38 1).trans i2), i3, i4, ?_, i6⟩, fun y _ => q_si_ne D.ne y, Or.inr ⟨by rw [t38]; rfl, ?_⟩⟩
  · rw [e' 6 (by decide), t' 39 (by decide) (by decide)]; exact k6
  · rw [e' 2 (by decide), t' 42 (by decide) (by decide)]; exact k2
  · rw [e' 3 (by decide), t' 43 (by decide) (by decide)]; exact k3
  · rw [e' 4 (by decide), t' 44 (by decide) (by decide)]; exact k4
  · rw [e' 0 (by decide), t' 40 (by decide) (by decide)]; exact j0
  · rw [e' 1 (by decide), t' 41 (by decide) (by decide)]; exact j1
  · rw [r5, t45]
  · rw [t' 40 (by decide) (by decide)]; exact jb
  · rw [t' 40 (by decide) (by decide)]; exact i5
  · rw [step]
    exact pl_Lstop (Or.inl (by rw [r5]; decide))
theorem pl_plain (Y : y_S X lb) (G : y_G X lb g o) (D : pl_D X lb o R) (ha : q_kd X a = 12) (hn : n ≤ 800000) (J : pl_J X g a R V0 c0 n σ τ) (on : pl_on a τ) {s l : Int} (S : st_l V0 c0 s l) (hs : 0 ≤ s ∧ s < c0 655) (hl : 0 ≤ l ∧ l < V0 3 2) (h60 : V0 3 2 ≤ 60) (hne : c0 (656 + 9 * s) ≠ 3 ∧ c0 (656 + 9 * s) ≠ 4) {x i v1 : Int32} (hx : x.toInt = l) (hv : v1.toInt = s) {B : Int} (hi : 0 ≤ i.toInt) (hB : i.toInt - 100 * (τ.1 a 40).toInt ≤ B) (hB0 : B ≤ 0) (FA : ST → Int32 → Int32 → ST) :
    pl_O X lb g o a R V0 c0 n σ τ (F_X12_doOne_s X τ a v1 FA) l (l + 1) B x i := by
  obtain ⟨n80, n8a, n0a⟩ := pl_k28 Y.1 ha
  obtain ⟨⟨k6, k2, k3, k4⟩, j0, j1, j5, jb, V', c', i1, i2, i3, i4, i5, i6⟩ := id J
  have one : (1 : Int32).toInt = 1 := rfl
  have two : (2 : Int32).toInt = 2 := rfl
  have w := pl_W (lb := lb) (o := o) i1
  have e655 : c' 655 = c0 655 := i6.2 655 (by decide) (Or.inr (by decide))
  have qq := i4.2.2.2.2.2.1
  have s30 : s < 30 := by omega
  have hl60 : 0 ≤ l ∧ l < 60 := ⟨hl.1, by omega⟩
  have v32 : V' 3 2 = V0 3 2 := i6.1 3 2 (by decide)
  have st := i6.st ⟨hs.1, s30⟩ hl60 S
  have ck : c' (656 + 9 * s) = c0 (656 + 9 * s) := i6.2 _ (by omega) (by omega)
  rw [← ck] at hne
  have act := st.act
  have f2 : (σ.1 (q_rf X g 3) 2).toInt = V0 3 2 := (w.rd (id := 3) (by decide) 2 rfl).trans v32
  have ln := pl_line Y G i1 hx hl60
  have h5 : (σ.1 R 5).toInt = 0 := by rw [j5]; exact on.2
  have hi6 : 0 ≤ i.toInt ∧ i.toInt < 1000000 := ⟨hi, by omega⟩
  have r0 : (σ.1 R 0).toInt = (τ.1 a 40).toInt := congrArg Int32.toInt j0
  have xi : (x + 1).toInt = l + 1 := by rw [y_inc (by omega), hx]
  have ii : (i + 1).toInt = i.toInt + 1 := y_inc (by omega)
  have step := pl_Lstep (X := X) (x := x) hi6 (by rw [f2]; omega) h5
  rw [if_neg (by rw [ln.1]; omega), r0] at step
  unfold F_X12_doOne_s
  rw [q_letE (τ.1 a 40)]
  by_cases q300 : (τ.1 a 40).toInt = 300
  · rw [if_pos q300] at step
    rw [if_pos q300, q_letE (q_si τ a 38 1), q_letE (q_si (q_si τ a 38 1) a 45 1)]
    exact pl_cut Y G D ha J step
  rw [if_neg q300] at step
  obtain ⟨J5, D5⟩ := J.step Y G D ha q300
  have v5 : y_v X g (q_si σ R 0 (σ.1 R 0 + 1)) = V' := (pl_vo Y G D.2.1 0 _).trans i1
  have m5 : m_c X (q_si τ a 40 (τ.1 a 40 + 1)) a = c' := (mv_cell Y.1 ha 40 _).trans i2
  have S5 : tkl (pl_Sg X lb o R) (fun _ _ => False) σ (q_si σ R 0 (σ.1 R 0 + 1)) := tkl.rf.si _ (Or.inr (Or.inl ⟨rfl, by decide⟩))
  have T5 : tkl (pl_Sq X a) (fun _ _ => False) τ (q_si τ a 40 (τ.1 a 40 + 1)) := tkl.rf.si _ (Or.inr (Or.inr ⟨rfl, by decide, by decide⟩))
  have u5 : ∀ y : Nat, (q_si σ R 0 (σ.1 R 0 + 1)).1 (pl_T X R) y = σ.1 (pl_T X R) y := fun y => q_si_ne D.ne y
  have on5 : pl_on a (q_si τ a 40 (τ.1 a 40 + 1)) := ⟨(congrArg Int32.toInt (si_f (by decide) a)).trans on.1, (congrArg Int32.toInt (si_f (by decide) a)).trans on.2⟩
  rw [if_neg q300, q_letE (τ.1 a 40), q_letE (τ.1 a 40 + 1), q_letE (q_si τ a 40 (τ.1 a 40 + 1)), q_letE ((9 : Int32) * v1), q_letE ((656 : Int32) + (9 : Int32) * v1)]
  obtain ⟨σ5, es⟩ : ∃ t, t = q_si σ R 0 (σ.1 R 0 + 1) := ⟨_, rfl⟩
  obtain ⟨τ5, et⟩ : ∃ t, t = q_si τ a 40 (τ.1 a 40 + 1) := ⟨_, rfl⟩
  rw [← es] at J5 v5 S5 u5 step
  rw [← et] at J5 D5 m5 T5 on5 ⊢
  have wz := pl_w656 hv ⟨hs.1, s30⟩
  obtain ⟨z7, ez⟩ : ∃ z, z = (656 : Int32) + (9 : Int32) * v1 := ⟨_, rfl⟩
  rw [← ez] at wz ⊢
  have g8 : (τ5.1 (q_rf X a 20) z7.toNatClampNeg).toInt = c' (656 + 9 * s) := gm_cell m5 wz
  have gk : ∀ (k : Int32) (j : Int), k.toInt = j → 0 ≤ j ∧ j ≤ 10 → (τ5.1 (q_rf X a 20) (z7 + k).toNatClampNeg).toInt = c' (656 + 9 * s + j) := fun k j h1 h2 => pl_cellk m5 wz ⟨by omega, by omega⟩ k h1 h2
  have ln5 := pl_line Y G v5 hx hl60
  rw [q_letE (τ5.1 (q_rf X a 20) z7.toNatClampNeg), g8]
  -- the class's step
  have bs := step
  unfold F_X7_behindStep at bs
  rw [q_letE (F_X5_get X σ5 (q_rf X (q_rf X g 3) 5) x), q_letE (F_X5_get X σ5 (q_rf X (q_rf X g 3) 7) x), q_letE (F_X5_get X σ5 (q_rf X (q_rf X g 3) 4) x), q_letE (F_X5_get X σ5 (q_rf X (q_rf X g 3) 4) x + 1), q_letE (F_X5_get X σ5 (q_rf X (q_rf X g 3) 3) x), ln5.1] at bs
  have close : ∀ (σ' τ' : ST), pl_J X g a R V0 c0 n σ' τ' → tkl (pl_Sc lb o R) (fun _ _ => False) σ5 σ' → tkl (pl_Sq X a) (fun _ _ => False) τ5 τ' → pl_on a τ' → τ'.1 a 40 = τ5.1 a 40 → pl_L X g R x i σ = pl_L X g R (x + 1) (i + 1) σ' → pl_O X lb g o a R V0 c0 n σ τ τ' l (l + 1) B x i := by
    intro σ' τ' h1 h2 h3 h4 h6 h7
    obtain ⟨p1, p2, p3, p4⟩ := pl_Sc_Sg D h2
    exact ⟨σ', S5.tr p1, T5.tr h3, h1, fun y _ => (p4 y).trans (u5 y), Or.inl ⟨h4, x + 1, i + 1, xi, by omega, by rw [h6, D5]; omega, h7⟩⟩
  have st' := st
  unfold st_l at st'
  have qs := (i4.2.2.2.2.2.2 s hs.1 (by rw [e655]; exact hs.2)).2.1
  rcases st' with ⟨h0, h1⟩ | ⟨h0, h1, h2, h3⟩ | ⟨h0, h1, h2, h3⟩ | ⟨h0, h1⟩ | ⟨h0, -⟩ | ⟨h0, -⟩ | ⟨h0, -⟩ | ⟨h0, -⟩ | ⟨h0, -⟩
  · -- a turn
    rw [h1, if_pos rfl] at bs
    rw [h0, if_pos (by decide : (0 : Int) < 3)]
    obtain ⟨z, σ6, τ6, x1, x2, y1, y2, y3, y4, y5⟩ := pl_turn Y G ha D.2.1 v5 i3 i4 i5 (by omega) m5 J5.1
    unfold F_X12_does
    rw [q_letE (τ5.1 a 41), q_letE (τ5.1 (q_rf X a 20) z7.toNatClampNeg), g8, h0, if_pos (rfl : (0 : Int) = 0), x2, q_biP z τ6, q_biP z τ6]
    rw [q_letE (F_X7_takeTurn X σ5 R g), x1, q_letE (x + 1), q_biP (x + 1)] at bs
    obtain ⟨p1, p2, p3, p4⟩ := pl_Sc_Sg D y1
    obtain ⟨r1, r2⟩ := pl_Sr_Sq n0a n8a y2
    obtain ⟨y, ey⟩ : ∃ y, y = if z.toInt = 0 then τ5.1 a 41 + 1 else τ5.1 a 41 := ⟨_, rfl⟩
    have rf : (if z.toInt = 0 then q_let (τ5.1 a 41 + 1) (fun z_59 => q_let (q_si τ6 a 41 z_59) (fun σ_60 => σ_60)) else q_let (τ5.1 a 41 + 0) (fun z_61 => q_let (q_si τ6 a 41 z_61) (fun σ_62 => σ_62))) = q_si τ6 a 41 y := by
      rw [ey]
      by_cases q : z.toInt = 0
      · rw [if_pos q, if_pos q, q_letE, q_letE]
      · rw [if_neg q, if_neg q, q_letE, q_letE, Int32.add_zero]
    rw [rf]
    have t6 : ∀ f, f ≠ 41 → (q_si τ6 a 41 y).1 a f = τ6.1 a f := fun f h => si_f h _
    have D6 : (q_si τ6 a 41 y).1 a 40 = τ5.1 a 40 := (t6 40 (by decide)).trans (r2 40 (by decide) (by decide) (by decide) (by decide))
    obtain ⟨V2, c2, o1, o2, o3, o4, o5, o6⟩ := y5
    refine close σ6 (q_si τ6 a 41 y) ⟨⟨?_, ?_, ?_, ?_⟩, ?_, ?_, ?_, ?_, V2, c2, o1, (mv_cell Y.1 ha 41 y).trans o2, o3, o4, ?_, i6.tr o6⟩ y1 (r1.si _ (Or.inr (Or.inr ⟨rfl, by decide, by decide⟩))) ⟨?_, ?_⟩ D6 bs
    · rw [t6 39 (by decide)]; exact y3.1
    · rw [t6 42 (by decide)]; exact y3.2.1
    · rw [t6 43 (by decide)]; exact y3.2.2.1
    · rw [t6 44 (by decide)]; exact y3.2.2.2
    · rw [p2, D6]; exact J5.2.1
    · rw [y4, si_eq, ey, J5.2.2.1]
    · rw [p3, t6 45 (by decide), r2 45 (by decide) (by decide) (by decide) (by decide)]; exact J5.2.2.2.1
    · rw [D6]; exact J5.2.2.2.2.1
    · rw [D6, D5]
      have e : n + (τ.1 a 40).toInt + 1 = n + ((τ.1 a 40).toInt + 1) := by omega
      rw [← e]
      exact o5
    · rw [t6 38 (by decide), r2 38 (by decide) (by decide) (by decide) (by decide)]; exact on5.1
    · rw [t6 45 (by decide), r2 45 (by decide) (by decide) (by decide) (by decide)]; exact on5.2
  · -- lies
    have hp := qs (Or.inl h0)
    rw [h1, if_neg (by decide : ¬ (1 : Int) = 0), if_pos rfl, q_letE (F_X5_set X σ5 (q_rf X (q_rf X g 1) 3) (F_X5_get X σ5 (q_rf X (q_rf X g 3) 5) x) (F_X5_get X σ5 (q_rf X (q_rf X g 3) 7) x)), q_letE (x + 1), q_biP (x + 1)] at bs
    rw [h0, if_pos (by decide : (1 : Int) < 3)]
    unfold F_X12_does
    rw [q_letE (τ5.1 a 41), q_letE (τ5.1 (q_rf X a 20) z7.toNatClampNeg), g8, h0, if_neg (by decide : ¬ (1 : Int) = 0), if_pos rfl, q_letE (z7 + 1), q_letE (τ5.1 (q_rf X a 20) (z7 + 1).toNatClampNeg), q_letE ((10 : Int32) + τ5.1 (q_rf X a 20) (z7 + 1).toNatClampNeg), q_letE (z7 + 2), q_letE (τ5.1 (q_rf X a 20) (z7 + 2).toNatClampNeg)]
    have e1 := gk 1 1 rfl (by decide)
    have e2 := gk 2 2 rfl (by decide)
    have e10 : (10 : Int32).toInt = 10 := rfl
    obtain ⟨J6, y1⟩ := pl_bent Y G D ha J5 (x := F_X5_get X σ5 (q_rf X (q_rf X g 3) 5) x) (y := F_X5_get X σ5 (q_rf X (q_rf X g 3) 7) x) (q := (10 : Int32) + τ5.1 (q_rf X a 20) (z7 + 1).toNatClampNeg) (z := τ5.1 (q_rf X a 20) (z7 + 2).toNatClampNeg) (p := c' (656 + 9 * s + 1)) (Or.inl ⟨rfl, rfl, rfl⟩) (ln5.2.2.1.trans h2) ⟨hp.1, by omega⟩ ((ln5.2.2.2.2.trans h3).trans e2.symm) (by rw [ar_add, e10, e1, ar_wr (by omega) (by omega)])
    rw [q_letE (q_si τ5 (q_rf X a 20) ((10 : Int32) + τ5.1 (q_rf X a 20) (z7 + 1).toNatClampNeg).toNatClampNeg (τ5.1 (q_rf X a 20) (z7 + 2).toNatClampNeg)), q_biP (1 : Int32), if_neg (by decide : ¬ (1 : Int32).toInt = 0), q_letE (τ5.1 a 41 + 0)]
    obtain ⟨τ6, e6⟩ : ∃ t, t = q_si τ5 (q_rf X a 20) ((10 : Int32) + τ5.1 (q_rf X a 20) (z7 + 1).toNatClampNeg).toNatClampNeg (τ5.1 (q_rf X a 20) (z7 + 2).toNatClampNeg) := ⟨_, rfl⟩
    have t6 : ∀ f, τ6.1 a f = τ5.1 a f := fun f => by rw [e6]; exact q_si_ne (Ne.symm n0a) f
    have T6 : tkl (pl_Sq X a) (fun _ _ => False) τ5 τ6 := by rw [e6]; exact tkl.rf.si _ (Or.inl rfl)
    rw [← e6] at J6 ⊢
    have same : q_si τ6 a 41 (τ5.1 a 41 + 0) = τ6 := by
      rw [Int32.add_zero, ← t6 41]
      exact pl_same τ6 a 41
    rw [q_letE (q_si τ6 a 41 (τ5.1 a 41 + 0)), same]
    exact close _ τ6 J6 y1 T6 ⟨by rw [t6]; exact on5.1, by rw [t6]; exact on5.2⟩ (t6 40) bs
  · -- doubts
    have hp := qs (Or.inr (Or.inl h0))
    rw [h1, if_neg (by decide : ¬ (2 : Int) = 0), if_neg (by decide : ¬ (2 : Int) = 1), if_pos rfl, q_letE (F_X5_set X σ5 (q_rf X (q_rf X g 1) 4) (F_X5_get X σ5 (q_rf X (q_rf X g 3) 5) x) (F_X5_get X σ5 (q_rf X (q_rf X g 3) 7) x)), q_letE (x + 1), q_biP (x + 1)] at bs
    rw [h0, if_pos (by decide : (2 : Int) < 3)]
    unfold F_X12_does
    rw [q_letE (τ5.1 a 41), q_letE (τ5.1 (q_rf X a 20) z7.toNatClampNeg), g8, h0, if_neg (by decide : ¬ (2 : Int) = 0), if_neg (by decide : ¬ (2 : Int) = 1), q_letE (z7 + 1), q_letE (τ5.1 (q_rf X a 20) (z7 + 1).toNatClampNeg), q_letE ((16 : Int32) + τ5.1 (q_rf X a 20) (z7 + 1).toNatClampNeg), q_letE (z7 + 2), q_letE (τ5.1 (q_rf X a 20) (z7 + 2).toNatClampNeg)]
    have e1 := gk 1 1 rfl (by decide)
    have e2 := gk 2 2 rfl (by decide)
    have e16 : (16 : Int32).toInt = 16 := rfl
    obtain ⟨J6, y1⟩ := pl_bent Y G D ha J5 (x := F_X5_get X σ5 (q_rf X (q_rf X g 3) 5) x) (y := F_X5_get X σ5 (q_rf X (q_rf X g 3) 7) x) (q := (16 : Int32) + τ5.1 (q_rf X a 20) (z7 + 1).toNatClampNeg) (z := τ5.1 (q_rf X a 20) (z7 + 2).toNatClampNeg) (p := c' (656 + 9 * s + 1)) (Or.inr ⟨rfl, rfl, rfl⟩) (ln5.2.2.1.trans h2) ⟨hp.1, by omega⟩ ((ln5.2.2.2.2.trans h3).trans e2.symm) (by rw [ar_add, e16, e1, ar_wr (by omega) (by omega)])
    rw [q_letE (q_si τ5 (q_rf X a 20) ((16 : Int32) + τ5.1 (q_rf X a 20) (z7 + 1).toNatClampNeg).toNatClampNeg (τ5.1 (q_rf X a 20) (z7 + 2).toNatClampNeg)), q_biP (1 : Int32), if_neg (by decide : ¬ (1 : Int32).toInt = 0), q_letE (τ5.1 a 41 + 0)]
    obtain ⟨τ6, e6⟩ : ∃ t, t = q_si τ5 (q_rf X a 20) ((16 : Int32) + τ5.1 (q_rf X a 20) (z7 + 1).toNatClampNeg).toNatClampNeg (τ5.1 (q_rf X a 20) (z7 + 2).toNatClampNeg) := ⟨_, rfl⟩
    have t6 : ∀ f, τ6.1 a f = τ5.1 a f := fun f => by rw [e6]; exact q_si_ne (Ne.symm n0a) f
    have T6 : tkl (pl_Sq X a) (fun _ _ => False) τ5 τ6 := by rw [e6]; exact tkl.rf.si _ (Or.inl rfl)
    rw [← e6] at J6 ⊢
    have same : q_si τ6 a 41 (τ5.1 a 41 + 0) = τ6 := by
      rw [Int32.add_zero, ← t6 41]
      exact pl_same τ6 a 41
    rw [q_letE (q_si τ6 a 41 (τ5.1 a 41 + 0)), same]
    exact close _ τ6 J6 y1 T6 ⟨by rw [t6]; exact on5.1, by rw [t6]; exact on5.2⟩ (t6 40) bs
  · -- stop
    have f52 : (σ5.1 (q_rf X g 3) 2).toInt = V0 3 2 := ((pl_W (lb := lb) (o := o) v5).rd (id := 3) (by decide) 2 rfl).trans v32
    rw [h1, if_neg (by decide : ¬ (3 : Int) = 0), if_neg (by decide : ¬ (3 : Int) = 1), if_neg (by decide : ¬ (3 : Int) = 2), if_pos rfl, q_letE (σ5.1 (q_rf X g 3) 2), q_biP (σ5.1 (q_rf X g 3) 2)] at bs
    rw [h0, if_neg (by decide : ¬ (5 : Int) < 3), if_neg (by decide : ¬ (5 : Int) = 3), if_neg (by decide : ¬ (5 : Int) = 4), if_pos (by decide : (4 : Int) < 5), q_letE (q_si τ5 a 38 1)]
    refine ⟨σ5, S5, T5.si _ (Or.inr (Or.inr ⟨rfl, by decide, by decide⟩)), J5.sq Y ha (by decide), fun y _ => u5 y, Or.inr ⟨by rw [si_eq]; rfl, ?_⟩⟩
    rw [bs]
    exact pl_Lstop (Or.inr (Int.le_refl _))
  · exact absurd h0 hne.2
  · exact absurd h0 hne.1
  · exact absurd h0 hne.1
  · exact absurd h0 hne.1
  · exact absurd h0 hne.1
end PF

/-! FROM 49zr.blocks.lean.txt -/
/-! A ROUND PLAYED: steps with a body; all steps -/
section PG
variable {X : XW} {lb : Nat → Nat} {g o a R : Nat} {σ σ' σ1 τ τ' τ1 : ST} {V0 V : Nat → Int → Int} {c0 c : Int → Int} {n l l' B : Int} {x i x1 i1 : Int32}
theorem pl_O.pre (h1 : tkl (pl_Sg X lb o R) (fun _ _ => False) σ σ1) (h2 : tkl (pl_Sq X a) (fun _ _ => False) τ τ1) (hT : ∀ y : Nat, (y : Int) < l ∨ l' ≤ (y : Int) → σ1.1 (pl_T X R) y = σ.1 (pl_T X R) y) (hL : pl_L X g R x i σ = pl_L X g R x1 i1 σ1) (h : pl_O X lb g o a R V0 c0 n σ1 τ1 τ' l l' B x1 i1) : pl_O X lb g o a R V0 c0 n σ τ τ' l l' B x i := by
  obtain ⟨σ', a1, a2, a3, a4, a5⟩ := h
  refine ⟨σ', h1.tr a1, h2.tr a2, a3, fun y hy => (a4 y hy).trans (hT y hy), ?_⟩
  rcases a5 with ⟨b1, x', i', b2, b3, b4, b5⟩ | ⟨b1, b2⟩
  · exact Or.inl ⟨b1, x', i', b2, b3, b4, hL.trans b5⟩
  · exact Or.inr ⟨b1, hL.trans b2⟩
theorem pl_J.lines (J : pl_J X g a R V0 c0 n σ τ) : (σ.1 (q_rf X g 3) 2).toInt = V0 3 2 := by
  obtain ⟨-, -, -, -, -, V', c', i1, -, -, -, -, i6⟩ := J
  exact ((pl_W (lb := fun _ => 0) (o := 0) i1).rd (id := 3) (by decide) 2 rfl).trans (i6.1 3 2 (by decide))
theorem pl_meets (Y : y_S X lb) (G : y_G X lb g o) (hV : y_v X g σ = V) (hc : m_c X τ a = c) {s : Int} (hx : x.toInt = l) (hl : 0 ≤ l ∧ l < 60) {z7 : Int32} (wz : z7.toInt = 656 + 9 * s) (hs : 0 ≤ s ∧ s < 30) (h1 : V 21 l = c (656 + 9 * s + 7)) (h2 : V 22 l = c (656 + 9 * s + 2)) {u u' : Int32} (hu : u.toInt = u'.toInt) : (F_X8_meets X σ (q_rf X g 3) x u).toInt = (F_X12_isSo_J78_1 X z7 τ a u').toInt := by
  have ln := pl_line Y G hV hx hl
  have e7 := pl_cellk hc wz ⟨by omega, by omega⟩ 7 (j := 7) rfl (by decide)
  have e2 := pl_cellk hc wz ⟨by omega, by omega⟩ 2 (j := 2) rfl (by decide)
  unfold F_X8_meets F_X12_isSo_J78_1
  rw [q_letE (F_X5_get X σ (q_rf X (q_rf X g 3) 7) x), q_letE (F_X5_get X σ (q_rf X (q_rf X g 3) 6) x), ln.2.2.2.1, ln.2.2.2.2, h1, h2, q_letE (z7 + 7), q_letE (τ.1 (q_rf X a 20) (z7 + 7).toNatClampNeg), e7, hu]
  by_cases q : c (656 + 9 * s + 7) = 60
  · rw [if_pos q, if_pos q, q_letE (z7 + 2), q_letE (τ.1 (q_rf X a 20) (z7 + 2).toNatClampNeg), e2]
  · rw [if_neg q, if_neg q, q_letE (z7 + 7), q_letE (τ.1 (q_rf X a 20) (z7 + 7).toNatClampNeg), e7]
    by_cases q2 : c (656 + 9 * s + 7) = 62
    · rw [if_pos q2, if_pos q2, q_letE (z7 + 2), q_letE (τ.1 (q_rf X a 20) (z7 + 2).toNatClampNeg), e2]
    · rw [if_neg q2, if_neg q2, q_letE (z7 + 2), q_letE (τ.1 (q_rf X a 20) (z7 + 2).toNatClampNeg), e2]
/-- a test, in both -/
theorem pl_so (Y : y_S X lb) (G : y_G X lb g o) (hV : y_v X g σ = V) (Rg : rg V c) (hG : m_G c) (hc : m_c X τ a = c) {s : Int} (hx : x.toInt = l) (hl : 0 ≤ l ∧ l < 60) (st : st_l V c s l) (h3 : c (656 + 9 * s) = 3) {z7 : Int32} (wz : z7.toInt = 656 + 9 * s) (hs : 0 ≤ s ∧ s < c 655) (hm : 0 ≤ V 19 l ∧ V 19 l < 60) :
    ∃ y : Int32, y.toInt = V 19 l + 1 ∧ F_X7_behindStep X σ R g x = if (F_X12_isSo X τ a z7).toInt = 0 then (y, σ) else (x + 1, σ) := by
  have one : (1 : Int32).toInt = 1 := rfl
  have e22 : (22 : Int32).toInt = 22 := rfl
  have n9 : ((y_gn 9 : Nat) : Int) = 6 := rfl
  have n12 : ((y_gn 12 : Nat) : Int) = 6 := rfl
  have qq := hG.2.2.2.2.2.1
  have s30 : 0 ≤ s ∧ s < 30 := by omega
  have w := pl_W (lb := lb) (o := o) hV
  have ln := pl_line Y G hV hx hl
  have yv : (F_X5_get X σ (q_rf X (q_rf X g 3) 4) x + 1).toInt = V 19 l + 1 := by
    rw [y_inc (by rw [ln.2.1]; omega), ln.2.1]
  refine ⟨_, yv, ?_⟩
  have gk : ∀ (k : Int32) (j : Int), k.toInt = j → 0 ≤ j ∧ j ≤ 10 → (τ.1 (q_rf X a 20) (z7 + k).toNatClampNeg).toInt = c (656 + 9 * s + j) := fun k j h1 h2 => pl_cellk hc wz ⟨by omega, by omega⟩ k h1 h2
  have e6 := gk 6 6 rfl (by decide)
  have e1 := gk 1 1 rfl (by decide)
  unfold F_X7_behindStep
  rw [q_letE (F_X5_get X σ (q_rf X (q_rf X g 3) 5) x), q_letE (F_X5_get X σ (q_rf X (q_rf X g 3) 7) x), q_letE (F_X5_get X σ (q_rf X (q_rf X g 3) 4) x), q_letE (F_X5_get X σ (q_rf X (q_rf X g 3) 4) x + 1), q_letE (F_X5_get X σ (q_rf X (q_rf X g 3) 3) x), ln.1]
  have qs := (hG.2.2.2.2.2.2 s hs.1 hs.2).2.1
  have st' := st
  unfold st_l at st'
  rcases st' with ⟨h0, -⟩ | ⟨h0, -⟩ | ⟨h0, -⟩ | ⟨h0, -⟩ | ⟨h0, -⟩ | ⟨-, k6, k18, k20, k21, k22⟩ | ⟨-, k6, k18, k21, k22⟩ | ⟨-, k6, k18, k20, k21, k22⟩ | ⟨-, k6, k18⟩
  · omega
  · omega
  · omega
  · omega
  · omega
  · have hp := qs (Or.inr (Or.inr ⟨h3, Or.inl k6⟩))
    have is : F_X12_isSo X τ a z7 = F_X12_isSo_J78_1 X z7 τ a (F_X12_cardsOf X τ a (τ.1 (q_rf X a 20) (z7 + 1).toNatClampNeg)) := by
      unfold F_X12_isSo
      rw [q_letE (z7 + 6), q_letE (τ.1 (q_rf X a 20) (z7 + 6).toNatClampNeg), e6, k6, if_neg (by decide : ¬ (0 : Int) = 3), if_pos (rfl : (0 : Int) = 0), q_letE (z7 + 1), q_letE (τ.1 (q_rf X a 20) (z7 + 1).toNatClampNeg), q_letE (F_X12_cardsOf X τ a (τ.1 (q_rf X a 20) (z7 + 1).toNatClampNeg))]
    rw [k18, is, if_neg (by decide : ¬ (5 : Int) = 0), if_neg (by decide : ¬ (5 : Int) = 1), if_neg (by decide : ¬ (5 : Int) = 2), if_neg (by decide : ¬ (5 : Int) = 3), if_neg (by decide : ¬ (5 : Int) = 4), if_pos (rfl : (5 : Int) = 5)]
    have c1 : (F_X5_get X σ (q_rf X (q_rf X g 1) 2) (F_X5_get X σ (q_rf X (q_rf X g 3) 5) x)).toInt = m_S c (34 + 10 * c (656 + 9 * s + 1)) 10 := (y_getI Y G w (id := 9) (r := q_rf X (q_rf X g 1) 2) ⟨by decide, by decide⟩ rfl (ln.2.2.1.trans k20) hp.1 (by rw [n9]; omega)).trans (Rg.2.2.2.1.2 _ hp.1 (by omega))
    have c2 := gm_cardsOf (X := X) hc hG e1 ⟨hp.1, by omega⟩
    have mm := pl_meets (X := X) (τ := τ) (a := a) Y G hV hc hx hl wz s30 k21 k22 (c1.trans c2.symm)
    rw [q_letE (F_X5_get X σ (q_rf X (q_rf X g 1) 2) (F_X5_get X σ (q_rf X (q_rf X g 3) 5) x)), q_letE (F_X8_meets X σ (q_rf X g 3) x (F_X5_get X σ (q_rf X (q_rf X g 1) 2) (F_X5_get X σ (q_rf X (q_rf X g 3) 5) x))), mm, q_letE (x + 1)]
  · have is : F_X12_isSo X τ a z7 = F_X12_isSo_J78_1 X z7 τ a (F_X12_heapMany X τ a) := by
      unfold F_X12_isSo
      rw [q_letE (z7 + 6), q_letE (τ.1 (q_rf X a 20) (z7 + 6).toNatClampNeg), e6, k6, if_neg (by decide : ¬ (1 : Int) = 3), if_neg (by decide : ¬ (1 : Int) = 0), if_pos (rfl : (1 : Int) = 1), q_letE (F_X12_heapMany X τ a)]
    rw [k18, is, if_neg (by decide : ¬ (6 : Int) = 0), if_neg (by decide : ¬ (6 : Int) = 1), if_neg (by decide : ¬ (6 : Int) = 2), if_neg (by decide : ¬ (6 : Int) = 3), if_neg (by decide : ¬ (6 : Int) = 4), if_neg (by decide : ¬ (6 : Int) = 5), if_pos (rfl : (6 : Int) = 6)]
    have c1 : (σ.1 (q_rf X g 2) 1).toInt = m_L c (c 9).toNat := (w.rd (id := 2) (by decide) 1 rfl).trans Rg.2.2.2.2.1.2.1
    have c2 := lk_heap (X := X) hc hG
    have mm := pl_meets (X := X) (τ := τ) (a := a) Y G hV hc hx hl wz s30 k21 k22 (c1.trans c2.symm)
    rw [q_letE (σ.1 (q_rf X g 2) 1), q_letE (F_X8_meets X σ (q_rf X g 3) x (σ.1 (q_rf X g 2) 1)), mm, q_letE (x + 1)]
  · have hp := qs (Or.inr (Or.inr ⟨h3, Or.inr k6⟩))
    have is : F_X12_isSo X τ a z7 = F_X12_isSo_J78_1 X z7 τ a (τ.1 (q_rf X a 20) ((22 : Int32) + τ.1 (q_rf X a 20) (z7 + 1).toNatClampNeg).toNatClampNeg) := by
      unfold F_X12_isSo
      rw [q_letE (z7 + 6), q_letE (τ.1 (q_rf X a 20) (z7 + 6).toNatClampNeg), e6, k6, if_neg (by decide : ¬ (2 : Int) = 3), if_neg (by decide : ¬ (2 : Int) = 0), if_neg (by decide : ¬ (2 : Int) = 1), q_letE (z7 + 1), q_letE (τ.1 (q_rf X a 20) (z7 + 1).toNatClampNeg), q_letE ((22 : Int32) + τ.1 (q_rf X a 20) (z7 + 1).toNatClampNeg), q_letE (τ.1 (q_rf X a 20) ((22 : Int32) + τ.1 (q_rf X a 20) (z7 + 1).toNatClampNeg).toNatClampNeg)]
    rw [k18, is, if_neg (by decide : ¬ (7 : Int) = 0), if_neg (by decide : ¬ (7 : Int) = 1), if_neg (by decide : ¬ (7 : Int) = 2), if_neg (by decide : ¬ (7 : Int) = 3), if_neg (by decide : ¬ (7 : Int) = 4), if_neg (by decide : ¬ (7 : Int) = 5), if_neg (by decide : ¬ (7 : Int) = 6), if_pos (rfl : (7 : Int) = 7)]
    have c1 : (F_X5_get X σ (q_rf X (q_rf X g 1) 5) (F_X5_get X σ (q_rf X (q_rf X g 3) 5) x)).toInt = c (22 + c (656 + 9 * s + 1)) := (y_getI Y G w (id := 12) (r := q_rf X (q_rf X g 1) 5) ⟨by decide, by decide⟩ rfl (ln.2.2.1.trans k20) hp.1 (by rw [n12]; omega)).trans (Rg.2.2.1 _ hp.1 (by omega)).2.2.1
    have c2 : (τ.1 (q_rf X a 20) ((22 : Int32) + τ.1 (q_rf X a 20) (z7 + 1).toNatClampNeg).toNatClampNeg).toInt = c (22 + c (656 + 9 * s + 1)) := gm_cell hc (by rw [ar_add, e22, e1, ar_wr (by omega) (by omega)])
    have mm := pl_meets (X := X) (τ := τ) (a := a) Y G hV hc hx hl wz s30 k21 k22 (c1.trans c2.symm)
    rw [q_letE (F_X5_get X σ (q_rf X (q_rf X g 1) 5) (F_X5_get X σ (q_rf X (q_rf X g 3) 5) x)), q_letE (F_X8_meets X σ (q_rf X g 3) x (F_X5_get X σ (q_rf X (q_rf X g 1) 5) (F_X5_get X σ (q_rf X (q_rf X g 3) 5) x))), mm, q_letE (x + 1)]
  · have s3 := Rg.2.1.2.2.1
    have c1 : (σ.1 g 6).toInt = c 8 := (w.rd (id := 0) (by decide) 6 rfl).trans s3.1
    have c2 : (τ.1 (q_rf X a 20) (8 : Int32).toNatClampNeg).toInt = c 8 := gm_cell (A := 8) hc rfl
    have is : F_X12_isSo X τ a z7 = if c 8 < 0 then 0 else 1 := by
      unfold F_X12_isSo
      rw [q_letE (z7 + 6), q_letE (τ.1 (q_rf X a 20) (z7 + 6).toNatClampNeg), e6, k6, if_pos (rfl : (3 : Int) = 3), q_letE (τ.1 (q_rf X a 20) (8 : Int32).toNatClampNeg), c2]
    rw [k18, is, if_neg (by decide : ¬ (8 : Int) = 0), if_neg (by decide : ¬ (8 : Int) = 1), if_neg (by decide : ¬ (8 : Int) = 2), if_neg (by decide : ¬ (8 : Int) = 3), if_neg (by decide : ¬ (8 : Int) = 4), if_neg (by decide : ¬ (8 : Int) = 5), if_neg (by decide : ¬ (8 : Int) = 6), if_neg (by decide : ¬ (8 : Int) = 7), if_pos (rfl : (8 : Int) = 8), q_letE (σ.1 g 6), c1, q_letE (x + 1)]
    by_cases q : c 8 = -1
    · rw [if_pos q, if_pos (by omega : c 8 < 0), if_pos (by decide : (0 : Int32).toInt = 0)]
    · rw [if_neg q, if_neg (by omega : ¬ c 8 < 0), if_neg (by decide : ¬ (1 : Int32).toInt = 0)]
/-- a loop of the reference at its end -/
theorem pl_loopEnd {z7 v1 : Int32} {FA : ST → Int32 → Int32 → ST} {fu : Nat} {y : Int32} {s N : Int} (hc : m_c X τ a = c) (wz : z7.toInt = 656 + 9 * s) (hs : 0 ≤ s ∧ s < 30) (hN : c (656 + 9 * s + 1) = N) (h : N ≤ y.toInt ∨ (τ.1 a 38).toInt ≠ 0) : F_X12_doOne_s_L117_1 X z7 a v1 FA (fu + 1) y τ = τ := by
  have e1 := pl_cellk hc wz ⟨by omega, by omega⟩ 1 (j := 1) rfl (by decide)
  rw [F_X12_doOne_s_L117_1_s]
  unfold F_X12_doOne_s_B117_1
  rw [q_letE (z7 + 1), q_letE (τ.1 (q_rf X a 20) (z7 + 1).toNatClampNeg), e1, hN]
  by_cases q : y.toInt < N
  · rw [if_pos q, q_letE (τ.1 a 38), if_neg (by
      rcases h with h | h
      · omega
      · exact h)]
  · rw [if_neg q]
/-- a body of its own -/
def pl_body (X : XW) (lb : Nat → Nat) (g o a R : Nat) (V0 : Nat → Int → Int) (c0 : Int → Int) (n : Int) (FA : ST → Int32 → Int32 → ST) (s b l m : Int) : Prop := ∀ (σ τ : ST) (v1 v2 x i : Int32) (B : Int), pl_J X g a R V0 c0 n σ τ → pl_on a τ → v1.toInt = s → v2.toInt = b → x.toInt = l → 0 ≤ i.toInt → i.toInt - 100 * (τ.1 a 40).toInt ≤ B → B ≤ 0 → pl_O X lb g o a R V0 c0 n σ τ (FA τ v1 v2) l m B x i
theorem pl_loop (Y : y_S X lb) (G : y_G X lb g o) (D : pl_D X lb o R) {FA : ST → Int32 → Int32 → ST} {s b m N : Int} (FB : pl_body X lb g o a R V0 c0 n FA (s + 1) b (l + 1) m) (hs : 0 ≤ s ∧ s < 30) (hl : 0 ≤ l ∧ l < m ∧ m < V0 3 2) (h60 : V0 3 2 ≤ 60) (hN : c0 (656 + 9 * s + 1) = N) (bN : 1 ≤ N ∧ N ≤ 99) (hb : c0 (656 + 9 * s + 8) = b) (m9 : V0 18 m = 9) (mm : V0 19 m = l) (l4 : V0 18 l = 4) {z7 v1 : Int32} (wz : z7.toInt = 656 + 9 * s) (hv : v1.toInt = s) (hB0 : B ≤ 0) (fu : Nat) :
    ∀ (y x i : Int32) (σ τ : ST) (k : Int), (2147483647 - y.toInt).toNat < fu → y.toInt = k → 0 ≤ k → k < N → pl_J X g a R V0 c0 n σ τ → pl_on a τ → (σ.1 (pl_T X R) l.toNat).toInt = N - k → x.toInt = l + 1 → 0 ≤ i.toInt → i.toInt - 100 * (τ.1 a 40).toInt ≤ B - 99 + k → pl_O X lb g o a R V0 c0 n σ τ (F_X12_doOne_s_L117_1 X z7 a v1 FA fu y τ) l (m + 1) B x i := by
  induction fu with
  | zero => intro y x i σ τ k h; exact absurd h (Nat.not_lt_zero _)
  | succ fu ih =>
    intro y x i σ τ k hf hy k0 k1 J on hT hx hi hB
    obtain ⟨fu', efu⟩ : ∃ q, fu = q + 1 := ⟨fu - 1, by omega⟩
    have one : (1 : Int32).toInt = 1 := rfl
    have J0 := J
    obtain ⟨-, -, -, -, -, V', c', i1, i2, i3, i4, i5, i6⟩ := J
    have e1 : (τ.1 (q_rf X a 20) (z7 + 1).toNatClampNeg).toInt = N := (pl_cellk i2 wz ⟨by omega, by omega⟩ 1 (j := 1) rfl (by decide)).trans ((i6.2 _ (by omega) (by omega)).trans hN)
    have e8 : (τ.1 (q_rf X a 20) (z7 + 8).toNatClampNeg).toInt = b := (pl_cellk i2 wz ⟨by omega, by omega⟩ 8 (j := 8) rfl (by decide)).trans ((i6.2 _ (by omega) (by omega)).trans hb)
    have y1 : (y + 1).toInt = k + 1 := by rw [y_inc (by omega), hy]
    have v1' : (v1 + 1).toInt = s + 1 := by rw [y_inc (by omega), hv]
    rw [F_X12_doOne_s_L117_1_s]
    unfold F_X12_doOne_s_B117_1
    rw [q_letE (z7 + 1), q_letE (τ.1 (q_rf X a 20) (z7 + 1).toNatClampNeg), e1, hy, if_pos k1, q_letE (τ.1 a 38), if_pos on.1, q_letE (v1 + 1), q_letE (z7 + 8), q_letE (τ.1 (q_rf X a 20) (z7 + 8).toNatClampNeg), q_letE (FA τ (v1 + 1) (τ.1 (q_rf X a 20) (z7 + 8).toNatClampNeg)), q_letE (y + 1)]
    have bo := FB σ τ (v1 + 1) (τ.1 (q_rf X a 20) (z7 + 8).toNatClampNeg) x i (B - 99 + k) J0 on v1' e8 hx hi hB (by omega)
    obtain ⟨τ1, et⟩ : ∃ t, t = FA τ (v1 + 1) (τ.1 (q_rf X a 20) (z7 + 8).toNatClampNeg) := ⟨_, rfl⟩
    rw [← et] at bo ⊢
    obtain ⟨σ1, a1, a2, a3, a4, a5⟩ := bo
    have J1 := a3
    obtain ⟨-, -, -, j5, jb, V1, c1, o1, o2, o3, o4, o5, o6⟩ := a3
    have N1 : c1 (656 + 9 * s + 1) = N := (o6.2 _ (by omega) (by omega)).trans hN
    rcases a5 with ⟨b1, x', i', b2, b3, b4, b5⟩ | ⟨b1, b2⟩
    · have T1 : σ1.1 (pl_T X R) l.toNat = σ.1 (pl_T X R) l.toNat := a4 _ (Or.inl (by omega))
      have T1v : (σ1.1 (pl_T X R) l.toNat - 1).toInt = N - k - 1 := by rw [ar_sub, T1, hT, one, ar_wr (by omega) (by omega)]
      have w32 : V1 3 2 = V0 3 2 := o6.1 3 2 (by decide)
      obtain ⟨u, hu, em⟩ := pl_endMove Y G D o1 (x := x') (i := i') (m := m) (l := l) ⟨b3, by omega⟩ b2 (by rw [w32]; exact ⟨hl.2.1, hl.2.2⟩) hl.1 (by rw [w32]; exact h60) ((congrArg Int32.toInt j5).trans b1.2) ((o6.1 18 m (by omega)).trans m9) ((o6.1 19 m (by omega)).trans mm)
      rw [if_pos ((o6.1 18 l (by omega)).trans l4), T1v] at em
      have i1' : (i' + 1).toInt = i'.toInt + 1 := y_inc (by omega)
      have x1' : (x' + 1).toInt = m + 1 := by rw [y_inc (by omega), b2]
      have u1' : (u + 1).toInt = l + 1 := by rw [y_inc (by omega), hu]
      have J2 := J1.st Y G D l.toNat (σ1.1 (pl_T X R) l.toNat - 1)
      have S2 : tkl (pl_Sg X lb o R) (fun _ _ => False) σ (q_si σ1 (pl_T X R) l.toNat (σ1.1 (pl_T X R) l.toNat - 1)) := a1.si _ (Or.inr (Or.inr rfl))
      have F2 : ∀ y : Nat, (y : Int) < l ∨ m + 1 ≤ (y : Int) → (q_si σ1 (pl_T X R) l.toNat (σ1.1 (pl_T X R) l.toNat - 1)).1 (pl_T X R) y = σ.1 (pl_T X R) y := fun y hy => by
        rw [si_f (by omega)]
        exact a4 y (by omega)
      by_cases q : 0 < N - k - 1
      · rw [if_pos q] at em
        refine pl_O.pre S2 a2 F2 (b5.trans em) (ih (y + 1) (u + 1) (i' + 1) _ τ1 (k + 1) (by omega) y1 (by omega) (by omega) J2 b1 ?_ u1' (by omega) (by omega))
        rw [si_eq, T1v]
        omega
      · rw [if_neg q] at em
        rw [efu, pl_loopEnd o2 wz hs N1 (Or.inl (by omega))]
        exact ⟨_, S2, a2, J2, F2, Or.inl ⟨b1, x' + 1, i' + 1, x1', by omega, by omega, b5.trans em⟩⟩
    · rw [efu, pl_loopEnd o2 wz hs N1 (Or.inr (by omega))]
      exact ⟨σ1, a1, a2, J1, fun y hy => a4 y (by omega), Or.inr ⟨b1, b2⟩⟩
/-- a step with a body -/
theorem pl_block (Y : y_S X lb) (G : y_G X lb g o) (D : pl_D X lb o R) (ha : q_kd X a = 12) (hn : n ≤ 800000) {FA : ST → Int32 → Int32 → ST} {s b m : Int} (FB : pl_body X lb g o a R V0 c0 n FA (s + 1) b (l + 1) m) (J : pl_J X g a R V0 c0 n σ τ) (on : pl_on a τ) (S : st_l V0 c0 s l) (hs : 0 ≤ s ∧ s < c0 655) (hl : 0 ≤ l ∧ l < m ∧ m < V0 3 2) (h60 : V0 3 2 ≤ 60) (hk : c0 (656 + 9 * s) = 3 ∨ c0 (656 + 9 * s) = 4) (hb : c0 (656 + 9 * s + 8) = b) (m9 : V0 18 m = 9) (mm : V0 19 m = l) (ml : V0 19 l = m) {v1 : Int32} (hx : x.toInt = l) (hv : v1.toInt = s) (hi : 0 ≤ i.toInt) (hB : i.toInt - 100 * (τ.1 a 40).toInt ≤ B) (hB0 : B ≤ 0) :
    pl_O X lb g o a R V0 c0 n σ τ (F_X12_doOne_s X τ a v1 FA) l (m + 1) B x i := by
  obtain ⟨n80, n8a, n0a⟩ := pl_k28 Y.1 ha
  obtain ⟨⟨k6, k2, k3, k4⟩, j0, j1, j5, jb, V', c', i1, i2, i3, i4, i5, i6⟩ := id J
  have one : (1 : Int32).toInt = 1 := rfl
  have w := pl_W (lb := lb) (o := o) i1
  have e655 : c' 655 = c0 655 := i6.2 655 (by decide) (Or.inr (by decide))
  have qq := i4.2.2.2.2.2.1
  have s30 : s < 30 := by omega
  have hl60 : 0 ≤ l ∧ l < 60 := ⟨hl.1, by omega⟩
  have v32 : V' 3 2 = V0 3 2 := i6.1 3 2 (by decide)
  have st := i6.st ⟨hs.1, s30⟩ hl60 S
  have ck : ∀ j : Int, 0 ≤ j ∧ j ≤ 10 → c' (656 + 9 * s + j) = c0 (656 + 9 * s + j) := fun j h => i6.2 _ (by omega) (by omega)
  have ck0 : c' (656 + 9 * s) = c0 (656 + 9 * s) := i6.2 _ (by omega) (by omega)
  have act := st.act
  have f2 : (σ.1 (q_rf X g 3) 2).toInt = V0 3 2 := (w.rd (id := 3) (by decide) 2 rfl).trans v32
  have ln := pl_line Y G i1 hx hl60
  have h5 : (σ.1 R 5).toInt = 0 := by rw [j5]; exact on.2
  have hi6 : 0 ≤ i.toInt ∧ i.toInt < 1000000 := ⟨hi, by omega⟩
  have r0 : (σ.1 R 0).toInt = (τ.1 a 40).toInt := congrArg Int32.toInt j0
  have xi : (x + 1).toInt = l + 1 := by rw [y_inc (by omega), hx]
  have ii : (i + 1).toInt = i.toInt + 1 := y_inc (by omega)
  have v1' : (v1 + 1).toInt = s + 1 := by rw [y_inc (by omega), hv]
  have step := pl_Lstep (X := X) (x := x) hi6 (by rw [f2]; omega) h5
  rw [if_neg (by rw [ln.1]; omega), r0] at step
  unfold F_X12_doOne_s
  rw [q_letE (τ.1 a 40)]
  by_cases q300 : (τ.1 a 40).toInt = 300
  · rw [if_pos q300] at step
    rw [if_pos q300, q_letE (q_si τ a 38 1), q_letE (q_si (q_si τ a 38 1) a 45 1)]
    exact pl_cut Y G D ha J step
  rw [if_neg q300] at step
  obtain ⟨J5, D5⟩ := J.step Y G D ha q300
  have v5 : y_v X g (q_si σ R 0 (σ.1 R 0 + 1)) = V' := (pl_vo Y G D.2.1 0 _).trans i1
  have m5 : m_c X (q_si τ a 40 (τ.1 a 40 + 1)) a = c' := (mv_cell Y.1 ha 40 _).trans i2
  have S5 : tkl (pl_Sg X lb o R) (fun _ _ => False) σ (q_si σ R 0 (σ.1 R 0 + 1)) := tkl.rf.si _ (Or.inr (Or.inl ⟨rfl, by decide⟩))
  have T5 : tkl (pl_Sq X a) (fun _ _ => False) τ (q_si τ a 40 (τ.1 a 40 + 1)) := tkl.rf.si _ (Or.inr (Or.inr ⟨rfl, by decide, by decide⟩))
  have u5 : ∀ y : Nat, (q_si σ R 0 (σ.1 R 0 + 1)).1 (pl_T X R) y = σ.1 (pl_T X R) y := fun y => q_si_ne D.ne y
  have on5 : pl_on a (q_si τ a 40 (τ.1 a 40 + 1)) := ⟨(congrArg Int32.toInt (si_f (by decide) a)).trans on.1, (congrArg Int32.toInt (si_f (by decide) a)).trans on.2⟩
  rw [if_neg q300, q_letE (τ.1 a 40), q_letE (τ.1 a 40 + 1), q_letE (q_si τ a 40 (τ.1 a 40 + 1)), q_letE ((9 : Int32) * v1), q_letE ((656 : Int32) + (9 : Int32) * v1)]
  obtain ⟨σ5, es⟩ : ∃ t, t = q_si σ R 0 (σ.1 R 0 + 1) := ⟨_, rfl⟩
  obtain ⟨τ5, et⟩ : ∃ t, t = q_si τ a 40 (τ.1 a 40 + 1) := ⟨_, rfl⟩
  rw [← es] at J5 v5 S5 u5 step
  rw [← et] at J5 D5 m5 T5 on5 ⊢
  have wz := pl_w656 hv ⟨hs.1, s30⟩
  obtain ⟨z7, ez⟩ : ∃ z, z = (656 : Int32) + (9 : Int32) * v1 := ⟨_, rfl⟩
  rw [← ez] at wz ⊢
  have g8 : (τ5.1 (q_rf X a 20) z7.toNatClampNeg).toInt = c' (656 + 9 * s) := gm_cell m5 wz
  have e8 : (τ5.1 (q_rf X a 20) (z7 + 8).toNatClampNeg).toInt = b := (pl_cellk m5 wz ⟨by omega, by omega⟩ 8 (j := 8) rfl (by decide)).trans ((ck 8 (by decide)).trans hb)
  rw [q_letE (τ5.1 (q_rf X a 20) z7.toNatClampNeg), g8, ck0]
  rcases hk with hk | hk
  · -- when
    rw [hk, if_neg (by decide : ¬ (3 : Int) < 3), if_pos rfl, q_letE (F_X12_isSo X τ5 a z7)]
    have vm : V' 19 l = m := (i6.1 19 l (by omega)).trans ml
    obtain ⟨y, hy, so⟩ := pl_so (R := R) Y G v5 i3 i4 m5 hx hl60 st (ck0.trans hk) wz ⟨hs.1, by rw [e655]; exact hs.2⟩ (by rw [vm]; omega)
    rw [vm] at hy
    rw [so] at step
    by_cases q : (F_X12_isSo X τ5 a z7).toInt = 0
    · rw [if_pos q, q_biP y σ5] at step
      rw [if_pos q, if_neg (by decide : ¬ (3 : Int) = 4), if_neg (by decide : ¬ (4 : Int) < 3)]
      exact ⟨σ5, S5, T5, J5, fun y _ => u5 y, Or.inl ⟨on5, y, i + 1, hy, by omega, by rw [D5]; omega, step⟩⟩
    · rw [if_neg q, q_biP (x + 1) σ5] at step
      rw [if_neg q, q_letE (v1 + 1), q_letE (z7 + 8), q_letE (τ5.1 (q_rf X a 20) (z7 + 8).toNatClampNeg), q_letE (FA τ5 (v1 + 1) (τ5.1 (q_rf X a 20) (z7 + 8).toNatClampNeg))]
      refine pl_O.pre S5 T5 (fun y _ => u5 y) step ?_
      have bo := FB σ5 τ5 (v1 + 1) (τ5.1 (q_rf X a 20) (z7 + 8).toNatClampNeg) (x + 1) (i + 1) (B - 99) J5 on5 v1' e8 xi (by omega) (by rw [D5]; omega) (by omega)
      obtain ⟨τ1, et1⟩ : ∃ t, t = FA τ5 (v1 + 1) (τ5.1 (q_rf X a 20) (z7 + 8).toNatClampNeg) := ⟨_, rfl⟩
      rw [← et1] at bo ⊢
      obtain ⟨σ1, a1, a2, a3, a4, a5⟩ := bo
      have J1 := a3
      obtain ⟨-, -, -, p5, pb, V1, c1, o1, o2, o3, o4, o5, o6⟩ := a3
      rcases a5 with ⟨b1, x', i', b2, b3, b4, b5⟩ | ⟨b1, b2⟩
      · have w32 : V1 3 2 = V0 3 2 := o6.1 3 2 (by decide)
        obtain ⟨u, hu, em⟩ := pl_endMove Y G D o1 (x := x') (i := i') (m := m) (l := l) ⟨b3, by omega⟩ b2 (by rw [w32]; exact ⟨hl.2.1, hl.2.2⟩) hl.1 (by rw [w32]; exact h60) ((congrArg Int32.toInt p5).trans b1.2) ((o6.1 18 m (by omega)).trans m9) ((o6.1 19 m (by omega)).trans mm)
        have n4 : ¬ V1 18 l = 4 := fun e => by
          have z1 := o6.1 18 l (by omega)
          have z2 := i6.1 18 l (by omega)
          have z3 := act.2.2.mp (by rw [z2, ← z1]; exact e)
          omega
        rw [if_neg n4] at em
        have i1' : (i' + 1).toInt = i'.toInt + 1 := y_inc (by omega)
        have x1' : (x' + 1).toInt = m + 1 := by rw [y_inc (by omega), b2]
        exact ⟨σ1, a1, a2, J1, fun y hy => a4 y (by omega), Or.inl ⟨b1, x' + 1, i' + 1, x1', by omega, by omega, b5.trans em⟩⟩
      · exact ⟨σ1, a1, a2, J1, fun y hy => a4 y (by omega), Or.inr ⟨b1, b2⟩⟩
  · -- loop
    rw [hk, if_neg (by decide : ¬ (4 : Int) < 3), if_neg (by decide : ¬ (4 : Int) = 3), if_pos rfl]
    have l4 : V' 18 l = 4 := act.2.2.mpr (ck0.trans hk)
    have nn : V' 22 l = c' (656 + 9 * s + 1) ∧ 1 ≤ c' (656 + 9 * s + 1) ∧ c' (656 + 9 * s + 1) ≤ 99 := by
      have st' := st
      unfold st_l at st'
      rw [ck0, hk] at st'
      omega
    have ln5 := pl_line Y G v5 hx hl60
    have xn : x.toNatClampNeg = l.toNat := by rw [ar_cl, hx]
    unfold F_X7_behindStep at step
    rw [q_letE (F_X5_get X σ5 (q_rf X (q_rf X g 3) 5) x), q_letE (F_X5_get X σ5 (q_rf X (q_rf X g 3) 7) x), q_letE (F_X5_get X σ5 (q_rf X (q_rf X g 3) 4) x), q_letE (F_X5_get X σ5 (q_rf X (q_rf X g 3) 4) x + 1), q_letE (F_X5_get X σ5 (q_rf X (q_rf X g 3) 3) x), ln5.1, l4, if_neg (by decide : ¬ (4 : Int) = 0), if_neg (by decide : ¬ (4 : Int) = 1), if_neg (by decide : ¬ (4 : Int) = 2), if_neg (by decide : ¬ (4 : Int) = 3), if_pos rfl, pl_tset Y D ⟨by omega, by omega⟩, xn, q_letE (q_si σ5 (pl_T X R) l.toNat (F_X5_get X σ5 (q_rf X (q_rf X g 3) 7) x)), q_letE (x + 1), q_biP (x + 1)] at step
    obtain ⟨N, eN⟩ : ∃ N, N = c' (656 + 9 * s + 1) := ⟨_, rfl⟩
    rw [← eN] at nn
    have lN : (F_X5_get X σ5 (q_rf X (q_rf X g 3) 7) x).toInt = N := ln5.2.2.2.2.trans nn.1
    obtain ⟨num, en⟩ : ∃ v, v = F_X5_get X σ5 (q_rf X (q_rf X g 3) 7) x := ⟨_, rfl⟩
    rw [← en] at step lN
    have S6 : tkl (pl_Sg X lb o R) (fun _ _ => False) σ (q_si σ5 (pl_T X R) l.toNat num) := S5.si _ (Or.inr (Or.inr rfl))
    refine pl_O.pre S6 T5 (fun y hy => by rw [si_f (by omega)]; exact u5 y) step ?_
    have z0 : (0 : Int32).toInt = 0 := rfl
    exact pl_loop Y G D FB ⟨hs.1, s30⟩ hl h60 (N := N) ((ck 1 (by decide)).symm.trans eN.symm) ⟨nn.2.1, nn.2.2⟩ hb m9 mm ((i6.1 18 l (by omega)).symm.trans l4) wz hv hB0 _ 0 (x + 1) (i + 1) _ τ5 0 (Nat.lt_succ_self _) z0 (by decide) (by omega) (J5.st Y G D l.toNat num) on5 (by rw [si_eq, lN]; omega) xi (by omega) (by rw [D5]; omega)
/-- nothing to do, or nothing more -/
theorem pl_allEnd {v2 y : Int32} {FO : ST → Int32 → ST} {fu : Nat} (h : v2.toInt ≤ y.toInt ∨ (τ.1 a 38).toInt ≠ 0) : F_X12_doAll_s_L2_1 X v2 a FO (fu + 1) y τ = τ := by
  rw [F_X12_doAll_s_L2_1_s]
  unfold F_X12_doAll_s_B2_1
  by_cases q : y.toInt < v2.toInt
  · rw [if_pos q, q_letE (τ.1 a 38), if_neg (by
      rcases h with h | h
      · omega
      · exact h)]
  · rw [if_neg q]
theorem pl_O.rf (J : pl_J X g a R V0 c0 n σ τ) (on : pl_on a τ) (hx : x.toInt = l) (hi : 0 ≤ i.toInt) (hB : i.toInt - 100 * (τ.1 a 40).toInt ≤ B) : pl_O X lb g o a R V0 c0 n σ τ τ l l B x i :=
  ⟨σ, tkl.rf, tkl.rf, J, fun _ _ => rfl, Or.inl ⟨on, x, i, hx, hi, hB, rfl⟩⟩
/-- one piece behind another -/
theorem pl_O.tr {τ2 : ST} {m : Int} (h : pl_O X lb g o a R V0 c0 n σ τ τ1 l m B x i) (hlm : l ≤ m) (hml : m ≤ l') (over : (τ1.1 a 38).toInt = 1 → τ2 = τ1) (k : ∀ (σ1 : ST) (x1 i1 : Int32), pl_J X g a R V0 c0 n σ1 τ1 → pl_on a τ1 → x1.toInt = m → 0 ≤ i1.toInt → i1.toInt - 100 * (τ1.1 a 40).toInt ≤ B → pl_O X lb g o a R V0 c0 n σ1 τ1 τ2 m l' B x1 i1) : pl_O X lb g o a R V0 c0 n σ τ τ2 l l' B x i := by
  obtain ⟨σ1, a1, a2, a3, a4, a5⟩ := h
  rcases a5 with ⟨b1, x', i', b2, b3, b4, b5⟩ | ⟨b1, b2⟩
  · obtain ⟨σ2, d1, d2, d3, d4, d5⟩ := k σ1 x' i' a3 b1 b2 b3 b4
    refine ⟨σ2, a1.tr d1, a2.tr d2, d3, fun y hy => (d4 y (by omega)).trans (a4 y (by omega)), ?_⟩
    rcases d5 with ⟨e1, x2, i2, e2, e3, e4, e5⟩ | ⟨e1, e2⟩
    · exact Or.inl ⟨e1, x2, i2, e2, e3, e4, b5.trans e5⟩
    · exact Or.inr ⟨e1, b5.trans e2⟩
  · rw [over b1]
    exact ⟨σ1, a1, a2, a3, fun y hy => a4 y (by omega), Or.inr ⟨b1, b2⟩⟩
theorem pl_allL (Y : y_S X lb) (G : y_G X lb g o) (D : pl_D X lb o R) (ha : q_kd X a = 12) (hn : n ≤ 800000) (h60 : V0 3 2 ≤ 60) (h30 : c0 655 ≤ 30) {FA : ST → Int32 → Int32 → ST} {d : Nat} (FB : ∀ (k : Nat) (s b l m : Int), 30 - (d : Int) ≤ s → 0 ≤ s → b ≤ c0 655 → 0 ≤ l → m ≤ V0 3 2 → fl V0 c0 k s b l m → pl_body X lb g o a R V0 c0 n FA s b l m) (k : Nat) :
    ∀ (fu : Nat) (s e l l' : Int) (σ τ : ST) (v1 v2 x i : Int32) (B : Int), (31 - s).toNat < fu → 30 - ((d + 1 : Nat) : Int) ≤ s → 0 ≤ s → e ≤ c0 655 → 0 ≤ l → l' ≤ V0 3 2 → fl V0 c0 k s e l l' → pl_J X g a R V0 c0 n σ τ → pl_on a τ → v1.toInt = s → v2.toInt = e → x.toInt = l → 0 ≤ i.toInt → i.toInt - 100 * (τ.1 a 40).toInt ≤ B → B ≤ 0 → pl_O X lb g o a R V0 c0 n σ τ (F_X12_doAll_s_L2_1 X v2 a (fun t w => F_X12_doOne_s X t a w FA) fu v1 τ) l l' B x i := by
  induction k with
  | zero =>
    intro fu s e l l' σ τ v1 v2 x i B hf hd s0 he l0 hl' F J on hv1 hv2 hx hi hB hB0
    have F' : s = e ∧ l = l' := F
    obtain ⟨fu', efu⟩ : ∃ q, fu = q + 1 := ⟨fu - 1, by omega⟩
    rw [efu, pl_allEnd (Or.inl (by omega)), ← F'.2]
    exact pl_O.rf J on hx hi hB
  | succ k ih =>
    intro fu s e l l' σ τ v1 v2 x i B hf hd s0 he l0 hl' F J on hv1 hv2 hx hi hB hB0
    obtain ⟨fu', efu⟩ : ∃ q, fu = q + 1 := ⟨fu - 1, by omega⟩
    rcases F with F | ⟨F1, F2, F3⟩
    · rw [efu, pl_allEnd (Or.inl (by omega)), ← F.2]
      exact pl_O.rf J on hx hi hB
    · obtain ⟨fu2, efu2⟩ : ∃ q, fu' = q + 1 := ⟨fu' - 1, by omega⟩
      rw [efu, F_X12_doAll_s_L2_1_s]
      unfold F_X12_doAll_s_B2_1
      rw [if_pos (by omega : v1.toInt < v2.toInt), q_letE (τ.1 a 38), if_pos on.1, q_letE (F_X12_doOne_s X τ a v1 FA), q_letE ((9 : Int32) * v1), q_letE ((656 : Int32) + (9 : Int32) * v1), q_letE ((656 : Int32) + (9 : Int32) * v1 + 8)]
      have wz := pl_w656 hv1 ⟨s0, by omega⟩
      -- the next step's number
      have next : ∀ (m : Int) (b : Int), pl_O X lb g o a R V0 c0 n σ τ (F_X12_doOne_s X τ a v1 FA) l m B x i → c0 (656 + 9 * s + 8) = b → l ≤ m → m ≤ l' → s < b → fl V0 c0 k b e m l' → pl_O X lb g o a R V0 c0 n σ τ (q_let ((F_X12_doOne_s X τ a v1 FA).1 (q_rf X a 20) ((656 : Int32) + (9 : Int32) * v1 + 8).toNatClampNeg) (fun f_12 => F_X12_doAll_s_L2_1 X v2 a (fun t w => F_X12_doOne_s X t a w FA) fu' f_12 (F_X12_doOne_s X τ a v1 FA))) l l' B x i := by
        intro m b O hb h1 h2 h3 F4
        obtain ⟨τ1, et⟩ : ∃ t, t = F_X12_doOne_s X τ a v1 FA := ⟨_, rfl⟩
        rw [← et] at O ⊢
        have O' := O
        obtain ⟨σ9, -, -, ⟨-, -, -, -, -, V1, c1, o1, o2, o3, o4, o5, o6⟩, -, -⟩ := O'
        have e8 : (τ1.1 (q_rf X a 20) ((656 : Int32) + (9 : Int32) * v1 + 8).toNatClampNeg).toInt = b := (pl_cellk o2 wz ⟨by omega, by omega⟩ 8 (j := 8) rfl (by decide)).trans ((o6.2 _ (by omega) (by omega)).trans hb)
        rw [q_letE (τ1.1 (q_rf X a 20) ((656 : Int32) + (9 : Int32) * v1 + 8).toNatClampNeg)]
        obtain ⟨y, ey⟩ : ∃ y, y = τ1.1 (q_rf X a 20) ((656 : Int32) + (9 : Int32) * v1 + 8).toNatClampNeg := ⟨_, rfl⟩
        rw [← ey] at e8 ⊢
        refine O.tr h1 h2 (fun h => by rw [efu2, pl_allEnd (Or.inr (by omega))]) (fun σ1 x1 i1 J1 on1 hx1 hi1 hB1 => ?_)
        exact ih fu' b e m l' σ1 τ1 y v2 x1 i1 B (by omega) (by omega) (by omega) he (by omega) hl' F4 J1 on1 e8 hv2 hx1 hi1 hB1 hB0
      rcases F3 with ⟨n3, n4, n8, F4⟩ | ⟨n3, m, b, n8, n18, n19, nl19, F4, F5⟩
      · have le := fl_le k F4
        exact next (l + 1) (s + 1) (pl_plain Y G D ha hn J on F2 ⟨s0, by omega⟩ ⟨l0, by omega⟩ h60 ⟨n3, n4⟩ hx hv1 hi hB hB0 FA) n8 (by omega) le.2 (by omega) F4
      · have le4 := fl_le k F4
        have le5 := fl_le k F5
        exact next (m + 1) b (pl_block Y G D ha hn (FB k (s + 1) b (l + 1) m (by omega) (by omega) (by omega) (by omega) (by omega) F4) J on F2 ⟨s0, by omega⟩ ⟨l0, by omega, by omega⟩ h60 n3 n8 n18 n19 nl19 hx hv1 hi hB hB0) n8 (by omega) le5.2 (by omega) F5
/-- all steps of a piece, in both -/
theorem pl_all (Y : y_S X lb) (G : y_G X lb g o) (D : pl_D X lb o R) (ha : q_kd X a = 12) (hn : n ≤ 800000) (h60 : V0 3 2 ≤ 60) (h30 : c0 655 ≤ 30) (d : Nat) : ∀ (k : Nat) (s b l m : Int), 30 - (d : Int) ≤ s → 0 ≤ s → b ≤ c0 655 → 0 ≤ l → m ≤ V0 3 2 → fl V0 c0 k s b l m → pl_body X lb g o a R V0 c0 n (F_X12_doAllN X a d) s b l m := by
  induction d with
  | zero =>
    intro k s b l m hd s0 hb l0 hm F σ τ v1 v2 x i B J on hv1 hv2 hx hi hB hB0
    have lm : l = m := by
      cases k with
      | zero => exact (show s = b ∧ l = m from F).2
      | succ k =>
        rcases F with F | ⟨F1, -⟩
        · exact F.2
        · omega
    have e : F_X12_doAllN X a 0 τ v1 v2 = τ := by
      show F_X12_doAll_z X τ a v1 v2 = τ
      unfold F_X12_doAll_z
      rw [F_X12_doAll_z_L2_1_s]
      unfold F_X12_doAll_z_B2_1
      split <;> rfl
    rw [e, ← lm]
    exact pl_O.rf J on hx hi hB
  | succ d ih =>
    intro k s b l m hd s0 hb l0 hm F σ τ v1 v2 x i B J on hv1 hv2 hx hi hB hB0
    have e : F_X12_doAllN X a (d + 1) τ v1 v2 = F_X12_doAll_s_L2_1 X v2 a (fun t w => F_X12_doOne_s X t a w (F_X12_doAllN X a d)) ((31 - v1.toInt).toNat + 1) v1 τ := rfl
    rw [e]
    exact pl_allL Y G D ha hn h60 h30 ih k _ s b l m σ τ v1 v2 x i B (by rw [hv1]; exact Nat.lt_succ_self _) hd s0 hb l0 hm F J on hv1 hv2 hx hi hB hB0
end PG

/-! FROM 49zs.play.lean.txt -/
/-! A ROUND PLAYED: go and plays; play called -/
section PH
variable {X : XW} {lb : Nat → Nat} {g o a R C : Nat} {σ σ' σ1 τ τ' τ1 : ST} {V0 V V' : Nat → Int → Int} {c0 c c' : Int → Int} {n : Int}
/-- a whole round -/
theorem pl_go (Y : y_S X lb) (G : y_G X lb g o) (D : pl_D X lb o R) (ha : q_kd X a = 12) (hn : n ≤ 800000) (hV : y_v X g σ = V) (Rg : rg V c) (hG : m_G c) (hW : m_W c n) (hc : m_c X τ a = c) (hr : rs V c) (v : Int32) :
    tkl (pl_Sg X lb o R) (fun _ _ => False) σ (F_X7_go X σ R g v) ∧ tkl (pl_Sq X a) (fun _ _ => False) τ (F_X12_plays X τ a v) ∧ pl_J X g a R V c n (F_X7_go X σ R g v) (F_X12_plays X τ a v) := by
  obtain ⟨n80, n8a, n0a⟩ := pl_k28 Y.1 ha
  obtain ⟨r0, r1, r2, ⟨r3, r4⟩, k, fk⟩ := hr
  have qq := hG.2.2.2.2.2.1
  have z0 : (0 : Int32).toInt = 0 := rfl
  unfold F_X7_go F_X12_plays
  -- the class begins
  obtain ⟨σ7, es⟩ : ∃ s, s = q_si (q_si (q_si (q_si (q_si (q_si (q_si σ R 0 0) R 1 0) R 2 0) R 3 0) R 4 0) R 5 0) R 6 v := ⟨_, rfl⟩
  rw [q_letE (q_si σ R 0 0), q_letE (q_si (q_si σ R 0 0) R 1 0), q_letE (q_si (q_si (q_si σ R 0 0) R 1 0) R 2 0), q_letE (q_si (q_si (q_si (q_si σ R 0 0) R 1 0) R 2 0) R 3 0), q_letE (q_si (q_si (q_si (q_si (q_si σ R 0 0) R 1 0) R 2 0) R 3 0) R 4 0), q_letE (q_si (q_si (q_si (q_si (q_si (q_si σ R 0 0) R 1 0) R 2 0) R 3 0) R 4 0) R 5 0), q_letE (q_si (q_si (q_si (q_si (q_si (q_si (q_si σ R 0 0) R 1 0) R 2 0) R 3 0) R 4 0) R 5 0) R 6 v), ← es]
  have s0 : σ7.1 R 0 = 0 := by rw [es, si_f (by decide), si_f (by decide), si_f (by decide), si_f (by decide), si_f (by decide), si_f (by decide), si_eq]
  have s1 : σ7.1 R 1 = 0 := by rw [es, si_f (by decide), si_f (by decide), si_f (by decide), si_f (by decide), si_f (by decide), si_eq]
  have s2 : σ7.1 R 2 = 0 := by rw [es, si_f (by decide), si_f (by decide), si_f (by decide), si_f (by decide), si_eq]
  have s3 : σ7.1 R 3 = 0 := by rw [es, si_f (by decide), si_f (by decide), si_f (by decide), si_eq]
  have s4 : σ7.1 R 4 = 0 := by rw [es, si_f (by decide), si_f (by decide), si_eq]
  have s5 : σ7.1 R 5 = 0 := by rw [es, si_f (by decide), si_eq]
  have s6 : σ7.1 R 6 = v := by rw [es, si_eq]
  have v7 : y_v X g σ7 = V := by
    rw [es, pl_vo Y G D.2.1, pl_vo Y G D.2.1, pl_vo Y G D.2.1, pl_vo Y G D.2.1, pl_vo Y G D.2.1, pl_vo Y G D.2.1, pl_vo Y G D.2.1]
    exact hV
  have S7 : tkl (pl_Sg X lb o R) (fun _ _ => False) σ σ7 := by
    rw [es]
    exact ((((((tkl.rf.si _ (Or.inr (Or.inl ⟨rfl, by decide⟩))).si _ (Or.inr (Or.inl ⟨rfl, by decide⟩))).si _ (Or.inr (Or.inl ⟨rfl, by decide⟩))).si _ (Or.inr (Or.inl ⟨rfl, by decide⟩))).si _ (Or.inr (Or.inl ⟨rfl, by decide⟩))).si _ (Or.inr (Or.inl ⟨rfl, by decide⟩))).si _ (Or.inr (Or.inl ⟨rfl, by decide⟩))
  -- the reference begins
  obtain ⟨τ8, et⟩ : ∃ s, s = q_si (q_si (q_si (q_si (q_si (q_si (q_si (q_si τ a 39 v) a 40 0) a 41 0) a 42 0) a 43 0) a 44 0) a 45 0) a 38 0 := ⟨_, rfl⟩
  rw [q_letE (q_si τ a 39 v), q_letE (q_si (q_si τ a 39 v) a 40 0), q_letE (q_si (q_si (q_si τ a 39 v) a 40 0) a 41 0), q_letE (q_si (q_si (q_si (q_si τ a 39 v) a 40 0) a 41 0) a 42 0), q_letE (q_si (q_si (q_si (q_si (q_si τ a 39 v) a 40 0) a 41 0) a 42 0) a 43 0), q_letE (q_si (q_si (q_si (q_si (q_si (q_si τ a 39 v) a 40 0) a 41 0) a 42 0) a 43 0) a 44 0), q_letE (q_si (q_si (q_si (q_si (q_si (q_si (q_si τ a 39 v) a 40 0) a 41 0) a 42 0) a 43 0) a 44 0) a 45 0), q_letE (q_si (q_si (q_si (q_si (q_si (q_si (q_si (q_si τ a 39 v) a 40 0) a 41 0) a 42 0) a 43 0) a 44 0) a 45 0) a 38 0), ← et]
  have t39 : τ8.1 a 39 = v := by rw [et, si_f (by decide), si_f (by decide), si_f (by decide), si_f (by decide), si_f (by decide), si_f (by decide), si_f (by decide), si_eq]
  have t40 : τ8.1 a 40 = 0 := by rw [et, si_f (by decide), si_f (by decide), si_f (by decide), si_f (by decide), si_f (by decide), si_f (by decide), si_eq]
  have t41 : τ8.1 a 41 = 0 := by rw [et, si_f (by decide), si_f (by decide), si_f (by decide), si_f (by decide), si_f (by decide), si_eq]
  have t42 : τ8.1 a 42 = 0 := by rw [et, si_f (by decide), si_f (by decide), si_f (by decide), si_f (by decide), si_eq]
  have t43 : τ8.1 a 43 = 0 := by rw [et, si_f (by decide), si_f (by decide), si_f (by decide), si_eq]
  have t44 : τ8.1 a 44 = 0 := by rw [et, si_f (by decide), si_f (by decide), si_eq]
  have t45 : τ8.1 a 45 = 0 := by rw [et, si_f (by decide), si_eq]
  have t38 : τ8.1 a 38 = 0 := by rw [et, si_eq]
  have m8 : m_c X τ8 a = c := by
    rw [et, mv_cell Y.1 ha, mv_cell Y.1 ha, mv_cell Y.1 ha, mv_cell Y.1 ha, mv_cell Y.1 ha, mv_cell Y.1 ha, mv_cell Y.1 ha, mv_cell Y.1 ha]
    exact hc
  have T8 : tkl (pl_Sq X a) (fun _ _ => False) τ τ8 := by
    rw [et]
    exact (((((((tkl.rf.si _ (Or.inr (Or.inr ⟨rfl, by decide, by decide⟩))).si _ (Or.inr (Or.inr ⟨rfl, by decide, by decide⟩))).si _ (Or.inr (Or.inr ⟨rfl, by decide, by decide⟩))).si _ (Or.inr (Or.inr ⟨rfl, by decide, by decide⟩))).si _ (Or.inr (Or.inr ⟨rfl, by decide, by decide⟩))).si _ (Or.inr (Or.inr ⟨rfl, by decide, by decide⟩))).si _ (Or.inr (Or.inr ⟨rfl, by decide, by decide⟩))).si _ (Or.inr (Or.inr ⟨rfl, by decide, by decide⟩))
  have J : pl_J X g a R V c n σ7 τ8 := by
    refine ⟨⟨?_, ?_, ?_, ?_⟩, ?_, ?_, ?_, ?_, V, c, v7, m8, Rg, hG, ?_, pl_fix.rf⟩
    · rw [s6, t39]
    · rw [s2, t42]
    · rw [s3, t43]
    · rw [s4, t44]
    · rw [s0, t40]
    · rw [s1, t41]
    · rw [s5, t45]
    · rw [t40, z0]
      decide
    · rw [t40, z0]
      exact hW.le (by omega)
  have on : pl_on a τ8 := ⟨by rw [t38, z0], by rw [t45, z0]⟩
  have g655 : (τ8.1 (q_rf X a 20) (655 : Int32).toNatClampNeg).toInt = c 655 := gm_cell (A := 655) m8 rfl
  rw [q_letE (τ8.1 (q_rf X a 20) (655 : Int32).toNatClampNeg), q_letE (F_X12_doAllN X a 30 τ8 0 (τ8.1 (q_rf X a 20) (655 : Int32).toNatClampNeg))]
  obtain ⟨σ2, a1, a2, a3, a4, a5⟩ := pl_all Y G D ha hn r4 qq.2 30 k 0 (c 655) 0 (V 3 2) (by decide) (by decide) (Int.le_refl _) (by decide) (Int.le_refl _) fk σ7 τ8 0 (τ8.1 (q_rf X a 20) (655 : Int32).toNatClampNeg) 0 0 0 J on rfl g655 rfl (by decide) (by rw [t40]; decide) (by decide)
  have e : pl_L X g R 0 0 σ7 = σ2 := by
    rcases a5 with ⟨-, x', i', b2, -, -, b5⟩ | ⟨-, b2⟩
    · rw [b5]
      exact pl_Lstop (Or.inr (by rw [a3.lines, b2]; exact Int.le_refl _))
    · exact b2
  have e' : F_X7_go_L46_1 X g R ((2147483647 - (0 : Int32).toInt).toNat + 1) 0 0 σ7 = σ2 := e
  rw [e']
  exact ⟨S7.tr a1, T8.tr a2, a3⟩
/-- game and marks behind a change of the game alone -/
theorem al_R.fr (K : al_C X lb C a) (A : al_R X C a σ τ) (M : m_M (m_c X τ a) (τ.1 a 24).toInt n) (v1 : y_v X (q_rf X C 8) σ' = V') (m1 : m_c X τ' a = c') (R' : rg V' c') (F : pl_fix (y_v X (q_rf X C 8) σ) V' (m_c X τ a) c') (fr : ∀ b, 3 ≤ lb b / 8192 → ∀ f, σ'.1 b f = σ.1 b f) (e11 : σ'.1 C 11 = σ.1 C 11) (e24 : τ'.1 a 24 = τ.1 a 24) (w1 : m_wd X τ' a = m_wd X τ a) : al_R X C a σ' τ' := by
  obtain ⟨kC, ka, S, lC, G8, G9, GM⟩ := K
  obtain ⟨⟨A1, A1b, A1c⟩, A2, A3, A4⟩ := A
  obtain ⟨fV, fc⟩ := F
  refine ⟨⟨?_, ?_, ?_⟩, by rw [e11, e24]; exact A2, by rw [e11]; exact A3, fun b b1 b2 => ?_⟩
  · rw [v1, m1]; exact R'
  · rw [v1, m1, w1, fc 2 (by decide) (by decide)]
    intro p p0 p1
    obtain ⟨a1, a2, a3⟩ := A1b p p0 p1
    rw [fV 6 p (by decide)]
    refine ⟨a1, fun i i0 i1 => by rw [fV 5 _ (by decide)]; exact a2 i i0 i1, ?_⟩
    rw [a3]
    refine tx_wv_ext (fun i hi => ?_)
    show y_v X (q_rf X C 8) σ 5 (8 * p + (0 + (i : Int))) = V' 5 (8 * p + (0 + (i : Int)))
    rw [fV 5 _ (by decide)]
  · rw [v1, m1]
    obtain ⟨h1, h2, h3, h4, n, h5⟩ := A1c
    have q := M.1.1.2.2.2.2.2.1
    refine ⟨?_, ?_, ?_, ?_, n, ?_⟩
    · rw [fV 3 0 (by decide), fc 654 (by decide) (by decide)]; exact h1
    · rw [fc 654 (by decide) (by decide)]; exact h2
    · rw [fV 3 1 (by decide), fc 655 (by decide) (by decide)]; exact h3
    · rw [fV 3 2 (by decide)]; exact h4
    · rw [fV 3 2 (by decide), fc 655 (by decide) (by decide)]
      exact fl_x (fun id i i0 i1 j0 j1 => fV id i (by omega)) (fun j j0 j1 => fc j (by omega) (by omega)) n (by decide) q.2 (by decide) h4.2 h5
  · rw [e11] at b2
    have z := A4 b b1 b2
    have gv : y_v X (q_rf X (q_rf X C 10) (b - 1)) σ' = y_v X (q_rf X (q_rf X C 10) (b - 1)) σ := y_v.k S (GM (b - 1) (by omega)) (fun x hx f => fr x (by omega) f)
    refine z.x (M.2 (b : Int) (by omega) (by rw [A2] at b2; exact b2)).1 (fun id i _ => by rw [gv]) (fun j j0 j1 => ?_) (fun j j0 j1 => by rw [w1])
    show m_c X τ' a (930 * (b : Int) + j) = m_c X τ a (930 * (b : Int) + j)
    rw [m1]
    exact fc _ (by omega) (by omega)
/-- both runs of an object -/
theorem al_run (K : al_C X lb C a) : pl_D X lb 1 (q_rf X C 14) ∧ pl_D X lb 2 (q_rf X C 15) := by
  obtain ⟨kC, ka, S, lC, G8, G9, GM⟩ := K
  obtain ⟨T, L, N⟩ := id S
  have k14 : q_kd X (q_rf X C 14) = 7 := (T.1 C 14 (by rw [kC]; decide)).trans (by rw [kC]; rfl)
  have k15 : q_kd X (q_rf X C 15) = 7 := (T.1 C 15 (by rw [kC]; decide)).trans (by rw [kC]; rfl)
  have l14 : lb (q_rf X C 14) = 30 := (L C 14 (by rw [kC]; decide)).trans (by rw [lC]; decide)
  have l15 : lb (q_rf X C 15) = 31 := (L C 15 (by rw [kC]; decide)).trans (by rw [lC]; decide)
  have one : ∀ (r l : Nat), q_kd X r = 7 → lb r = l → y_lc l 7 < 8192 → y_lc (y_lc l 7) 0 < 8192 → q_kd X (pl_T X r) = 20 ∧ q_ln X (pl_T X r) = 60 ∧ lb (pl_T X r) / 8192 = 0 := by
    intro r l kr lr h1 h2
    have k7 : q_kd X (q_rf X r 7) = 5 := (T.1 r 7 (by rw [kr]; decide)).trans (by rw [kr]; rfl)
    have l7 : lb (q_rf X r 7) = y_lc l 7 := (L r 7 (by rw [kr]; decide)).trans (by rw [lr])
    have k70 : q_kd X (q_rf X (q_rf X r 7) 0) = 20 := (T.1 (q_rf X r 7) 0 (by rw [k7]; decide)).trans (by rw [k7]; rfl)
    have l70 : lb (q_rf X (q_rf X r 7) 0) = y_lc (y_lc l 7) 0 := (L (q_rf X r 7) 0 (by rw [k7]; decide)).trans (by rw [l7])
    refine ⟨k70, (N r 7 (by rw [kr]; rfl)).trans (by rw [kr]; rfl), ?_⟩
    show lb (q_rf X (q_rf X r 7) 0) / 8192 = 0
    rw [l70]
    omega
  obtain ⟨p1, p2, p3⟩ := one _ _ k14 l14 (by decide) (by decide)
  obtain ⟨q1, q2, q3⟩ := one _ _ k15 l15 (by decide) (by decide)
  exact ⟨⟨k14, by rw [l14]; decide, by rw [p3]; decide, p1, p2⟩, ⟨k15, by rw [l15]; decide, by rw [q3]; decide, q1, q2⟩⟩
theorem al_T0 (K : al_C X lb C a) : lb (pl_T X (q_rf X C 14)) / 8192 = 0 := by
  obtain ⟨kC, ka, S, lC, G8, G9, GM⟩ := K
  obtain ⟨T, L, N⟩ := id S
  have k14 : q_kd X (q_rf X C 14) = 7 := (T.1 C 14 (by rw [kC]; decide)).trans (by rw [kC]; rfl)
  have l14 : lb (q_rf X C 14) = 30 := (L C 14 (by rw [kC]; decide)).trans (by rw [lC]; decide)
  have k7 : q_kd X (q_rf X (q_rf X C 14) 7) = 5 := (T.1 _ 7 (by rw [k14]; decide)).trans (by rw [k14]; rfl)
  have l7 : lb (q_rf X (q_rf X C 14) 7) = 487 := (L _ 7 (by rw [k14]; decide)).trans (by rw [l14]; decide)
  have l70 : lb (q_rf X (q_rf X (q_rf X C 14) 7) 0) = 7792 := (L _ 0 (by rw [k7]; decide)).trans (by rw [l7]; decide)
  show lb (q_rf X (q_rf X (q_rf X C 14) 7) 0) / 8192 = 0
  rw [l70]
/-- a number within bounds, for the reference -/
theorem lk_in (v : Int32) {x y : Int64} {A B : Int} (hx : x.toInt = A) (hy : y.toInt = B) : (F_X12_isIn X τ v.toInt64 x y).toInt = if A ≤ v.toInt ∧ v.toInt ≤ B then 1 else 0 := by
  rw [tm_isIn, ar_i2l, hx, hy]
/-- what was played, in both -/
def al_P (X : XW) (C a : Nat) (σ τ : ST) : Prop := (σ.1 C 16).toInt = (τ.1 a 37).toInt ∧ ((τ.1 a 37).toInt ≠ 0 → ∀ k : Nat, k < 5 → σ.1 (q_rf X C 14) (k + 1) = τ.1 (q_rf X a 36) k)
theorem al_play (K : al_C X lb C a) (A : al_R X C a σ τ) (M : m_M (m_c X τ a) (τ.1 a 24).toInt n) (hn : n ≤ 800000) (v : Int32) : ob_O X C a (F_X11_play X σ C v) (F_X12_play X τ a v) ∧ (al_P X C a σ τ → al_P X C a (F_X11_play X σ C v).2 (F_X12_play X τ a v).2) := by
  obtain ⟨kC, ka, S, lC, G8, G9, GM⟩ := id K
  obtain ⟨A1, A2, A3, A4⟩ := id A
  obtain ⟨D, -⟩ := al_run K
  obtain ⟨m2, s2, t2⟩ := mv_beg S.1 ka (rfl : m_c X τ a = m_c X τ a)
  obtain ⟨n80, n8a, n0a⟩ := pl_k28 S.1 ka
  have k36 : q_kd X (q_rf X a 36) = 41 := (S.1.1 a 36 (by rw [ka]; decide)).trans (by rw [ka]; rfl)
  have n36a : q_rf X a 36 ≠ a := m_ne k36 ka (by decide)
  have n36c : q_rf X a 36 ≠ q_rf X a 20 := m_ne k36 (tb_k S.1 ka).1 (by decide)
  have k28 : q_kd X (q_rf X a 28) = 39 := (S.1.1 a 28 (by rw [ka]; decide)).trans (by rw [ka]; rfl)
  have n36l : q_rf X a 36 ≠ q_rf X a 28 := m_ne k36 k28 (by decide)
  have nRC : C ≠ q_rf X C 14 := m_ne kC D.1 (by decide)
  have nTC : C ≠ pl_T X (q_rf X C 14) := m_ne kC D.2.2.2.1 (by decide)
  have ef : (σ.1 (q_rf X (q_rf X C 8) 3) 0).toInt = m_c X τ a 654 := ((y_W.rf (X := X) (lb := lb) (g := q_rf X C 8) (o := 1) (σ := σ)).rd (id := 3) (by decide) 0 rfl).trans A1.2.2.1
  -- a refused call
  have nop : ∀ k : Int32, (al_P X C a σ τ → al_P X C a (q_bi (F_X11_none X σ C k) (fun r s => (r, s))).2 (q_bi (F_X12_refuse X (q_si (q_si τ a 1 0) a 0 0) a k) (fun r s => (r, s))).2) := by
    intro k P
    rw [ob_pe, ob_pe, mv_none, mv_refuse]
    have c1 : ∀ f, f ≠ 0 → (q_si σ C 0 k).1 C f = σ.1 C f := fun f h => si_f h _
    have c2 : ∀ f, f ≠ 0 → f ≠ 1 → (q_si (q_si (q_si τ a 1 0) a 0 0) a 0 k).1 a f = τ.1 a f := fun f h1 h2 => (si_f h1 _).trans ((si_f h1 _).trans (si_f h2 _))
    show ((q_si σ C 0 k).1 C 16).toInt = ((q_si (q_si (q_si τ a 1 0) a 0 0) a 0 k).1 a 37).toInt ∧ (((q_si (q_si (q_si τ a 1 0) a 0 0) a 0 k).1 a 37).toInt ≠ 0 → ∀ j : Nat, j < 5 → (q_si σ C 0 k).1 (q_rf X C 14) (j + 1) = (q_si (q_si (q_si τ a 1 0) a 0 0) a 0 k).1 (q_rf X a 36) j)
    rw [c1 16 (by decide), c2 37 (by decide) (by decide)]
    refine ⟨P.1, fun h j hj => ?_⟩
    rw [q_si_ne (Ne.symm nRC), q_si_ne n36a, q_si_ne n36a, q_si_ne n36a]
    exact P.2 h j hj
  have i1 : (F_X12_isIn X (q_si (q_si τ a 1 0) a 0 0) v.toInt64 (0 : Int64) (9999 : Int64)).toInt = if 0 ≤ v.toInt ∧ v.toInt ≤ 9999 then 1 else 0 := lk_in (X := X) v rfl rfl
  unfold F_X11_play F_X12_play
  rw [q_letE (q_si τ a 1 0), q_letE (q_si (q_si τ a 1 0) a 0 0), q_letE v.toInt64, q_letE (F_X12_isIn X (q_si (q_si τ a 1 0) a 0 0) v.toInt64 (0 : Int64) (9999 : Int64)), i1]
  by_cases q0 : v.toInt < 0
  · rw [if_pos q0, if_neg (by omega : ¬ (0 ≤ v.toInt ∧ v.toInt ≤ 9999)), if_pos rfl]
    exact ⟨ob_none K A M 5, nop 5⟩
  by_cases q1 : 9999 < v.toInt
  · rw [if_neg q0, if_pos q1, if_neg (by omega : ¬ (0 ≤ v.toInt ∧ v.toInt ≤ 9999)), if_pos rfl]
    exact ⟨ob_none K A M 5, nop 5⟩
  rw [if_neg q0, if_neg q1, if_pos (⟨by omega, by omega⟩ : 0 ≤ v.toInt ∧ v.toInt ≤ 9999), if_neg (by decide : ¬ (1 : Int) = 0), q_letE (σ.1 (q_rf X (q_rf X C 8) 3) 0), ef]
  have g654 : ((q_si (q_si τ a 1 0) a 0 0).1 (q_rf X a 20) (654 : Int32).toNatClampNeg).toInt = m_c X τ a 654 := gm_cell (A := 654) m2 rfl
  rw [q_letE ((q_si (q_si τ a 1 0) a 0 0).1 (q_rf X a 20) (654 : Int32).toNatClampNeg), g654]
  by_cases q2 : m_c X τ a 654 = 0
  · rw [if_pos q2, if_pos q2]
    exact ⟨ob_none K A M 8, nop 8⟩
  rw [if_neg q2, if_neg q2]
  obtain ⟨h1, h2, J⟩ := pl_go S G8 D ka hn (rfl : y_v X (q_rf X C 8) σ = _) A1.1 M.1.1 M.1.2 m2 A1.2.2 v
  rw [q_letE (F_X7_go X σ (q_rf X C 14) (q_rf X C 8) v), q_letE (F_X12_plays X (q_si (q_si τ a 1 0) a 0 0) a v)]
  obtain ⟨σ9, es⟩ : ∃ s, s = F_X7_go X σ (q_rf X C 14) (q_rf X C 8) v := ⟨_, rfl⟩
  obtain ⟨τ9, et⟩ : ∃ s, s = F_X12_plays X (q_si (q_si τ a 1 0) a 0 0) a v := ⟨_, rfl⟩
  rw [← es] at h1 J ⊢
  rw [← et] at h2 J ⊢
  obtain ⟨⟨k6, k2, k3, k4⟩, j0, j1, j5, jb, V1, c1, o1, o2, o3, o4, o5, o6⟩ := J
  -- the class's end
  have f11 : (q_si σ9 C 16 1).1 (q_rf X C 14) 0 = σ9.1 (q_rf X C 14) 0 := q_si_ne (Ne.symm nRC) 0
  rw [q_letE (q_si σ9 C 16 1), q_letE ((q_si σ9 C 16 1).1 (q_rf X C 14) 0), f11, ob_pe, mv_good]
  have oC : lb C / 8192 ≠ 1 := by rw [lC]; decide
  have kCf : ∀ f, σ9.1 C f = σ.1 C f := fun f => h1.1 C f (by
    rintro (z | ⟨z, -⟩ | z)
    · exact oC z
    · exact nRC z
    · exact nTC z)
  -- the reference's end
  obtain ⟨y1, ey1⟩ : ∃ y, y = q_si τ9 (q_rf X a 36) 0 (τ9.1 a 41) := ⟨_, rfl⟩
  obtain ⟨y2, ey2⟩ : ∃ y, y = q_si y1 (q_rf X a 36) 1 (y1.1 a 42) := ⟨_, rfl⟩
  obtain ⟨y3, ey3⟩ : ∃ y, y = q_si y2 (q_rf X a 36) 2 (y2.1 a 43) := ⟨_, rfl⟩
  obtain ⟨y4, ey4⟩ : ∃ y, y = q_si y3 (q_rf X a 36) 3 (y3.1 a 44) := ⟨_, rfl⟩
  obtain ⟨y5, ey5⟩ : ∃ y, y = q_si y4 (q_rf X a 36) 4 (y4.1 a 45) := ⟨_, rfl⟩
  obtain ⟨y6, ey6⟩ : ∃ y, y = q_si y5 a 37 1 := ⟨_, rfl⟩
  have n0 : (0 : Int32).toNatClampNeg = 0 := rfl
  have n1 : (1 : Int32).toNatClampNeg = 1 := rfl
  have n2 : (2 : Int32).toNatClampNeg = 2 := rfl
  have n3 : (3 : Int32).toNatClampNeg = 3 := rfl
  have n4 : (4 : Int32).toNatClampNeg = 4 := rfl
  rw [n0, n1, n2, n3, n4, q_letE (τ9.1 a 41), q_letE (q_si τ9 (q_rf X a 36) 0 (τ9.1 a 41)), ← ey1, q_letE (y1.1 a 42), q_letE (q_si y1 (q_rf X a 36) 1 (y1.1 a 42)), ← ey2, q_letE (y2.1 a 43), q_letE (q_si y2 (q_rf X a 36) 2 (y2.1 a 43)), ← ey3, q_letE (y3.1 a 44), q_letE (q_si y3 (q_rf X a 36) 3 (y3.1 a 44)), ← ey4, q_letE (y4.1 a 45), q_letE (q_si y4 (q_rf X a 36) 4 (y4.1 a 45)), ← ey5, q_letE (q_si y5 a 37 1), ← ey6, q_letE (y6.1 a 40)]
  have ne : a ≠ q_rf X a 36 := Ne.symm n36a
  have a1 : ∀ f, y1.1 a f = τ9.1 a f := fun f => by rw [ey1]; exact q_si_ne ne f
  have a2 : ∀ f, y2.1 a f = τ9.1 a f := fun f => by rw [ey2, q_si_ne ne]; exact a1 f
  have a3 : ∀ f, y3.1 a f = τ9.1 a f := fun f => by rw [ey3, q_si_ne ne]; exact a2 f
  have a4 : ∀ f, y4.1 a f = τ9.1 a f := fun f => by rw [ey4, q_si_ne ne]; exact a3 f
  have a5 : ∀ f, y5.1 a f = τ9.1 a f := fun f => by rw [ey5, q_si_ne ne]; exact a4 f
  have a6 : ∀ f, f ≠ 37 → y6.1 a f = τ9.1 a f := fun f h => by rw [ey6, si_f h]; exact a5 f
  have a37 : y6.1 a 37 = 1 := by rw [ey6, si_eq]
  have m6 : m_c X y6 a = c1 := by
    rw [ey6, mv_cell S.1 ka]
    exact (pl_mc (fun f => by rw [ey5, q_si_ne (Ne.symm n36c), ey4, q_si_ne (Ne.symm n36c), ey3, q_si_ne (Ne.symm n36c), ey2, q_si_ne (Ne.symm n36c), ey1, q_si_ne (Ne.symm n36c)])).trans o2
  have l6 : y6.2 = τ9.2 := by rw [ey6, ey5, ey4, ey3, ey2, ey1]; rfl
  have p0 : y6.1 (q_rf X a 36) 0 = τ9.1 a 41 := by rw [ey6, q_si_ne n36a, ey5, si_f (by decide), ey4, si_f (by decide), ey3, si_f (by decide), ey2, si_f (by decide), ey1, si_eq]
  have p1 : y6.1 (q_rf X a 36) 1 = τ9.1 a 42 := by rw [ey6, q_si_ne n36a, ey5, si_f (by decide), ey4, si_f (by decide), ey3, si_f (by decide), ey2, si_eq, a1]
  have p2 : y6.1 (q_rf X a 36) 2 = τ9.1 a 43 := by rw [ey6, q_si_ne n36a, ey5, si_f (by decide), ey4, si_f (by decide), ey3, si_eq, a2]
  have p3 : y6.1 (q_rf X a 36) 3 = τ9.1 a 44 := by rw [ey6, q_si_ne n36a, ey5, si_f (by decide), ey4, si_eq, a3]
  have p4 : y6.1 (q_rf X a 36) 4 = τ9.1 a 45 := by rw [ey6, q_si_ne n36a, ey5, si_eq, a4]
  -- all together
  have q9 : y_v X (q_rf X C 8) (q_si (q_si σ9 C 16 1) C 0 0) = V1 := (pl_vo S G8 oC 0 0).trans ((pl_vo S G8 oC 16 1).trans o1)
  have kt : ∀ f, f < 38 → f ≠ 0 → f ≠ 1 → τ9.1 a f = τ.1 a f := fun f h h0 h1 => (h2.1 a f (by
    rintro (z | z | ⟨-, z, -⟩)
    · exact n0a z.symm
    · exact n8a z.symm
    · omega)).trans ((si_f h0 _).trans (si_f h1 _))
  have s0 : τ9.1 a 0 = 0 := (h2.1 a 0 (by
    rintro (z | z | ⟨-, z, -⟩)
    · exact n0a z.symm
    · exact n8a z.symm
    · omega)).trans s2
  refine ⟨⟨?_, ?_, ?_⟩, fun _ => ⟨?_, fun _ k hk => ?_⟩⟩
  · show (σ9.1 (q_rf X C 14) 0).toInt = (y6.1 a 40).toInt
    rw [a6 40 (by decide), j0]
  · show ((q_si (q_si σ9 C 16 1) C 0 0).1 C 0).toInt = (y6.1 a 0).toInt
    rw [si_eq, a6 0 (by decide), s0]
  · refine A.fr K M q9 m6 o3 o6 (fun b hb f => ?_) ?_ ?_ ?_
    · have nb : b ≠ C := fun e => by rw [e, lC] at hb; omega
      rw [q_si_ne nb, q_si_ne nb]
      refine h1.1 b f ?_
      have w0 := D.2.2.1
      rintro (z | ⟨z, -⟩ | z)
      · omega
      · have := (S.2.1 C 14 (by rw [kC]; decide))
        rw [← z, lC] at this
        have e : y_lc 1 14 = 30 := by decide
        rw [e] at this
        omega
      · exact absurd (al_T0 K) (by rw [← z]; omega)
    · rw [si_f (by decide), si_f (by decide), kCf]
    · rw [a6 24 (by decide), kt 24 (by decide) (by decide) (by decide)]
    · funext j
      show (y6.2.1 (q_rf X a 23) j.toNat).toInt = (τ.2.1 (q_rf X a 23) j.toNat).toInt
      rw [l6, h2.2.1 _ _ (fun z => z)]
      rfl
  · show ((q_si (q_si σ9 C 16 1) C 0 0).1 C 16).toInt = (y6.1 a 37).toInt
    rw [si_f (by decide), si_eq, a37]
  · show (q_si (q_si σ9 C 16 1) C 0 0).1 (q_rf X C 14) (k + 1) = y6.1 (q_rf X a 36) k
    rw [q_si_ne (Ne.symm nRC), q_si_ne (Ne.symm nRC)]
    rcases (by omega : k = 0 ∨ k = 1 ∨ k = 2 ∨ k = 3 ∨ k = 4) with e | e | e | e | e <;> subst e
    · rw [p0]; exact j1
    · rw [p1]; exact k2
    · rw [p2]; exact k3
    · rw [p3]; exact k4
    · rw [p4]; exact j5
end PH

/-! FROM 49zt.tries.lean.txt -/
/-! ROUNDS TRIED: wins and left -/
section PI
variable {X : XW} {lb : Nat → Nat} {g o a R C : Nat} {σ σ' σ1 τ τ' τ1 : ST} {V0 V V' : Nat → Int → Int} {c0 c c' : Int → Int} {n : Int}
/-- the class's fraction told: the answer, what is written -/
theorem fr_tell (σ : ST) (x y : Int64) : ∃ σ' : ST, F_X11_tell X σ C x y = (1, σ') ∧ σ'.1 = (q_si σ C 0 0).1 ∧ σ'.2.2 = σ.2.2 ∧ ∀ b f, b ≠ C → σ'.2.1 b f = σ.2.1 b f := by
  have one : ∀ u v : Int64, ∃ σ' : ST, q_bi (F_X11_yes X (q_sl (q_sl σ C 1 u) C 2 v) C) (fun r s => (r, s)) = (1, σ') ∧ σ'.1 = (q_si σ C 0 0).1 ∧ σ'.2.2 = σ.2.2 ∧ ∀ b f, b ≠ C → σ'.2.1 b f = σ.2.1 b f := by
    intro u v
    rw [ob_pe, mv_yes]
    exact ⟨_, rfl, rfl, rfl, fun b f h => (q_sl_ne h f).trans (q_sl_ne h f)⟩
  unfold F_X11_tell
  rw [q_letE (F_J9_abs_067f4 X σ x), q_letE (F_X11_commonDivisor X σ (F_J9_abs_067f4 X σ x) y), q_letE (lg_cmp x 0)]
  obtain ⟨d, hd⟩ : ∃ d, d = F_X11_commonDivisor X σ (F_J9_abs_067f4 X σ x) y := ⟨_, rfl⟩
  rw [← hd]
  by_cases q : (lg_cmp x 0).toInt = 0
  · rw [if_pos q, q_letE (q_sl σ C 1 0), q_letE (q_sl (q_sl σ C 1 0) C 2 1)]
    exact one 0 1
  · rw [if_neg q, q_letE (lg_cmp y 0)]
    by_cases q2 : 0 < (lg_cmp y 0).toInt
    · rw [if_pos q2, q_letE (lg_cmp d 0)]
      by_cases q3 : 0 < (lg_cmp d 0).toInt
      · rw [if_pos q3, q_letE (x / d), q_letE (q_sl σ C 1 (x / d)), q_letE (y / d), q_letE (q_sl (q_sl σ C 1 (x / d)) C 2 (y / d))]
        exact one _ _
      · rw [if_neg q3, q_letE (q_sl σ C 1 0), q_letE (q_sl (q_sl σ C 1 0) C 2 1)]
        exact one 0 1
    · rw [if_neg q2, q_letE (q_sl σ C 1 0), q_letE (q_sl (q_sl σ C 1 0) C 2 1)]
      exact one 0 1
/-- the reference's -/
theorem fr_fracL {x y : Int64} (k : Nat) : ∀ u v : Int64, v.toInt.natAbs < k → ∃ τ' : ST, F_X12_fraction_L9_1 X x τ a y k u v = (1, τ') ∧ τ'.1 = τ.1 ∧ τ'.2.2 = τ.2.2 ∧ ∀ b f, b ≠ a → τ'.2.1 b f = τ.2.1 b f := by
  induction k with
  | zero => intro u v h; exact absurd h (Nat.not_lt_zero _)
  | succ k ih =>
    intro u v h
    rw [F_X12_fraction_L9_1_s]
    unfold F_X12_fraction_B9_1
    have z0 : (0 : Int64).toInt = 0 := rfl
    have e0 : (lg_cmp v 0).toInt = 0 ↔ v.toInt = 0 := by
      have h1 := lg_cmp_lt v 0
      have h2 := lg_cmp_gt v 0
      rw [Int32.lt_iff_toInt_lt, q_z0, Int64.lt_iff_toInt_lt, z0] at h1
      rw [Int32.lt_iff_toInt_lt, q_z0, Int64.lt_iff_toInt_lt, z0] at h2
      constructor
      · intro e
        by_cases p : v.toInt < 0
        · have := h1.mpr p; omega
        · by_cases p2 : 0 < v.toInt
          · have := h2.mpr p2; omega
          · omega
      · intro e
        by_cases p : (lg_cmp v 0).toInt < 0
        · have := h1.mp p; omega
        · by_cases p2 : 0 < (lg_cmp v 0).toInt
          · have := h2.mp p2; omega
          · omega
    rw [q_letE (lg_cmp v 0)]
    by_cases q : v.toInt = 0
    · rw [if_pos (e0.mpr q)]
      unfold F_X12_fraction_E34_2
      rw [q_letE (x / u), q_letE (q_sl τ a 2 (x / u)), q_letE (y / u), q_letE (q_sl (q_sl τ a 2 (x / u)) a 3 (y / u))]
      exact ⟨_, rfl, rfl, rfl, fun b f h => (q_sl_ne h f).trans (q_sl_ne h f)⟩
    · rw [if_neg (fun z => q (e0.mp z)), q_letE (u % v)]
      have m := m_remabs (x := u) (y := v) (z := u % v) (q_remJ u v).symm q
      exact ih v (u % v) (by omega)
theorem fr_frac (τ : ST) (x y : Int64) : ∃ τ' : ST, F_X12_fraction X τ a x y = (1, τ') ∧ τ'.1 = τ.1 ∧ τ'.2.2 = τ.2.2 ∧ ∀ b f, b ≠ a → τ'.2.1 b f = τ.2.1 b f := by
  unfold F_X12_fraction
  rw [q_letE (F_J9_abs_m X τ x)]
  exact fr_fracL _ _ _ (Nat.lt_succ_self _)
/-- both tell a fraction -/
theorem al_told (K : al_C X lb C a) (A : al_R X C a σ τ) (h0 : (τ.1 a 0).toInt = 0) (x y x' y' : Int64) : ob_O X C a (F_X11_tell X σ C x y) (F_X12_fraction X τ a x' y') := by
  obtain ⟨kC, ka, S, lC, G8, G9, GM⟩ := id K
  obtain ⟨A1, A2, A3, A4⟩ := A
  obtain ⟨σ', e1, e2, e3, e4⟩ := fr_tell (X := X) (C := C) σ x y
  obtain ⟨τ', u1, u2, u3, u4⟩ := fr_frac (X := X) (a := a) τ x' y'
  rw [e1, u1]
  have k23 := (tb_k S.1 ka).2.2.1
  have n23 : q_rf X a 23 ≠ a := m_ne k23 ka (by decide)
  have c11 : σ'.1 C 11 = σ.1 C 11 := by rw [e2, si_f (by decide)]
  have oth : ∀ b, b ≠ C → ∀ f, σ'.1 b f = σ.1 b f := fun b hb f => by rw [e2, q_si_ne hb]
  have vv : ∀ (g o : Nat), y_G X lb g o → y_v X g σ' = y_v X g σ := fun g o Gg => y_v.k S Gg (fun b hb f => oth b (fun e => by rw [e, lC] at hb; have := Gg.2.2; omega) f)
  have mm : m_c X τ' a = m_c X τ a := pl_mc (fun f => by rw [u2])
  have ww : m_wd X τ' a = m_wd X τ a := by
    funext j
    exact congrArg Int64.toInt (u4 _ _ n23)
  refine ⟨rfl, ?_, ?_, ?_, ?_, fun b b1 b2 => ?_⟩
  · show (σ'.1 C 0).toInt = (τ'.1 a 0).toInt
    rw [e2, si_eq, u2, h0]
    rfl
  · rw [vv _ _ G8, mm, ww]; exact A1
  · rw [c11, u2]; exact A2
  · rw [c11]; exact A3
  · rw [c11] at b2
    rw [vv _ _ (GM (b - 1) (by omega)), mm, ww]
    exact A4 b b1 b2
/-- all kept in a try: the game is the same as before in both -/
def tr_K (X : XW) (lb : Nat → Nat) (C a : Nat) (σ0 σ τ0 τ : ST) (c : Int → Int) : Prop :=
  (∀ b, lb b / 8192 ≠ 2 → b ≠ q_rf X C 15 → b ≠ pl_T X (q_rf X C 15) → ∀ f, σ.1 b f = σ0.1 b f) ∧ σ.2 = σ0.2 ∧ m_c X τ a = c ∧ tkl (fun b f => pl_Sq X a b f ∨ b = q_rf X a 21) (fun _ _ => False) τ0 τ ∧ ∀ j : Int, 0 ≤ j → j < 654 → (τ.1 (q_rf X a 21) j.toNat).toInt = c j
theorem al_T15 (K : al_C X lb C a) : lb (q_rf X C 15) = 31 ∧ lb (pl_T X (q_rf X C 15)) = 8048 := by
  obtain ⟨kC, ka, S, lC, G8, G9, GM⟩ := K
  obtain ⟨T, L, N⟩ := id S
  have k14 : q_kd X (q_rf X C 15) = 7 := (T.1 C 15 (by rw [kC]; decide)).trans (by rw [kC]; rfl)
  have l14 : lb (q_rf X C 15) = 31 := (L C 15 (by rw [kC]; decide)).trans (by rw [lC]; decide)
  have k7 : q_kd X (q_rf X (q_rf X C 15) 7) = 5 := (T.1 _ 7 (by rw [k14]; decide)).trans (by rw [k14]; rfl)
  have l7 : lb (q_rf X (q_rf X C 15) 7) = 503 := (L _ 7 (by rw [k14]; decide)).trans (by rw [l14]; decide)
  exact ⟨l14, (L _ 0 (by rw [k7]; decide)).trans (by rw [l7]; decide)⟩
/-- the game as it was kept, copied back -/
theorem tr_back (hT : q_T X) (ha : q_kd X a = 12) (hk : ∀ j : Int, 0 ≤ j → j < 654 → (τ.1 (q_rf X a 21) j.toNat).toInt = c j) (hc : ∀ j : Int, 654 ≤ j → m_c X τ a j = c j) (c_neg : ∀ j : Int, j < 0 → c j = c 0) (L : Nat → Int32 → ST → Int32 × ST) (E : ST → Int32 × ST) (hS : ∀ k x s, L (k + 1) x s = if x.toInt < 654 then q_let (s.1 (q_rf X a 21) x.toNatClampNeg) (fun f => q_let (q_si s (q_rf X a 20) x.toNatClampNeg f) (fun s' => q_let (x + 1) (fun z => L k z s'))) else E s) (fu : Nat) :
    ∀ (x : Int32) (τ2 : ST), (2147483647 - x.toInt).toNat < fu → 0 ≤ x.toInt → x.toInt ≤ 654 → tkl (fun b _ => b = q_rf X a 20) (fun _ _ => False) τ τ2 → (∀ j : Int, 0 ≤ j → m_c X τ2 a j = if j < x.toInt then c j else m_c X τ a j) → ∃ τ3 : ST, L fu x τ2 = E τ3 ∧ tkl (fun b _ => b = q_rf X a 20) (fun _ _ => False) τ τ3 ∧ m_c X τ3 a = c := by
  have k21 : q_kd X (q_rf X a 21) = 35 := (hT.1 a 21 (by rw [ha]; decide)).trans (by rw [ha]; rfl)
  have n10 : q_rf X a 21 ≠ q_rf X a 20 := m_ne k21 (tb_k hT ha).1 (by decide)
  induction fu with
  | zero => intro x τ2 h; exact absurd h (Nat.not_lt_zero _)
  | succ fu ih =>
    intro x τ2 hf x0 x1 ht hm
    rw [hS]
    by_cases q : x.toInt < 654
    · have e1 : (x + 1).toInt = x.toInt + 1 := y_inc (by omega)
      have ek : (τ2.1 (q_rf X a 21) x.toNatClampNeg).toInt = c x.toInt := by
        rw [ht.1 _ _ n10]
        exact hk x.toInt x0 q
      rw [if_pos q, q_letE (τ2.1 (q_rf X a 21) x.toNatClampNeg), q_letE (q_si τ2 (q_rf X a 20) x.toNatClampNeg (τ2.1 (q_rf X a 21) x.toNatClampNeg)), q_letE (x + 1)]
      refine ih (x + 1) _ (by omega) (by omega) (by omega) (ht.si _ rfl) (fun j j0 => ?_)
      show ((q_si τ2 (q_rf X a 20) x.toNatClampNeg (τ2.1 (q_rf X a 21) x.toNatClampNeg)).1 (q_rf X a 20) j.toNat).toInt = _
      show (if q_rf X a 20 = q_rf X a 20 ∧ j.toNat = x.toNatClampNeg then τ2.1 (q_rf X a 21) x.toNatClampNeg else τ2.1 (q_rf X a 20) j.toNat).toInt = _
      rw [e1]
      by_cases e : j = x.toInt
      · rw [if_pos ⟨rfl, by rw [ar_cl, e]⟩, if_pos (by omega), ek, e]
      · rw [if_neg (fun z => e (by have := z.2; rw [ar_cl] at this; omega))]
        have z := hm j j0
        rw [show (τ2.1 (q_rf X a 20) j.toNat).toInt = m_c X τ2 a j from rfl, z]
        by_cases p : j < x.toInt
        · rw [if_pos p, if_pos (by omega)]
        · rw [if_neg p, if_neg (by omega)]
    · rw [if_neg q]
      refine ⟨τ2, rfl, ht, ?_⟩
      have ex : x.toInt = 654 := by omega
      have all : ∀ j : Int, 0 ≤ j → m_c X τ2 a j = c j := fun j j0 => by
        rw [hm j j0, ex]
        by_cases p : j < 654
        · rw [if_pos p]
        · rw [if_neg p]; exact hc j (by omega)
      funext j
      by_cases j0 : 0 ≤ j
      · exact all j j0
      · rw [m_c_neg X τ2 a (by omega), all 0 (by decide), c_neg j (by omega)]
/-- the game kept before the tries -/
theorem tr_keep (hT : q_T X) (ha : q_kd X a = 12) (hc : m_c X τ a = c) {v1 v2 v3 v4 : Int32} (fu : Nat) :
    ∀ (x : Int32) (τ2 : ST), (2147483647 - x.toInt).toNat < fu → 0 ≤ x.toInt → x.toInt ≤ 654 → tkl (fun b _ => b = q_rf X a 21) (fun _ _ => False) τ τ2 → (∀ j : Int, 0 ≤ j → j < x.toInt → (τ2.1 (q_rf X a 21) j.toNat).toInt = c j) → ∃ τ3 : ST, F_X12_tries_L78_1 X a v3 v2 v4 v1 fu x τ2 = F_X12_tries_L112_3 X v3 v2 a v4 v1 ((2147483647 - (0 : Int32).toInt).toNat + 1) 0 0 τ3 ∧ tkl (fun b _ => b = q_rf X a 21) (fun _ _ => False) τ τ3 ∧ ∀ j : Int, 0 ≤ j → j < 654 → (τ3.1 (q_rf X a 21) j.toNat).toInt = c j := by
  have k21 : q_kd X (q_rf X a 21) = 35 := (hT.1 a 21 (by rw [ha]; decide)).trans (by rw [ha]; rfl)
  have n10 : q_rf X a 20 ≠ q_rf X a 21 := m_ne (tb_k hT ha).1 k21 (by decide)
  induction fu with
  | zero => intro x τ2 h; exact absurd h (Nat.not_lt_zero _)
  | succ fu ih =>
    intro x τ2 hf x0 x1 ht hm
    rw [F_X12_tries_L78_1_s]
    unfold F_X12_tries_B78_1
    by_cases q : x.toInt < 654
    · have e1 : (x + 1).toInt = x.toInt + 1 := y_inc (by omega)
      have ek : (τ2.1 (q_rf X a 20) x.toNatClampNeg).toInt = c x.toInt := by
        rw [ht.1 _ _ n10]
        exact gm_cell hc rfl
      rw [if_pos q, q_letE (τ2.1 (q_rf X a 20) x.toNatClampNeg), q_letE (q_si τ2 (q_rf X a 21) x.toNatClampNeg (τ2.1 (q_rf X a 20) x.toNatClampNeg)), q_letE (x + 1)]
      refine ih (x + 1) _ (by omega) (by omega) (by omega) (ht.si _ rfl) (fun j j0 j1 => ?_)
      show (if q_rf X a 21 = q_rf X a 21 ∧ j.toNat = x.toNatClampNeg then τ2.1 (q_rf X a 20) x.toNatClampNeg else τ2.1 (q_rf X a 21) j.toNat).toInt = _
      by_cases e : j = x.toInt
      · rw [if_pos ⟨rfl, by rw [ar_cl, e]⟩, ek, e]
      · rw [if_neg (fun z => e (by have := z.2; rw [ar_cl] at this; omega))]
        exact hm j j0 (by omega)
    · rw [if_neg q]
      exact ⟨τ2, rfl, ht, fun j j0 j1 => hm j j0 (by omega)⟩
end PI

/-! FROM 49zu.wins.lean.txt -/
/-! ROUNDS TRIED: both answer the same, all stays the same -/
theorem pl_pair {α β : Type} {p q : α × β} (h1 : p.1 = q.1) (h2 : p.2 = q.2) : p = q := by
  show (p.1, p.2) = (q.1, q.2)
  rw [h1, h2]
section PJ
variable {X : XW} {lb : Nat → Nat} {a C : Nat} {σ0 σ τ0 τ : ST} {n : Int}
/-- one try: the spare game and the reference's own play the same round -/
theorem tr_step (K : al_C X lb C a) (A : al_R X C a σ0 τ0) (M : m_M (m_c X τ0 a) (τ0.1 a 24).toInt n) (hn : n ≤ 800000) (T : tr_K X lb C a σ0 σ τ0 τ (m_c X τ0 a)) (z : Int32) :
    ∃ (σ1 τ1 : ST) (V1 : Nat → Int → Int) (c1 : Int → Int), F_X7_go X (F_X0_copyFrom X σ (q_rf X C 9) (q_rf X C 8)) (q_rf X C 15) (q_rf X C 9) z = σ1 ∧ F_X12_plays X τ a z = τ1 ∧ y_v X (q_rf X C 9) σ1 = V1 ∧ m_c X τ1 a = c1 ∧ rg V1 c1 ∧ m_G c1 ∧ c1 2 = m_c X τ0 a 2 ∧ (∀ j : Int, 654 ≤ j → c1 j = m_c X τ0 a j) ∧
      (∀ b, lb b / 8192 ≠ 2 → b ≠ q_rf X C 15 → b ≠ pl_T X (q_rf X C 15) → ∀ f, σ1.1 b f = σ0.1 b f) ∧ σ1.2 = σ0.2 ∧ tkl (fun b f => pl_Sq X a b f ∨ b = q_rf X a 21) (fun _ _ => False) τ0 τ1 ∧ ∀ j : Int, 0 ≤ j → j < 654 → (τ1.1 (q_rf X a 21) j.toNat).toInt = m_c X τ0 a j := by
  obtain ⟨kC, ka, S, lC, G8, G9, GM⟩ := id K
  obtain ⟨A1, A2, A3, A4⟩ := id A
  obtain ⟨-, D⟩ := al_run K
  obtain ⟨l15, lT⟩ := al_T15 K
  obtain ⟨T1, T2, T3, T4, T5⟩ := T
  have k21 : q_kd X (q_rf X a 21) = 35 := (S.1.1 a 21 (by rw [ka]; decide)).trans (by rw [ka]; rfl)
  have k28 : q_kd X (q_rf X a 28) = 39 := (S.1.1 a 28 (by rw [ka]; decide)).trans (by rw [ka]; rfl)
  have k20 := (tb_k S.1 ka).1
  have v8 : y_v X (q_rf X C 8) σ = y_v X (q_rf X C 8) σ0 := y_v.k S G8 (fun b hb f => T1 b (by omega) (fun e => by rw [e, l15] at hb; omega) (fun e => by rw [e, lT] at hb; omega) f)
  obtain ⟨ow, o2, oV⟩ := (tb_copy (σ := σ) (g := q_rf X C 8) S G9 G8 (by decide)).cp
  obtain ⟨σ4, es⟩ : ∃ s, s = F_X0_copyFrom X σ (q_rf X C 9) (q_rf X C 8) := ⟨_, rfl⟩
  rw [← es] at ow o2 oV ⊢
  rw [v8] at oV
  have rb9 : rb (y_v X (q_rf X C 9) σ4) (m_c X τ0 a) (m_wd X τ0 a) := A1.x M.1.1 oV (fun _ _ _ => rfl) (fun _ _ _ => rfl)
  obtain ⟨h1, h2, J⟩ := pl_go S G9 D ka hn (rfl : y_v X (q_rf X C 9) σ4 = _) rb9.1 M.1.1 M.1.2 T3 rb9.2.2 z
  obtain ⟨-, -, -, -, -, V1, c1, o1, o2', o3, o4, o5, o6⟩ := J
  refine ⟨_, _, V1, c1, rfl, rfl, o1, o2', o3, o4, o6.2 2 (by decide) (Or.inl (by decide)), fun j hj => o6.2 j (by omega) (Or.inr hj), fun b b1 b2 b3 f => ?_, ?_, T4.tr (h2.mono (fun b f z => Or.inl z) (fun _ _ z => z)), fun j j0 j1 => ?_⟩
  · rw [h1.1 b f (by
      rintro (z | ⟨z, -⟩ | z)
      · exact b1 z
      · exact b2 z
      · exact b3 z), ow b b1 f, T1 b b1 b2 b3 f]
  · have e : (F_X7_go X σ4 (q_rf X C 15) (q_rf X C 9) z).2 = σ4.2 := pl_pair (funext (fun b => funext (fun f => h1.2.1 b f (fun z => z)))) h1.2.2
    rw [e, o2, T2]
  · rw [h2.1 _ _ (by
      rintro (z | z | ⟨z, -⟩)
      · exact m_ne k21 k20 (by decide) z
      · exact m_ne k21 k28 (by decide) z
      · exact m_ne k21 ka (by decide) z)]
    exact T5 j j0 j1
/-- a try taken back -/
theorem tr_next (K : al_C X lb C a) {σ1 τ1 : ST} {c1 : Int → Int} (m1 : m_c X τ1 a = c1) (c654 : ∀ j : Int, 654 ≤ j → c1 j = m_c X τ0 a j) (f1 : ∀ b, lb b / 8192 ≠ 2 → b ≠ q_rf X C 15 → b ≠ pl_T X (q_rf X C 15) → ∀ f, σ1.1 b f = σ0.1 b f) (f2 : σ1.2 = σ0.2) (f3 : tkl (fun b f => pl_Sq X a b f ∨ b = q_rf X a 21) (fun _ _ => False) τ0 τ1) (f4 : ∀ j : Int, 0 ≤ j → j < 654 → (τ1.1 (q_rf X a 21) j.toNat).toInt = m_c X τ0 a j) (L : Nat → Int32 → ST → Int32 × ST) (E : ST → Int32 × ST) (hS : ∀ k x s, L (k + 1) x s = if x.toInt < 654 then q_let (s.1 (q_rf X a 21) x.toNatClampNeg) (fun f => q_let (q_si s (q_rf X a 20) x.toNatClampNeg f) (fun s' => q_let (x + 1) (fun z => L k z s'))) else E s) :
    ∃ τ3 : ST, L ((2147483647 - (0 : Int32).toInt).toNat + 1) 0 τ1 = E τ3 ∧ tr_K X lb C a σ0 σ1 τ0 τ3 (m_c X τ0 a) := by
  obtain ⟨kC, ka, S, lC, G8, G9, GM⟩ := id K
  have k21 : q_kd X (q_rf X a 21) = 35 := (S.1.1 a 21 (by rw [ka]; decide)).trans (by rw [ka]; rfl)
  have k20 := (tb_k S.1 ka).1
  have z0 : (0 : Int32).toInt = 0 := rfl
  obtain ⟨τ3, x1, x2, x3⟩ := tr_back (τ := τ1) (c := m_c X τ0 a) S.1 ka f4 (fun j hj => by rw [m1]; exact c654 j hj) (fun j hj => m_c_neg X τ0 a hj) L E hS ((2147483647 - (0 : Int32).toInt).toNat + 1) 0 τ1 (Nat.lt_succ_self _) (by decide) (by decide) tkl.rf (fun j j0 => by rw [z0, if_neg (by omega)])
  refine ⟨τ3, x1, f1, f2, x3, f3.tr (x2.mono (fun b f z => Or.inl (Or.inl z)) (fun _ _ z => z)), fun j j0 j1 => ?_⟩
  rw [x2.1 _ _ (m_ne k21 k20 (by decide))]
  exact f4 j j0 j1
theorem tr_winsL (K : al_C X lb C a) (A : al_R X C a σ0 τ0) (M : m_M (m_c X τ0 a) (τ0.1 a 24).toInt n) (hn : n ≤ 800000) {v1 v2 v3 : Int32} (h3 : v3.toInt ≤ 20) (fu : Nat) :
    ∀ (fv : Nat) (x y : Int32) (σ τ : ST), (2147483647 - y.toInt).toNat < fu → (2147483647 - y.toInt).toNat < fv → 0 ≤ y.toInt → tr_K X lb C a σ0 σ τ0 τ (m_c X τ0 a) → ∃ (w : Int32) (σ' τ' : ST), F_X11_wins_L27_1 X v3 C v2 v1 fu x y σ = F_X11_tell X σ' C w.toInt64 v3.toInt64 ∧ F_X12_tries_L112_3 X v3 v2 a 1 v1 fv x y τ = F_X12_fraction X τ' a w.toInt64 v3.toInt64 ∧ tr_K X lb C a σ0 σ' τ0 τ' (m_c X τ0 a) := by
  obtain ⟨kC, ka, S, lC, G8, G9, GM⟩ := id K
  induction fu with
  | zero => intro fv x y σ τ h; exact absurd h (Nat.not_lt_zero _)
  | succ fu ih =>
    intro fv x y σ τ hf hfv y0 T
    obtain ⟨fv', efv⟩ : ∃ k, fv = k + 1 := ⟨fv - 1, by omega⟩
    subst efv
    rw [F_X11_wins_L27_1_s, F_X12_tries_L112_3_s]
    unfold F_X11_wins_B27_1 F_X12_tries_B112_3
    by_cases q : y.toInt < v3.toInt
    · have y1 : (y + 1).toInt = y.toInt + 1 := y_inc (by omega)
      obtain ⟨σ1, τ1, V1, c1, e1, e2, p1, p2, p3, p4, p5, p6, p7, p8, p9, p10⟩ := tr_step K A M hn T (v2 + y)
      rw [if_pos q, if_pos q, q_letE (F_X0_copyFrom X σ (q_rf X C 9) (q_rf X C 8)), q_letE (v2 + y), q_letE (F_X7_go X (F_X0_copyFrom X σ (q_rf X C 9) (q_rf X C 8)) (q_rf X C 15) (q_rf X C 9) (v2 + y)), e1, q_letE (v2 + y), q_letE (F_X12_plays X τ a (v2 + y)), e2, if_neg (by decide : ¬ (1 : Int32).toInt = 0)]
      have f18 : (σ1.1 (q_rf X C 9) 6).toInt = c1 8 := ((pl_W (lb := lb) (o := 2) p1).rd (id := 0) (by decide) 6 rfl).trans p3.2.1.2.2.1.1
      have g53 : (τ1.1 (q_rf X a 20) (8 : Int32).toNatClampNeg).toInt = c1 8 := gm_cell (A := 8) p2 rfl
      rw [q_letE (σ1.1 (q_rf X C 9) 6), f18, q_letE (τ1.1 (q_rf X a 20) (8 : Int32).toNatClampNeg), g53]
      by_cases qw : c1 8 = v1.toInt
      · obtain ⟨τ3, x1, x2⟩ := tr_next K p2 p6 p7 p8 p9 p10 (F_X12_tries_L163_9 X a y (F_X12_tries_L112_3 X v3 v2 a 1 v1 fv') (x + 1)) (F_X12_tries_E191_10 X y (F_X12_tries_L112_3 X v3 v2 a 1 v1 fv') (x + 1)) (fun k x s => by
          rw [F_X12_tries_L163_9_s]
          rfl)
        rw [if_pos qw, if_pos qw, q_letE (x + 1), q_letE (y + 1), q_letE (x + 1), x1]
        unfold F_X12_tries_E191_10
        rw [q_letE (y + 1)]
        exact ih fv' (x + 1) (y + 1) σ1 τ3 (by omega) (by omega) (by omega) x2
      · obtain ⟨τ3, x1, x2⟩ := tr_next K p2 p6 p7 p8 p9 p10 (F_X12_tries_L163_7 X a y (F_X12_tries_L112_3 X v3 v2 a 1 v1 fv') (x + 0)) (F_X12_tries_E191_8 X y (F_X12_tries_L112_3 X v3 v2 a 1 v1 fv') (x + 0)) (fun k x s => by
          rw [F_X12_tries_L163_7_s]
          rfl)
        rw [if_neg qw, if_neg qw, q_letE (y + 1), q_letE (x + 0), x1]
        unfold F_X12_tries_E191_8
        rw [q_letE (y + 1), Int32.add_zero]
        exact ih fv' x (y + 1) σ1 τ3 (by omega) (by omega) (by omega) x2
    · rw [if_neg q, if_neg q]
      unfold F_X11_wins_E79_2 F_X12_tries_E197_4
      rw [q_letE x.toInt64, q_letE v3.toInt64, ob_pe, q_letE x.toInt64, q_letE v3.toInt64, ob_pe]
      exact ⟨x, σ, τ, rfl, rfl, T⟩
theorem tr_leftL (K : al_C X lb C a) (A : al_R X C a σ0 τ0) (M : m_M (m_c X τ0 a) (τ0.1 a 24).toInt n) (hn : n ≤ 800000) {v1 v2 v3 : Int32} (h3 : v3.toInt ≤ 20) (h1 : 0 ≤ v1.toInt ∧ v1.toInt < m_c X τ0 a 2) (fu : Nat) :
    ∀ (fv : Nat) (x y : Int32) (σ τ : ST), (2147483647 - y.toInt).toNat < fu → (2147483647 - y.toInt).toNat < fv → 0 ≤ y.toInt → tr_K X lb C a σ0 σ τ0 τ (m_c X τ0 a) → ∃ (w : Int32) (σ' τ' : ST), F_X11_left_L27_1 X v3 C v2 v1 fu x y σ = F_X11_tell X σ' C w.toInt64 v3.toInt64 ∧ F_X12_tries_L112_3 X v3 v2 a 0 v1 fv x y τ = F_X12_fraction X τ' a w.toInt64 v3.toInt64 ∧ tr_K X lb C a σ0 σ' τ0 τ' (m_c X τ0 a) := by
  obtain ⟨kC, ka, S, lC, G8, G9, GM⟩ := id K
  have b2 : 0 ≤ m_c X τ0 a 2 ∧ m_c X τ0 a 2 ≤ 6 := M.1.1.1.2.1
  have n9 : ((y_gn 9 : Nat) : Int) = 6 := rfl
  induction fu with
  | zero => intro fv x y σ τ h; exact absurd h (Nat.not_lt_zero _)
  | succ fu ih =>
    intro fv x y σ τ hf hfv y0 T
    obtain ⟨fv', efv⟩ : ∃ k, fv = k + 1 := ⟨fv - 1, by omega⟩
    subst efv
    rw [F_X11_left_L27_1_s, F_X12_tries_L112_3_s]
    unfold F_X11_left_B27_1 F_X12_tries_B112_3
    by_cases q : y.toInt < v3.toInt
    · have y1 : (y + 1).toInt = y.toInt + 1 := y_inc (by omega)
      obtain ⟨σ1, τ1, V1, c1, e1, e2, p1, p2, p3, p4, p5, p6, p7, p8, p9, p10⟩ := tr_step K A M hn T (v2 + y)
      rw [if_pos q, if_pos q, q_letE (F_X0_copyFrom X σ (q_rf X C 9) (q_rf X C 8)), q_letE (v2 + y), q_letE (F_X7_go X (F_X0_copyFrom X σ (q_rf X C 9) (q_rf X C 8)) (q_rf X C 15) (q_rf X C 9) (v2 + y)), e1, q_letE (v2 + y), q_letE (F_X12_plays X τ a (v2 + y)), e2, if_pos (by decide : (0 : Int32).toInt = 0)]
      have f18 : (F_X5_get X σ1 (q_rf X (q_rf X (q_rf X C 9) 1) 2) v1).toInt = m_S c1 (34 + 10 * v1.toInt) 10 := (y_getI S G9 (pl_W (lb := lb) (o := 2) p1) (id := 9) (r := q_rf X (q_rf X (q_rf X C 9) 1) 2) ⟨by decide, by decide⟩ rfl rfl h1.1 (by rw [n9]; omega)).trans (p3.2.2.2.1.2 _ h1.1 (by omega))
      have g41 := gm_cardsOf (X := X) (a := a) (τ := τ1) p2 p4 (rfl : v1.toInt = _) ⟨h1.1, by omega⟩
      have ee : F_X5_get X σ1 (q_rf X (q_rf X (q_rf X C 9) 1) 2) v1 = F_X12_cardsOf X τ1 a v1 := Int32.toInt_inj.mp (f18.trans g41.symm)
      obtain ⟨τ3, x1, x2⟩ := tr_next K p2 p6 p7 p8 p9 p10 (F_X12_tries_L163_5 X a y (F_X12_tries_L112_3 X v3 v2 a 0 v1 fv') (x + F_X12_cardsOf X τ1 a v1)) (F_X12_tries_E191_6 X y (F_X12_tries_L112_3 X v3 v2 a 0 v1 fv') (x + F_X12_cardsOf X τ1 a v1)) (fun k x s => by
        rw [F_X12_tries_L163_5_s]
        rfl)
      rw [q_letE (F_X5_get X σ1 (q_rf X (q_rf X (q_rf X C 9) 1) 2) v1), ee, q_letE (x + F_X12_cardsOf X τ1 a v1), q_letE (y + 1), q_letE (F_X12_cardsOf X τ1 a v1), q_letE (x + F_X12_cardsOf X τ1 a v1), x1]
      unfold F_X12_tries_E191_6
      rw [q_letE (y + 1)]
      exact ih fv' _ (y + 1) σ1 τ3 (by omega) (by omega) (by omega) x2
    · rw [if_neg q, if_neg q]
      unfold F_X11_left_E84_2 F_X12_tries_E197_4
      rw [q_letE x.toInt64, q_letE v3.toInt64, ob_pe, q_letE x.toInt64, q_letE v3.toInt64, ob_pe]
      exact ⟨x, σ, τ, rfl, rfl, T⟩
/-- behind the tries all is as before -/
theorem tr_K.al (K : al_C X lb C a) (A : al_R X C a σ0 τ0) (M : m_M (m_c X τ0 a) (τ0.1 a 24).toInt n) (T : tr_K X lb C a σ0 σ τ0 τ (m_c X τ0 a)) : al_R X C a σ τ ∧ τ.1 a 0 = τ0.1 a 0 := by
  obtain ⟨kC, ka, S, lC, G8, G9, GM⟩ := id K
  obtain ⟨l15, lT⟩ := al_T15 K
  obtain ⟨T1, T2, T3, T4, T5⟩ := T
  have k21 : q_kd X (q_rf X a 21) = 35 := (S.1.1 a 21 (by rw [ka]; decide)).trans (by rw [ka]; rfl)
  obtain ⟨n80, n8a, n0a⟩ := pl_k28 S.1 ka
  have v8 : y_v X (q_rf X C 8) σ = y_v X (q_rf X C 8) σ0 := y_v.k S G8 (fun b hb f => T1 b (by omega) (fun e => by rw [e, l15] at hb; omega) (fun e => by rw [e, lT] at hb; omega) f)
  have ta : ∀ f, f < 38 → τ.1 a f = τ0.1 a f := fun f h => T4.1 a f (by
    rintro ((z | z | ⟨-, z, -⟩) | z)
    · exact n0a z.symm
    · exact n8a z.symm
    · omega
    · exact m_ne k21 ka (by decide) z.symm)
  refine ⟨A.fr K M v8 T3 A.1.1 pl_fix.rf (fun b hb f => T1 b (by omega) (fun e => by rw [e, l15] at hb; omega) (fun e => by rw [e, lT] at hb; omega) f) (T1 C (by omega) (fun e => by rw [e, l15] at lC; omega) (fun e => by rw [e, lT] at lC; omega) 11) (ta 24 (by decide)) ?_, ta 0 (by decide)⟩
  funext j
  exact congrArg Int64.toInt (T4.2.1 _ _ (fun z => z))
/-- whether seeds can be tried -/
theorem tr_status (K : al_C X lb C a) (A : al_R X C a σ τ) (M : m_M (m_c X τ a) (τ.1 a 24).toInt n) (v1 v2 v3 : Int32) : (F_X11_seedsStatus X σ C v1 v2 v3).toInt = if ¬ (0 ≤ v1.toInt ∧ v1.toInt < m_c X τ a 2) then 2 else if ¬ ((1 ≤ v3.toInt ∧ v3.toInt ≤ 20) ∧ 0 ≤ v2.toInt ∧ v2.toInt ≤ 10000 - v3.toInt) then 5 else if m_c X τ a 654 = 0 then 8 else 0 := by
  obtain ⟨A1, A2, A3, A4⟩ := A
  have w : y_W X lb (q_rf X C 8) 1 σ σ (y_v X (q_rf X C 8) σ) := y_W.rf
  have hP : y_v X (q_rf X C 8) σ 1 4 = m_c X τ a 2 := A1.1.1.2.2.2.2.1
  have p1 := lk_player w v1
  rw [hP] at p1
  have one : (1 : Int32).toInt = 1 := rfl
  have e9 : (9999 : Int32).toInt = 9999 := rfl
  have ef : (σ.1 (q_rf X (q_rf X C 8) 3) 0).toInt = m_c X τ a 654 := (w.rd (id := 3) (by decide) 0 rfl).trans A1.2.2.1
  unfold F_X11_seedsStatus
  rw [q_letE (F_X11_isPlayer X σ C v1), p1]
  by_cases q : 0 ≤ v1.toInt ∧ v1.toInt < m_c X τ a 2
  · rw [if_pos q, if_neg (by decide : ¬ (1 : Int) = 0), if_neg (not_not_intro q)]
    by_cases a1 : v2.toInt < 0
    · rw [if_pos a1, if_pos (by omega : ¬ ((1 ≤ v3.toInt ∧ v3.toInt ≤ 20) ∧ 0 ≤ v2.toInt ∧ v2.toInt ≤ 10000 - v3.toInt))]; rfl
    · rw [if_neg a1]
      by_cases a2 : v3.toInt < 1
      · rw [if_pos a2, if_pos (by omega : ¬ ((1 ≤ v3.toInt ∧ v3.toInt ≤ 20) ∧ 0 ≤ v2.toInt ∧ v2.toInt ≤ 10000 - v3.toInt))]; rfl
      · rw [if_neg a2]
        by_cases a3 : 20 < v3.toInt
        · rw [if_pos a3, if_pos (by omega : ¬ ((1 ≤ v3.toInt ∧ v3.toInt ≤ 20) ∧ 0 ≤ v2.toInt ∧ v2.toInt ≤ 10000 - v3.toInt))]; rfl
        · have e : ((9999 : Int32) - v3 + 1).toInt = 10000 - v3.toInt := by
            rw [ar_add, ar_sub, e9, one, ar_wr (n := 9999 - v3.toInt) (by omega) (by omega), ar_wr (by omega) (by omega)]
            omega
          rw [if_neg a3, q_letE ((9999 : Int32) - v3), q_letE ((9999 : Int32) - v3 + 1), e]
          by_cases a4 : 10000 - v3.toInt < v2.toInt
          · rw [if_pos a4, if_pos (by omega : ¬ ((1 ≤ v3.toInt ∧ v3.toInt ≤ 20) ∧ 0 ≤ v2.toInt ∧ v2.toInt ≤ 10000 - v3.toInt))]; rfl
          · rw [if_neg a4, if_neg (by omega : ¬ ¬ ((1 ≤ v3.toInt ∧ v3.toInt ≤ 20) ∧ 0 ≤ v2.toInt ∧ v2.toInt ≤ 10000 - v3.toInt)), q_letE (σ.1 (q_rf X (q_rf X C 8) 3) 0), ef]
            split <;> rfl
  · rw [if_neg q, if_pos rfl, if_pos q]
    rfl
theorem al_tries (K : al_C X lb C a) (A : al_R X C a σ τ) (M : m_M (m_c X τ a) (τ.1 a 24).toInt n) (hn : n ≤ 800000) (v1 v2 v3 : Int32) : ob_O X C a (F_X11_wins X σ C v1 v2 v3) (F_X12_wins X τ a v1 v2 v3) ∧ ob_O X C a (F_X11_left X σ C v1 v2 v3) (F_X12_left X τ a v1 v2 v3) := by
  obtain ⟨kC, ka, S, lC, G8, G9, GM⟩ := id K
  obtain ⟨m2, s2, t2⟩ := mv_beg S.1 ka (rfl : m_c X τ a = m_c X τ a)
  have b2 : 0 ≤ m_c X τ a 2 ∧ m_c X τ a 2 ≤ 6 := M.1.1.1.2.1
  have st := tr_status K A M v1 v2 v3
  have p2 := lk_playerAt m2 b2 v1
  have one : (1 : Int64).toInt = 1 := rfl
  have e20 : (20 : Int64).toInt = 20 := rfl
  have e0 : (0 : Int64).toInt = 0 := rfl
  have ek : (10000 : Int32).toInt = 10000 := rfl
  have g654 : ((q_si (q_si τ a 1 0) a 0 0).1 (q_rf X a 20) (654 : Int32).toNatClampNeg).toInt = m_c X τ a 654 := gm_cell (A := 654) m2 rfl
  have A' : al_R X C a σ (q_si (q_si τ a 1 0) a 0 0) := by
    refine A.fr K M rfl m2 A.1.1 pl_fix.rf (fun _ _ _ => rfl) rfl ?_ rfl
    rw [si_f (by decide), si_f (by decide)]
  have M' : m_M (m_c X (q_si (q_si τ a 1 0) a 0 0) a) ((q_si (q_si τ a 1 0) a 0 0).1 a 24).toInt n := by
    rw [m2, si_f (by decide), si_f (by decide)]
    exact M
  have noN : ∀ k : Int32, ob_O X C a (q_bi (F_X11_no X σ C k) (fun r s => (r, s))) (q_bi (F_X12_no X (q_si (q_si τ a 1 0) a 0 0) a k) (fun r s => (r, s))) := fun k => by
    rw [ob_pe, ob_pe, mv_no, mv_noM]
    refine ⟨rfl, ?_, (al_st K A M k).2 k⟩
    show ((q_si σ C 0 k).1 C 0).toInt = ((q_si (q_si (q_si τ a 1 0) a 0 0) a 0 k).1 a 0).toInt
    rw [si_eq, si_eq]
  unfold F_X11_wins F_X11_left F_X12_wins F_X12_left F_X12_tries
  rw [q_letE (F_X11_seedsStatus X σ C v1 v2 v3), q_letE (F_X11_seedsStatus X σ C v1 v2 v3), q_letE (q_si τ a 1 0), q_letE (q_si (q_si τ a 1 0) a 0 0), q_letE (q_si τ a 1 0), q_letE (q_si (q_si τ a 1 0) a 0 0)]
  obtain ⟨τ2, et⟩ : ∃ t, t = q_si (q_si τ a 1 0) a 0 0 := ⟨_, rfl⟩
  rw [← et] at m2 s2 p2 g654 A' M' noN ⊢
  have i3 : (F_X12_isIn X τ2 v3.toInt64 (1 : Int64) (20 : Int64)).toInt = if 1 ≤ v3.toInt ∧ v3.toInt ≤ 20 then 1 else 0 := lk_in (X := X) v3 one e20
  rw [q_letE (F_X12_isPlayerAt X τ2 a v1), q_letE (F_X12_isPlayerAt X τ2 a v1), p2]
  obtain ⟨w, ew⟩ : ∃ w, w = F_X11_seedsStatus X σ C v1 v2 v3 := ⟨_, rfl⟩
  rw [← ew] at st ⊢
  by_cases q1 : ¬ (0 ≤ v1.toInt ∧ v1.toInt < m_c X τ a 2)
  · rw [if_pos q1] at st
    have e : w = 2 := Int32.toInt_inj.mp (st.trans rfl)
    rw [e, if_neg (by decide : ¬ (2 : Int32).toInt = 0), if_neg (by decide : ¬ (2 : Int32).toInt = 0), if_neg q1, if_pos rfl, if_pos rfl, ob_pe (q_bi (F_X12_no X τ2 a 2) (fun r s => (r, s)))]
    exact ⟨noN 2, noN 2⟩
  have q1' := Classical.not_not.mp q1
  rw [if_neg q1] at st
  rw [if_pos q1', if_neg (by decide : ¬ (1 : Int) = 0), if_neg (by decide : ¬ (1 : Int) = 0), q_letE v3.toInt64, q_letE v3.toInt64, q_letE (F_X12_isIn X τ2 v3.toInt64 (1 : Int64) (20 : Int64)), q_letE (F_X12_isIn X τ2 v3.toInt64 (1 : Int64) (20 : Int64)), i3]
  by_cases q3 : ¬ (1 ≤ v3.toInt ∧ v3.toInt ≤ 20)
  · rw [if_pos (fun z => q3 z.1)] at st
    have e : w = 5 := Int32.toInt_inj.mp (st.trans rfl)
    rw [e, if_neg (by decide : ¬ (5 : Int32).toInt = 0), if_neg (by decide : ¬ (5 : Int32).toInt = 0), if_neg q3, if_pos rfl, if_pos rfl, ob_pe (q_bi (F_X12_no X τ2 a 5) (fun r s => (r, s)))]
    exact ⟨noN 5, noN 5⟩
  have q3' := Classical.not_not.mp q3
  have ez : ((10000 : Int32) - v3).toInt64.toInt = 10000 - v3.toInt := by rw [ar_i2l, ar_sub, ek, ar_wr (by omega) (by omega)]
  have i2 : (F_X12_isIn X τ2 v2.toInt64 (0 : Int64) ((10000 : Int32) - v3).toInt64).toInt = if 0 ≤ v2.toInt ∧ v2.toInt ≤ 10000 - v3.toInt then 1 else 0 := lk_in (X := X) v2 e0 ez
  rw [if_pos q3', if_neg (by decide : ¬ (1 : Int) = 0), if_neg (by decide : ¬ (1 : Int) = 0), q_letE v2.toInt64, q_letE ((10000 : Int32) - v3), q_letE ((10000 : Int32) - v3).toInt64, q_letE (F_X12_isIn X τ2 v2.toInt64 (0 : Int64) ((10000 : Int32) - v3).toInt64), q_letE v2.toInt64, q_letE ((10000 : Int32) - v3), q_letE ((10000 : Int32) - v3).toInt64, q_letE (F_X12_isIn X τ2 v2.toInt64 (0 : Int64) ((10000 : Int32) - v3).toInt64), i2]
  by_cases q4 : ¬ (0 ≤ v2.toInt ∧ v2.toInt ≤ 10000 - v3.toInt)
  · rw [if_pos (fun z => q4 z.2)] at st
    have e : w = 5 := Int32.toInt_inj.mp (st.trans rfl)
    rw [e, if_neg (by decide : ¬ (5 : Int32).toInt = 0), if_neg (by decide : ¬ (5 : Int32).toInt = 0), if_neg q4, if_pos rfl, if_pos rfl, ob_pe (q_bi (F_X12_no X τ2 a 5) (fun r s => (r, s)))]
    exact ⟨noN 5, noN 5⟩
  have q4' := Classical.not_not.mp q4
  rw [if_neg (fun z => z ⟨q3', q4'⟩)] at st
  rw [if_pos q4', if_neg (by decide : ¬ (1 : Int) = 0), if_neg (by decide : ¬ (1 : Int) = 0), q_letE (τ2.1 (q_rf X a 20) (654 : Int32).toNatClampNeg), q_letE (τ2.1 (q_rf X a 20) (654 : Int32).toNatClampNeg), g654]
  by_cases q5 : m_c X τ a 654 = 0
  · rw [if_pos q5] at st
    have e : w = 8 := Int32.toInt_inj.mp (st.trans rfl)
    rw [e, if_neg (by decide : ¬ (8 : Int32).toInt = 0), if_neg (by decide : ¬ (8 : Int32).toInt = 0), if_pos q5, if_pos q5, ob_pe (q_bi (F_X12_no X τ2 a 8) (fun r s => (r, s)))]
    exact ⟨noN 8, noN 8⟩
  rw [if_neg q5] at st
  rw [if_pos st, if_pos st, if_neg q5, if_neg q5]
  have z0 : (0 : Int32).toInt = 0 := rfl
  have k21 : q_kd X (q_rf X a 21) = 35 := (S.1.1 a 21 (by rw [ka]; decide)).trans (by rw [ka]; rfl)
  have keep : ∀ v4 : Int32, ∃ τ3 : ST, F_X12_tries_L78_1 X a v3 v2 v4 v1 ((2147483647 - (0 : Int32).toInt).toNat + 1) 0 τ2 = F_X12_tries_L112_3 X v3 v2 a v4 v1 ((2147483647 - (0 : Int32).toInt).toNat + 1) 0 0 τ3 ∧ tr_K X lb C a σ σ τ2 τ3 (m_c X τ2 a) := fun v4 => by
    obtain ⟨τ3, x1, x2, x3⟩ := tr_keep (v1 := v1) (v2 := v2) (v3 := v3) (v4 := v4) (c := m_c X τ2 a) S.1 ka rfl ((2147483647 - (0 : Int32).toInt).toNat + 1) 0 τ2 (Nat.lt_succ_self _) (by decide) (by decide) tkl.rf (fun j j0 j1 => by rw [z0] at j1; omega)
    exact ⟨τ3, x1, fun _ _ _ _ _ => rfl, rfl, pl_mc (fun f => x2.1 _ f (m_ne (tb_k S.1 ka).1 k21 (by decide))), x2.mono (fun b f z => Or.inr z) (fun _ _ z => z), x3⟩
  have fin : ∀ (σ' τ' : ST) (x y : Int64), tr_K X lb C a σ σ' τ2 τ' (m_c X τ2 a) → ob_O X C a (F_X11_tell X σ' C x y) (F_X12_fraction X τ' a x y) := fun σ' τ' x y T => by
    obtain ⟨B, b0⟩ := T.al K A' M'
    exact al_told K B (by rw [b0, s2]; rfl) x y x y
  refine ⟨?_, ?_⟩
  · obtain ⟨τ3, x1, x2⟩ := keep 1
    obtain ⟨w', σ', τ', j1, j2, j3⟩ := tr_winsL (v1 := v1) (v2 := v2) (v3 := v3) K A' M' hn q3'.2 ((2147483647 - (0 : Int32).toInt).toNat + 1) ((2147483647 - (0 : Int32).toInt).toNat + 1) 0 0 σ τ3 (Nat.lt_succ_self _) (Nat.lt_succ_self _) (by decide) x2
    rw [j1, x1, j2, ob_pe]
    exact fin σ' τ' _ _ j3
  · obtain ⟨τ3, x1, x2⟩ := keep 0
    obtain ⟨w', σ', τ', j1, j2, j3⟩ := tr_leftL (v1 := v1) (v2 := v2) (v3 := v3) K A' M' hn q3'.2 (by rw [m2]; exact q1') ((2147483647 - (0 : Int32).toInt).toNat + 1) ((2147483647 - (0 : Int32).toInt).toNat + 1) 0 0 σ τ3 (Nat.lt_succ_self _) (Nat.lt_succ_self _) (by decide) x2
    rw [j1, x1, j2, ob_pe]
    exact fin σ' τ' _ _ j3
end PJ

/-! FROM 49zv.keep.lean.txt -/
/-! WHAT STANDS BEHIND A CALL THAT MOVES NOTHING -/
def kp_C (L : List (Nat × Nat)) : Bool := L.all (fun x => x.1 != 1 && x.1 != 3 && x.1 != 6 && x.1 != 8 && x.1 != 20 && (x.1 != 11 || (x.2 != 11 && x.2 != 99)))
def kp_M (L M : List (Nat × Nat)) : Bool := L.all (fun x => x.1 != 34 && (x.1 != 12 || (x.2 != 24 && x.2 != 99))) && M.all (fun x => x.1 != 37)
theorem kp_no {L : List (Nat × Nat)} {k f : Nat} (h : L.all (fun x => x.1 != k || (x.2 != f && x.2 != 99)) = true) : q_in2 L k f = false := by
  unfold q_in2
  rw [List.any_eq_false]
  intro x hx
  have h1 := List.all_eq_true.mp h x hx
  intro e
  have e' : x.1 = k ∧ (x.2 = 99 ∨ x.2 = f) := by simpa using e
  have h1' : ¬ x.1 = k ∨ (x.2 ≠ f ∧ x.2 ≠ 99) := by simpa using h1
  have h2 : x.2 ≠ f ∧ x.2 ≠ 99 := by
    rcases h1' with h1' | h1'
    · exact absurd e'.1 h1'
    · exact h1'
  rcases e'.2 with e2 | e2
  · exact h2.2 e2
  · exact h2.1 e2
theorem kp_no1 {L : List (Nat × Nat)} {k : Nat} (h : L.all (fun x => x.1 != k) = true) (f : Nat) : q_in2 L k f = false := by
  refine kp_no (List.all_eq_true.mpr (fun x hx => ?_))
  have h1 := List.all_eq_true.mp h x hx
  rw [Bool.or_eq_true]
  exact Or.inl h1
theorem kp_Ce {L : List (Nat × Nat)} (h : kp_C L = true) : (∀ f, q_in2 L 1 f = false) ∧ (∀ f, q_in2 L 3 f = false) ∧ (∀ f, q_in2 L 6 f = false) ∧ (∀ f, q_in2 L 8 f = false) ∧ (∀ f, q_in2 L 20 f = false) ∧ q_in2 L 11 11 = false := by
  unfold kp_C at h
  rw [List.all_eq_true] at h
  have hs : ∀ x ∈ L, x.1 ≠ 1 ∧ x.1 ≠ 3 ∧ x.1 ≠ 6 ∧ x.1 ≠ 8 ∧ x.1 ≠ 20 ∧ (¬ x.1 = 11 ∨ (x.2 ≠ 11 ∧ x.2 ≠ 99)) := fun x hx => by
    have := h x hx
    simpa [and_assoc] using this
  have one : ∀ k, (∀ x ∈ L, x.1 ≠ k) → ∀ f, q_in2 L k f = false := fun k hk f => kp_no1 (List.all_eq_true.mpr (fun x hx => by simpa using hk x hx)) f
  refine ⟨one 1 (fun x hx => (hs x hx).1), one 3 (fun x hx => (hs x hx).2.1), one 6 (fun x hx => (hs x hx).2.2.1), one 8 (fun x hx => (hs x hx).2.2.2.1), one 20 (fun x hx => (hs x hx).2.2.2.2.1), kp_no (List.all_eq_true.mpr (fun x hx => ?_))⟩
  have := (hs x hx).2.2.2.2.2
  simpa using this
theorem kp_Me {L M : List (Nat × Nat)} (h : kp_M L M = true) : (∀ f, q_in2 L 34 f = false) ∧ q_in2 L 12 24 = false ∧ ∀ f, q_in2 M 37 f = false := by
  unfold kp_M at h
  rw [Bool.and_eq_true, List.all_eq_true, List.all_eq_true] at h
  have hs : ∀ x ∈ L, x.1 ≠ 34 ∧ (¬ x.1 = 12 ∨ (x.2 ≠ 24 ∧ x.2 ≠ 99)) := fun x hx => by
    have := h.1 x hx
    simpa using this
  refine ⟨fun f => kp_no1 (List.all_eq_true.mpr (fun x hx => by simpa using (hs x hx).1)) f, kp_no (List.all_eq_true.mpr (fun x hx => ?_)), fun f => kp_no1 (List.all_eq_true.mpr (fun x hx => h.2 x hx)) f⟩
  have := (hs x hx).2
  simpa using this
section KP
variable {X : XW} {lb : Nat → Nat} {g o C a : Nat} {σ σ' σ1 τ τ' : ST} {L M : List (Nat × Nat)} {n : Int}
theorem kp_v (S : y_S X lb) (G : y_G X lb g o) (ow : q_ow L M X σ σ') (h : kp_C L = true) : y_v X g σ' = y_v X g σ := by
  obtain ⟨h1, h3, h6, h8, h20, -⟩ := kp_Ce h
  funext id i
  unfold y_v
  by_cases q : id < 25 ∧ 0 ≤ i
  · rw [if_pos q, if_pos q]
    have k := (y_gf S G id q.1).2.1
    refine congrArg Int32.toInt (ow.1 _ _ ?_)
    rw [k]
    unfold y_ki
    split
    · exact h1 _
    · exact h6 _
    · exact h3 _
    · exact h8 _
    · exact h20 _
  · rw [if_neg q, if_neg q]
/-- the class's cells stand -/
theorem al_R.post (K : al_C X lb C a) (A : al_R X C a σ τ) (ow : q_ow L M X σ σ') (h : kp_C L = true) : al_R X C a σ' τ := by
  obtain ⟨kC, ka, S, lC, G8, G9, GM⟩ := id K
  obtain ⟨A1, A2, A3, A4⟩ := A
  have e11 : σ'.1 C 11 = σ.1 C 11 := ow.1 C 11 (by rw [kC]; exact (kp_Ce h).2.2.2.2.2)
  refine ⟨by rw [kp_v S G8 ow h]; exact A1, by rw [e11]; exact A2, by rw [e11]; exact A3, fun b b1 b2 => ?_⟩
  rw [e11] at b2
  rw [kp_v S (GM (b - 1) (by omega)) ow h]
  exact A4 b b1 b2
/-- the reference's cells stand -/
theorem al_R.pre (K : al_C X lb C a) (A : al_R X C a σ τ) (ow : q_ow L M X τ τ') (h : kp_M L M = true) : al_R X C a σ τ' := by
  obtain ⟨kC, ka, S, lC, G8, G9, GM⟩ := id K
  obtain ⟨h34, h24, h37⟩ := kp_Me h
  obtain ⟨A1, A2, A3, A4⟩ := A
  obtain ⟨k20, -, k23, -⟩ := tb_k S.1 ka
  have e24 : τ'.1 a 24 = τ.1 a 24 := ow.1 a 24 (by rw [ka]; exact h24)
  have m : m_c X τ' a = m_c X τ a := pl_mc (fun f => ow.1 _ f (by rw [k20]; exact h34 f))
  have w : m_wd X τ' a = m_wd X τ a := by
    funext j
    exact congrArg Int64.toInt (ow.2 _ _ (by rw [k23]; exact h37 _))
  exact ⟨by rw [m, w]; exact A1, by rw [e24]; exact A2, A3, fun b b1 b2 => by rw [m, w]; exact A4 b b1 b2⟩
/-! what a look ahead writes -/
def fs_S (X : XW) (g : Nat) (b f : Nat) : Prop := b = q_rf X (q_rf X g 10) 0 ∨ b = g ∧ 9 ≤ f
theorem fs_set (x v : Int32) : tkl (fs_S X g) (fun _ _ => False) σ (F_X5_set X σ (q_rf X g 10) x v) := by
  unfold F_X5_set
  split
  · exact tkl.rf
  · rw [q_letE (q_len X (q_rf X (q_rf X g 10) 0))]
    split
    · rw [q_letE]
      exact tkl.rf.si _ (Or.inl rfl)
    · exact tkl.rf
theorem fs_add (x v : Int32) : tkl (fs_S X g) (fun _ _ => False) σ (F_X5_add X σ (q_rf X g 10) x v) := by
  unfold F_X5_add
  split
  · exact tkl.rf
  · rw [q_letE (q_len X (q_rf X (q_rf X g 10) 0))]
    split
    · rw [q_letE, q_letE, q_letE]
      exact tkl.rf.si _ (Or.inl rfl)
    · exact tkl.rf
theorem fs_L {v1 v2 r : Int32} (fu : Nat) : ∀ (x : Int32) (σ1 : ST), tkl (fs_S X g) (fun _ _ => False) σ σ1 → tkl (fs_S X g) (fun _ _ => False) σ (F_X0_foresee_L83_4 X v2 g v1 r fu x σ1) := by
  induction fu with
  | zero => intro x σ1 h; exact h
  | succ fu ih =>
    intro x σ1 h
    have s : ∀ {s1 : ST}, tkl (fs_S X g) (fun _ _ => False) σ s1 → ∀ (f : Nat) (v : Int32), 9 ≤ f → tkl (fs_S X g) (fun _ _ => False) σ (q_si s1 g f v) := fun k f v hf => k.si _ (Or.inr ⟨rfl, hf⟩)
    rw [F_X0_foresee_L83_4_s]
    unfold F_X0_foresee_B83_4
    split
    · rw [q_letE (σ1.1 g 12)]
      split
      · rw [q_letE (F_X0_fallingKind X σ1 g v1 x)]
        obtain ⟨k, ek⟩ : ∃ k, k = F_X0_fallingKind X σ1 g v1 x := ⟨_, rfl⟩
        rw [← ek, q_letE (F_X5_get X σ1 (q_rf X g 10) k), q_letE (σ1.1 (q_rf X g 0) 3)]
        obtain ⟨m, em⟩ : ∃ m, m = F_J9_min_7cf53 X σ1 (F_X5_get X σ1 (q_rf X g 10) k) (σ1.1 (q_rf X g 0) 3) := ⟨_, rfl⟩
        rw [← em, q_letE m, q_letE (-m), q_letE (F_X5_add X σ1 (q_rf X g 10) k (-m))]
        have h2 := h.tr (fs_add (X := X) (g := g) (σ := σ1) k (-m))
        obtain ⟨σ2, e2⟩ : ∃ t, t = F_X5_add X σ1 (q_rf X g 10) k (-m) := ⟨_, rfl⟩
        rw [← e2] at h2 ⊢
        rw [q_letE (σ2.1 g 11), q_letE (σ2.1 g 11 + m), q_letE (q_si σ2 g 11 (σ2.1 g 11 + m))]
        have h3 := s h2 11 (σ2.1 g 11 + m) (by decide)
        obtain ⟨σ3, e3⟩ : ∃ t, t = q_si σ2 g 11 (σ2.1 g 11 + m) := ⟨_, rfl⟩
        rw [← e3] at h3 ⊢
        split
        · rw [q_letE (q_si σ3 g 13 k), q_letE ((q_si σ3 g 13 k).1 g 11)]
          have h4 := s h3 13 k (by decide)
          split
          · rw [q_letE (x + 1), q_letE (q_si (q_si σ3 g 13 k) g 12 (x + 1)), q_letE (x + 1)]
            exact ih _ _ (s h4 12 _ (by decide))
          · rw [q_letE (x + 1)]
            exact ih _ _ h4
        · rw [q_letE (σ3.1 g 14)]
          split
          · rw [q_letE (q_si σ3 g 14 x), q_letE ((q_si σ3 g 14 x).1 g 11)]
            have h4 := s h3 14 x (by decide)
            split
            · rw [q_letE (x + 1), q_letE (q_si (q_si σ3 g 14 x) g 12 (x + 1)), q_letE (x + 1)]
              exact ih _ _ (s h4 12 _ (by decide))
            · rw [q_letE (x + 1)]
              exact ih _ _ h4
          · rw [q_letE (σ3.1 g 11)]
            split
            · rw [q_letE (x + 1), q_letE (q_si σ3 g 12 (x + 1)), q_letE (x + 1)]
              exact ih _ _ (s h3 12 _ (by decide))
            · rw [q_letE (x + 1)]
              exact ih _ _ h3
      · exact h
    · exact h
theorem fs_J {v1 v2 r x : Int32} (h : tkl (fs_S X g) (fun _ _ => False) σ σ1) : tkl (fs_S X g) (fun _ _ => False) σ (F_X0_foresee_J67_3 X σ1 g v2 v1 r x) := by
  unfold F_X0_foresee_J67_3
  rw [q_letE, q_letE, q_letE]
  exact fs_L _ _ _ (((h.si _ (Or.inr ⟨rfl, by decide⟩)).si _ (Or.inr ⟨rfl, by decide⟩)).si _ (Or.inr ⟨rfl, by decide⟩))
theorem fs_K {v1 v2 r : Int32} (fu : Nat) : ∀ (x : Int32) (σ1 : ST), tkl (fs_S X g) (fun _ _ => False) σ σ1 → tkl (fs_S X g) (fun _ _ => False) σ (F_X0_foresee_L15_1 X g v1 r v2 fu x σ1) := by
  induction fu with
  | zero => intro x σ1 h; exact h
  | succ fu ih =>
    intro x σ1 h
    rw [F_X0_foresee_L15_1_s]
    unfold F_X0_foresee_B15_1
    rw [q_letE (σ1.1 (q_rf X g 0) 0)]
    split
    · rw [q_letE (F_X1_heldBy X σ1 (q_rf X g 1) v1 x), q_letE (F_X5_set X σ1 (q_rf X g 10) x (F_X1_heldBy X σ1 (q_rf X g 1) v1 x)), q_letE (x + 1)]
      exact ih _ _ (h.tr (fs_set _ _))
    · unfold F_X0_foresee_E52_6
      rw [q_letE (q_si σ1 g 11 0)]
      have h1 : tkl (fs_S X g) (fun _ _ => False) σ (q_si σ1 g 11 0) := h.si _ (Or.inr ⟨rfl, by decide⟩)
      split
      · exact fs_J h1
      · exact fs_J h1
theorem fs_all (v1 v2 : Int32) : tkl (fs_S X g) (fun _ _ => False) σ (F_X0_foresee X σ g v1 v2) := by
  unfold F_X0_foresee
  rw [q_letE (F_X5_get X σ (q_rf X (q_rf X g 1) 2) v1)]
  exact fs_K _ _ _ tkl.rf
/-- behind a look ahead both are the same -/
def fs_C (X : XW) (C : Nat) (b f : Nat) : Prop := fs_S X (q_rf X C 8) b f ∨ b = C ∧ f = 0
theorem al_R.fs (K : al_C X lb C a) (A : al_R X C a σ τ) (M : m_M (m_c X τ a) (τ.1 a 24).toInt n) (h : tkl (fs_C X C) (fun _ _ => False) σ σ') : al_R X C a σ' τ := by
  obtain ⟨kC, ka, S, lC, G8, G9, GM⟩ := id K
  have k8 := G8.1
  have n8 : C ≠ q_rf X C 8 := m_ne kC k8 (by decide)
  have k24 := (y_gf S G8 24 (by decide)).2.1
  have o24 := y_own S G8 (id := 24) (by decide)
  have o0 := y_own S G8 (id := 0) (by decide)
  have e : ∀ (id : Nat) (i : Int), id ≠ 24 → (id ≠ 0 ∨ i ≤ 8) → y_v X (q_rf X C 8) σ' id i = y_v X (q_rf X C 8) σ id i := by
    intro id i h1 h2
    unfold y_v
    by_cases q : id < 25 ∧ 0 ≤ i
    · rw [if_pos q, if_pos q]
      refine congrArg Int32.toInt (h.1 _ _ ?_)
      rintro ((z | ⟨z, z2⟩) | ⟨z, -⟩)
      · exact h1 (y_gA_inj S G8 (i := id) (j := 24) q.1 (by decide) z)
      · have := y_gA_inj S G8 (i := id) (j := 0) q.1 (by decide) z
        omega
      · have := y_own S G8 q.1
        rw [z, lC] at this
        omega
    · rw [if_neg q, if_neg q]
  refine A.fr K M rfl rfl (A.1.1.w M.1.1 (fun id i h1 h2 h3 => e id i h2 (by omega))) ⟨fun id i h1 => e id i (by omega) (by omega), fun _ _ _ => rfl⟩ (fun b hb f => h.1 b f ?_) (h.1 C 11 ?_) rfl rfl
  · rintro ((z | ⟨z, -⟩) | ⟨z, -⟩)
    · have : lb b / 8192 = 1 := by rw [z]; exact o24
      omega
    · have : lb b / 8192 = 1 := by rw [z]; exact o0
      omega
    · rw [z, lC] at hb
      omega
  · rintro ((z | ⟨z, -⟩) | ⟨-, z⟩)
    · have o24' : lb (q_rf X (q_rf X (q_rf X C 8) 10) 0) / 8192 = 1 := o24
      rw [← z, lC] at o24'
      omega
    · exact n8 z
    · omega
theorem fs_C0 (k : Int32) : tkl (fs_C X C) (fun _ _ => False) σ (q_si σ C 0 k) := tkl.rf.si _ (Or.inr ⟨rfl, rfl⟩)
theorem fs_Cs (v1 v2 : Int32) : tkl (fs_C X C) (fun _ _ => False) σ (F_X0_foresee X σ (q_rf X C 8) v1 v2) := (fs_all v1 v2).mono (fun b f z => Or.inl z) (fun _ _ z => z)
theorem fs_gn {σ1 : ST} (h : tkl (fs_C X C) (fun _ _ => False) σ σ1) (v : Int32) : tkl (fs_C X C) (fun _ _ => False) σ (q_bi (F_X11_goodOrNotThere X σ1 C v) (fun r s => (r, s))).2 := by
  rw [ob_pe]
  unfold F_X11_goodOrNotThere
  split
  · rw [ob_pe, mv_none]
    exact h.tr (fs_C0 _)
  · rw [ob_pe, mv_good]
    exact h.tr (fs_C0 _)
theorem fs_honestly (v1 v2 : Int32) : tkl (fs_C X C) (fun _ _ => False) σ (F_X11_honestly X σ C v1 v2).2 := by
  unfold F_X11_honestly
  rw [q_letE (F_X11_forecastStatus X σ C v1 v2)]
  split
  · rw [q_letE (F_X0_foresee X σ (q_rf X C 8) v1 v2), q_letE, ob_pe, mv_good]
    exact (fs_Cs v1 v2).tr (fs_C0 _)
  · rw [ob_pe, mv_none]
    exact fs_C0 _
theorem fs_rid (v1 : Int32) : tkl (fs_C X C) (fun _ _ => False) σ (F_X11_rid X σ C v1).2 := by
  unfold F_X11_rid
  rw [q_letE (F_X11_isPlayer X σ C v1)]
  split
  · rw [ob_pe, mv_none]
    exact fs_C0 _
  · rw [q_letE (F_X0_foresee X σ (q_rf X C 8) v1 60), q_letE]
    exact fs_gn (fs_Cs v1 60) _
theorem fs_mustLie (v1 : Int32) : tkl (fs_C X C) (fun _ _ => False) σ (F_X11_mustLie X σ C v1).2 := by
  unfold F_X11_mustLie
  rw [q_letE (F_X11_isPlayer X σ C v1)]
  split
  · rw [ob_pe, mv_none]
    exact fs_C0 _
  · rw [q_letE (F_X0_foresee X σ (q_rf X C 8) v1 60), q_letE]
    exact fs_gn (fs_Cs v1 60) _
theorem fs_lastKind (v1 : Int32) : tkl (fs_C X C) (fun _ _ => False) σ (F_X11_lastKind X σ C v1).2 := by
  unfold F_X11_lastKind
  rw [q_letE (F_X11_isPlayer X σ C v1)]
  split
  · rw [ob_pe, mv_none]
    exact fs_C0 _
  · rw [q_letE (F_X0_foresee X σ (q_rf X C 8) v1 60)]
    have h := fs_Cs (X := X) (C := C) (σ := σ) v1 60
    obtain ⟨σ6, e6⟩ : ∃ t, t = F_X0_foresee X σ (q_rf X C 8) v1 60 := ⟨_, rfl⟩
    rw [← e6] at h ⊢
    rw [q_letE (σ6.1 (q_rf X C 8) 12)]
    split
    · exact fs_gn h _
    · rw [q_letE (σ6.1 (q_rf X C 8) 13)]
      exact fs_gn h _
theorem fs_soonestL (fu : Nat) : ∀ (x y z : Int32) (σ1 : ST), tkl (fs_C X C) (fun _ _ => False) σ σ1 → tkl (fs_C X C) (fun _ _ => False) σ (F_X11_soonest_L7_1 X C fu x y z σ1).2 := by
  induction fu with
  | zero => intro x y z σ1 h; exact h
  | succ fu ih =>
    intro x y z σ1 h
    rw [F_X11_soonest_L7_1_s]
    unfold F_X11_soonest_B7_1
    rw [q_letE (σ1.1 (q_rf X (q_rf X C 8) 0) 4)]
    split
    · rw [q_letE (F_X0_foresee X σ1 (q_rf X C 8) z 60)]
      have h2 := h.tr (fs_Cs (X := X) (C := C) (σ := σ1) z 60)
      obtain ⟨σ6, e6⟩ : ∃ t, t = F_X0_foresee X σ1 (q_rf X C 8) z 60 := ⟨_, rfl⟩
      rw [← e6] at h2 ⊢
      rw [q_letE (σ6.1 (q_rf X C 8) 12)]
      split
      · rw [q_letE (z + 1)]
        exact ih _ _ _ _ h2
      · rw [q_letE (σ6.1 (q_rf X C 8) 12)]
        split
        · rw [q_letE (σ6.1 (q_rf X C 8) 12), q_letE (z + 1)]
          exact ih _ _ _ _ h2
        · rw [q_letE (z + 1)]
          exact ih _ _ _ _ h2
    · unfold F_X11_soonest_E69_2
      exact fs_gn h _
theorem fs_soonest : tkl (fs_C X C) (fun _ _ => False) σ (F_X11_soonest X σ C).2 := by
  unfold F_X11_soonest
  exact fs_soonestL _ _ _ _ _ tkl.rf
end KP

/-! FROM 49zw.wrap.lean.txt -/
/-- what an object's cells hold as it begins -/
def y_ik (k : Nat) : Bool := k == 1 || k == 3 || k == 6 || k == 7 || k == 8 || k == 10 || k == 11 || k == 12 || k == 20
def y_iv (k f : Nat) : Int32 := match k with
  | 1 => match f with | 6 => -1 | 12 => -1 | 13 => -1 | 14 => -1 | _ => 0
  | 6 => match f with | 0 => 2 | 1 => 1 | 3 => 4 | _ => 0
  | 10 => match f with | 1 => -1 | _ => 0
  | 11 => match f with | 6 => -1 | 7 => -1 | _ => 0
  | 12 => match f with | 10 => -1 | 11 => -1 | _ => 0
  | _ => 0
def y_il (k f : Nat) : Int64 := match k with
  | 11 => match f with | 2 => 1 | _ => 0
  | 12 => match f with | 3 => 1 | _ => 0
  | _ => 0
def y_IV (X : XW) (σ : ST) : Prop := ∀ a, y_ik (q_kd X a) = true → ∀ f, (20 ≤ q_kd X a ∨ f < 60) → σ.1 a f = y_iv (q_kd X a) f ∧ σ.2.1 a f = y_il (q_kd X a) f
/-! THE MOVERS AS ONE -/
section OW
variable {X : XW} {lb : Nat → Nat} {C a : Nat} {σ τ : ST} {n : Int}
theorem ob_mk {P Q : Int32 × ST} {z z' : Int32} {σ' τ' : ST} (e1 : P = (z, σ')) (e2 : Q = (z', τ')) (h : z.toInt = z'.toInt) (s : (σ'.1 C 0).toInt = (τ'.1 a 0).toInt) (A : al_R X C a σ' τ') : ob_O X C a P Q := by
  rw [e1, e2]
  exact ⟨h, s, A⟩
theorem ob_W (M : m_M (m_c X τ a) (τ.1 a 24).toInt n) (hn : n ≤ 1000000) : ∀ q : Int, 0 ≤ q → q < 6 → (0 ≤ m_c X τ a (22 + q) ∧ m_c X τ a (22 + q) ≤ 1000000) ∧ 0 ≤ m_c X τ a (28 + q) ∧ m_c X τ a (28 + q) ≤ 1000000 := fun q q0 q1 => by
  have := M.1.2 q q0 q1
  omega
theorem ob_lay (K : al_C X lb C a) (A : al_R X C a σ τ) (M : m_M (m_c X τ a) (τ.1 a 24).toInt n) (p q r s : Int32) : ob_O X C a (F_X11_lay X σ C p q r s) (F_X12_lay X τ a p q r s) := by
  obtain ⟨kC, ka, S, lC, G8, G9, GM⟩ := id K
  obtain ⟨z, σ', z', τ', e1, e2, h, s, m⟩ := mv_lay S G8 (by omega) ka A.1.1 M.1.1 rfl p q r s
  exact ob_mk e1 e2 h s (A.mv K M m)
theorem ob_leave (K : al_C X lb C a) (A : al_R X C a σ τ) (M : m_M (m_c X τ a) (τ.1 a 24).toInt n) : ob_O X C a (F_X11_leave X σ C) (F_X12_leave X τ a) := by
  obtain ⟨kC, ka, S, lC, G8, G9, GM⟩ := id K
  obtain ⟨z, σ', z', τ', e1, e2, h, s, m⟩ := mv_leave S G8 (by omega) ka A.1.1 M.1.1 rfl
  exact ob_mk e1 e2 h s (A.mv K M m)
theorem ob_doubt (K : al_C X lb C a) (A : al_R X C a σ τ) (M : m_M (m_c X τ a) (τ.1 a 24).toInt n) (hn : n ≤ 1000000) (v : Int32) : ob_O X C a (F_X11_doubt X σ C v) (F_X12_doubt X τ a v) := by
  obtain ⟨kC, ka, S, lC, G8, G9, GM⟩ := id K
  obtain ⟨z, σ', z', τ', e1, e2, h, s, m⟩ := mv_doubt S G8 (by omega) ka A.1.1 M.1.1 (ob_W M hn) rfl v
  exact ob_mk e1 e2 h s (A.mv K M m)
theorem ob_bend (K : al_C X lb C a) (A : al_R X C a σ τ) (M : m_M (m_c X τ a) (τ.1 a 24).toInt n) (v x y : Int32) : ob_O X C a (F_X11_bend X σ C v x y) (F_X12_bend X τ a v x y) := by
  obtain ⟨kC, ka, S, lC, G8, G9, GM⟩ := id K
  obtain ⟨z, σ', z', τ', e1, e2, h, s, m⟩ := mv_bend S G8 (by omega) ka A.1.1 M.1.1 rfl v x y
  exact ob_mk e1 e2 h s (A.mv K M m)
theorem ob_mark (K : al_C X lb C a) (A : al_R X C a σ τ) (M : m_M (m_c X τ a) (τ.1 a 24).toInt n) : ob_O X C a (F_X11_mark X σ C) (F_X12_mark X τ a) := by
  obtain ⟨z, σ', z', τ', e1, e2, h, s, m⟩ := al_mark K A M
  exact ob_mk e1 e2 h s m
theorem ob_back (K : al_C X lb C a) (A : al_R X C a σ τ) (M : m_M (m_c X τ a) (τ.1 a 24).toInt n) : ob_O X C a (F_X11_back X σ C) (F_X12_back X τ a) := by
  obtain ⟨z, σ', z', τ', e1, e2, h, s, m⟩ := al_back K A M
  exact ob_mk e1 e2 h s m
/-! THE START OF BOTH -/
theorem al_start (K : al_C X lb C a) (I : y_IV X σ) (h24 : σ.1 a 24 = 0) (hc : ∀ j, σ.1 (q_rf X a 20) j = if j = 6 then -1 else if j = 8 then -1 else if j = 4 then 4 else if j = 1 then 1 else if j = 0 then 2 else 0) : al_R X C a σ σ ∧ al_P X C a σ σ ∧ (σ.1 C 0).toInt = (σ.1 a 0).toInt ∧ (σ.1 C 6).toInt = (σ.1 a 10).toInt ∧ (σ.1 C 7).toInt = (σ.1 a 11).toInt ∧ σ.2.1 C 1 = σ.2.1 a 2 ∧ σ.2.1 C 2 = σ.2.1 a 3 := by
  obtain ⟨kC, ka, S, lC, G8, G9, GM⟩ := id K
  have z0 : (0 : Int32).toInt = 0 := rfl
  have c11 : ∀ f, f < 60 → σ.1 C f = y_iv 11 f ∧ σ.2.1 C f = y_il 11 f := fun f hf => by
    have z := I C (by rw [kC]; rfl) f (Or.inr hf)
    rw [kC] at z
    exact z
  have c12 : ∀ f, f < 60 → σ.1 a f = y_iv 12 f ∧ σ.2.1 a f = y_il 12 f := fun f hf => by
    have z := I a (by rw [ka]; rfl) f (Or.inr hf)
    rw [ka] at z
    exact z
  have vk : ∀ (id : Nat) (i : Int), id < 25 → 0 ≤ i → (y_ki id = 20 ∨ i < 60) → y_v X (q_rf X C 8) σ id i = (y_iv (y_ki id) i.toNat).toInt := fun id i h h0 h1 => by
    have k := (y_gf S G8 id h).2.1
    have ik : y_ik (y_ki id) = true := by
      rcases (by omega : id = 0 ∨ id = 1 ∨ id = 2 ∨ id = 3 ∨ 4 ≤ id) with e | e | e | e | e
      · subst e; rfl
      · subst e; rfl
      · subst e; rfl
      · subst e; rfl
      · have : y_ki id = 20 := by
          unfold y_ki
          split <;> first | omega | rfl
        rw [this]
        rfl
    have z := (I (y_gA X (q_rf X C 8) id) (by rw [k]; exact ik) i.toNat (by
      rw [k]
      rcases h1 with h1 | h1
      · exact Or.inl (by omega)
      · exact Or.inr (by omega))).1
    rw [k] at z
    unfold y_v
    rw [if_pos ⟨h, h0⟩, z]
  have v20 : ∀ (id : Nat) (i : Int), 4 ≤ id → id < 25 → 0 ≤ i → y_v X (q_rf X C 8) σ id i = 0 := fun id i h h' h0 => by
    have k : y_ki id = 20 := by
      unfold y_ki
      split <;> first | omega | rfl
    rw [vk id i h' h0 (Or.inl k), k]
    rfl
  have mc : ∀ j : Int, 0 ≤ j → m_c X σ a j = if j = 6 then -1 else if j = 8 then -1 else if j = 4 then 4 else if j = 1 then 1 else if j = 0 then 2 else 0 := fun j j0 => by
    show (σ.1 (q_rf X a 20) j.toNat).toInt = _
    rw [hc]
    rcases (by omega : j = 6 ∨ j = 8 ∨ j = 4 ∨ j = 1 ∨ j = 0 ∨ (j ≠ 6 ∧ j ≠ 8 ∧ j ≠ 4 ∧ j ≠ 1 ∧ j ≠ 0)) with e | e | e | e | e | e
    · subst e; rfl
    · subst e; rfl
    · subst e; rfl
    · subst e; rfl
    · subst e; rfl
    · rw [if_neg (by omega), if_neg (by omega), if_neg (by omega), if_neg (by omega), if_neg (by omega), if_neg e.1, if_neg e.2.1, if_neg e.2.2.1, if_neg e.2.2.2.1, if_neg e.2.2.2.2]
      rfl
  have m0 : ∀ j : Int, j ≠ 6 → j ≠ 8 → j ≠ 4 → j ≠ 1 → 1 ≤ j → m_c X σ a j = 0 := fun j h6 h8 h4 h1 h0 => by
    rw [mc j (by omega), if_neg h6, if_neg h8, if_neg h4, if_neg h1, if_neg (by omega)]
  have c0 : m_c X σ a 0 = 2 := mc 0 (by decide)
  have c1 : m_c X σ a 1 = 1 := mc 1 (by decide)
  have c4 : m_c X σ a 4 = 4 := mc 4 (by decide)
  have c8 : m_c X σ a 8 = -1 := mc 8 (by decide)
  have c2 : m_c X σ a 2 = 0 := m0 2 (by decide) (by decide) (by decide) (by decide) (by decide)
  have c9 : m_c X σ a 9 = 0 := m0 9 (by decide) (by decide) (by decide) (by decide) (by decide)
  have c655 : m_c X σ a 655 = 0 := m0 655 (by decide) (by decide) (by decide) (by decide) (by decide)
  have c654 : m_c X σ a 654 = 0 := m0 654 (by decide) (by decide) (by decide) (by decide) (by decide)
  have e11 : σ.1 C 11 = 0 := (c11 11 (by decide)).1
  refine ⟨⟨⟨⟨⟨?_, ?_, ?_, ?_, ?_, ?_, ?_⟩, ⟨?_, ?_, ⟨?_, ?_⟩, ?_⟩, fun p p0 p1 => ?_, ⟨fun j j0 j1 => ?_, fun p p0 p1 => ?_⟩, ⟨?_, ?_, fun k k0 k1 => ?_⟩, ⟨fun p k p0 p1 k0 k1 => ?_, fun k k0 k1 => ?_⟩⟩, ?_, ?_, ?_, ?_, ?_, 0, ?_⟩, ?_, ?_, fun b b1 b2 => ?_⟩, ⟨?_, ?_⟩, ?_, ?_, ?_, ?_, ?_⟩
  · rw [vk 1 0 (by decide) (by decide) (Or.inr (by decide)), c0]; rfl
  · rw [vk 1 1 (by decide) (by decide) (Or.inr (by decide)), c1]; rfl
  · rw [vk 1 2 (by decide) (by decide) (Or.inr (by decide)), m0 3 (by decide) (by decide) (by decide) (by decide) (by decide)]; rfl
  · rw [vk 1 3 (by decide) (by decide) (Or.inr (by decide)), c4]; rfl
  · rw [vk 1 4 (by decide) (by decide) (Or.inr (by decide)), c2]; rfl
  · rw [m0 3 (by decide) (by decide) (by decide) (by decide) (by decide)]; decide
  · rw [m0 3 (by decide) (by decide) (by decide) (by decide) (by decide)]; decide
  · rw [vk 0 4 (by decide) (by decide) (Or.inr (by decide)), m0 5 (by decide) (by decide) (by decide) (by decide) (by decide)]; rfl
  · rw [vk 0 5 (by decide) (by decide) (Or.inr (by decide)), if_pos c2]; rfl
  · rw [vk 0 6 (by decide) (by decide) (Or.inr (by decide)), c8]; rfl
  · rw [c8]; decide
  · rw [vk 0 7 (by decide) (by decide) (Or.inr (by decide)), m0 7 (by decide) (by decide) (by decide) (by decide) (by decide)]; rfl
  · rw [v20 10 p (by decide) (by decide) p0, v20 11 p (by decide) (by decide) p0, v20 12 p (by decide) (by decide) p0, v20 13 p (by decide) (by decide) p0, m0 _ (by omega) (by omega) (by omega) (by omega) (by omega), m0 _ (by omega) (by omega) (by omega) (by omega) (by omega), m0 _ (by omega) (by omega) (by omega) (by omega) (by omega), m0 _ (by omega) (by omega) (by omega) (by omega) (by omega)]
    exact ⟨rfl, rfl, rfl, rfl⟩
  · rw [v20 7 j (by decide) (by decide) j0, m0 _ (by omega) (by omega) (by omega) (by omega) (by omega)]
  · rw [v20 9 p (by decide) (by decide) p0]
    exact (m_S_z (fun j j0 j1 => m0 j (by omega) (by omega) (by omega) (by omega) (by omega))).symm
  · rw [vk 2 0 (by decide) (by decide) (Or.inr (by decide)), c9]; rfl
  · rw [vk 2 1 (by decide) (by decide) (Or.inr (by decide)), c9]; rfl
  · rw [c9] at k1; omega
  · rw [v20 8 _ (by decide) (by decide) (by omega), c9]; rfl
  · rw [v20 4 k (by decide) (by decide) k0]
    unfold m_I
    rw [c9, c2]
    rfl
  · intro p p0 p1
    rw [c2] at p1
    omega
  · rw [vk 3 0 (by decide) (by decide) (Or.inr (by decide)), c654]; rfl
  · exact Or.inl c654
  · rw [vk 3 1 (by decide) (by decide) (Or.inr (by decide)), c655]; rfl
  · rw [vk 3 2 (by decide) (by decide) (Or.inr (by decide))]; decide
  · rw [vk 3 2 (by decide) (by decide) (Or.inr (by decide)), c655]
    exact ⟨rfl, rfl⟩
  · rw [e11, h24]
  · rw [e11]; decide
  · rw [e11, z0] at b2; omega
  · rw [(c11 16 (by decide)).1, (c12 37 (by decide)).1]; rfl
  · intro h
    exact absurd (by rw [(c12 37 (by decide)).1]; rfl) h
  · rw [(c11 0 (by decide)).1, (c12 0 (by decide)).1]; rfl
  · rw [(c11 6 (by decide)).1, (c12 10 (by decide)).1]; rfl
  · rw [(c11 7 (by decide)).1, (c12 11 (by decide)).1]; rfl
  · rw [(c11 1 (by decide)).2, (c12 2 (by decide)).2]; rfl
  · rw [(c11 2 (by decide)).2, (c12 3 (by decide)).2]; rfl
end OW
