/-! FROM 49d.merged.lean.txt -/
section
/-! FROM 49zl.other.lean.txt -/
/-! A ROUND PLAYED: both draw alike, both find the same other kind -/
section PA
variable {X : XW} {lb : Nat → Nat} {g o a R : Nat} {σ τ σ0 : ST} {V : Nat → Int → Int} {c : Int → Int}
theorem pl_draw (h : σ.1 R 6 = τ.1 a 39) : ∃ (z s : Int32), F_X7_draw X σ R = (z, q_si σ R 6 s) ∧ F_X12_draw X τ a = (z, q_si τ a 39 s) := by
  obtain ⟨w, hw⟩ : ∃ w, w = (σ.1 R 6 * (2861 : Int32) + (10259 : Int32)) % (65536 : Int32) := ⟨_, rfl⟩
  refine ⟨w / 8 % 16, w, ?_, ?_⟩
  · unfold F_X7_draw
    rw [q_letE (σ.1 R 6), q_letE (σ.1 R 6 * (2861 : Int32)), q_letE (σ.1 R 6 * (2861 : Int32) + (10259 : Int32)), q_letE ((σ.1 R 6 * (2861 : Int32) + (10259 : Int32)) % (65536 : Int32)), ← hw, q_letE (q_si σ R 6 w), q_letE ((q_si σ R 6 w).1 R 6), si_eq, q_letE (w / (8 : Int32)), q_letE (w / (8 : Int32) % (16 : Int32))]
  · unfold F_X12_draw
    rw [← h, q_letE (σ.1 R 6), q_letE (σ.1 R 6 * (2861 : Int32)), q_letE (σ.1 R 6 * (2861 : Int32) + (10259 : Int32)), q_letE ((σ.1 R 6 * (2861 : Int32) + (10259 : Int32)) % (65536 : Int32)), ← hw, q_letE (q_si τ a 39 w), q_letE ((q_si τ a 39 w).1 a 39), si_eq, q_letE (w / (8 : Int32)), q_letE (w / (8 : Int32) % (16 : Int32))]
theorem gm_min (x y : Int32) : (F_J9_min_7cf53 X σ x y).toInt = if y.toInt < x.toInt then y.toInt else x.toInt := by
  unfold F_J9_min_7cf53
  split <;> rfl
theorem gm_held (Y : y_S X lb) (G : y_G X lb g o) (w : y_W X lb g o σ0 σ V) {x y : Int32} {p k : Int} (hx : x.toInt = p) (hy : y.toInt = k) (hp : 0 ≤ p ∧ p < 6) (hk : 0 ≤ k ∧ k < 10) : (F_X1_heldBy X σ (q_rf X g 1) x y).toInt = V 7 (10 * p + k) := by
  have e10 : (10 : Int32).toInt = 10 := rfl
  have n7 : ((y_gn 7 : Nat) : Int) = 60 := rfl
  have ix : (x * (10 : Int32) + y).toInt = 10 * p + k := by
    rw [ar_add, ar_mul, e10, hx, hy, ar_wr (n := p * 10) (by omega) (by omega), ar_wr (by omega) (by omega)]
    omega
  unfold F_X1_heldBy
  rw [q_letE (x * (10 : Int32)), q_letE (x * (10 : Int32) + y), q_letE]
  exact y_getI Y G w (id := 7) (r := q_rf X (q_rf X g 1) 0) ⟨by decide, by decide⟩ rfl ix (by omega) (by rw [n7]; omega)
theorem pl_otherL (Y : y_S X lb) (G : y_G X lb g o) (w : y_W X lb g o σ0 σ V) (Rg : rg V c) (hG : m_G c) (hc : m_c X τ a = c) {p : Int} (h6 : V 0 5 = p) (hp : 0 ≤ p ∧ p < 6) {v1 : Int32} (hv : v1.toInt = p) (fu : Nat) : ∀ x m y : Int32, (2147483647 - y.toInt).toNat < fu → 0 ≤ y.toInt → y.toInt ≤ c 0 →
    ((x.toInt = -1 ∧ m.toInt = 0 ∧ ∀ k : Int, 0 ≤ k → k < y.toInt → k ≠ c 5 → c (34 + 10 * p + k) ≤ 0) ∨ ((0 ≤ x.toInt ∧ x.toInt < c 0) ∧ x.toInt ≠ c 5 ∧ m.toInt = c (34 + 10 * p + x.toInt) ∧ 0 < m.toInt)) →
    ∃ z : Int32, F_X7_fullestOther_L6_1 X σ g fu x m y = z ∧ F_X12_otherKind_L4_1 X τ a v1 fu x y = z ∧ ((z.toInt = -1 ∧ ∀ k : Int, 0 ≤ k → k < c 0 → k ≠ c 5 → c (34 + 10 * p + k) ≤ 0) ∨ ((0 ≤ z.toInt ∧ z.toInt < c 0) ∧ z.toInt ≠ c 5 ∧ 0 < c (34 + 10 * p + z.toInt))) := by
  obtain ⟨b0, b2, b4, b5, b6, b7, b9, b79⟩ := hG.1
  have f0 : (σ.1 (q_rf X g 0) 0).toInt = c 0 := (w.rd (id := 1) (by decide) 0 rfl).trans Rg.1.1
  have f5 : (σ.1 g 5).toInt = p := (w.rd (id := 0) (by decide) 5 rfl).trans h6
  have f4 : (σ.1 g 4).toInt = c 5 := (w.rd (id := 0) (by decide) 4 rfl).trans Rg.2.1.1
  have t0 : (τ.1 (q_rf X a 20) (0 : Int32).toNatClampNeg).toInt = c 0 := gm_cell (A := 0) hc rfl
  have t5 : (τ.1 (q_rf X a 20) (5 : Int32).toNatClampNeg).toInt = c 5 := gm_cell (A := 5) hc rfl
  induction fu with
  | zero => intro x m y h; exact absurd h (Nat.not_lt_zero _)
  | succ fu ih =>
    intro x m y hf y0 y1 inv
    rw [F_X7_fullestOther_L6_1_s, F_X12_otherKind_L4_1_s]
    unfold F_X7_fullestOther_B6_1 F_X12_otherKind_B4_1
    rw [q_letE (σ.1 (q_rf X g 0) 0), f0, q_letE (τ.1 (q_rf X a 20) (0 : Int32).toNatClampNeg), t0]
    by_cases q : y.toInt < c 0
    · have e1 : (y + 1).toInt = y.toInt + 1 := y_inc (by omega)
      obtain ⟨hh, ehh⟩ : ∃ h, h = c (34 + 10 * p + y.toInt) := ⟨_, rfl⟩
      have e34 : (34 : Int) + (10 * p + y.toInt) = 34 + 10 * p + y.toInt := by omega
      have hl : (F_X1_heldBy X σ (q_rf X g 1) (σ.1 g 5) y).toInt = hh := by
        rw [gm_held Y G w f5 rfl hp ⟨y0, by omega⟩, Rg.2.2.2.1.1 _ (by omega) (by omega), e34, ehh]
      have ho : (F_X12_handOf X τ a v1 y).toInt = hh := (gm_handOf hc hv rfl hp ⟨y0, by omega⟩).trans ehh.symm
      rw [if_pos q, if_pos q, q_letE (σ.1 g 5), q_letE (F_X1_heldBy X σ (q_rf X g 1) (σ.1 g 5) y), q_letE (σ.1 g 4), f4, q_letE (τ.1 (q_rf X a 20) (5 : Int32).toNatClampNeg), t5, hl]
      by_cases q5 : y.toInt = c 5
      · rw [if_pos q5, if_pos q5, q_letE (y + 1), q_letE (y + 1)]
        refine ih x m (y + 1) (by omega) (by omega) (by omega) ?_
        rcases inv with ⟨i1, i2, i3⟩ | i
        · refine Or.inl ⟨i1, i2, fun k k0 k1 k5 => i3 k k0 ?_ k5⟩
          rw [e1] at k1
          rw [← q5] at k5
          omega
        · exact Or.inr i
      · rw [if_neg q5, if_neg q5, q_letE (F_X12_handOf X τ a v1 y), ho]
        rcases inv with ⟨i1, i2, i3⟩ | ⟨i1, i2, i3, i4⟩
        · rw [i2]
          by_cases q0 : 0 < hh
          · rw [if_pos q0, if_pos q0, if_pos (by omega : x.toInt < 0), q_letE (y + 1), q_letE (y + 1)]
            exact ih y _ (y + 1) (by omega) (by omega) (by omega) (Or.inr ⟨⟨y0, q⟩, q5, hl.trans ehh, by rw [hl]; exact q0⟩)
          · rw [if_neg q0, if_neg q0, q_letE (y + 1), q_letE (y + 1)]
            refine ih x m (y + 1) (by omega) (by omega) (by omega) (Or.inl ⟨i1, i2, fun k k0 k1 k5 => ?_⟩)
            rw [e1] at k1
            by_cases e : k = y.toInt
            · rw [e, ← ehh]; omega
            · exact i3 k k0 (by omega) k5
        · have hx : (F_X12_handOf X τ a v1 x).toInt = m.toInt := (gm_handOf hc hv rfl hp ⟨i1.1, by omega⟩).trans i3.symm
          by_cases q0 : m.toInt < hh
          · rw [if_pos q0, if_pos (by omega : 0 < hh), if_neg (by omega : ¬ x.toInt < 0), q_letE (F_X12_handOf X τ a v1 y), q_letE (F_X12_handOf X τ a v1 x), ho, hx, if_pos q0, q_letE (y + 1), q_letE (y + 1)]
            exact ih y _ (y + 1) (by omega) (by omega) (by omega) (Or.inr ⟨⟨y0, q⟩, q5, hl.trans ehh, by rw [hl]; omega⟩)
          · rw [if_neg q0, q_letE (y + 1)]
            have nx := ih x m (y + 1) (by omega) (by omega) (by omega) (Or.inr ⟨i1, i2, i3, i4⟩)
            by_cases q1 : 0 < hh
            · rw [if_pos q1, if_neg (by omega : ¬ x.toInt < 0), q_letE (F_X12_handOf X τ a v1 y), q_letE (F_X12_handOf X τ a v1 x), ho, hx, if_neg q0, q_letE (y + 1)]
              exact nx
            · rw [if_neg q1, q_letE (y + 1)]
              exact nx
    · have ey : y.toInt = c 0 := by omega
      rw [if_neg q, if_neg q]
      refine ⟨x, rfl, rfl, ?_⟩
      rcases inv with ⟨i1, i2, i3⟩ | ⟨i1, i2, i3, i4⟩
      · rw [ey] at i3
        exact Or.inl ⟨i1, i3⟩
      · rw [i3] at i4
        exact Or.inr ⟨i1, i2, i4⟩
/-- the fullest other kind -/
theorem pl_other (Y : y_S X lb) (G : y_G X lb g o) (w : y_W X lb g o σ0 σ V) (Rg : rg V c) (hG : m_G c) (hc : m_c X τ a = c) {p : Int} (h6 : V 0 5 = p) (hp : 0 ≤ p ∧ p < 6) {v1 : Int32} (hv : v1.toInt = p) :
    ∃ z : Int32, F_X7_fullestOther X σ g = z ∧ F_X12_otherKind X τ a v1 = z ∧ ((z.toInt = -1 ∧ ∀ k : Int, 0 ≤ k → k < c 0 → k ≠ c 5 → c (34 + 10 * p + k) ≤ 0) ∨ ((0 ≤ z.toInt ∧ z.toInt < c 0) ∧ z.toInt ≠ c 5 ∧ 0 < c (34 + 10 * p + z.toInt))) := by
  have z0 : (0 : Int32).toInt = 0 := rfl
  unfold F_X7_fullestOther F_X12_otherKind
  exact pl_otherL Y G w Rg hG hc h6 hp hv _ (-1) 0 0 (by decide) (by decide) (by rw [z0]; have := hG.1.1; omega) (Or.inl ⟨rfl, rfl, fun k k0 k1 => by rw [z0] at k1; omega⟩)
end PA

/-! FROM 49zm.choose.lean.txt -/
/-! A ROUND PLAYED: what is laid, in both -/
/-- what the class writes in a turn: the game's own cells, the run's numbers -/
def pl_Sc (lb : Nat → Nat) (o R : Nat) (b f : Nat) : Prop := lb b / 8192 = o ∨ b = R ∧ 1 ≤ f ∧ f ≤ 6 ∧ f ≠ 5
/-- what the reference writes in a turn -/
def pl_Sr (X : XW) (a : Nat) (b f : Nat) : Prop := b = q_rf X a 20 ∨ b = q_rf X a 28 ∨ b = a ∧ (f = 39 ∨ 42 ≤ f ∧ f ≤ 44)
/-- what stays in a turn -/
def pl_fix (V V' : Nat → Int → Int) (c c' : Int → Int) : Prop := (∀ (id : Nat) (i : Int), id = 1 ∨ id = 3 ∨ id = 5 ∨ id = 6 ∨ 18 ≤ id ∧ id < 23 → V' id i = V id i) ∧ ∀ j : Int, 0 ≤ j → j ≤ 4 ∨ 654 ≤ j → c' j = c j
theorem pl_fix.rf {V : Nat → Int → Int} {c : Int → Int} : pl_fix V V c c := ⟨fun _ _ _ => rfl, fun _ _ _ => rfl⟩
theorem pl_fix.tr {V V' V2 : Nat → Int → Int} {c c' c2 : Int → Int} (h : pl_fix V V' c c') (k : pl_fix V' V2 c' c2) : pl_fix V V2 c c2 := ⟨fun id i q => (k.1 id i q).trans (h.1 id i q), fun j j0 q => (k.2 j j0 q).trans (h.2 j j0 q)⟩
theorem m_S_z {f : Int → Int} {b : Int} {n : Nat} (h : ∀ j : Int, b ≤ j → j < b + (n : Int) → f j = 0) : m_S f b n = 0 := by
  induction n with
  | zero => rfl
  | succ n ih =>
    show m_S f b n + f (b + (n : Int)) = 0
    rw [ih (fun j j0 j1 => h j j0 (by omega)), h (b + (n : Int)) (by omega) (by omega)]
    rfl
/-- a hand of one kind alone, or of another one too -/
theorem pl_hand {c : Int → Int} (hG : m_G c) {p : Int} (hp : 0 ≤ p ∧ p < 6) : c (34 + 10 * p + c 5) ≤ m_S c (34 + 10 * p) 10 ∧ ((∀ k : Int, 0 ≤ k → k < c 0 → k ≠ c 5 → c (34 + 10 * p + k) ≤ 0) → m_S c (34 + 10 * p) 10 = c (34 + 10 * p + c 5)) ∧ ∀ z : Int, 0 ≤ z ∧ z < c 0 → z ≠ c 5 → c (34 + 10 * p + z) + c (34 + 10 * p + c 5) ≤ m_S c (34 + 10 * p) 10 := by
  obtain ⟨b0, b2, b4, b5, b6, b7, b9, b79⟩ := hG.1
  have nn : ∀ j : Int, 34 + 10 * p ≤ j → j < 34 + 10 * p + ((10 : Nat) : Int) → 0 ≤ c j := fun j j0 j1 => hG.hand0 (by omega) (by omega)
  obtain ⟨A, hA⟩ : ∃ A, A = 34 + 10 * p + c 5 := ⟨_, rfl⟩
  obtain ⟨f, hf⟩ : ∃ f : Int → Int, f = fun j => if j = A then 0 else c j := ⟨_, rfl⟩
  have f1 : ∀ j : Int, f j = if j = A then 0 else c j := fun j => by rw [hf]
  have u := m_S_upd (c := c) (c' := f) (b := 34 + 10 * p) (A := A) (v := 0) (n := 10) (fun j _ _ => f1 j) (by omega) (by omega)
  have fn : ∀ j : Int, 34 + 10 * p ≤ j → j < 34 + 10 * p + ((10 : Nat) : Int) → 0 ≤ f j := fun j j0 j1 => by
    rw [f1]
    split
    · exact Int.le_refl 0
    · exact nn j j0 j1
  rw [← hA]
  refine ⟨m_S_ge nn (by omega) (by omega), fun h => ?_, fun z z0 z5 => ?_⟩
  · have e := m_S_z (f := f) (b := 34 + 10 * p) (n := 10) (fun j j0 j1 => by
      rw [f1]
      split
      · rfl
      · rename_i q
        have x := nn j j0 j1
        have ej : j = 34 + 10 * p + (j - (34 + 10 * p)) := by omega
        by_cases k : j - (34 + 10 * p) < c 0
        · have y := h (j - (34 + 10 * p)) (by omega) k (by omega)
          rw [← ej] at y
          omega
        · have y := (hG.2.1 p (j - (34 + 10 * p)) hp.1 hp.2 (by omega) (by omega)).2 (by omega)
          rw [← ej] at y
          exact y)
    omega
  · have e := m_S_ge (c := f) (A := 34 + 10 * p + z) fn (by omega) (by omega)
    rw [f1 (34 + 10 * p + z), if_neg (by omega)] at e
    omega
section PB
variable {X : XW} {lb : Nat → Nat} {g o a R : Nat} {σ σ' τ τ' σ0 τ0 : ST} {V V' : Nat → Int → Int} {c : Int → Int}
theorem pl_W (hV : y_v X g σ = V) : y_W X lb g o σ σ V := ⟨fun _ _ _ => rfl, rfl, hV⟩
theorem pl_Wt (w : y_W X lb g o σ σ' V') : tkl (pl_Sc lb o R) (fun _ _ => False) σ σ' := ⟨fun b f q => w.1 b (fun e => q (Or.inl e)) f, fun b f _ => by rw [w.2.1], by rw [w.2.1]⟩
theorem pl_vR (Y : y_S X lb) (G : y_G X lb g o) (hR : lb R / 8192 ≠ o) (f : Nat) (v : Int32) : y_v X g (q_si σ R f v) = y_v X g σ := y_v.k Y G (fun b hb f' => q_si_ne (fun e => hR (by rw [← e]; exact hb)) f')
theorem pl_vt (Y : y_S X lb) (G : y_G X lb g o) (hR : lb R / 8192 ≠ o) {P : Nat → Prop} (h : tkl (fun b f => b = R ∧ P f) (fun _ _ => False) σ σ') : y_v X g σ' = y_v X g σ := y_v.k Y G (fun b hb f' => h.1 b f' (fun z => hR (by rw [← z.1]; exact hb)))
theorem pl_mc (h : ∀ f, τ'.1 (q_rf X a 20) f = τ.1 (q_rf X a 20) f) : m_c X τ' a = m_c X τ a := by
  funext j
  exact congrArg Int32.toInt (h _)
theorem pl_k28 (hT : q_T X) (ha : q_kd X a = 12) : q_rf X a 28 ≠ q_rf X a 20 ∧ q_rf X a 28 ≠ a ∧ q_rf X a 20 ≠ a := by
  have k28 : q_kd X (q_rf X a 28) = 39 := (hT.1 a 28 (by rw [ha]; decide)).trans (by rw [ha]; rfl)
  have k20 := (tb_k hT ha).1
  exact ⟨m_ne k28 k20 (by decide), m_ne k28 ha (by decide), m_ne k20 ha (by decide)⟩
theorem pl_want (Y : y_S X lb) (G : y_G X lb g o) (w : y_W X lb g o σ0 σ V) {v n : Int32} {k m : Int} (hv : v.toInt = k) (hn : n.toInt = m) (hk : 0 ≤ k ∧ k < 10) (hm : 0 ≤ m ∧ m ≤ 10) (b : 0 ≤ V 23 k ∧ V 23 k ≤ 10) (b9 : 0 ≤ V 0 9 ∧ V 0 9 ≤ 20) :
    ∃ V' : Nat → Int → Int, y_W X lb g o σ0 (F_X0_want X σ g v n) V' ∧ (∀ (id : Nat) (i : Int), id ≠ 23 → (id ≠ 0 ∨ i ≠ 9) → V' id i = V id i) ∧ (∀ j : Int, V' 23 j = V 23 j + (if j = k then m else 0)) ∧ V' 0 9 = V 0 9 + m := by
  have gn : ((y_gn 23 : Nat) : Int) = 10 := rfl
  unfold F_X0_want
  rw [if_neg (by omega : ¬ v.toInt = -1), q_letE (F_X5_add X σ (q_rf X g 8) v n)]
  have w1 := w.add Y G (id := 23) (r := q_rf X g 8) ⟨by decide, by decide⟩ rfl v n (by omega) (by rw [gn]; omega)
  rw [hv, hn, ar_wr (by omega) (by omega)] at w1
  obtain ⟨τ1, e1⟩ : ∃ s, s = F_X5_add X σ (q_rf X g 8) v n := ⟨_, rfl⟩
  rw [← e1] at w1 ⊢
  have f9 : (τ1.1 g 9).toInt = V 0 9 := (w1.rd (id := 0) (by decide) 9 rfl).trans (y_up_ne (Or.inl (by decide)))
  rw [q_letE (τ1.1 g 9)]
  obtain ⟨u, hu⟩ : ∃ u, u = τ1.1 g 9 + n := ⟨_, rfl⟩
  have uv : u.toInt = V 0 9 + m := by rw [hu, ar_add, f9, hn, ar_wr (by omega) (by omega)]
  rw [← hu, q_letE u, q_letE (q_si τ1 g 9 u)]
  have w2 : y_W X lb g o σ0 (q_si τ1 g 9 u) (y_up (y_up V 23 k (V 23 k + m)) 0 9 u.toInt) := w1.si Y G (id := 0) (by decide) 9 u
  rw [uv] at w2
  refine ⟨_, w2, fun id i i23 i0 => ?_, fun j => ?_, y_up_eq _ _ _ _⟩
  · rw [y_up_ne i0, y_up_ne (Or.inl i23)]
  · rw [y_up_ne (Or.inl (by decide))]
    by_cases e : j = k
    · rw [if_pos e, e, y_up_eq]
    · rw [if_neg e, y_up_ne (Or.inr e)]
      omega
theorem pl_clear (Y : y_S X lb) (G : y_G X lb g o) (w : y_W X lb g o σ0 σ V) :
    ∃ V' : Nat → Int → Int, y_W X lb g o σ0 (F_X0_clearWanted X σ g) V' ∧ (∀ (id : Nat) (i : Int), id ≠ 23 → (id ≠ 0 ∨ i ≠ 9) → V' id i = V id i) ∧ (∀ j : Int, 0 ≤ j → j < 10 → V' 23 j = 0) ∧ V' 0 9 = 0 := by
  have gn23 : ((y_gn 23 : Nat) : Int) = 10 := rfl
  have wa := w.clear Y G (id := 23) (r := q_rf X g 8) ⟨by decide, by decide⟩ rfl
  have wb : y_W X lb g o σ0 (q_si (F_X5_clear X σ (q_rf X g 8)) g 9 0) (y_up (y_bl V 23 ((y_gn 23 : Nat) : Int) (fun _ => 0)) 0 9 0) := wa.si Y G (id := 0) (by decide) 9 0
  refine ⟨y_up (y_bl V 23 ((y_gn 23 : Nat) : Int) (fun _ => 0)) 0 9 0, ?_, fun id i i23 i0 => (y_up_ne i0).trans (if_neg (fun z => i23 z.1)), fun j j0 j1 => (y_up_ne (Or.inl (by decide))).trans (if_pos ⟨rfl, j0, by rw [gn23]; exact j1⟩), y_up_eq _ _ _ _⟩
  unfold F_X0_clearWanted
  rw [q_letE (F_X5_clear X σ (q_rf X g 8)), q_letE (q_si (F_X5_clear X σ (q_rf X g 8)) g 9 0)]
  exact wb
theorem pl_clr {v1 : Int32} (fu : Nat) : ∀ (x : Int32) (τ : ST), (2147483647 - x.toInt).toNat < fu → 0 ≤ x.toInt → x.toInt ≤ 10 → (∀ j : Int, 0 ≤ j → j < x.toInt → (τ.1 (q_rf X a 28) j.toNat).toInt = 0) → ∃ τ' : ST, F_X12_turns_L61_2 X a v1 fu x τ = F_X12_turns_E80_8 X τ' a v1 ∧ tkl (fun b _ => b = q_rf X a 28) (fun _ _ => False) τ τ' ∧ ∀ j : Int, 0 ≤ j → j < 10 → (τ'.1 (q_rf X a 28) j.toNat).toInt = 0 := by
  induction fu with
  | zero => intro x τ h; exact absurd h (Nat.not_lt_zero _)
  | succ fu ih =>
    intro x τ hf x0 x1 hz
    rw [F_X12_turns_L61_2_s]
    unfold F_X12_turns_B61_2
    by_cases q : x.toInt < 10
    · have ex : (x + 1).toInt = x.toInt + 1 := y_inc (by omega)
      rw [if_pos q, q_letE (q_si τ (q_rf X a 28) x.toNatClampNeg 0), q_letE (x + 1)]
      obtain ⟨τ', i1, i2, i3⟩ := ih (x + 1) (q_si τ (q_rf X a 28) x.toNatClampNeg 0) (by omega) (by omega) (by omega) (fun j j0 j1 => by
        show (if q_rf X a 28 = q_rf X a 28 ∧ j.toNat = x.toNatClampNeg then (0 : Int32) else τ.1 (q_rf X a 28) j.toNat).toInt = 0
        by_cases e : j = x.toInt
        · rw [if_pos ⟨rfl, by rw [ar_cl, e]⟩]; rfl
        · rw [if_neg (fun z => e (by have := z.2; rw [ar_cl] at this; omega))]
          exact hz j j0 (by omega))
      have t0 : tkl (fun b _ => b = q_rf X a 28) (fun _ _ => False) τ (q_si τ (q_rf X a 28) x.toNatClampNeg 0) := tkl.rf.si _ rfl
      exact ⟨τ', i1, t0.tr i2, i3⟩
    · rw [if_neg q]
      exact ⟨τ, rfl, tkl.rf, fun j j0 j1 => hz j j0 (by omega)⟩
/-- a card of another kind beside -/
theorem pl_l28 {l : Int → Int} {x v : Int32} {k m : Int} (hl : ∀ j : Int, 0 ≤ j → j < 10 → (τ.1 (q_rf X a 28) j.toNat).toInt = l j) (hx : x.toInt = k) (hk : 0 ≤ k ∧ k < 10) (hv : v.toInt = m) : ∀ j : Int, 0 ≤ j → j < 10 → ((q_si τ (q_rf X a 28) x.toNatClampNeg v).1 (q_rf X a 28) j.toNat).toInt = if j = k then m else l j := by
  intro j j0 j1
  show (if q_rf X a 28 = q_rf X a 28 ∧ j.toNat = x.toNatClampNeg then v else τ.1 (q_rf X a 28) j.toNat).toInt = _
  by_cases e : j = k
  · rw [if_pos ⟨rfl, by rw [ar_cl, hx, e]⟩, if_pos e, hv]
  · rw [if_neg (fun z => e (by have := z.2; rw [ar_cl] at this; omega)), if_neg e, hl j j0 j1]
/-- what both choose to lay -/
def pl_chosen (X : XW) (lb : Nat → Nat) (g o a R : Nat) (σ σ' τ τ' : ST) (V : Nat → Int → Int) (c l : Int → Int) : Prop :=
  tkl (pl_Sc lb o R) (fun _ _ => False) σ σ' ∧ (∀ f, f ≠ 6 → σ'.1 R f = σ.1 R f) ∧ σ'.1 R 6 = τ'.1 a 39 ∧ (∃ V' : Nat → Int → Int, y_v X g σ' = V' ∧ (∀ (id : Nat) (i : Int), id ≠ 23 → (id ≠ 0 ∨ i ≠ 9) → V' id i = V id i) ∧ ∀ j : Int, 0 ≤ j → j < 10 → V' 23 j = l j) ∧
  tkl (fun b f => b = q_rf X a 28 ∨ b = a ∧ f = 39) (fun _ _ => False) τ τ' ∧ m_c X τ' a = c ∧ (∀ j : Int, 0 ≤ j → j < 10 → (τ'.1 (q_rf X a 28) j.toNat).toInt = l j) ∧ m_lo c l (c 6)
theorem pl_choose (Y : y_S X lb) (G : y_G X lb g o) (ha : q_kd X a = 12) (hR : lb R / 8192 ≠ o) (hV : y_v X g σ = V) (Rg : rg V c) (hG : m_G c) (hc : m_c X τ a = c) (hd : σ.1 R 6 = τ.1 a 39) (h2 : 2 ≤ c 2) (hS : m_S c (34 + 10 * c 6) 10 ≠ 0) {v1 : Int32} (hv : v1.toInt = c 6) :
    ∃ (σ' τ' : ST) (l : Int → Int), F_X7_choose X σ R g = σ' ∧ F_X12_turns_L61_2 X a v1 ((2147483647 - (0 : Int32).toInt).toNat + 1) 0 τ = F_X12_turns_J163_4 X a v1 τ' ∧ pl_chosen X lb g o a R σ σ' τ τ' V c l := by
  obtain ⟨b0, b2, b4, b5, b6, b7, b9, b79⟩ := hG.1
  have hp : 0 ≤ c 6 ∧ c 6 < 6 := by omega
  have gn9 : ((y_gn 9 : Nat) : Int) = 6 := rfl
  have gn10 : ((y_gn 10 : Nat) : Int) = 6 := rfl
  have one : (1 : Int32).toInt = 1 := rfl
  have e10 : (10 : Int32).toInt = 10 := rfl
  obtain ⟨n80, n8a, n0a⟩ := pl_k28 Y.1 ha
  have w := pl_W (lb := lb) (o := o) hV
  have v5 : V 0 5 = c 6 := by
    have z := Rg.2.1.2.1
    rw [if_neg (by omega)] at z
    exact z
  have v4 : V 0 4 = c 5 := Rg.2.1.1
  obtain ⟨hd1, hd2, hd3⟩ := pl_hand hG hp
  obtain ⟨h, hh⟩ : ∃ h, h = c (34 + 10 * c 6 + c 5) := ⟨_, rfl⟩
  obtain ⟨S, hSS⟩ : ∃ S, S = m_S c (34 + 10 * c 6) 10 := ⟨_, rfl⟩
  have hb := hG.h80 (p := c 6) (k := c 5) hp.1 hp.2 b5.1 (by omega)
  rw [← hh] at hd1 hd2 hd3 hb
  rw [← hSS] at hd1 hd2 hd3 hS
  have v9 : V 9 (c 6) = S := (Rg.2.2.2.1.2 (c 6) hp.1 hp.2).trans hSS.symm
  have v10 : V 10 (c 6) = c (10 + c 6) := (Rg.2.2.1 (c 6) hp.1 hp.2).1
  obtain ⟨n, hn⟩ : ∃ n, n = if c 4 < h then c 4 else h := ⟨_, rfl⟩
  have hn' : n = if h < c 4 then h else c 4 := by
    rw [hn]
    split <;> split <;> omega
  have nb : (0 ≤ n ∧ n ≤ c 4) ∧ n ≤ h ∧ (n < c 4 → n = h) ∧ (n = 0 ↔ h = 0) := by
    rw [hn]
    split <;> omega
  -- the class: as many of the kind as it has
  have f1 : (σ.1 g 5).toInt = c 6 := (w.rd (id := 0) (by decide) 5 rfl).trans v5
  have f2 : (σ.1 g 4).toInt = c 5 := (w.rd (id := 0) (by decide) 4 rfl).trans v4
  have f3 : (F_X1_heldBy X σ (q_rf X g 1) (σ.1 g 5) (σ.1 g 4)).toInt = h := by
    rw [gm_held Y G w f1 f2 hp ⟨b5.1, by omega⟩, Rg.2.2.2.1.1 _ (by omega) (by omega), hh]
    congr 1
    omega
  have f5 : (σ.1 (q_rf X g 0) 3).toInt = c 4 := (w.rd (id := 1) (by decide) 3 rfl).trans Rg.1.2.2.2.1
  have f6 : (F_J9_min_7cf53 X σ (F_X1_heldBy X σ (q_rf X g 1) (σ.1 g 5) (σ.1 g 4)) (σ.1 (q_rf X g 0) 3)).toInt = n := by
    rw [gm_min, f5, f3, hn]
  unfold F_X7_choose
  rw [q_letE (σ.1 g 5), q_letE (σ.1 g 4), q_letE (F_X1_heldBy X σ (q_rf X g 1) (σ.1 g 5) (σ.1 g 4))]
  obtain ⟨r3, e3⟩ : ∃ r, r = F_X1_heldBy X σ (q_rf X g 1) (σ.1 g 5) (σ.1 g 4) := ⟨_, rfl⟩
  rw [← e3] at f3 f6 ⊢
  rw [q_letE (σ.1 (q_rf X g 0) 3), q_letE (F_J9_min_7cf53 X σ r3 (σ.1 (q_rf X g 0) 3))]
  obtain ⟨r6, e6⟩ : ∃ r, r = F_J9_min_7cf53 X σ r3 (σ.1 (q_rf X g 0) 3) := ⟨_, rfl⟩
  rw [← e6] at f6 ⊢
  obtain ⟨V9, w9, k9, z9, s9⟩ := pl_clear Y G w
  rw [q_letE (F_X0_clearWanted X σ g)]
  obtain ⟨σ9, e9⟩ : ∃ s, s = F_X0_clearWanted X σ g := ⟨_, rfl⟩
  rw [← e9] at w9 ⊢
  have f10 : (σ9.1 g 4).toInt = c 5 := (w9.rd (id := 0) (by decide) 4 rfl).trans ((k9 0 4 (by decide) (Or.inr (by decide))).trans v4)
  rw [q_letE (σ9.1 g 4)]
  obtain ⟨V12, w12, k12, z12, s12⟩ := pl_want Y G w9 f10 f6 ⟨b5.1, by omega⟩ ⟨nb.1.1, by omega⟩ (by rw [z9 _ b5.1 (by omega)]; decide) (by rw [s9]; decide)
  rw [q_letE (F_X0_want X σ9 g (σ9.1 g 4) r6)]
  obtain ⟨σ12, e12⟩ : ∃ s, s = F_X0_want X σ9 g (σ9.1 g 4) r6 := ⟨_, rfl⟩
  rw [← e12] at w12 ⊢
  have K12 : ∀ (id : Nat) (i : Int), id ≠ 23 → (id ≠ 0 ∨ i ≠ 9) → V12 id i = V id i := fun id i i1 i2 => (k12 id i i1 i2).trans (k9 id i i1 i2)
  have Z12 : ∀ j : Int, 0 ≤ j → j < 10 → V12 23 j = if j = c 5 then n else 0 := fun j j0 j1 => by
    rw [z12 j, z9 j j0 j1]
    omega
  have S12 : V12 0 9 = n := by rw [s12, s9]; omega
  have R12 : rg V12 c := Rg.w hG (fun id i i1 i2 i3 => K12 id i i1 (by omega))
  have f13 : (σ12.1 (q_rf X g 0) 3).toInt = c 4 := (w12.rd (id := 1) (by decide) 3 rfl).trans R12.1.2.2.2.1
  have f33 : (σ12.1 g 5).toInt = c 6 := (w12.rd (id := 0) (by decide) 5 rfl).trans ((K12 0 5 (by decide) (Or.inr (by decide))).trans v5)
  have f34 : (F_X5_get X σ12 (q_rf X (q_rf X g 1) 2) (σ12.1 g 5)).toInt = S := by
    rw [y_getI Y G w12 (id := 9) (r := q_rf X (q_rf X g 1) 2) ⟨by decide, by decide⟩ rfl f33 hp.1 (by rw [gn9]; exact hp.2), K12 9 _ (by decide) (Or.inl (by decide)), v9]
  have t12 : tkl (pl_Sc lb o R) (fun _ _ => False) σ σ12 := pl_Wt w12
  have r12 : ∀ f, σ12.1 R f = σ.1 R f := fun f => w12.1 R hR f
  have v12 : y_v X g σ12 = V12 := w12.2.2
  rw [q_letE (σ12.1 (q_rf X g 0) 3), f6, f13]
  -- the reference
  have z0 : (0 : Int32).toInt = 0 := rfl
  obtain ⟨τz, tz, kz, lz⟩ := pl_clr (X := X) (a := a) (v1 := v1) ((2147483647 - (0 : Int32).toInt).toNat + 1) 0 τ (by omega) (by decide) (by decide) (fun j j0 j1 => by rw [z0] at j1; omega)
  rw [tz]
  have mz : m_c X τz a = c := (pl_mc (fun f => kz.1 _ f (fun e => n80 e.symm))).trans hc
  have dz : τz.1 a 39 = τ.1 a 39 := kz.1 a 39 (fun e => n8a e.symm)
  have g4 : (τz.1 (q_rf X a 20) (4 : Int32).toNatClampNeg).toInt = c 4 := gm_cell (A := 4) mz rfl
  have g5 : (τz.1 (q_rf X a 20) (5 : Int32).toNatClampNeg).toInt = c 5 := gm_cell (A := 5) mz rfl
  unfold F_X12_turns_E80_8
  rw [q_letE (τz.1 (q_rf X a 20) (4 : Int32).toNatClampNeg), q_letE (τz.1 (q_rf X a 20) (5 : Int32).toNatClampNeg)]
  obtain ⟨u4, q4⟩ : ∃ u, u = τz.1 (q_rf X a 20) (4 : Int32).toNatClampNeg := ⟨_, rfl⟩
  obtain ⟨u5, q5⟩ : ∃ u, u = τz.1 (q_rf X a 20) (5 : Int32).toNatClampNeg := ⟨_, rfl⟩
  rw [← q4] at g4 ⊢
  rw [← q5] at g5 ⊢
  have g18 : (F_X12_handOf X τz a v1 u5).toInt = h := (gm_handOf mz hv g5 hp ⟨b5.1, by omega⟩).trans hh.symm
  have g20 : (F_J9_min_7cf53 X τz u4 (F_X12_handOf X τz a v1 u5)).toInt = n := by rw [gm_min, g18, g4, hn']
  rw [q_letE (F_X12_handOf X τz a v1 u5), q_letE (F_J9_min_7cf53 X τz u4 (F_X12_handOf X τz a v1 u5))]
  obtain ⟨r20, e20⟩ : ∃ r, r = F_J9_min_7cf53 X τz u4 (F_X12_handOf X τz a v1 u5) := ⟨_, rfl⟩
  rw [← e20] at g20 ⊢
  rw [q_letE u5, q_letE (q_si τz (q_rf X a 28) u5.toNatClampNeg r20)]
  have l1 := pl_l28 (X := X) (a := a) lz g5 ⟨b5.1, by omega⟩ g20
  obtain ⟨τ1, e1⟩ : ∃ t, t = q_si τz (q_rf X a 28) u5.toNatClampNeg r20 := ⟨_, rfl⟩
  have k1 : tkl (fun b f => b = q_rf X a 28 ∨ b = a ∧ f = 39) (fun _ _ => False) τ τ1 := by
    rw [e1]
    exact (kz.mono (fun b f z => Or.inl z) (fun _ _ z => z)).si _ (Or.inl rfl)
  have m1 : m_c X τ1 a = c := (pl_mc (fun f => by rw [e1]; exact q_si_ne (fun e => n80 e.symm) f)).trans mz
  have d1 : τ1.1 a 39 = τ.1 a 39 := by rw [e1, q_si_ne (fun e => n8a e.symm), dz]
  rw [← e1] at l1 ⊢
  have g26 : (τ1.1 (q_rf X a 20) (4 : Int32).toNatClampNeg).toInt = c 4 := gm_cell (A := 4) m1 rfl
  obtain ⟨zo, o1, o2, o3⟩ := pl_other Y G w12 R12 hG m1 ((K12 0 5 (by decide) (Or.inr (by decide))).trans v5) hp hv
  rw [q_letE (F_X12_otherKind X τ1 a v1), o2, q_letE (τ1.1 (q_rf X a 20) (4 : Int32).toNatClampNeg), g20, g26]
  obtain ⟨f, hf⟩ : ∃ f : Int → Int, f = fun j => if j = c 5 then n else 0 := ⟨_, rfl⟩
  have ff : ∀ j : Int, f j = if j = c 5 then n else 0 := fun j => by rw [hf]
  have hm1 : m_l1 f (c 5) n := fun j _ _ => ff j
  -- of the kind alone
  have alone : ∀ (σ' τ' : ST), tkl (pl_Sc lb o R) (fun _ _ => False) σ12 σ' → (∀ f, f ≠ 6 → σ'.1 R f = σ12.1 R f) → σ'.1 R 6 = τ'.1 a 39 → y_v X g σ' = V12 → tkl (fun b f => b = a ∧ f = 39) (fun _ _ => False) τ1 τ' → 1 ≤ n → pl_chosen X lb g o a R σ σ' τ τ' V c f := by
    intro σ' τ' s1 s2 s3 s4 t1 n1
    refine ⟨t12.tr s1, fun f hf => (s2 f hf).trans (r12 f), s3, ⟨V12, s4, K12, fun j j0 j1 => by rw [ff]; exact Z12 j j0 j1⟩, k1.tr (t1.mono (fun b f z => Or.inr z) (fun _ _ z => z)), (pl_mc (fun f => t1.1 _ f (fun e => n0a e.1))).trans m1, fun j j0 j1 => ?_, ?_⟩
    · rw [t1.1 _ _ (fun e => n8a e.1), l1 j j0 j1, ff]
    · exact m_lo.one hG hp hm1 ⟨n1, by omega⟩ (by rw [← hh]; exact nb.2.1)
  -- and one of another kind
  have beside : ∀ (σ' τ' : ST), tkl (pl_Sc lb o R) (fun _ _ => False) σ12 σ' → (∀ f, f ≠ 6 → σ'.1 R f = σ12.1 R f) → σ'.1 R 6 = τ'.1 a 39 → y_v X g σ' = V12 → tkl (fun b f => b = a ∧ f = 39) (fun _ _ => False) τ1 τ' → n < c 4 → 0 ≤ zo.toInt → pl_chosen X lb g o a R σ (F_X0_want X σ' g zo 1) τ (q_si τ' (q_rf X a 28) zo.toNatClampNeg (τ'.1 (q_rf X a 28) zo.toNatClampNeg + 1)) V c (fun j => if j = zo.toInt then f j + 1 else f j) := by
    intro σ' τ' s1 s2 s3 s4 t1 n1 z1
    have zz : (0 ≤ zo.toInt ∧ zo.toInt < c 0) ∧ zo.toInt ≠ c 5 ∧ 0 < c (34 + 10 * c 6 + zo.toInt) := by
      rcases o3 with o | o
      · have := o.1; omega
      · exact o
    have fz : f zo.toInt = 0 := by rw [ff, if_neg zz.2.1]
    obtain ⟨V3, w3, k3, z3, -⟩ := pl_want (lb := lb) (o := o) Y G (pl_W s4) (v := zo) (n := 1) rfl one ⟨by omega, by omega⟩ ⟨by decide, by decide⟩ (by rw [Z12 _ (by omega) (by omega), if_neg zz.2.1]; decide) (by rw [S12]; omega)
    have lt : ∀ j : Int, 0 ≤ j → j < 10 → (τ'.1 (q_rf X a 28) j.toNat).toInt = f j := fun j j0 j1 => by rw [t1.1 _ _ (fun e => n8a e.1), l1 j j0 j1, ff]
    have ez : (τ'.1 (q_rf X a 28) zo.toNatClampNeg).toInt = 0 := by
      have q := lt zo.toInt (by omega) (by omega)
      rw [fz] at q
      exact q
    have ez1 : (τ'.1 (q_rf X a 28) zo.toNatClampNeg + 1).toInt = 1 := by rw [ar_add, ez, one, ar_wr (by decide) (by decide)]; rfl
    have l2 := pl_l28 (X := X) (a := a) (x := zo) lt rfl ⟨by omega, by omega⟩ ez1
    refine ⟨(t12.tr s1).tr (pl_Wt w3), fun f hf => (w3.1 R hR f).trans ((s2 f hf).trans (r12 f)), ?_, ⟨V3, w3.2.2, fun id i i1 i2 => (k3 id i i1 i2).trans (K12 id i i1 i2), fun j j0 j1 => ?_⟩, (k1.tr (t1.mono (fun b f z => Or.inr z) (fun _ _ z => z))).si _ (Or.inl rfl), ?_, fun j j0 j1 => ?_, ?_⟩
    · rw [w3.1 R hR 6, s3, q_si_ne (fun e => n8a e.symm)]
    · show V3 23 j = if j = zo.toInt then f j + 1 else f j
      rw [z3 j, Z12 j j0 j1, ← ff j]
      by_cases e : j = zo.toInt
      · rw [if_pos e, if_pos e]
      · rw [if_neg e, if_neg e]; omega
    · refine (pl_mc (fun f => q_si_ne (fun e => n80 e.symm) f)).trans ((pl_mc (fun f => t1.1 _ f (fun e => n0a e.1))).trans m1)
    · rw [l2 j j0 j1]
      show (if j = zo.toInt then (1 : Int) else f j) = if j = zo.toInt then f j + 1 else f j
      by_cases e : j = zo.toInt
      · rw [if_pos e, if_pos e, e, fz]; rfl
      · rw [if_neg e, if_neg e]
    · refine m_lo.two (v := f zo.toInt + 1) hG hp hm1 (fun j _ => ?_) rfl ⟨nb.1.1, by omega⟩ (by rw [← hh]; exact nb.2.1) ⟨by omega, by omega⟩ zz.2.1 zz.2.2
      by_cases e : j = zo.toInt
      · rw [if_pos e, if_pos e, e]
      · rw [if_neg e, if_neg e]
  have s12' : σ12.1 R 6 = τ1.1 a 39 := (r12 6).trans (hd.trans d1.symm)
  by_cases q1 : n < c 4
  · rw [if_pos q1, if_pos q1, q_letE (σ12.1 g 5), q_letE (F_X5_get X σ12 (q_rf X (q_rf X g 1) 2) (σ12.1 g 5)), f34, f3]
    by_cases q2 : h < S
    · have zp : 0 ≤ zo.toInt := by
        rcases o3 with o | o
        · have := hd2 o.2; omega
        · exact o.1.1
      rw [if_pos q2, if_neg (by decide : ¬ (1 : Int) = 0), if_neg (by omega : ¬ zo.toInt < 0)]
      by_cases q3 : h = 0
      · rw [if_pos q3, if_pos (nb.2.2.2.mpr q3), q_letE (F_X7_fullestOther X σ12 g), o1, q_letE (F_X0_want X σ12 g zo 1), q_letE (τ1.1 (q_rf X a 28) zo.toNatClampNeg), q_letE (τ1.1 (q_rf X a 28) zo.toNatClampNeg + 1), q_letE (q_si τ1 (q_rf X a 28) zo.toNatClampNeg (τ1.1 (q_rf X a 28) zo.toNatClampNeg + 1))]
        exact ⟨_, _, _, rfl, rfl, beside σ12 τ1 tkl.rf (fun _ _ => rfl) s12' v12 tkl.rf q1 zp⟩
      · have n0 : ¬ n = 0 := fun e => q3 (nb.2.2.2.mp e)
        obtain ⟨d, s, x1, x2⟩ := pl_draw (X := X) (a := a) (R := R) s12'
        rw [if_neg q3, if_neg n0, x1, q_biP d (q_si σ12 R 6 s), x2, q_biP d (q_si τ1 a 39 s)]
        have vs : y_v X g (q_si σ12 R 6 s) = V12 := (pl_vR Y G hR 6 s).trans v12
        have ws := pl_W (lb := lb) (o := o) vs
        have ms : m_c X (q_si τ1 a 39 s) a = c := (mv_cell Y.1 ha 39 s).trans m1
        have cs1 : tkl (pl_Sc lb o R) (fun _ _ => False) σ12 (q_si σ12 R 6 s) := tkl.rf.si _ (Or.inr ⟨rfl, by decide, by decide, by decide⟩)
        have cs2 : ∀ f, f ≠ 6 → (q_si σ12 R 6 s).1 R f = σ12.1 R f := fun f hf => si_f hf _
        have cs3 : (q_si σ12 R 6 s).1 R 6 = (q_si τ1 a 39 s).1 a 39 := by rw [si_eq, si_eq]
        have cs4 : tkl (fun b f => b = a ∧ f = 39) (fun _ _ => False) τ1 (q_si τ1 a 39 s) := tkl.rf.si _ ⟨rfl, rfl⟩
        have f64 : ((q_si σ12 R 6 s).1 g 5).toInt = c 6 := (ws.rd (id := 0) (by decide) 5 rfl).trans ((K12 0 5 (by decide) (Or.inr (by decide))).trans v5)
        have f65 : (F_X5_get X (q_si σ12 R 6 s) (q_rf X (q_rf X g 1) 3) ((q_si σ12 R 6 s).1 g 5)).toInt = c (10 + c 6) := by
          rw [y_getI Y G ws (id := 10) (r := q_rf X (q_rf X g 1) 3) ⟨by decide, by decide⟩ rfl f64 hp.1 (by rw [gn10]; exact hp.2), K12 10 _ (by decide) (Or.inl (by decide)), v10]
        have g82 : ((q_si τ1 a 39 s).1 (q_rf X a 20) ((10 : Int32) + v1).toNatClampNeg).toInt = c (10 + c 6) := gm_cell (A := 10 + c 6) ms (by rw [ar_add, e10, hv, ar_wr (by omega) (by omega)])
        obtain ⟨σs, es⟩ : ∃ t, t = q_si σ12 R 6 s := ⟨_, rfl⟩
        obtain ⟨τs, us⟩ : ∃ t, t = q_si τ1 a 39 s := ⟨_, rfl⟩
        rw [← es] at vs ws cs1 cs2 cs3 f64 f65 ⊢
        rw [← us] at ms cs3 cs4 g82 ⊢
        rw [q_letE (σs.1 g 5), q_letE (F_X5_get X σs (q_rf X (q_rf X g 1) 3) (σs.1 g 5)), f65, q_letE ((10 : Int32) + v1), q_letE (τs.1 (q_rf X a 20) ((10 : Int32) + v1).toNatClampNeg), g82]
        by_cases q4 : d.toInt < c (10 + c 6)
        · obtain ⟨zo', o1', o2', -⟩ := pl_other Y G ws R12 hG m1 ((K12 0 5 (by decide) (Or.inr (by decide))).trans v5) hp hv
          rw [o2] at o2'
          rw [← o2'] at o1'
          rw [if_pos q4, if_pos q4, q_letE (F_X7_fullestOther X σs g), o1', q_letE (F_X0_want X σs g zo 1), q_letE (τs.1 (q_rf X a 28) zo.toNatClampNeg), q_letE (τs.1 (q_rf X a 28) zo.toNatClampNeg + 1), q_letE (q_si τs (q_rf X a 28) zo.toNatClampNeg (τs.1 (q_rf X a 28) zo.toNatClampNeg + 1))]
          exact ⟨_, _, _, rfl, rfl, beside σs τs cs1 cs2 cs3 vs cs4 q1 zp⟩
        · rw [if_neg q4, if_neg q4]
          exact ⟨_, _, _, rfl, rfl, alone σs τs cs1 cs2 cs3 vs cs4 (by omega)⟩
    · have zn : zo.toInt < 0 := by
        rcases o3 with o | o
        · have := o.1; omega
        · have := hd3 _ o.1 o.2.1
          have := o.2.2
          omega
      rw [if_neg q2, if_pos (rfl : (0 : Int) = 0), if_pos zn]
      exact ⟨_, _, _, rfl, rfl, alone σ12 τ1 tkl.rf (fun _ _ => rfl) s12' v12 tkl.rf (by omega)⟩
  · rw [if_neg q1, if_neg q1, if_pos (rfl : (0 : Int) = 0)]
    exact ⟨_, _, _, rfl, rfl, alone σ12 τ1 tkl.rf (fun _ _ => rfl) s12' v12 tkl.rf (by omega)⟩
end PB

/-! FROM 49zn.first.lean.txt -/
/-! A ROUND PLAYED: who doubts first, in both -/
theorem pl_add1 {p x m : Int} (hm : 0 < m) (hp : 0 ≤ p ∧ p < m) (hx : 0 ≤ x) : ((p + x) % m + 1) % m = (p + (x + 1)) % m := by
  rw [Int.emod_add_emod]
  congr 1
  omega
theorem pl_round {p x m : Int} (hp : 0 ≤ p ∧ p < m) (hx : 1 ≤ x ∧ x ≤ m) : ((p + x) % m = p ↔ x = m) ∧ (0 ≤ (p + x) % m ∧ (p + x) % m < m) := by
  have e : (p + x) % m = if p + x < m then p + x else p + x - m := by
    split
    · exact Int.emod_eq_of_lt (by omega) (by omega)
    · have z := Int.sub_emod_right (p + x) m
      rw [← z]
      exact Int.emod_eq_of_lt (by omega) (by omega)
  rw [e]
  split <;> exact ⟨⟨fun z => by omega, fun z => by omega⟩, by omega, by omega⟩
section PC
variable {X : XW} {lb : Nat → Nat} {g o a R : Nat} {σ σ' τ τ' σ0 τ0 : ST} {V V' : Nat → Int → Int} {c : Int → Int}
/-- impossible for one, in both -/
theorem pl_imp (Y : y_S X lb) (G : y_G X lb g o) (hV : y_v X g σ = V) (Rg : rg V c) (hG : m_G c) (hc : m_c X τ a = c) (h9 : 1 ≤ c 9) {v v' : Int32} {q : Int} (hv : v.toInt = q) (hv' : v'.toInt = q) (hq : 0 ≤ q ∧ q < c 2) : (F_X0_isImpossibleFor X σ g v).toInt = (F_X12_isImpossible X τ a v').toInt ∧ ((F_X12_isImpossible X τ a v').toInt = 0 ∨ (F_X12_isImpossible X τ a v').toInt = 1) := by
  obtain ⟨b0, b2, b4, b5, b6, b7, b9, b79⟩ := hG.1
  have w := pl_W (lb := lb) (o := o) hV
  have one : (1 : Int32).toInt = 1 := rfl
  have e2 : (2 : Int32).toInt = 2 := rfl
  have n4 : ((y_gn 4 : Nat) : Int) = 10 := rfl
  have n16 : ((y_gn 16 : Nat) : Int) = 80 := rfl
  have ub := hG.U_bd (p := q) (k := c 5) hq.1 hq.2 b5.1 (by omega)
  have ib := hG.I_bd (k := c 5) b5.1 (by omega)
  have f4 : (σ.1 g 4).toInt = c 5 := (w.rd (id := 0) (by decide) 4 rfl).trans Rg.2.1.1
  have f0 : (σ.1 (q_rf X g 2) 0).toInt = c 9 := (w.rd (id := 2) (by decide) 0 rfl).trans Rg.2.2.2.2.1.1
  have g5 : (τ.1 (q_rf X a 20) (5 : Int32).toNatClampNeg).toInt = c 5 := gm_cell (A := 5) hc rfl
  have g9 : (τ.1 (q_rf X a 20) (9 : Int32).toNatClampNeg).toInt = c 9 := gm_cell (A := 9) hc rfl
  have kn1 := (rg.know (X := X) (τ := τ) Y G w Rg hG hc (v1 := v) (v2 := σ.1 g 4) hv f4 hq ⟨b5.1, by omega⟩).1
  have kn2 := (rg.know (X := X) (τ := τ) Y G w Rg hG hc (v1 := v') (v2 := τ.1 (q_rf X a 20) (5 : Int32).toNatClampNeg) hv' g5 hq ⟨b5.1, by omega⟩).2.2.2
  have top := (Rg.2.2.2.2.1.2.2 (c 9 - 1) (by omega) (by omega)).2.2.1
  have ts : (F_X2_topSize X σ (q_rf X g 2)).toInt = c (94 + 7 * (c 9 - 1) + 2) := by
    unfold F_X2_topSize
    rw [q_letE (σ.1 (q_rf X g 2) 0), q_letE (σ.1 (q_rf X g 2) 0 - 1), q_letE, y_getI Y G w (id := 16) (r := q_rf X (q_rf X g 2) 4) ⟨by decide, by decide⟩ rfl (i := c 9 - 1) (by rw [ar_sub, f0, one, ar_wr (by omega) (by omega)]) (by omega) (by rw [n16]; omega)]
    exact top
  have de : (F_X5_get X σ (q_rf X (q_rf X g 0) 5) (σ.1 g 4)).toInt = m_I c (c 5) := (y_getI Y G w (id := 4) (r := q_rf X (q_rf X g 0) 5) ⟨by decide, by decide⟩ rfl f4 b5.1 (by rw [n4]; omega)).trans (Rg.2.2.2.2.2.2 _ b5.1 (by omega))
  have ud : m_U c q (c 5) = m_I c (c 5) - (c (34 + 10 * q + c 5) + m_A c q (c 5) (c 9).toNat) := rfl
  have df : (F_X5_get X σ (q_rf X (q_rf X g 0) 5) (σ.1 g 4) - F_X1_knownTo X σ (q_rf X g 1) v (σ.1 g 4)).toInt = m_U c q (c 5) := by
    rw [ar_sub, de, kn1, ← ud, ar_wr (by omega) (by omega)]
  have cls : (F_X0_isImpossibleFor X σ g v).toInt = if m_U c q (c 5) < c (94 + 7 * (c 9 - 1) + 2) then 1 else 0 := by
    unfold F_X0_isImpossibleFor
    rw [q_letE (σ.1 g 4), q_letE (F_X5_get X σ (q_rf X (q_rf X g 0) 5) (σ.1 g 4)), q_letE (σ.1 g 4), q_letE (F_X1_knownTo X σ (q_rf X g 1) v (σ.1 g 4)), q_letE (F_X5_get X σ (q_rf X (q_rf X g 0) 5) (σ.1 g 4) - F_X1_knownTo X σ (q_rf X g 1) v (σ.1 g 4)), q_letE (F_X2_topSize X σ (q_rf X g 2)), df, ts]
    split <;> rfl
  have ref : (F_X12_isImpossible X τ a v').toInt = if m_U c q (c 5) < c (94 + 7 * (c 9 - 1) + 2) then 1 else 0 := by
    have l1 : (τ.1 (q_rf X a 20) (9 : Int32).toNatClampNeg - 1).toInt = c 9 - 1 := by rw [ar_sub, g9, one, ar_wr (by omega) (by omega)]
    have l2 := gm_laid (X := X) (τ := τ) l1 ⟨by omega, by omega⟩
    have l3 : (τ.1 (q_rf X a 20) (F_X12_laid X τ (τ.1 (q_rf X a 20) (9 : Int32).toNatClampNeg - 1) + 2).toNatClampNeg).toInt = c (94 + 7 * (c 9 - 1) + 2) := gm_cell hc (by rw [ar_add, l2, e2, ar_wr (by omega) (by omega)])
    unfold F_X12_isImpossible
    rw [q_letE (τ.1 (q_rf X a 20) (5 : Int32).toNatClampNeg), q_letE (F_X12_unknownOf X τ a v' (τ.1 (q_rf X a 20) (5 : Int32).toNatClampNeg)), q_letE (τ.1 (q_rf X a 20) (9 : Int32).toNatClampNeg), q_letE (τ.1 (q_rf X a 20) (9 : Int32).toNatClampNeg - 1), q_letE (F_X12_laid X τ (τ.1 (q_rf X a 20) (9 : Int32).toNatClampNeg - 1)), q_letE (F_X12_laid X τ (τ.1 (q_rf X a 20) (9 : Int32).toNatClampNeg - 1) + 2), q_letE, kn2, l3]
    split <;> rfl
  rw [cls, ref]
  refine ⟨rfl, ?_⟩
  split
  · exact Or.inr rfl
  · exact Or.inl rfl
theorem pl_after (Y : y_S X lb) (G : y_G X lb g o) (hV : y_v X g σ = V) (Rg : rg V c) (hG : m_G c) (h2 : 1 ≤ c 2) {x y : Int32} {p k : Int} (hx : x.toInt = p) (hy : y.toInt = k) (hp : 0 ≤ p ∧ p < c 2) (hk : 0 ≤ k ∧ k ≤ 400) : (F_X6_playerAfter X σ (q_rf X g 0) x y).toInt = (p + k) % c 2 := by
  have b2 := hG.1.2.1
  have w := pl_W (lb := lb) (o := o) hV
  have e4 : (σ.1 (q_rf X g 0) 4).toInt = c 2 := (w.rd (id := 1) (by decide) 4 rfl).trans Rg.1.2.2.2.2.1
  unfold F_X6_playerAfter
  rw [q_letE (σ.1 (q_rf X g 0) 4), e4, if_pos (by omega), q_letE, q_letE, q_letE]
  exact gm_fm (by rw [ar_add, hx, hy, ar_wr (by omega) (by omega)]) e4 ⟨by omega, by omega⟩ ⟨by omega, by omega⟩
/-- how far the reference has to go yet -/
def pl_mq (p q : Int) : Nat := (p - q + 20 * min 1 (max 0 (q - p))).toNat
theorem pl_mqE (p q : Int) : pl_mq p q = (if p < q then p - q + 20 else p - q).toNat := by
  unfold pl_mq
  split
  · congr 1; omega
  · congr 1; omega
theorem pl_mqS {p q m : Int} (hp : 0 ≤ p ∧ p < m) (hq : 0 ≤ q ∧ q < m) (hm : m ≤ 6) (h : q ≠ p) : pl_mq p ((q + 1) % m) < pl_mq p q := by
  have e : (q + 1) % m = if q + 1 < m then q + 1 else 0 := by
    split
    · exact Int.emod_eq_of_lt (by omega) (by omega)
    · have e1 : q + 1 = m := by omega
      rw [e1]
      exact Int.emod_self
  rw [e, pl_mqE, pl_mqE]
  split <;> split <;> split <;> omega
/-- what is the same behind the draws -/
def pl_drawn (X : XW) (a R : Nat) (σ σ' τ τ' : ST) : Prop := tkl (fun b f => b = R ∧ f = 6) (fun _ _ => False) σ σ' ∧ tkl (fun b f => b = a ∧ f = 39) (fun _ _ => False) τ τ' ∧ σ'.1 R 6 = τ'.1 a 39
theorem pl_firstL (Y : y_S X lb) (G : y_G X lb g o) (ha : q_kd X a = 12) (hR : lb R / 8192 ≠ o) (Rg : rg V c) (hG : m_G c) (h9 : 1 ≤ c 9) (h2 : 2 ≤ c 2) {v1 : Int32} (hv : v1.toInt = c 6) (fu : Nat) : ∀ (fv : Nat) (x q : Int32) (σ τ : ST), (2147483647 - x.toInt).toNat < fu → pl_mq (c 6) q.toInt < fv → 1 ≤ x.toInt → x.toInt ≤ c 2 → q.toInt = (c 6 + x.toInt) % c 2 → y_v X g σ = V → m_c X τ a = c → σ.1 R 6 = τ.1 a 39 →
    ∃ (z : Int32) (σ' τ' : ST), F_X7_firstDoubter_L2_1 X g R fu x σ = (z, σ') ∧ pl_drawn X a R σ σ' τ τ' ∧
      ((z.toInt = -1 ∧ F_X12_turns_L189_5 X v1 a fv q τ = F_X12_turns_E271_6 X τ' a) ∨ ((0 ≤ z.toInt ∧ z.toInt < c 2) ∧ z.toInt ≠ c 6 ∧ ∃ z' : Int32, z'.toInt = z.toInt ∧ F_X12_turns_L189_5 X v1 a fv q τ = F_X12_turns_E224_7 X τ' a z' v1)) := by
  obtain ⟨b0, b2, b4, b5, b6, b7, b9, b79⟩ := id hG.1
  obtain ⟨n80, n8a, n0a⟩ := pl_k28 Y.1 ha
  have hp : 0 ≤ c 6 ∧ c 6 < c 2 := by omega
  have n11 : ((y_gn 11 : Nat) : Int) = 6 := rfl
  have e16 : (16 : Int32).toInt = 16 := rfl
  have v5 : V 0 5 = c 6 := by
    have z := Rg.2.1.2.1
    rw [if_neg (by omega)] at z
    exact z
  induction fu with
  | zero => intro fv x q σ τ h; exact absurd h (Nat.not_lt_zero _)
  | succ fu ih =>
    intro fv x q σ τ hf hfv x1 x2 hq hV hc hd
    obtain ⟨fv', efv⟩ : ∃ k, fv = k + 1 := ⟨fv - 1, by omega⟩
    subst efv
    have w := pl_W (lb := lb) (o := o) hV
    have pr := pl_round (x := x.toInt) hp ⟨x1, x2⟩
    rw [← hq] at pr
    have f4 : (σ.1 (q_rf X g 0) 4).toInt = c 2 := (w.rd (id := 1) (by decide) 4 rfl).trans Rg.1.2.2.2.2.1
    have f5 : (σ.1 g 5).toInt = c 6 := (w.rd (id := 0) (by decide) 5 rfl).trans v5
    rw [F_X7_firstDoubter_L2_1_s, F_X12_turns_L189_5_s]
    unfold F_X7_firstDoubter_B2_1 F_X12_turns_B189_5
    rw [q_letE (σ.1 (q_rf X g 0) 4), f4, hv]
    by_cases qe : x.toInt = c 2
    · rw [if_neg (by omega : ¬ x.toInt < c 2), if_pos (pr.1.mpr qe)]
      exact ⟨-1, σ, τ, rfl, ⟨tkl.rf, tkl.rf, hd⟩, Or.inl ⟨rfl, rfl⟩⟩
    · have xl : x.toInt < c 2 := by omega
      have qn : q.toInt ≠ c 6 := fun e => qe (pr.1.mp e)
      have pa : (F_X6_playerAfter X σ (q_rf X g 0) (σ.1 g 5) x).toInt = q.toInt := (pl_after Y G hV Rg hG (by omega) f5 rfl hp ⟨by omega, by omega⟩).trans hq.symm
      rw [if_pos xl, if_neg qn, q_letE (σ.1 g 5), q_letE (F_X6_playerAfter X σ (q_rf X g 0) (σ.1 g 5) x)]
      obtain ⟨y, ey⟩ : ∃ y, y = F_X6_playerAfter X σ (q_rf X g 0) (σ.1 g 5) x := ⟨_, rfl⟩
      rw [← ey] at pa ⊢
      obtain ⟨im, im01⟩ := pl_imp (X := X) (τ := τ) (a := a) Y G hV Rg hG hc h9 pa (rfl : q.toInt = q.toInt) pr.2
      rw [q_letE (F_X0_isImpossibleFor X σ g y), im, q_letE (F_X12_isImpossible X τ a q)]
      by_cases qi : (F_X12_isImpossible X τ a q).toInt = 0
      · obtain ⟨d, s, d1, d2⟩ := pl_draw (X := X) (a := a) (R := R) hd
        have vs : y_v X g (q_si σ R 6 s) = V := (pl_vR Y G hR 6 s).trans hV
        have ms : m_c X (q_si τ a 39 s) a = c := (mv_cell Y.1 ha 39 s).trans hc
        have f14 : (F_X5_get X (q_si σ R 6 s) (q_rf X (q_rf X g 1) 4) y).toInt = c (16 + q.toInt) := by
          rw [y_getI Y G (pl_W (lb := lb) (o := o) vs) (id := 11) (r := q_rf X (q_rf X g 1) 4) ⟨by decide, by decide⟩ rfl pa pr.2.1 (by rw [n11]; omega)]
          exact (Rg.2.2.1 q.toInt pr.2.1 (by omega)).2.1
        have g58 : ((q_si τ a 39 s).1 (q_rf X a 20) ((16 : Int32) + q).toNatClampNeg).toInt = c (16 + q.toInt) := gm_cell (A := 16 + q.toInt) ms (by rw [ar_add, e16, ar_wr (by omega) (by omega)])
        have t1 : tkl (fun b f => b = R ∧ f = 6) (fun _ _ => False) σ (q_si σ R 6 s) := tkl.rf.si _ ⟨rfl, rfl⟩
        have t2 : tkl (fun b f => b = a ∧ f = 39) (fun _ _ => False) τ (q_si τ a 39 s) := tkl.rf.si _ ⟨rfl, rfl⟩
        have hd' : (q_si σ R 6 s).1 R 6 = (q_si τ a 39 s).1 a 39 := by rw [si_eq, si_eq]
        rw [if_pos qi, if_pos qi, d1, q_biP d (q_si σ R 6 s), d2, q_biP d (q_si τ a 39 s)]
        obtain ⟨σs, es⟩ : ∃ t, t = q_si σ R 6 s := ⟨_, rfl⟩
        obtain ⟨τs, us⟩ : ∃ t, t = q_si τ a 39 s := ⟨_, rfl⟩
        rw [← es] at vs f14 t1 hd' ⊢
        rw [← us] at ms g58 t2 hd' ⊢
        rw [q_letE (F_X5_get X σs (q_rf X (q_rf X g 1) 4) y), f14, q_letE ((16 : Int32) + q), q_letE (τs.1 (q_rf X a 20) ((16 : Int32) + q).toNatClampNeg), g58]
        by_cases qd : d.toInt < c (16 + q.toInt)
        · rw [if_pos qd, if_pos qd]
          exact ⟨y, σs, τs, rfl, ⟨t1, t2, hd'⟩, Or.inr ⟨by rw [pa]; exact pr.2, by rw [pa]; exact qn, q, pa.symm, rfl⟩⟩
        · have x1' : (x + 1).toInt = x.toInt + 1 := y_inc (by omega)
          have bq := gm_behindOf (X := X) ms b2 (rfl : q.toInt = q.toInt) pr.2
          rw [if_neg qd, if_neg qd, q_letE (x + 1), q_letE (F_X12_behindOf X τs a q)]
          obtain ⟨z, σ', τ', i1, ⟨i2, i3, i4⟩, i5⟩ := ih fv' (x + 1) (F_X12_behindOf X τs a q) σs τs (by omega) (by
            rw [bq]
            have := pl_mqS hp pr.2 b2.2 qn
            omega) (by omega) (by omega) (by rw [bq, hq, x1']; exact pl_add1 (by omega) hp (by omega)) vs ms hd'
          exact ⟨z, σ', τ', i1, ⟨t1.tr i2, t2.tr i3, i4⟩, i5⟩
      · rw [if_neg qi, if_neg qi]
        exact ⟨y, σ, τ, rfl, ⟨tkl.rf, tkl.rf, hd⟩, Or.inr ⟨by rw [pa]; exact pr.2, by rw [pa]; exact qn, q, pa.symm, rfl⟩⟩
end PC

/-! FROM 49zo.turn.lean.txt -/
/-! A ROUND PLAYED: a turn in both -/
def pl_cnt (a R : Nat) (σ τ : ST) : Prop := σ.1 R 6 = τ.1 a 39 ∧ σ.1 R 2 = τ.1 a 42 ∧ σ.1 R 3 = τ.1 a 43 ∧ σ.1 R 4 = τ.1 a 44
/-- both games the same, and what stays -/
def pl_gm (X : XW) (g a : Nat) (σ' τ' : ST) (V : Nat → Int → Int) (c : Int → Int) (n : Int) : Prop := ∃ (V' : Nat → Int → Int) (c' : Int → Int), y_v X g σ' = V' ∧ m_c X τ' a = c' ∧ rg V' c' ∧ m_G c' ∧ m_W c' n ∧ pl_fix V V' c c'
def pl_turned (X : XW) (lb : Nat → Nat) (g o a R : Nat) (σ σ' τ τ' : ST) (V : Nat → Int → Int) (c : Int → Int) (n : Int) (z : Int32) : Prop :=
  tkl (pl_Sc lb o R) (fun _ _ => False) σ σ' ∧ tkl (pl_Sr X a) (fun _ _ => False) τ τ' ∧ pl_cnt a R σ' τ' ∧ σ'.1 R 1 = (if z.toInt = 0 then σ.1 R 1 + 1 else σ.1 R 1) ∧ pl_gm X g a σ' τ' V c (n + 1)
section PD
variable {X : XW} {lb : Nat → Nat} {g o a R : Nat} {σ σ' τ τ' σ0 τ0 : ST} {V V' : Nat → Int → Int} {c : Int → Int} {n : Int}
theorem pl_20 : ∀ {τ τ' : ST}, tkl (fun b _ => b = q_rf X a 20) (fun _ _ => False) τ τ' → tkl (pl_Sr X a) (fun _ _ => False) τ τ' := fun h => h.mono (fun _ _ z => Or.inl z) (fun _ _ z => z)
theorem pl_top (Y : y_S X lb) (G : y_G X lb g o) (hV : y_v X g σ = V) (Rg : rg V c) (hG : m_G c) (hc : m_c X τ a = c) (h9 : 1 ≤ c 9) : (F_X2_topTruth X σ (q_rf X g 2)).toInt = (F_X12_sortOf X τ a (τ.1 (q_rf X a 20) (9 : Int32).toNatClampNeg - 1)).toInt := by
  have b9 := hG.1.2.2.2.2.2.2.1
  have w := pl_W (lb := lb) (o := o) hV
  have one : (1 : Int32).toInt = 1 := rfl
  have f0 : (σ.1 (q_rf X g 2) 0).toInt = c 9 := (w.rd (id := 2) (by decide) 0 rfl).trans Rg.2.2.2.2.1.1
  have g9 : (τ.1 (q_rf X a 20) (9 : Int32).toNatClampNeg).toInt = c 9 := gm_cell (A := 9) hc rfl
  unfold F_X2_topTruth
  rw [q_letE (σ.1 (q_rf X g 2) 0), q_letE (σ.1 (q_rf X g 2) 0 - 1), q_letE]
  exact (rg.sort Y G w Rg hG hc (k := c 9 - 1) (by rw [ar_sub, f0, one, ar_wr (by omega) (by omega)]) (by rw [ar_sub, g9, one, ar_wr (by omega) (by omega)]) ⟨by omega, by omega⟩).1
theorem pl_Wd {c c' : Int → Int} {t P kd tn W u : Int} (h : m_W c n) (hP : 0 ≤ P ∧ P < 6) (r : gd_C c c' t P kd tn W u) (ht : 0 ≤ t) (hu : u = 0 ∨ u = 1) : m_W c' (n + 1) := by
  intro q q0 q1
  have hq := h q q0 q1
  by_cases e : q = P
  · have e1 := r.2.2.1
    have e2 := r.2.2.2.1
    rw [e] at hq ⊢
    omega
  · have e1 := r.1 (22 + q) (by omega) (by omega) (by omega) (by omega) (by omega) (by omega) (by omega) (by omega) (by omega)
    have e2 := r.1 (28 + q) (by omega) (by omega) (by omega) (by omega) (by omega) (by omega) (by omega) (by omega) (by omega)
    omega
/-- left, or doubted -/
theorem pl_leave (Y : y_S X lb) (G : y_G X lb g o) (ha : q_kd X a = 12) (hR : lb R / 8192 ≠ o) (hV : y_v X g σ = V) (Rg : rg V c) (hG : m_G c) (hW : m_W c n) (hc : m_c X τ a = c) (h7 : c 7 = 1) (K : pl_cnt a R σ τ) :
    tkl (pl_Sc lb o R) (fun _ _ => False) σ (F_X0_letLie X σ g) ∧ tkl (pl_Sr X a) (fun _ _ => False) τ (F_X12_leaves X τ a) ∧ pl_cnt a R (F_X0_letLie X σ g) (F_X12_leaves X τ a) ∧ (∀ f, (F_X0_letLie X σ g).1 R f = σ.1 R f) ∧ pl_gm X g a (F_X0_letLie X σ g) (F_X12_leaves X τ a) V c n := by
  obtain ⟨n80, n8a, n0a⟩ := pl_k28 Y.1 ha
  obtain ⟨V', c', w', m', t', R', hV', hc', G'⟩ := gm_letLie Y G ha (pl_W (lb := lb) (o := o) hV) Rg hG hc h7
  have kr : ∀ f, (F_X0_letLie X σ g).1 R f = σ.1 R f := fun f => w'.1 R hR f
  have kt : ∀ f, (F_X12_leaves X τ a).1 a f = τ.1 a f := fun f => t'.1 a f (fun e => n0a e.symm)
  refine ⟨pl_Wt w', pl_20 t', ?_, kr, V', c', w'.2.2, m', R', G', m_W.ext (fun j j0 j1 => hc' j (by omega) (by omega) (by omega) (by omega)) hW, fun id i h => hV' id i (by omega), fun j j0 h => hc' j (by omega) (by omega) (by omega) (by omega)⟩
  unfold pl_cnt
  rw [kr, kr, kr, kr, kt, kt, kt, kt]
  exact K
theorem pl_doubt (Y : y_S X lb) (G : y_G X lb g o) (ha : q_kd X a = 12) (hR : lb R / 8192 ≠ o) (hV : y_v X g σ = V) (Rg : rg V c) (hG : m_G c) (hW : m_W c n) (hn : n ≤ 900000) (hc : m_c X τ a = c) (h7 : c 7 = 1) (h9 : 1 ≤ c 9) (K : pl_cnt a R σ τ) {v v' v1 : Int32} (hv : v'.toInt = v.toInt) (hq : 0 ≤ v.toInt ∧ v.toInt < c 2) (hne : v.toInt ≠ c 6) (hv1 : v1.toInt = c 6) {f3 : Int32} (ef3 : f3 = σ.1 R 3 + 1) (A B : ST → ST)
    (eA : ∀ s, A s = q_bi (F_X0_challenge X s g v) (fun _ s' => s')) (eB : ∀ s, B s = q_let (s.1 R 4) (fun f => q_let (f + 1) (fun z => q_let (q_si s R 4 z) (fun s' => q_bi (F_X0_challenge X s' g v) (fun _ s2 => s2))))) :
    ∃ (σ' τ' : ST), (if (F_X2_topTruth X (q_si σ R 3 f3) (q_rf X g 2)).toInt = 0 then A (q_si σ R 3 f3) else B (q_si σ R 3 f3)) = σ' ∧ F_X12_turns_E224_7 X τ a v' v1 = (1, τ') ∧ tkl (pl_Sc lb o R) (fun _ _ => False) σ σ' ∧ tkl (pl_Sr X a) (fun _ _ => False) τ τ' ∧ pl_cnt a R σ' τ' ∧ σ'.1 R 1 = σ.1 R 1 ∧ pl_gm X g a σ' τ' V c (n + 1) := by
  obtain ⟨b0, b2, b4, b5, b6, b7, b9, b79⟩ := id hG.1
  obtain ⟨n80, n8a, n0a⟩ := pl_k28 Y.1 ha
  obtain ⟨K6, K2, K3, K4⟩ := K
  have na0 : a ≠ q_rf X a 20 := fun e => n0a e.symm
  have hWW : ∀ q : Int, 0 ≤ q → q < 6 → (0 ≤ c (22 + q) ∧ c (22 + q) ≤ 1000000) ∧ 0 ≤ c (28 + q) ∧ c (28 + q) ≤ 1000000 := fun q q0 q1 => by
    have := hW q q0 q1
    omega
  -- the reference
  have m1 : m_c X (q_si τ a 43 f3) a = c := (mv_cell Y.1 ha 43 f3).trans hc
  have e43 : τ.1 a 43 + 1 = f3 := by rw [ef3, K3]
  have e44 : (q_si τ a 43 f3).1 a 44 = τ.1 a 44 := si_f (by decide) _
  have c1 : tkl (pl_Sc lb o R) (fun _ _ => False) σ (q_si σ R 3 f3) := tkl.rf.si _ (Or.inr ⟨rfl, by decide, by decide, by decide⟩)
  have v1' : y_v X g (q_si σ R 3 f3) = V := (pl_vR Y G hR 3 f3).trans hV
  have r1 : ∀ f, f ≠ 3 → (q_si σ R 3 f3).1 R f = σ.1 R f := fun f h => si_f h _
  have s3 : (q_si σ R 3 f3).1 R 3 = f3 := si_eq _ _ _ _
  obtain ⟨σ1, es⟩ : ∃ s, s = q_si σ R 3 f3 := ⟨_, rfl⟩
  obtain ⟨τ1, et⟩ : ∃ s, s = q_si τ a 43 f3 := ⟨_, rfl⟩
  have T1 : tkl (pl_Sr X a) (fun _ _ => False) τ τ1 := by
    rw [et]
    exact tkl.rf.si _ (Or.inr (Or.inr ⟨rfl, Or.inr ⟨by decide, by decide⟩⟩))
  have tt1 : ∀ f, f ≠ 43 → τ1.1 a f = τ.1 a f := fun f h => by rw [et]; exact si_f h _
  have t43 : τ1.1 a 43 = f3 := by rw [et]; exact si_eq _ _ _ _
  rw [← es] at c1 v1' r1 s3 ⊢
  rw [← et] at m1 e44
  have tp := pl_top Y G v1' Rg hG m1 h9
  have ref : ∀ (z : Int32) (τ2 : ST), F_X12_doubts X τ1 a v' = (z, τ2) → F_X12_turns_E224_7 X τ a v' v1 = (1, q_si τ2 a 44 (if z.toInt = c 6 then τ.1 a 44 + 1 else τ.1 a 44)) := by
    intro z τ2 h
    unfold F_X12_turns_E224_7
    rw [q_letE (τ.1 a 43), e43, q_letE f3, q_letE (q_si τ a 43 f3), ← et, q_letE (τ1.1 a 44), h, q_biP z τ2, hv1, e44]
    by_cases q : z.toInt = c 6
    · rw [if_pos q, if_pos q, q_letE, q_letE]
    · rw [if_neg q, if_neg q, q_letE, q_letE]
      congr 2
      exact Int32.add_zero _
  have key : ∀ (σ2 : ST) (s : Int32), y_v X g σ2 = V → tkl (pl_Sc lb o R) (fun _ _ => False) σ σ2 → (∀ f, f ≠ 4 → σ2.1 R f = σ1.1 R f) → σ2.1 R 4 = s → (F_X2_topTruth X σ2 (q_rf X g 2)).toInt = (F_X12_sortOf X τ1 a (τ1.1 (q_rf X a 20) (9 : Int32).toNatClampNeg - 1)).toInt → s = (if (F_X2_topTruth X σ2 (q_rf X g 2)).toInt = 0 then σ.1 R 4 else σ.1 R 4 + 1) →
      ∃ (σ' τ' : ST), q_bi (F_X0_challenge X σ2 g v) (fun _ s' => s') = σ' ∧ F_X12_turns_E224_7 X τ a v' v1 = (1, τ') ∧ tkl (pl_Sc lb o R) (fun _ _ => False) σ σ' ∧ tkl (pl_Sr X a) (fun _ _ => False) τ τ' ∧ pl_cnt a R σ' τ' ∧ σ'.1 R 1 = σ.1 R 1 ∧ pl_gm X g a σ' τ' V c (n + 1) := by
    intro σ2 s y2 x2 x3 x4 x5 x6
    obtain ⟨z, z', σ3, τ3, V3, c3, t, P, kd, tn, W, u, d1, d2, d3, d4, d5, d6, d7, d8, d9, d10, d11, d12, d13, d14, d15⟩ := gm_doubt2 Y G (pl_W (lb := lb) (o := o) y2) Rg m1 hG h7 hWW (v := v) (v' := v') rfl hv hq
    rw [d1, q_biP z σ3]
    have rr := ref z' τ3 d2
    have kr : ∀ f, σ3.1 R f = σ2.1 R f := fun f => d6.1 R hR f
    have kt : ∀ f, τ3.1 a f = τ1.1 a f := fun f => d8.1 a f na0
    obtain ⟨y, ey⟩ : ∃ y, y = if z'.toInt = c 6 then τ.1 a 44 + 1 else τ.1 a 44 := ⟨_, rfl⟩
    rw [← ey] at rr
    have ys : s = y := by
      rw [x6, ey, d4, K4]
      by_cases q : (F_X2_topTruth X σ2 (q_rf X g 2)).toInt = 0
      · rw [if_pos q, if_neg (fun e => by
          have := d14.mp (e.trans d13.symm)
          rcases this with k | k
          · exact k q
          · exact hne (k.trans d13))]
      · rw [if_neg q, if_pos ((d14.mpr (Or.inl q)).trans d13)]
    have t0 : 0 ≤ t := by rcases d5 with e | e <;> omega
    refine ⟨σ3, q_si τ3 a 44 y, rfl, rr, x2.tr (pl_Wt d6), (T1.tr (pl_20 d8)).si _ (Or.inr (Or.inr ⟨rfl, Or.inr ⟨by decide, by decide⟩⟩)), ⟨?_, ?_, ?_, ?_⟩, ?_, V3, c3, d6.2.2, (mv_cell Y.1 ha 44 y).trans d7, d9, d10, pl_Wd hW (by omega) d12 t0 d15, fun id i h => d11.1 id i (by omega) (by omega) (by omega) (by omega) (by omega) (by omega) (by omega), fun j j0 h => d12.1 j j0 (by omega) (by omega) (by omega) (by omega) (by omega) (by omega) (by omega) (by omega)⟩
    · rw [kr, x3 6 (by decide), r1 6 (by decide), si_f (by decide), kt, tt1 39 (by decide), K6]
    · rw [kr, x3 2 (by decide), r1 2 (by decide), si_f (by decide), kt, tt1 42 (by decide), K2]
    · rw [kr, x3 3 (by decide), s3, si_f (by decide), kt, t43]
    · rw [kr, x4, si_eq, ys]
    · rw [kr, x3 1 (by decide), r1 1 (by decide)]
  by_cases q : (F_X2_topTruth X σ1 (q_rf X g 2)).toInt = 0
  · rw [if_pos q, eA]
    exact key σ1 _ v1' c1 (fun _ _ => rfl) (r1 4 (by decide)) tp (by rw [if_pos q])
  · rw [if_neg q, eB, q_letE (σ1.1 R 4), q_letE (σ1.1 R 4 + 1), q_letE (q_si σ1 R 4 (σ1.1 R 4 + 1))]
    have v2' : y_v X g (q_si σ1 R 4 (σ1.1 R 4 + 1)) = V := (pl_vR Y G hR 4 _).trans v1'
    have tp2 := pl_top Y G v2' Rg hG m1 h9
    refine key _ _ v2' (c1.si _ (Or.inr ⟨rfl, by decide, by decide, by decide⟩)) (fun f h => si_f h _) (si_eq _ _ _ _) tp2 ?_
    rw [if_neg (by rw [tp2, ← tp]; exact q), r1 4 (by decide)]
/-- what comes behind what was left before -/
theorem pl_turnJ (Y : y_S X lb) (G : y_G X lb g o) (ha : q_kd X a = 12) (hR : lb R / 8192 ≠ o) (hV : y_v X g σ = V) (Rg : rg V c) (hG : m_G c) (hW : m_W c n) (hn : n ≤ 900000) (hc : m_c X τ a = c) (K : pl_cnt a R σ τ) :
    ∃ (z : Int32) (σ' τ' : ST), F_X7_takeTurn_J11_1 X g R σ = σ' ∧ F_X12_turns_J15_1 X a τ = (z, τ') ∧ pl_turned X lb g o a R σ σ' τ τ' V c n z := by
  obtain ⟨b0, b2, b4, b5, b6, b7, b9, b79⟩ := id hG.1
  obtain ⟨n80, n8a, n0a⟩ := pl_k28 Y.1 ha
  obtain ⟨K6, K2, K3, K4⟩ := id K
  have na0 : a ≠ q_rf X a 20 := fun e => n0a e.symm
  have gn9 : ((y_gn 9 : Nat) : Int) = 6 := rfl
  have w := pl_W (lb := lb) (o := o) hV
  have s3 := Rg.2.1.2.2.1
  have f6 : (σ.1 g 6).toInt = c 8 := (w.rd (id := 0) (by decide) 6 rfl).trans s3.1
  have f4 : (σ.1 (q_rf X g 0) 4).toInt = c 2 := (w.rd (id := 1) (by decide) 4 rfl).trans Rg.1.2.2.2.2.1
  have g8 : (τ.1 (q_rf X a 20) (8 : Int32).toNatClampNeg).toInt = c 8 := gm_cell (A := 8) hc rfl
  have g2 : (τ.1 (q_rf X a 20) (2 : Int32).toNatClampNeg).toInt = c 2 := gm_cell (A := 2) hc rfl
  have g6 : (τ.1 (q_rf X a 20) (6 : Int32).toNatClampNeg).toInt = c 6 := gm_cell (A := 6) hc rfl
  have missed : ∀ z : Int32, z.toInt = 0 → pl_turned X lb g o a R σ (q_si σ R 1 (σ.1 R 1 + 1)) τ τ V c n z := by
    intro z hz
    refine ⟨tkl.rf.si _ (Or.inr ⟨rfl, by decide, by decide, by decide⟩), tkl.rf, ⟨?_, ?_, ?_, ?_⟩, ?_, V, c, (pl_vR Y G hR 1 _).trans hV, hc, Rg, hG, hW.le (by omega), pl_fix.rf⟩
    · rw [si_f (by decide)]; exact K6
    · rw [si_f (by decide)]; exact K2
    · rw [si_f (by decide)]; exact K3
    · rw [si_f (by decide)]; exact K4
    · rw [if_pos hz, si_eq]
  unfold F_X7_takeTurn_J11_1 F_X12_turns_J15_1
  rw [q_letE (σ.1 g 6), f6, q_letE (τ.1 (q_rf X a 20) (8 : Int32).toNatClampNeg), g8]
  by_cases q8 : ¬ c 8 = -1
  · rw [if_neg q8, if_neg (by omega : ¬ c 8 < 0), q_letE (σ.1 R 1), q_letE (σ.1 R 1 + 1), q_letE (q_si σ R 1 (σ.1 R 1 + 1))]
    exact ⟨0, _, τ, rfl, rfl, missed 0 rfl⟩
  have q8' := Classical.not_not.mp q8
  rw [if_pos q8', if_pos (by omega : c 8 < 0), q_letE (σ.1 (q_rf X g 0) 4), f4, q_letE (τ.1 (q_rf X a 20) (2 : Int32).toNatClampNeg), g2]
  by_cases q2 : c 2 < 2
  · rw [if_pos q2, if_pos q2, q_letE (σ.1 R 1), q_letE (σ.1 R 1 + 1), q_letE (q_si σ R 1 (σ.1 R 1 + 1))]
    exact ⟨0, _, τ, rfl, rfl, missed 0 rfl⟩
  have hp : 0 ≤ c 6 ∧ c 6 < 6 := by omega
  have v5 : V 0 5 = c 6 := by
    have z := Rg.2.1.2.1
    rw [if_neg (by omega)] at z
    exact z
  have f5 : (σ.1 g 5).toInt = c 6 := (w.rd (id := 0) (by decide) 5 rfl).trans v5
  have f9 : (F_X5_get X σ (q_rf X (q_rf X g 1) 2) (σ.1 g 5)).toInt = m_S c (34 + 10 * c 6) 10 := (y_getI Y G w (id := 9) (r := q_rf X (q_rf X g 1) 2) ⟨by decide, by decide⟩ rfl f5 hp.1 (by rw [gn9]; exact hp.2)).trans (Rg.2.2.2.1.2 (c 6) hp.1 hp.2)
  have g9 := gm_cardsOf (X := X) hc hG g6 hp
  rw [if_neg q2, if_neg q2, q_letE (σ.1 g 5), q_letE (F_X5_get X σ (q_rf X (q_rf X g 1) 2) (σ.1 g 5)), f9, q_letE (τ.1 (q_rf X a 20) (6 : Int32).toNatClampNeg), q_letE (F_X12_cardsOf X τ a (τ.1 (q_rf X a 20) (6 : Int32).toNatClampNeg)), g9]
  by_cases qS : m_S c (34 + 10 * c 6) 10 = 0
  · rw [if_pos qS, if_pos qS, q_letE (σ.1 R 1), q_letE (σ.1 R 1 + 1), q_letE (q_si σ R 1 (σ.1 R 1 + 1))]
    exact ⟨0, _, τ, rfl, rfl, missed 0 rfl⟩
  rw [if_neg qS, if_neg qS, q_letE (τ.1 (q_rf X a 20) (6 : Int32).toNatClampNeg)]
  obtain ⟨v1, ev1⟩ : ∃ v, v = τ.1 (q_rf X a 20) (6 : Int32).toNatClampNeg := ⟨_, rfl⟩
  rw [← ev1] at g6 ⊢
  -- what is laid
  obtain ⟨σ1, τ1, l, x1, x2, t1, r1, d1, ⟨V1, hV1, kV1, l1⟩, u1, m1, of1, lo⟩ := pl_choose Y G ha hR hV Rg hG hc K6 (by omega) qS g6
  rw [q_letE (F_X7_choose X σ R g), x1, x2]
  have R1 : rg V1 c := Rg.w hG (fun id i i1 i2 i3 => kV1 id i i1 (by omega))
  have b79' := lo.c9
  have s80 := hG.S80 (p := c 6) (k := 10) hp.1 hp.2 (by decide) (by decide)
  have z10 : m_S c (34 + 10 * c 6) (10 : Int).toNat = m_S c (34 + 10 * c 6) 10 := rfl
  have l80 := hG.L80 b9.1 (Int.le_refl (c 9))
  have gp : gl_p V1 l (c 6) (c 9) (c 0) := by
    refine ⟨(kV1 0 5 (by decide) (Or.inr (by decide))).trans v5, R1.1.1, hp, ⟨by omega, by omega⟩, ⟨by omega, by omega⟩, fun t a0 a1 => ⟨l1 t a0 a1, (lo.2.2.1 t a0 a1).1⟩, lo.2.2.2.2, ?_, fun t a0 a1 => ⟨?_, ?_⟩, ?_⟩
    · rw [R1.2.2.2.2.1.2.1]; omega
    · rw [R1.2.2.2.1.1 (10 * c 6 + t) (by omega) (by omega)]
      have := hG.h80 (p := c 6) (k := t) hp.1 hp.2 a0 a1
      have e : (34 : Int) + (10 * c 6 + t) = 34 + 10 * c 6 + t := by omega
      rw [e]
      omega
    · rw [R1.2.2.2.2.2.1 (c 6) t hp.1 hp.2 a0 a1]
      have := hG.A_bd (c 6) t (c 9).toNat (by omega)
      omega
    · rw [R1.2.2.2.1.2 (c 6) hp.1 hp.2]; omega
  obtain ⟨V5, w5, gv⟩ := gm_layWanted Y G (pl_W (lb := lb) (o := o) hV1) gp R1.2.2.2.2.1.1
  unfold F_X12_turns_J163_4
  obtain ⟨c5, mc, tc, gr, gG⟩ := gm_laysDown (X := X) (τ := τ1) Y.1 ha m1 lo rfl (v1 := v1) g6 of1
  rw [q_letE (F_X0_layWanted X σ1 g), q_letE (F_X12_laysDown X τ1 a v1 (q_rf X a 28))]
  obtain ⟨σ5, e5⟩ : ∃ t, t = F_X0_layWanted X σ1 g := ⟨_, rfl⟩
  obtain ⟨τ5, u5⟩ : ∃ t, t = F_X12_laysDown X τ1 a v1 (q_rf X a 28) := ⟨_, rfl⟩
  rw [← e5] at w5 ⊢
  rw [← u5] at mc tc ⊢
  have R5 := rg.lay R1 lo rfl gv gr
  have hV5 : y_v X g σ5 = y_up V5 0 7 1 := w5.2.2
  obtain ⟨V6, e6⟩ : ∃ v, v = y_up V5 0 7 1 := ⟨_, rfl⟩
  rw [← e6] at R5 hV5
  have c57 : c5 7 = 1 := gr.2.2.2.2.2.2.1
  have c59 : c5 9 = c 9 + 1 := gr.2.2.2.2.2.1
  have c5j : ∀ j : Int, 0 ≤ j → j < 34 → j ≠ 7 → j ≠ 9 → c5 j = c j := fun j j0 j1 j2 j3 => gr.1 j j0 (by omega) (by omega) j3 j2
  have fx5 : pl_fix V V6 c c5 := by
    refine ⟨fun id i h => ?_, fun j j0 h => gr.1 j j0 (by omega) (by omega) (by omega) (by omega)⟩
    rw [e6, y_up_ne (by omega), gv.1 id i (by omega) (by omega) (by omega) (by omega) (by omega) (by omega) (by omega) (by omega)]
    exact kV1 id i (by omega) (by omega)
  have W5 : m_W c5 n := m_W.ext (fun j j0 j1 => c5j j (by omega) j1 (by omega) (by omega)) hW
  have c52 : c5 2 = c 2 := c5j 2 (by decide) (by decide) (by decide) (by decide)
  have c56 : c5 6 = c 6 := c5j 6 (by decide) (by decide) (by decide) (by decide)
  have kr5 : ∀ f, σ5.1 R f = σ1.1 R f := fun f => w5.1 R hR f
  have kt5 : ∀ f, τ5.1 a f = τ1.1 a f := fun f => tc.1 a f na0
  have kt1 : ∀ f, f ≠ 39 → τ1.1 a f = τ.1 a f := fun f h => u1.1 a f (fun z => by
    rcases z with z | z
    · exact n8a z.symm
    · exact h z.2)
  have T5 : tkl (pl_Sr X a) (fun _ _ => False) τ τ5 := (u1.mono (fun b f z => by
    rcases z with z | z
    · exact Or.inr (Or.inl z)
    · exact Or.inr (Or.inr ⟨z.1, Or.inl z.2⟩)) (fun _ _ z => z)).tr (pl_20 tc)
  have S5 : tkl (pl_Sc lb o R) (fun _ _ => False) σ σ5 := t1.tr (pl_Wt w5)
  -- one laying more
  have y42 : σ5.1 R 2 = τ5.1 a 42 := by rw [kr5, kt5, r1 2 (by decide), kt1 42 (by decide), K2]
  obtain ⟨m2, em2⟩ : ∃ m, m = τ5.1 a 42 + 1 := ⟨_, rfl⟩
  rw [q_letE (σ5.1 R 2), y42, q_letE (τ5.1 a 42), ← em2, q_letE m2, q_letE (q_si σ5 R 2 m2), q_letE m2, q_letE (q_si τ5 a 42 m2)]
  have hV6 : y_v X g (q_si σ5 R 2 m2) = V6 := (pl_vR Y G hR 2 m2).trans hV5
  have mc6 : m_c X (q_si τ5 a 42 m2) a = c5 := (mv_cell Y.1 ha 42 m2).trans mc
  have K6' : pl_cnt a R (q_si σ5 R 2 m2) (q_si τ5 a 42 m2) := by
    refine ⟨?_, by rw [si_eq, si_eq], ?_, ?_⟩
    · rw [si_f (by decide), si_f (by decide), kr5, kt5, d1]
    · rw [si_f (by decide), si_f (by decide), kr5, kt5, r1 3 (by decide), kt1 43 (by decide), K3]
    · rw [si_f (by decide), si_f (by decide), kr5, kt5, r1 4 (by decide), kt1 44 (by decide), K4]
  have R1' : (q_si σ5 R 2 m2).1 R 1 = σ.1 R 1 := by rw [si_f (by decide), kr5, r1 1 (by decide)]
  have S6 : tkl (pl_Sc lb o R) (fun _ _ => False) σ (q_si σ5 R 2 m2) := S5.si _ (Or.inr ⟨rfl, by decide, by decide, by decide⟩)
  have T6 : tkl (pl_Sr X a) (fun _ _ => False) τ (q_si τ5 a 42 m2) := T5.si _ (Or.inr (Or.inr ⟨rfl, Or.inr ⟨by decide, by decide⟩⟩))
  obtain ⟨σ6, es6⟩ : ∃ t, t = q_si σ5 R 2 m2 := ⟨_, rfl⟩
  obtain ⟨τ6, et6⟩ : ∃ t, t = q_si τ5 a 42 m2 := ⟨_, rfl⟩
  rw [← es6] at hV6 K6' R1' S6 ⊢
  rw [← et6] at mc6 K6' T6 ⊢
  -- who doubts
  have bq := gm_behindOf (X := X) mc6 (by rw [c52]; exact b2) (x := v1) (p := c5 6) (by rw [c56]; exact g6) (by rw [c56, c52]; omega)
  rw [q_letE (F_X12_behindOf X τ6 a v1)]
  obtain ⟨q, eq⟩ : ∃ q, q = F_X12_behindOf X τ6 a v1 := ⟨_, rfl⟩
  rw [← eq] at bq ⊢
  have one : (1 : Int32).toInt = 1 := rfl
  obtain ⟨z, σ7, τ7, y1, ⟨y2, y3, y4⟩, y5⟩ := pl_firstL (R := R) Y G ha hR R5 gG (by rw [c59]; omega) (by rw [c52]; omega) (v1 := v1) (by rw [c56]; exact g6) ((2147483647 - (1 : Int32).toInt).toNat + 1) ((v1.toInt - q.toInt + 20 * min 1 (max 0 (q.toInt - v1.toInt))).toNat + 1) 1 q σ6 τ6 (Nat.lt_succ_self _) (by
      rw [g6, c56]
      exact Nat.lt_succ_self _) (by decide) (by rw [one, c52]; omega) (by rw [bq, one]) hV6 mc6 K6'.1
  have fd : F_X7_firstDoubter X σ6 R g = (z, σ7) := y1
  rw [fd, q_biP z σ7]
  have hV7 : y_v X g σ7 = V6 := (pl_vt Y G hR y2).trans hV6
  have mc7 : m_c X τ7 a = c5 := (pl_mc (fun f => y3.1 _ f (fun e => n0a e.1))).trans mc6
  have kr7 : ∀ f, f ≠ 6 → σ7.1 R f = σ6.1 R f := fun f h => y2.1 R f (fun e => h e.2)
  have kt7 : ∀ f, f ≠ 39 → τ7.1 a f = τ6.1 a f := fun f h => y3.1 a f (fun e => h e.2)
  have K7 : pl_cnt a R σ7 τ7 := by
    refine ⟨y4, ?_, ?_, ?_⟩
    · rw [kr7 2 (by decide), kt7 42 (by decide)]; exact K6'.2.1
    · rw [kr7 3 (by decide), kt7 43 (by decide)]; exact K6'.2.2.1
    · rw [kr7 4 (by decide), kt7 44 (by decide)]; exact K6'.2.2.2
  have S7 : tkl (pl_Sc lb o R) (fun _ _ => False) σ σ7 := S6.tr (y2.mono (fun b f e => Or.inr ⟨e.1, by rw [e.2]; decide⟩) (fun _ _ e => e))
  have T7 : tkl (pl_Sr X a) (fun _ _ => False) τ τ7 := T6.tr (y3.mono (fun b f e => Or.inr (Or.inr ⟨e.1, Or.inl e.2⟩)) (fun _ _ e => e))
  have R7 : σ7.1 R 1 = σ.1 R 1 := (kr7 1 (by decide)).trans R1'
  rcases y5 with ⟨zn, yl⟩ | ⟨zb, zne, z', ez, yl⟩
  · have lv := pl_leave Y G ha hR hV7 R5 gG W5 mc7 c57 K7
    rw [if_pos zn, q_letE (F_X0_letLie X σ7 g), yl]
    unfold F_X12_turns_E271_6
    rw [q_letE (F_X12_leaves X τ7 a)]
    obtain ⟨V8, c8, i1, i2, i3, i4, i5, i6⟩ := lv.2.2.2.2
    refine ⟨1, _, _, rfl, rfl, S7.tr lv.1, T7.tr lv.2.1, lv.2.2.1, ?_, V8, c8, i1, i2, i3, i4, i5.le (by omega), fx5.tr i6⟩
    rw [if_neg (by decide), lv.2.2.2.1, R7]
  · obtain ⟨σ', τ', j1, j2, j3, j4, j5, j6, V8, c8, i1, i2, i3, i4, i5, i6⟩ := pl_doubt Y G ha hR hV7 R5 gG W5 hn mc7 c57 (by rw [c59]; omega) K7 (v := z) (v' := z') (v1 := v1) ez zb zne (by rw [c56]; exact g6) (f3 := σ7.1 R 3 + 1) rfl (fun s => q_bi (F_X0_challenge X s g z) (fun _ s' => s')) (fun s => q_let (s.1 R 4) (fun f => q_let (f + 1) (fun z_ => q_let (q_si s R 4 z_) (fun s' => q_bi (F_X0_challenge X s' g z) (fun _ s2 => s2))))) (fun _ => rfl) (fun _ => rfl)
    rw [if_neg (by omega : ¬ z.toInt = -1), yl, j2, q_letE (σ7.1 R 3), q_letE (σ7.1 R 3 + 1), q_letE (q_si σ7 R 3 (σ7.1 R 3 + 1)), q_letE (F_X2_topTruth X (q_si σ7 R 3 (σ7.1 R 3 + 1)) (q_rf X g 2))]
    refine ⟨1, σ', τ', j1, rfl, S7.tr j3, T7.tr j4, j5, ?_, V8, c8, i1, i2, i3, i4, i5, fx5.tr i6⟩
    rw [if_neg (by decide), j6, R7]
theorem pl_turn (Y : y_S X lb) (G : y_G X lb g o) (ha : q_kd X a = 12) (hR : lb R / 8192 ≠ o) (hV : y_v X g σ = V) (Rg : rg V c) (hG : m_G c) (hW : m_W c n) (hn : n ≤ 900000) (hc : m_c X τ a = c) (K : pl_cnt a R σ τ) :
    ∃ (z : Int32) (σ' τ' : ST), F_X7_takeTurn X σ R g = σ' ∧ F_X12_turns X τ a = (z, τ') ∧ pl_turned X lb g o a R σ σ' τ τ' V c n z := by
  have b7 := hG.1.2.2.2.2.2.1
  have w := pl_W (lb := lb) (o := o) hV
  have f7 : (σ.1 g 7).toInt = c 7 := (w.rd (id := 0) (by decide) 7 rfl).trans Rg.2.1.2.2.2
  have g7 : (τ.1 (q_rf X a 20) (7 : Int32).toNatClampNeg).toInt = c 7 := gm_cell (A := 7) hc rfl
  unfold F_X7_takeTurn F_X12_turns
  rw [q_letE (σ.1 g 7), f7, q_letE (τ.1 (q_rf X a 20) (7 : Int32).toNatClampNeg), g7]
  by_cases q : c 7 = 0
  · rw [if_pos q, if_neg (by omega)]
    exact pl_turnJ Y G ha hR hV Rg hG hW hn hc K
  · have q1 : c 7 = 1 := by omega
    obtain ⟨s1, s2, s3, s4, V1, c1, i1, i2, i3, i4, i5, i6⟩ := pl_leave Y G ha hR hV Rg hG hW hc q1 K
    rw [if_neg q, if_pos q1, q_letE (F_X0_letLie X σ g), q_letE (F_X12_leaves X τ a)]
    obtain ⟨z, σ', τ', j1, j2, k1, k2, k3, k4, V2, c2, l1, l2, l3, l4, l5, l6⟩ := pl_turnJ Y G ha hR i1 i3 i4 i5 hn i2 s3
    refine ⟨z, σ', τ', j1, j2, s1.tr k1, s2.tr k2, k3, ?_, V2, c2, l1, l2, l3, l4, l5, i6.tr l6⟩
    rw [k4, s4]
end PD

/-! FROM 49zp.moves.lean.txt -/
/-! A ROUND PLAYED: the moves of the class's loop, the marks of both -/
def pl_T (X : XW) (R : Nat) : Nat := q_rf X (q_rf X R 7) 0
/-- a run of its own, beside the game -/
def pl_D (X : XW) (lb : Nat → Nat) (o R : Nat) : Prop := q_kd X R = 7 ∧ lb R / 8192 ≠ o ∧ lb (pl_T X R) / 8192 ≠ o ∧ q_kd X (pl_T X R) = 20 ∧ q_ln X (pl_T X R) = 60
def pl_Sg (X : XW) (lb : Nat → Nat) (o R : Nat) (b f : Nat) : Prop := lb b / 8192 = o ∨ b = R ∧ f ≤ 6 ∨ b = pl_T X R
def pl_Sq (X : XW) (a : Nat) (b f : Nat) : Prop := b = q_rf X a 20 ∨ b = q_rf X a 28 ∨ b = a ∧ 38 ≤ f ∧ f ≤ 45
/-- both runs, both games the same -/
def pl_J (X : XW) (g a R : Nat) (V0 : Nat → Int → Int) (c0 : Int → Int) (n : Int) (σ τ : ST) : Prop :=
  pl_cnt a R σ τ ∧ σ.1 R 0 = τ.1 a 40 ∧ σ.1 R 1 = τ.1 a 41 ∧ σ.1 R 5 = τ.1 a 45 ∧ (0 ≤ (τ.1 a 40).toInt ∧ (τ.1 a 40).toInt ≤ 300) ∧ pl_gm X g a σ τ V0 c0 (n + (τ.1 a 40).toInt)
/-- neither is at its end -/
def pl_on (a : Nat) (τ : ST) : Prop := (τ.1 a 38).toInt = 0 ∧ (τ.1 a 45).toInt = 0
noncomputable def pl_L (X : XW) (g R : Nat) (x i : Int32) (σ : ST) : ST := F_X7_go_L46_1 X g R ((2147483647 - i.toInt).toNat + 1) x i σ
/-- what a piece of the round does: steps l to l', at most B moves more than a hundred a step -/
def pl_O (X : XW) (lb : Nat → Nat) (g o a R : Nat) (V0 : Nat → Int → Int) (c0 : Int → Int) (n : Int) (σ τ τ' : ST) (l l' B : Int) (x i : Int32) : Prop :=
  ∃ σ' : ST, tkl (pl_Sg X lb o R) (fun _ _ => False) σ σ' ∧ tkl (pl_Sq X a) (fun _ _ => False) τ τ' ∧ pl_J X g a R V0 c0 n σ' τ' ∧ (∀ y : Nat, (y : Int) < l ∨ l' ≤ (y : Int) → σ'.1 (pl_T X R) y = σ.1 (pl_T X R) y) ∧
    ((pl_on a τ' ∧ ∃ x' i' : Int32, x'.toInt = l' ∧ 0 ≤ i'.toInt ∧ i'.toInt - 100 * (τ'.1 a 40).toInt ≤ B ∧ pl_L X g R x i σ = pl_L X g R x' i' σ') ∨ ((τ'.1 a 38).toInt = 1 ∧ pl_L X g R x i σ = σ'))
section PE
variable {X : XW} {lb : Nat → Nat} {g o a R : Nat} {σ σ' τ τ' : ST} {V0 V : Nat → Int → Int} {c0 c : Int → Int} {n : Int}
theorem pl_len (Y : y_S X lb) (a : Nat) {k : Nat} (h : q_ln X a = k) : (q_len X a).toInt = (k : Int) := by rw [y_len Y, h]
theorem pl_tget (Y : y_S X lb) (D : pl_D X lb o R) {x : Int32} (hx : 0 ≤ x.toInt ∧ x.toInt < 60) : F_X5_get X σ (q_rf X R 7) x = σ.1 (pl_T X R) x.toNatClampNeg := by
  have e : (q_len X (pl_T X R)).toInt = 60 := pl_len Y _ D.2.2.2.2
  unfold F_X5_get
  show (if x.toInt < 0 then (0 : Int32) else q_let (q_len X (pl_T X R)) (fun n_2 => if x.toInt < n_2.toInt then q_let (σ.1 (pl_T X R) x.toNatClampNeg) (fun f_4 => f_4) else (0 : Int32))) = _
  rw [if_neg (by omega), q_letE (q_len X (pl_T X R)), e, if_pos hx.2, q_letE]
theorem pl_tset (Y : y_S X lb) (D : pl_D X lb o R) {x v : Int32} (hx : 0 ≤ x.toInt ∧ x.toInt < 60) : F_X5_set X σ (q_rf X R 7) x v = q_si σ (pl_T X R) x.toNatClampNeg v := by
  have e : (q_len X (pl_T X R)).toInt = 60 := pl_len Y _ D.2.2.2.2
  unfold F_X5_set
  show (if x.toInt < 0 then σ else q_let (q_len X (pl_T X R)) (fun n_2 => if x.toInt < n_2.toInt then q_let (q_si σ (pl_T X R) x.toNatClampNeg v) (fun f_4 => f_4) else σ)) = _
  rw [if_neg (by omega), q_letE (q_len X (pl_T X R)), e, if_pos hx.2, q_letE]
theorem pl_tadd (Y : y_S X lb) (D : pl_D X lb o R) {x v : Int32} (hx : 0 ≤ x.toInt ∧ x.toInt < 60) : F_X5_add X σ (q_rf X R 7) x v = q_si σ (pl_T X R) x.toNatClampNeg (σ.1 (pl_T X R) x.toNatClampNeg + v) := by
  have e : (q_len X (pl_T X R)).toInt = 60 := pl_len Y _ D.2.2.2.2
  unfold F_X5_add
  show (if x.toInt < 0 then σ else q_let (q_len X (pl_T X R)) (fun n_2 => if x.toInt < n_2.toInt then q_let (σ.1 (pl_T X R) x.toNatClampNeg) (fun f_4 => q_let (f_4 + v) (fun z_5 => q_let (q_si σ (pl_T X R) x.toNatClampNeg z_5) (fun s => s))) else σ)) = _
  rw [if_neg (by omega), q_letE (q_len X (pl_T X R)), e, if_pos hx.2, q_letE (σ.1 (pl_T X R) x.toNatClampNeg), q_letE (σ.1 (pl_T X R) x.toNatClampNeg + v), q_letE]
theorem pl_D.ne (D : pl_D X lb o R) : pl_T X R ≠ R := m_ne D.2.2.2.1 D.1 (by decide)
/-- a write beside the game -/
theorem pl_vo (Y : y_S X lb) (G : y_G X lb g o) {b : Nat} (hb : lb b / 8192 ≠ o) (f : Nat) (v : Int32) : y_v X g (q_si σ b f v) = y_v X g σ := pl_vR Y G hb f v
/-- a line of the round, in the class -/
theorem pl_line (Y : y_S X lb) (G : y_G X lb g o) (hV : y_v X g σ = V) {x : Int32} {l : Int} (hx : x.toInt = l) (hl : 0 ≤ l ∧ l < 60) : (F_X5_get X σ (q_rf X (q_rf X g 3) 3) x).toInt = V 18 l ∧ (F_X5_get X σ (q_rf X (q_rf X g 3) 4) x).toInt = V 19 l ∧ (F_X5_get X σ (q_rf X (q_rf X g 3) 5) x).toInt = V 20 l ∧ (F_X5_get X σ (q_rf X (q_rf X g 3) 6) x).toInt = V 21 l ∧ (F_X5_get X σ (q_rf X (q_rf X g 3) 7) x).toInt = V 22 l := by
  have w := pl_W (lb := lb) (o := o) hV
  have n18 : ((y_gn 18 : Nat) : Int) = 60 := rfl
  have n19 : ((y_gn 19 : Nat) : Int) = 60 := rfl
  have n20 : ((y_gn 20 : Nat) : Int) = 60 := rfl
  have n21 : ((y_gn 21 : Nat) : Int) = 60 := rfl
  have n22 : ((y_gn 22 : Nat) : Int) = 60 := rfl
  exact ⟨y_getI Y G w (id := 18) (r := q_rf X (q_rf X g 3) 3) ⟨by decide, by decide⟩ rfl hx hl.1 (by rw [n18]; exact hl.2), y_getI Y G w (id := 19) (r := q_rf X (q_rf X g 3) 4) ⟨by decide, by decide⟩ rfl hx hl.1 (by rw [n19]; exact hl.2), y_getI Y G w (id := 20) (r := q_rf X (q_rf X g 3) 5) ⟨by decide, by decide⟩ rfl hx hl.1 (by rw [n20]; exact hl.2), y_getI Y G w (id := 21) (r := q_rf X (q_rf X g 3) 6) ⟨by decide, by decide⟩ rfl hx hl.1 (by rw [n21]; exact hl.2), y_getI Y G w (id := 22) (r := q_rf X (q_rf X g 3) 7) ⟨by decide, by decide⟩ rfl hx hl.1 (by rw [n22]; exact hl.2)⟩
theorem pl_Ln {i x : Int32} (hi : 0 ≤ i.toInt ∧ i.toInt < 1000000) : F_X7_go_L46_1 X g R (2147483647 - i.toInt).toNat x (i + 1) σ = pl_L X g R x (i + 1) σ := by
  unfold pl_L
  have e : (i + 1).toInt = i.toInt + 1 := y_inc (by omega)
  have e2 : (2147483647 - i.toInt).toNat = (2147483647 - (i + 1).toInt).toNat + 1 := by rw [e]; omega
  rw [e2]
/-- one move -/
theorem pl_Lstep {i x : Int32} (hi : 0 ≤ i.toInt ∧ i.toInt < 1000000) (hx : x.toInt < (σ.1 (q_rf X g 3) 2).toInt) (h5 : (σ.1 R 5).toInt = 0) : pl_L X g R x i σ = if (F_X5_get X σ (q_rf X (q_rf X g 3) 3) x).toInt = 9 then q_bi (F_X7_behindEnd X σ R (q_rf X g 3) x) (fun r s => pl_L X g R r (i + 1) s) else if (σ.1 R 0).toInt = 300 then pl_L X g R x (i + 1) (q_si σ R 5 1) else q_bi (F_X7_behindStep X (q_si σ R 0 (σ.1 R 0 + 1)) R g x) (fun r s => pl_L X g R r (i + 1) s) := by
  have d : pl_L X g R x i σ = F_X7_go_B46_1 X g R (F_X7_go_L46_1 X g R (2147483647 - i.toInt).toNat) x i σ := by
    unfold pl_L
    rw [F_X7_go_L46_1_s]
  rw [d]
  unfold F_X7_go_B46_1
  rw [if_pos hi.2, q_letE (σ.1 (q_rf X g 3) 2), if_pos hx, q_letE (σ.1 R 5), if_pos h5, q_letE (F_X5_get X σ (q_rf X (q_rf X g 3) 3) x), q_letE (σ.1 R 0)]
  by_cases q : (F_X5_get X σ (q_rf X (q_rf X g 3) 3) x).toInt = 9
  · rw [if_pos q, if_pos q]
    obtain ⟨r, s, e⟩ : ∃ r s, F_X7_behindEnd X σ R (q_rf X g 3) x = (r, s) := ⟨_, _, rfl⟩
    rw [e, q_biP r s, q_biP r s, q_letE (i + 1), pl_Ln hi]
  · rw [if_neg q, if_neg q]
    by_cases q3 : (σ.1 R 0).toInt = 300
    · rw [if_pos q3, if_pos q3, q_letE (q_si σ R 5 1), q_letE (i + 1), pl_Ln hi]
    · rw [if_neg q3, if_neg q3, q_letE (σ.1 R 0), q_letE (σ.1 R 0 + 1), q_letE (q_si σ R 0 (σ.1 R 0 + 1))]
      obtain ⟨r, s, e⟩ : ∃ r s, F_X7_behindStep X (q_si σ R 0 (σ.1 R 0 + 1)) R g x = (r, s) := ⟨_, _, rfl⟩
      rw [e, q_biP r s, q_biP r s, q_letE (i + 1), pl_Ln hi]
/-- at its end -/
theorem pl_Lstop {i x : Int32} (h : (σ.1 R 5).toInt ≠ 0 ∨ (σ.1 (q_rf X g 3) 2).toInt ≤ x.toInt) : pl_L X g R x i σ = σ := by
  unfold pl_L
  rw [F_X7_go_L46_1_s]
  unfold F_X7_go_B46_1
  by_cases q : i.toInt < 1000000
  · rw [if_pos q, q_letE (σ.1 (q_rf X g 3) 2)]
    by_cases q2 : x.toInt < (σ.1 (q_rf X g 3) 2).toInt
    · rw [if_pos q2, q_letE (σ.1 R 5), if_neg (by
        rcases h with h | h
        · exact h
        · omega)]
    · rw [if_neg q2]
  · rw [if_neg q]
/-- behind a body -/
theorem pl_endMove (Y : y_S X lb) (G : y_G X lb g o) (D : pl_D X lb o R) (hV : y_v X g σ = V) {x i : Int32} {m l : Int} (hi : 0 ≤ i.toInt ∧ i.toInt < 1000000) (hx : x.toInt = m) (hm : l < m ∧ m < V 3 2) (hl : 0 ≤ l) (h60 : V 3 2 ≤ 60) (h5 : (σ.1 R 5).toInt = 0) (v18 : V 18 m = 9) (v19 : V 19 m = l) :
    ∃ y : Int32, y.toInt = l ∧ pl_L X g R x i σ = if V 18 l = 4 then pl_L X g R (if 0 < (σ.1 (pl_T X R) l.toNat - 1).toInt then y + 1 else x + 1) (i + 1) (q_si σ (pl_T X R) l.toNat (σ.1 (pl_T X R) l.toNat - 1)) else pl_L X g R (x + 1) (i + 1) σ := by
  have w := pl_W (lb := lb) (o := o) hV
  have f2 : (σ.1 (q_rf X g 3) 2).toInt = V 3 2 := w.rd (id := 3) (by decide) 2 rfl
  have ln := pl_line Y G hV hx ⟨by omega, by omega⟩
  obtain ⟨y, ey⟩ : ∃ y, y = F_X5_get X σ (q_rf X (q_rf X g 3) 4) x := ⟨_, rfl⟩
  have hy : y.toInt = l := by rw [ey, ln.2.1, v19]
  have l2 := pl_line Y G hV hy ⟨hl, by omega⟩
  have yn : y.toNatClampNeg = l.toNat := by rw [ar_cl, hy]
  refine ⟨y, hy, ?_⟩
  rw [pl_Lstep hi (by rw [f2]; omega) h5, ln.1, v18, if_pos rfl]
  unfold F_X7_behindEnd
  rw [q_letE (F_X5_get X σ (q_rf X (q_rf X g 3) 4) x), ← ey, q_letE (F_X5_get X σ (q_rf X (q_rf X g 3) 3) y), l2.1]
  by_cases q : V 18 l = 4
  · have em : σ.1 (pl_T X R) l.toNat + (-1) = σ.1 (pl_T X R) l.toNat - 1 := by
      apply Int32.toInt_inj.mp
      rw [ar_add, ar_sub, ar_m1]
      rfl
    rw [if_pos q, if_pos q, pl_tadd Y D ⟨by omega, by omega⟩, yn, em, q_letE (q_si σ (pl_T X R) l.toNat (σ.1 (pl_T X R) l.toNat - 1)), pl_tget Y D ⟨by omega, by omega⟩, yn, si_eq, q_letE (σ.1 (pl_T X R) l.toNat - 1)]
    by_cases q2 : 0 < (σ.1 (pl_T X R) l.toNat - 1).toInt
    · rw [if_pos q2, if_pos q2, q_letE (y + 1), q_biP (y + 1)]
    · rw [if_neg q2, if_neg q2, q_letE (x + 1), q_biP (x + 1)]
  · rw [if_neg q, if_neg q, q_letE (x + 1), q_biP (x + 1)]
theorem pl_J.sq (Y : y_S X lb) (ha : q_kd X a = 12) (J : pl_J X g a R V0 c0 n σ τ) {f : Nat} {v : Int32} (h : f ≠ 39 ∧ f ≠ 40 ∧ f ≠ 41 ∧ f ≠ 42 ∧ f ≠ 43 ∧ f ≠ 44 ∧ f ≠ 45) : pl_J X g a R V0 c0 n σ (q_si τ a f v) := by
  obtain ⟨⟨k6, k2, k3, k4⟩, j0, j1, j5, jb, V', c', i1, i2, i3⟩ := J
  have e : ∀ f', f' ≠ f → (q_si τ a f v).1 a f' = τ.1 a f' := fun f' hf => si_f hf _
  refine ⟨⟨?_, ?_, ?_, ?_⟩, ?_, ?_, ?_, ?_, V', c', i1, (mv_cell Y.1 ha f v).trans i2, ?_⟩
  · rw [e 39 (Ne.symm h.1)]; exact k6
  · rw [e 42 (by omega)]; exact k2
  · rw [e 43 (by omega)]; exact k3
  · rw [e 44 (by omega)]; exact k4
  · rw [e 40 (by omega)]; exact j0
  · rw [e 41 (by omega)]; exact j1
  · rw [e 45 (by omega)]; exact j5
  · rw [e 40 (by omega)]; exact jb
  · rw [e 40 (by omega)]; exact i3
theorem pl_J.st (Y : y_S X lb) (G : y_G X lb g o) (D : pl_D X lb o R) (J : pl_J X g a R V0 c0 n σ τ) (f : Nat) (v : Int32) : pl_J X g a R V0 c0 n (q_si σ (pl_T X R) f v) τ := by
  obtain ⟨⟨k6, k2, k3, k4⟩, j0, j1, j5, jb, V', c', i1, i2, i3⟩ := J
  have e : ∀ f', (q_si σ (pl_T X R) f v).1 R f' = σ.1 R f' := fun f' => q_si_ne (Ne.symm D.ne) f'
  refine ⟨⟨?_, ?_, ?_, ?_⟩, ?_, ?_, ?_, jb, V', c', (pl_vo Y G D.2.2.1 f v).trans i1, i2, i3⟩
  · rw [e]; exact k6
  · rw [e]; exact k2
  · rw [e]; exact k3
  · rw [e]; exact k4
  · rw [e]; exact j0
  · rw [e]; exact j1
  · rw [e]; exact j5
/-- a cell written as it was -/
theorem pl_same (τ : ST) (b f : Nat) : q_si τ b f (τ.1 b f) = τ := by
  have e : (fun b' f' => if b' = b ∧ f' = f then τ.1 b f else τ.1 b' f') = τ.1 := by
    funext b' f'
    split
    · rename_i h
      rw [h.1, h.2]
    · rfl
  unfold q_si
  rw [e]
/-- a step counted in both -/
theorem pl_J.step (Y : y_S X lb) (G : y_G X lb g o) (D : pl_D X lb o R) (ha : q_kd X a = 12) (J : pl_J X g a R V0 c0 n σ τ) (h : (τ.1 a 40).toInt ≠ 300) : pl_J X g a R V0 c0 n (q_si σ R 0 (σ.1 R 0 + 1)) (q_si τ a 40 (τ.1 a 40 + 1)) ∧ ((q_si τ a 40 (τ.1 a 40 + 1)).1 a 40).toInt = (τ.1 a 40).toInt + 1 := by
  obtain ⟨⟨k6, k2, k3, k4⟩, j0, j1, j5, jb, V', c', i1, i2, i3, i4, i5, i6⟩ := J
  have e : ∀ f', f' ≠ 40 → (q_si τ a 40 (τ.1 a 40 + 1)).1 a f' = τ.1 a f' := fun f' hf => si_f hf _
  have e' : ∀ f', f' ≠ 0 → (q_si σ R 0 (σ.1 R 0 + 1)).1 R f' = σ.1 R f' := fun f' hf => si_f hf _
  have e1 : ((q_si τ a 40 (τ.1 a 40 + 1)).1 a 40).toInt = (τ.1 a 40).toInt + 1 := by
    rw [si_eq]
    exact y_inc (by omega)
  refine ⟨⟨⟨?_, ?_, ?_, ?_⟩, ?_, ?_, ?_, ?_, V', c', (pl_vo Y G D.2.1 _ _).trans i1, (mv_cell Y.1 ha _ _).trans i2, i3, i4, i5.le (by omega), i6⟩, e1⟩
  · rw [e 39 (by decide), e' 6 (by decide)]; exact k6
  · rw [e 42 (by decide), e' 2 (by decide)]; exact k2
  · rw [e 43 (by decide), e' 3 (by decide)]; exact k3
  · rw [e 44 (by decide), e' 4 (by decide)]; exact k4
  · rw [si_eq, si_eq, j0]
  · rw [e 41 (by decide), e' 1 (by decide)]; exact j1
  · rw [e 45 (by decide), e' 5 (by decide)]; exact j5
  · omega
end PE

/-! FROM 49zq.plain.lean.txt -/
/-! A ROUND PLAYED: a step without a body -/
section PF
variable {X : XW} {lb : Nat → Nat} {g o a R : Nat} {σ σ' τ τ' : ST} {V0 V : Nat → Int → Int} {c0 c : Int → Int} {n : Int}
theorem st_l.act {s l : Int} (h : st_l V c s l) : 0 ≤ V 18 l ∧ V 18 l ≤ 8 ∧ (V 18 l = 4 ↔ c (656 + 9 * s) = 4) := by
  unfold st_l at h
  omega
theorem pl_fix.st (F : pl_fix V0 V c0 c) {s l : Int} (hs : 0 ≤ s ∧ s < 30) (hl : 0 ≤ l ∧ l < 60) (h : st_l V0 c0 s l) : st_l V c s l := h.x hs hl (fun id i h1 h2 _ _ => F.1 id i (by omega)) (fun j j0 _ => F.2 j (by omega) (by omega))
theorem pl_Sc_Sg (D : pl_D X lb o R) (h : tkl (pl_Sc lb o R) (fun _ _ => False) σ σ') : tkl (pl_Sg X lb o R) (fun _ _ => False) σ σ' ∧ σ'.1 R 0 = σ.1 R 0 ∧ σ'.1 R 5 = σ.1 R 5 ∧ ∀ y : Nat, σ'.1 (pl_T X R) y = σ.1 (pl_T X R) y := by
  refine ⟨h.mono (fun b f z => ?_) (fun _ _ z => z), h.1 R 0 ?_, h.1 R 5 ?_, fun y => h.1 _ y ?_⟩
  · rcases z with z | ⟨z, z1, z2, z3⟩
    · exact Or.inl z
    · exact Or.inr (Or.inl ⟨z, z2⟩)
  · rintro (z | ⟨-, z, -⟩)
    · exact D.2.1 z
    · omega
  · rintro (z | ⟨-, -, -, z⟩)
    · exact D.2.1 z
    · exact z rfl
  · rintro (z | ⟨z, -⟩)
    · exact D.2.2.1 z
    · exact D.ne z
theorem pl_Sr_Sq (ha : q_rf X a 20 ≠ a) (ha8 : q_rf X a 28 ≠ a) (h : tkl (pl_Sr X a) (fun _ _ => False) τ τ') : tkl (pl_Sq X a) (fun _ _ => False) τ τ' ∧ ∀ f, f ≠ 39 → f ≠ 42 → f ≠ 43 → f ≠ 44 → τ'.1 a f = τ.1 a f := by
  refine ⟨h.mono (fun b f z => ?_) (fun _ _ z => z), fun f h1 h2 h3 h4 => h.1 a f ?_⟩
  · rcases z with z | z | ⟨z, z1⟩
    · exact Or.inl z
    · exact Or.inr (Or.inl z)
    · exact Or.inr (Or.inr ⟨z, by omega, by omega⟩)
  · rintro (z | z | ⟨-, z⟩)
    · exact ha z.symm
    · exact ha8 z.symm
    · omega
theorem pl_w656 {v1 : Int32} {s : Int} (hv : v1.toInt = s) (hs : 0 ≤ s ∧ s < 30) : ((656 : Int32) + (9 : Int32) * v1).toInt = 656 + 9 * s := by
  have e9 : (9 : Int32).toInt = 9 := rfl
  have e6 : (656 : Int32).toInt = 656 := rfl
  rw [ar_add, ar_mul, e6, e9, hv, ar_wr (n := 9 * s) (by omega) (by omega), ar_wr (by omega) (by omega)]
theorem pl_cellk {z : Int32} {W : Int} (hc : m_c X τ a = c) (hz : z.toInt = W) (hW : 0 ≤ W ∧ W ≤ 5000) (k : Int32) {j : Int} (hk : k.toInt = j) (hj : 0 ≤ j ∧ j ≤ 10) : (τ.1 (q_rf X a 20) (z + k).toNatClampNeg).toInt = c (W + j) := gm_cell hc (by rw [ar_add, hz, hk, ar_wr (by omega) (by omega)])
/-- lies and doubts of a player set by a step -/
theorem pl_bent (Y : y_S X lb) (G : y_G X lb g o) (D : pl_D X lb o R) (ha : q_kd X a = 12) (J : pl_J X g a R V0 c0 n σ τ) {x y q z : Int32} {p : Int} {id : Nat} {r : Nat} {A : Int} (hid : id = 10 ∧ A = 10 ∧ r = q_rf X (q_rf X g 1) 3 ∨ id = 11 ∧ A = 16 ∧ r = q_rf X (q_rf X g 1) 4) (hx : x.toInt = p) (hp : 0 ≤ p ∧ p < 6) (hy : y.toInt = z.toInt) (hq : q.toInt = A + p) :
    pl_J X g a R V0 c0 n (F_X5_set X σ r x y) (q_si τ (q_rf X a 20) q.toNatClampNeg z) ∧ tkl (pl_Sc lb o R) (fun _ _ => False) σ (F_X5_set X σ r x y) := by
  obtain ⟨⟨k6, k2, k3, k4⟩, j0, j1, j5, jb, V', c', i1, i2, i3, i4, i5, i6⟩ := J
  obtain ⟨n80, n8a, n0a⟩ := pl_k28 Y.1 ha
  have n10 : ((y_gn 10 : Nat) : Int) = 6 := rfl
  have n11 : ((y_gn 11 : Nat) : Int) = 6 := rfl
  have w := pl_W (lb := lb) (o := o) i1
  have w1 : y_W X lb g o σ (F_X5_set X σ r x y) (y_up V' id p y.toInt) := by
    rw [← hx]
    rcases hid with ⟨h1, h2, h3⟩ | ⟨h1, h2, h3⟩
    · subst h1
      rw [h3]
      exact w.set Y G (id := 10) ⟨by decide, by decide⟩ rfl x y (by omega) (by rw [n10]; omega)
    · subst h1
      rw [h3]
      exact w.set Y G (id := 11) ⟨by decide, by decide⟩ rfl x y (by omega) (by rw [n11]; omega)
  have m1 : m_c X (q_si τ (q_rf X a 20) q.toNatClampNeg z) a = m_up c' (A + p) z.toInt := by rw [m_c_up (A + p) (by omega) hq, i2]
  have kr : ∀ f, (F_X5_set X σ r x y).1 R f = σ.1 R f := fun f => w1.1 R D.2.1 f
  have kt : ∀ f, (q_si τ (q_rf X a 20) q.toNatClampNeg z).1 a f = τ.1 a f := fun f => q_si_ne (Ne.symm n0a) f
  have ids : (id = 10 ∧ A = 10) ∨ (id = 11 ∧ A = 16) := by
    rcases hid with h | h
    · exact Or.inl ⟨h.1, h.2.1⟩
    · exact Or.inr ⟨h.1, h.2.1⟩
  refine ⟨⟨⟨?_, ?_, ?_, ?_⟩, ?_, ?_, ?_, ?_, y_up V' id p y.toInt, m_up c' (A + p) z.toInt, w1.2.2, m1, ?_, ?_, ?_, ?_⟩, pl_Wt w1⟩
  · rw [kr, kt]; exact k6
  · rw [kr, kt]; exact k2
  · rw [kr, kt]; exact k3
  · rw [kr, kt]; exact k4
  · rw [kr, kt]; exact j0
  · rw [kr, kt]; exact j1
  · rw [kr, kt]; exact j5
  · rw [kt]; exact jb
  · refine i3.bend (fun id' i h1 h2 => y_up_ne (Or.inl (by omega))) (fun j h => m_up_ne (by omega)) (fun p' p0 p1 => ?_)
    have hh := i3.2.2.1 p' p0 p1
    rcases ids with ⟨h1, h2⟩ | ⟨h1, h2⟩
    · subst h1
      subst h2
      refine ⟨?_, ?_⟩
      · by_cases e : p' = p
        · rw [e, y_up_eq, m_up_eq, hy]
        · rw [y_up_ne (Or.inr e), m_up_ne (by omega)]; exact hh.1
      · rw [y_up_ne (Or.inl (by decide)), m_up_ne (by omega)]; exact hh.2.1
    · subst h1
      subst h2
      refine ⟨?_, ?_⟩
      · rw [y_up_ne (Or.inl (by decide)), m_up_ne (by omega)]; exact hh.1
      · by_cases e : p' = p
        · rw [e, y_up_eq, m_up_eq, hy]
        · rw [y_up_ne (Or.inr e), m_up_ne (by omega)]; exact hh.2.1
  · exact i4.wr m_up_e (Or.inr (Or.inr (Or.inl ⟨by omega, by omega⟩)))
  · rw [kt]
    exact i5.wr m_up_e (Or.inl (by omega))
  · exact i6.tr ⟨fun id' i h => y_up_ne (Or.inl (by omega)), fun j j0 h => m_up_ne (by omega)⟩
/-- cut behind three hundred steps -/
theorem pl_cut (Y : y_S X lb) (G : y_G X lb g o) (D : pl_D X lb o R) (ha : q_kd X a = 12) (J : pl_J X g a R V0 c0 n σ τ) {l l' B : Int} {x i : Int32} (step : pl_L X g R x i σ = pl_L X g R x (i + 1) (q_si σ R 5 1)) : pl_O X lb g o a R V0 c0 n σ τ (q_si (q_si τ a 38 1) a 45 1) l l' B x i := by
  obtain ⟨⟨k6, k2, k3, k4⟩, j0, j1, j5, jb, V', c', i1, i2, i3, i4, i5, i6⟩ := J
  have r5 : (q_si σ R 5 1).1 R 5 = 1 := si_eq _ _ _ _
  have e' : ∀ f', f' ≠ 5 → (q_si σ R 5 1).1 R f' = σ.1 R f' := fun f' hf => si_f hf _
  have t' : ∀ f', f' ≠ 38 → f' ≠ 45 → (q_si (q_si τ a 38 1) a 45 1).1 a f' = τ.1 a f' := fun f' h1 h2 => (si_f h2 _).trans (si_f h1 _)
  have t45 : (q_si (q_si τ a 38 1) a 45 1).1 a 45 = 1 := si_eq _ _ _ _
  have t38 : (q_si (q_si τ a 38 1) a 45 1).1 a 38 = 1 := (si_f (by decide) _).trans (si_eq _ _ _ _)
  refine ⟨q_si σ R 5 1, tkl.rf.si _ (Or.inr (Or.inl ⟨rfl, by decide⟩)), (tkl.rf.si _ (Or.inr (Or.inr ⟨rfl, by decide, by decide⟩))).si _ (Or.inr (Or.inr ⟨rfl, by decide, by decide⟩)), ⟨⟨?_, ?_, ?_, ?_⟩, ?_, ?_, ?_, ?_, V', c', (pl_vo Y G D.2.1 5 1).trans i1, (mv_cell Y.1 ha 45 1).trans ((mv_cell Y.1 ha 38 1).trans i2), i3, i4, ?_, i6⟩, fun y _ => q_si_ne D.ne y, Or.inr ⟨by rw [t38]; rfl, ?_⟩⟩
  · rw [e' 6 (by decide), t' 39 (by decide) (by decide)]; exact k6
  · rw [e' 2 (by decide), t' 42 (by decide) (by decide)]; exact k2
  · rw [e' 3 (by decide), t' 43 (by decide) (by decide)]; exact k3
  · rw [e' 4 (by decide), t' 44 (by decide) (by decide)]; exact k4
  · rw [e' 0 (by decide), t' 40 (by decide) (by decide)]; exact j0
  · rw [e' 1 (by decide), t' 41 (by decide) (by decide)]; exact j1
  · rw [r5, t45]
  · rw [t' 40 (by decide) (by decide)]; exact jb
  · rw [t' 40 (by decide) (by decide)]; exact i5
  · rw [step]
    exact pl_Lstop (Or.inl (by rw [r5]; decide))
theorem pl_plain (Y : y_S X lb) (G : y_G X lb g o) (D : pl_D X lb o R) (ha : q_kd X a = 12) (hn : n ≤ 800000) (J : pl_J X g a R V0 c0 n σ τ) (on : pl_on a τ) {s l : Int} (S : st_l V0 c0 s l) (hs : 0 ≤ s ∧ s < c0 655) (hl : 0 ≤ l ∧ l < V0 3 2) (h60 : V0 3 2 ≤ 60) (hne : c0 (656 + 9 * s) ≠ 3 ∧ c0 (656 + 9 * s) ≠ 4) {x i v1 : Int32} (hx : x.toInt = l) (hv : v1.toInt = s) {B : Int} (hi : 0 ≤ i.toInt) (hB : i.toInt - 100 * (τ.1 a 40).toInt ≤ B) (hB0 : B ≤ 0) (FA : ST → Int32 → Int32 → ST) :
    pl_O X lb g o a R V0 c0 n σ τ (F_X12_doOne_s X τ a v1 FA) l (l + 1) B x i := by
  obtain ⟨n80, n8a, n0a⟩ := pl_k28 Y.1 ha
  obtain ⟨⟨k6, k2, k3, k4⟩, j0, j1, j5, jb, V', c', i1, i2, i3, i4, i5, i6⟩ := id J
  have one : (1 : Int32).toInt = 1 := rfl
  have two : (2 : Int32).toInt = 2 := rfl
  have w := pl_W (lb := lb) (o := o) i1
  have e655 : c' 655 = c0 655 := i6.2 655 (by decide) (Or.inr (by decide))
  have qq := i4.2.2.2.2.2.1
  have s30 : s < 30 := by omega
  have hl60 : 0 ≤ l ∧ l < 60 := ⟨hl.1, by omega⟩
  have v32 : V' 3 2 = V0 3 2 := i6.1 3 2 (by decide)
  have st := i6.st ⟨hs.1, s30⟩ hl60 S
  have ck : c' (656 + 9 * s) = c0 (656 + 9 * s) := i6.2 _ (by omega) (by omega)
  rw [← ck] at hne
  have act := st.act
  have f2 : (σ.1 (q_rf X g 3) 2).toInt = V0 3 2 := (w.rd (id := 3) (by decide) 2 rfl).trans v32
  have ln := pl_line Y G i1 hx hl60
  have h5 : (σ.1 R 5).toInt = 0 := by rw [j5]; exact on.2
  have hi6 : 0 ≤ i.toInt ∧ i.toInt < 1000000 := ⟨hi, by omega⟩
  have r0 : (σ.1 R 0).toInt = (τ.1 a 40).toInt := congrArg Int32.toInt j0
  have xi : (x + 1).toInt = l + 1 := by rw [y_inc (by omega), hx]
  have ii : (i + 1).toInt = i.toInt + 1 := y_inc (by omega)
  have step := pl_Lstep (X := X) (x := x) hi6 (by rw [f2]; omega) h5
  rw [if_neg (by rw [ln.1]; omega), r0] at step
  unfold F_X12_doOne_s
  rw [q_letE (τ.1 a 40)]
  by_cases q300 : (τ.1 a 40).toInt = 300
  · rw [if_pos q300] at step
    rw [if_pos q300, q_letE (q_si τ a 38 1), q_letE (q_si (q_si τ a 38 1) a 45 1)]
    exact pl_cut Y G D ha J step
  rw [if_neg q300] at step
  obtain ⟨J5, D5⟩ := J.step Y G D ha q300
  have v5 : y_v X g (q_si σ R 0 (σ.1 R 0 + 1)) = V' := (pl_vo Y G D.2.1 0 _).trans i1
  have m5 : m_c X (q_si τ a 40 (τ.1 a 40 + 1)) a = c' := (mv_cell Y.1 ha 40 _).trans i2
  have S5 : tkl (pl_Sg X lb o R) (fun _ _ => False) σ (q_si σ R 0 (σ.1 R 0 + 1)) := tkl.rf.si _ (Or.inr (Or.inl ⟨rfl, by decide⟩))
  have T5 : tkl (pl_Sq X a) (fun _ _ => False) τ (q_si τ a 40 (τ.1 a 40 + 1)) := tkl.rf.si _ (Or.inr (Or.inr ⟨rfl, by decide, by decide⟩))
  have u5 : ∀ y : Nat, (q_si σ R 0 (σ.1 R 0 + 1)).1 (pl_T X R) y = σ.1 (pl_T X R) y := fun y => q_si_ne D.ne y
  have on5 : pl_on a (q_si τ a 40 (τ.1 a 40 + 1)) := ⟨(congrArg Int32.toInt (si_f (by decide) a)).trans on.1, (congrArg Int32.toInt (si_f (by decide) a)).trans on.2⟩
  rw [if_neg q300, q_letE (τ.1 a 40), q_letE (τ.1 a 40 + 1), q_letE (q_si τ a 40 (τ.1 a 40 + 1)), q_letE ((9 : Int32) * v1), q_letE ((656 : Int32) + (9 : Int32) * v1)]
  obtain ⟨σ5, es⟩ : ∃ t, t = q_si σ R 0 (σ.1 R 0 + 1) := ⟨_, rfl⟩
  obtain ⟨τ5, et⟩ : ∃ t, t = q_si τ a 40 (τ.1 a 40 + 1) := ⟨_, rfl⟩
  rw [← es] at J5 v5 S5 u5 step
  rw [← et] at J5 D5 m5 T5 on5 ⊢
  have wz := pl_w656 hv ⟨hs.1, s30⟩
  obtain ⟨z7, ez⟩ : ∃ z, z = (656 : Int32) + (9 : Int32) * v1 := ⟨_, rfl⟩
  rw [← ez] at wz ⊢
  have g8 : (τ5.1 (q_rf X a 20) z7.toNatClampNeg).toInt = c' (656 + 9 * s) := gm_cell m5 wz
  have gk : ∀ (k : Int32) (j : Int), k.toInt = j → 0 ≤ j ∧ j ≤ 10 → (τ5.1 (q_rf X a 20) (z7 + k).toNatClampNeg).toInt = c' (656 + 9 * s + j) := fun k j h1 h2 => pl_cellk m5 wz ⟨by omega, by omega⟩ k h1 h2
  have ln5 := pl_line Y G v5 hx hl60
  rw [q_letE (τ5.1 (q_rf X a 20) z7.toNatClampNeg), g8]
  -- the class's step
  have bs := step
  unfold F_X7_behindStep at bs
  rw [q_letE (F_X5_get X σ5 (q_rf X (q_rf X g 3) 5) x), q_letE (F_X5_get X σ5 (q_rf X (q_rf X g 3) 7) x), q_letE (F_X5_get X σ5 (q_rf X (q_rf X g 3) 4) x), q_letE (F_X5_get X σ5 (q_rf X (q_rf X g 3) 4) x + 1), q_letE (F_X5_get X σ5 (q_rf X (q_rf X g 3) 3) x), ln5.1] at bs
  have close : ∀ (σ' τ' : ST), pl_J X g a R V0 c0 n σ' τ' → tkl (pl_Sc lb o R) (fun _ _ => False) σ5 σ' → tkl (pl_Sq X a) (fun _ _ => False) τ5 τ' → pl_on a τ' → τ'.1 a 40 = τ5.1 a 40 → pl_L X g R x i σ = pl_L X g R (x + 1) (i + 1) σ' → pl_O X lb g o a R V0 c0 n σ τ τ' l (l + 1) B x i := by
    intro σ' τ' h1 h2 h3 h4 h6 h7
    obtain ⟨p1, p2, p3, p4⟩ := pl_Sc_Sg D h2
    exact ⟨σ', S5.tr p1, T5.tr h3, h1, fun y _ => (p4 y).trans (u5 y), Or.inl ⟨h4, x + 1, i + 1, xi, by omega, by rw [h6, D5]; omega, h7⟩⟩
  have st' := st
  unfold st_l at st'
  have qs := (i4.2.2.2.2.2.2 s hs.1 (by rw [e655]; exact hs.2)).2.1
  rcases st' with ⟨h0, h1⟩ | ⟨h0, h1, h2, h3⟩ | ⟨h0, h1, h2, h3⟩ | ⟨h0, h1⟩ | ⟨h0, -⟩ | ⟨h0, -⟩ | ⟨h0, -⟩ | ⟨h0, -⟩ | ⟨h0, -⟩
  · -- a turn
    rw [h1, if_pos rfl] at bs
    rw [h0, if_pos (by decide : (0 : Int) < 3)]
    obtain ⟨z, σ6, τ6, x1, x2, y1, y2, y3, y4, y5⟩ := pl_turn Y G ha D.2.1 v5 i3 i4 i5 (by omega) m5 J5.1
    unfold F_X12_does
    rw [q_letE (τ5.1 a 41), q_letE (τ5.1 (q_rf X a 20) z7.toNatClampNeg), g8, h0, if_pos (rfl : (0 : Int) = 0), x2, q_biP z τ6, q_biP z τ6]
    rw [q_letE (F_X7_takeTurn X σ5 R g), x1, q_letE (x + 1), q_biP (x + 1)] at bs
    obtain ⟨p1, p2, p3, p4⟩ := pl_Sc_Sg D y1
    obtain ⟨r1, r2⟩ := pl_Sr_Sq n0a n8a y2
    obtain ⟨y, ey⟩ : ∃ y, y = if z.toInt = 0 then τ5.1 a 41 + 1 else τ5.1 a 41 := ⟨_, rfl⟩
    have rf : (if z.toInt = 0 then q_let (τ5.1 a 41 + 1) (fun z_59 => q_let (q_si τ6 a 41 z_59) (fun σ_60 => σ_60)) else q_let (τ5.1 a 41 + 0) (fun z_61 => q_let (q_si τ6 a 41 z_61) (fun σ_62 => σ_62))) = q_si τ6 a 41 y := by
      rw [ey]
      by_cases q : z.toInt = 0
      · rw [if_pos q, if_pos q, q_letE, q_letE]
      · rw [if_neg q, if_neg q, q_letE, q_letE, Int32.add_zero]
    rw [rf]
    have t6 : ∀ f, f ≠ 41 → (q_si τ6 a 41 y).1 a f = τ6.1 a f := fun f h => si_f h _
    have D6 : (q_si τ6 a 41 y).1 a 40 = τ5.1 a 40 := (t6 40 (by decide)).trans (r2 40 (by decide) (by decide) (by decide) (by decide))
    obtain ⟨V2, c2, o1, o2, o3, o4, o5, o6⟩ := y5
    refine close σ6 (q_si τ6 a 41 y) ⟨⟨?_, ?_, ?_, ?_⟩, ?_, ?_, ?_, ?_, V2, c2, o1, (mv_cell Y.1 ha 41 y).trans o2, o3, o4, ?_, i6.tr o6⟩ y1 (r1.si _ (Or.inr (Or.inr ⟨rfl, by decide, by decide⟩))) ⟨?_, ?_⟩ D6 bs
    · rw [t6 39 (by decide)]; exact y3.1
    · rw [t6 42 (by decide)]; exact y3.2.1
    · rw [t6 43 (by decide)]; exact y3.2.2.1
    · rw [t6 44 (by decide)]; exact y3.2.2.2
    · rw [p2, D6]; exact J5.2.1
    · rw [y4, si_eq, ey, J5.2.2.1]
    · rw [p3, t6 45 (by decide), r2 45 (by decide) (by decide) (by decide) (by decide)]; exact J5.2.2.2.1
    · rw [D6]; exact J5.2.2.2.2.1
    · rw [D6, D5]
      have e : n + (τ.1 a 40).toInt + 1 = n + ((τ.1 a 40).toInt + 1) := by omega
      rw [← e]
      exact o5
    · rw [t6 38 (by decide), r2 38 (by decide) (by decide) (by decide) (by decide)]; exact on5.1
    · rw [t6 45 (by decide), r2 45 (by decide) (by decide) (by decide) (by decide)]; exact on5.2
  · -- lies
    have hp := qs (Or.inl h0)
    rw [h1, if_neg (by decide : ¬ (1 : Int) = 0), if_pos rfl, q_letE (F_X5_set X σ5 (q_rf X (q_rf X g 1) 3) (F_X5_get X σ5 (q_rf X (q_rf X g 3) 5) x) (F_X5_get X σ5 (q_rf X (q_rf X g 3) 7) x)), q_letE (x + 1), q_biP (x + 1)] at bs
    rw [h0, if_pos (by decide : (1 : Int) < 3)]
    unfold F_X12_does
    rw [q_letE (τ5.1 a 41), q_letE (τ5.1 (q_rf X a 20) z7.toNatClampNeg), g8, h0, if_neg (by decide : ¬ (1 : Int) = 0), if_pos rfl, q_letE (z7 + 1), q_letE (τ5.1 (q_rf X a 20) (z7 + 1).toNatClampNeg), q_letE ((10 : Int32) + τ5.1 (q_rf X a 20) (z7 + 1).toNatClampNeg), q_letE (z7 + 2), q_letE (τ5.1 (q_rf X a 20) (z7 + 2).toNatClampNeg)]
    have e1 := gk 1 1 rfl (by decide)
    have e2 := gk 2 2 rfl (by decide)
    have e10 : (10 : Int32).toInt = 10 := rfl
    obtain ⟨J6, y1⟩ := pl_bent Y G D ha J5 (x := F_X5_get X σ5 (q_rf X (q_rf X g 3) 5) x) (y := F_X5_get X σ5 (q_rf X (q_rf X g 3) 7) x) (q := (10 : Int32) + τ5.1 (q_rf X a 20) (z7 + 1).toNatClampNeg) (z := τ5.1 (q_rf X a 20) (z7 + 2).toNatClampNeg) (p := c' (656 + 9 * s + 1)) (Or.inl ⟨rfl, rfl, rfl⟩) (ln5.2.2.1.trans h2) ⟨hp.1, by omega⟩ ((ln5.2.2.2.2.trans h3).trans e2.symm) (by rw [ar_add, e10, e1, ar_wr (by omega) (by omega)])
    rw [q_letE (q_si τ5 (q_rf X a 20) ((10 : Int32) + τ5.1 (q_rf X a 20) (z7 + 1).toNatClampNeg).toNatClampNeg (τ5.1 (q_rf X a 20) (z7 + 2).toNatClampNeg)), q_biP (1 : Int32), if_neg (by decide : ¬ (1 : Int32).toInt = 0), q_letE (τ5.1 a 41 + 0)]
    obtain ⟨τ6, e6⟩ : ∃ t, t = q_si τ5 (q_rf X a 20) ((10 : Int32) + τ5.1 (q_rf X a 20) (z7 + 1).toNatClampNeg).toNatClampNeg (τ5.1 (q_rf X a 20) (z7 + 2).toNatClampNeg) := ⟨_, rfl⟩
    have t6 : ∀ f, τ6.1 a f = τ5.1 a f := fun f => by rw [e6]; exact q_si_ne (Ne.symm n0a) f
    have T6 : tkl (pl_Sq X a) (fun _ _ => False) τ5 τ6 := by rw [e6]; exact tkl.rf.si _ (Or.inl rfl)
    rw [← e6] at J6 ⊢
    have same : q_si τ6 a 41 (τ5.1 a 41 + 0) = τ6 := by
      rw [Int32.add_zero, ← t6 41]
      exact pl_same τ6 a 41
    rw [q_letE (q_si τ6 a 41 (τ5.1 a 41 + 0)), same]
    exact close _ τ6 J6 y1 T6 ⟨by rw [t6]; exact on5.1, by rw [t6]; exact on5.2⟩ (t6 40) bs
  · -- doubts
    have hp := qs (Or.inr (Or.inl h0))
    rw [h1, if_neg (by decide : ¬ (2 : Int) = 0), if_neg (by decide : ¬ (2 : Int) = 1), if_pos rfl, q_letE (F_X5_set X σ5 (q_rf X (q_rf X g 1) 4) (F_X5_get X σ5 (q_rf X (q_rf X g 3) 5) x) (F_X5_get X σ5 (q_rf X (q_rf X g 3) 7) x)), q_letE (x + 1), q_biP (x + 1)] at bs
    rw [h0, if_pos (by decide : (2 : Int) < 3)]
    unfold F_X12_does
    rw [q_letE (τ5.1 a 41), q_letE (τ5.1 (q_rf X a 20) z7.toNatClampNeg), g8, h0, if_neg (by decide : ¬ (2 : Int) = 0), if_neg (by decide : ¬ (2 : Int) = 1), q_letE (z7 + 1), q_letE (τ5.1 (q_rf X a 20) (z7 + 1).toNatClampNeg), q_letE ((16 : Int32) + τ5.1 (q_rf X a 20) (z7 + 1).toNatClampNeg), q_letE (z7 + 2), q_letE (τ5.1 (q_rf X a 20) (z7 + 2).toNatClampNeg)]
    have e1 := gk 1 1 rfl (by decide)
    have e2 := gk 2 2 rfl (by decide)
    have e16 : (16 : Int32).toInt = 16 := rfl
    obtain ⟨J6, y1⟩ := pl_bent Y G D ha J5 (x := F_X5_get X σ5 (q_rf X (q_rf X g 3) 5) x) (y := F_X5_get X σ5 (q_rf X (q_rf X g 3) 7) x) (q := (16 : Int32) + τ5.1 (q_rf X a 20) (z7 + 1).toNatClampNeg) (z := τ5.1 (q_rf X a 20) (z7 + 2).toNatClampNeg) (p := c' (656 + 9 * s + 1)) (Or.inr ⟨rfl, rfl, rfl⟩) (ln5.2.2.1.trans h2) ⟨hp.1, by omega⟩ ((ln5.2.2.2.2.trans h3).trans e2.symm) (by rw [ar_add, e16, e1, ar_wr (by omega) (by omega)])
    rw [q_letE (q_si τ5 (q_rf X a 20) ((16 : Int32) + τ5.1 (q_rf X a 20) (z7 + 1).toNatClampNeg).toNatClampNeg (τ5.1 (q_rf X a 20) (z7 + 2).toNatClampNeg)), q_biP (1 : Int32), if_neg (by decide : ¬ (1 : Int32).toInt = 0), q_letE (τ5.1 a 41 + 0)]
    obtain ⟨τ6, e6⟩ : ∃ t, t = q_si τ5 (q_rf X a 20) ((16 : Int32) + τ5.1 (q_rf X a 20) (z7 + 1).toNatClampNeg).toNatClampNeg (τ5.1 (q_rf X a 20) (z7 + 2).toNatClampNeg) := ⟨_, rfl⟩
    have t6 : ∀ f, τ6.1 a f = τ5.1 a f := fun f => by rw [e6]; exact q_si_ne (Ne.symm n0a) f
    have T6 : tkl (pl_Sq X a) (fun _ _ => False) τ5 τ6 := by rw [e6]; exact tkl.rf.si _ (Or.inl rfl)
    rw [← e6] at J6 ⊢
    have same : q_si τ6 a 41 (τ5.1 a 41 + 0) = τ6 := by
      rw [Int32.add_zero, ← t6 41]
      exact pl_same τ6 a 41
    rw [q_letE (q_si τ6 a 41 (τ5.1 a 41 + 0)), same]
    exact close _ τ6 J6 y1 T6 ⟨by rw [t6]; exact on5.1, by rw [t6]; exact on5.2⟩ (t6 40) bs
  · -- stop
    have f52 : (σ5.1 (q_rf X g 3) 2).toInt = V0 3 2 := ((pl_W (lb := lb) (o := o) v5).rd (id := 3) (by decide) 2 rfl).trans v32
    rw [h1, if_neg (by decide : ¬ (3 : Int) = 0), if_neg (by decide : ¬ (3 : Int) = 1), if_neg (by decide : ¬ (3 : Int) = 2), if_pos rfl, q_letE (σ5.1 (q_rf X g 3) 2), q_biP (σ5.1 (q_rf X g 3) 2)] at bs
    rw [h0, if_neg (by decide : ¬ (5 : Int) < 3), if_neg (by decide : ¬ (5 : Int) = 3), if_neg (by decide : ¬ (5 : Int) = 4), if_pos (by decide : (4 : Int) < 5), q_letE (q_si τ5 a 38 1)]
    refine ⟨σ5, S5, T5.si _ (Or.inr (Or.inr ⟨rfl, by decide, by decide⟩)), J5.sq Y ha (by decide), fun y _ => u5 y, Or.inr ⟨by rw [si_eq]; rfl, ?_⟩⟩
    rw [bs]
    exact pl_Lstop (Or.inr (Int.le_refl _))
  · exact absurd h0 hne.2
  · exact absurd h0 hne.1
  · exact absurd h0 hne.1
  · exact absurd h0 hne.1
  · exact absurd h0 hne.1
end PF

/-! FROM 49zr.blocks.lean.txt -/
/-! A ROUND PLAYED: steps with a body; all steps -/
section PG
variable {X : XW} {lb : Nat → Nat} {g o a R : Nat} {σ σ' σ1 τ τ' τ1 : ST} {V0 V : Nat → Int → Int} {c0 c : Int → Int} {n l l' B : Int} {x i x1 i1 : Int32}
theorem pl_O.pre (h1 : tkl (pl_Sg X lb o R) (fun _ _ => False) σ σ1) (h2 : tkl (pl_Sq X a) (fun _ _ => False) τ τ1) (hT : ∀ y : Nat, (y : Int) < l ∨ l' ≤ (y : Int) → σ1.1 (pl_T X R) y = σ.1 (pl_T X R) y) (hL : pl_L X g R x i σ = pl_L X g R x1 i1 σ1) (h : pl_O X lb g o a R V0 c0 n σ1 τ1 τ' l l' B x1 i1) : pl_O X lb g o a R V0 c0 n σ τ τ' l l' B x i := by
  obtain ⟨σ', a1, a2, a3, a4, a5⟩ := h
  refine ⟨σ', h1.tr a1, h2.tr a2, a3, fun y hy => (a4 y hy).trans (hT y hy), ?_⟩
  rcases a5 with ⟨b1, x', i', b2, b3, b4, b5⟩ | ⟨b1, b2⟩
  · exact Or.inl ⟨b1, x', i', b2, b3, b4, hL.trans b5⟩
  · exact Or.inr ⟨b1, hL.trans b2⟩
theorem pl_J.lines (J : pl_J X g a R V0 c0 n σ τ) : (σ.1 (q_rf X g 3) 2).toInt = V0 3 2 := by
  obtain ⟨-, -, -, -, -, V', c', i1, -, -, -, -, i6⟩ := J
  exact ((pl_W (lb := fun _ => 0) (o := 0) i1).rd (id := 3) (by decide) 2 rfl).trans (i6.1 3 2 (by decide))
theorem pl_meets (Y : y_S X lb) (G : y_G X lb g o) (hV : y_v X g σ = V) (hc : m_c X τ a = c) {s : Int} (hx : x.toInt = l) (hl : 0 ≤ l ∧ l < 60) {z7 : Int32} (wz : z7.toInt = 656 + 9 * s) (hs : 0 ≤ s ∧ s < 30) (h1 : V 21 l = c (656 + 9 * s + 7)) (h2 : V 22 l = c (656 + 9 * s + 2)) {u u' : Int32} (hu : u.toInt = u'.toInt) : (F_X8_meets X σ (q_rf X g 3) x u).toInt = (F_X12_isSo_J78_1 X z7 τ a u').toInt := by
  have ln := pl_line Y G hV hx hl
  have e7 := pl_cellk hc wz ⟨by omega, by omega⟩ 7 (j := 7) rfl (by decide)
  have e2 := pl_cellk hc wz ⟨by omega, by omega⟩ 2 (j := 2) rfl (by decide)
  unfold F_X8_meets F_X12_isSo_J78_1
  rw [q_letE (F_X5_get X σ (q_rf X (q_rf X g 3) 7) x), q_letE (F_X5_get X σ (q_rf X (q_rf X g 3) 6) x), ln.2.2.2.1, ln.2.2.2.2, h1, h2, q_letE (z7 + 7), q_letE (τ.1 (q_rf X a 20) (z7 + 7).toNatClampNeg), e7, hu]
  by_cases q : c (656 + 9 * s + 7) = 60
  · rw [if_pos q, if_pos q, q_letE (z7 + 2), q_letE (τ.1 (q_rf X a 20) (z7 + 2).toNatClampNeg), e2]
  · rw [if_neg q, if_neg q, q_letE (z7 + 7), q_letE (τ.1 (q_rf X a 20) (z7 + 7).toNatClampNeg), e7]
    by_cases q2 : c (656 + 9 * s + 7) = 62
    · rw [if_pos q2, if_pos q2, q_letE (z7 + 2), q_letE (τ.1 (q_rf X a 20) (z7 + 2).toNatClampNeg), e2]
    · rw [if_neg q2, if_neg q2, q_letE (z7 + 2), q_letE (τ.1 (q_rf X a 20) (z7 + 2).toNatClampNeg), e2]
/-- a test, in both -/
theorem pl_so (Y : y_S X lb) (G : y_G X lb g o) (hV : y_v X g σ = V) (Rg : rg V c) (hG : m_G c) (hc : m_c X τ a = c) {s : Int} (hx : x.toInt = l) (hl : 0 ≤ l ∧ l < 60) (st : st_l V c s l) (h3 : c (656 + 9 * s) = 3) {z7 : Int32} (wz : z7.toInt = 656 + 9 * s) (hs : 0 ≤ s ∧ s < c 655) (hm : 0 ≤ V 19 l ∧ V 19 l < 60) :
    ∃ y : Int32, y.toInt = V 19 l + 1 ∧ F_X7_behindStep X σ R g x = if (F_X12_isSo X τ a z7).toInt = 0 then (y, σ) else (x + 1, σ) := by
  have one : (1 : Int32).toInt = 1 := rfl
  have e22 : (22 : Int32).toInt = 22 := rfl
  have n9 : ((y_gn 9 : Nat) : Int) = 6 := rfl
  have n12 : ((y_gn 12 : Nat) : Int) = 6 := rfl
  have qq := hG.2.2.2.2.2.1
  have s30 : 0 ≤ s ∧ s < 30 := by omega
  have w := pl_W (lb := lb) (o := o) hV
  have ln := pl_line Y G hV hx hl
  have yv : (F_X5_get X σ (q_rf X (q_rf X g 3) 4) x + 1).toInt = V 19 l + 1 := by
    rw [y_inc (by rw [ln.2.1]; omega), ln.2.1]
  refine ⟨_, yv, ?_⟩
  have gk : ∀ (k : Int32) (j : Int), k.toInt = j → 0 ≤ j ∧ j ≤ 10 → (τ.1 (q_rf X a 20) (z7 + k).toNatClampNeg).toInt = c (656 + 9 * s + j) := fun k j h1 h2 => pl_cellk hc wz ⟨by omega, by omega⟩ k h1 h2
  have e6 := gk 6 6 rfl (by decide)
  have e1 := gk 1 1 rfl (by decide)
  unfold F_X7_behindStep
  rw [q_letE (F_X5_get X σ (q_rf X (q_rf X g 3) 5) x), q_letE (F_X5_get X σ (q_rf X (q_rf X g 3) 7) x), q_letE (F_X5_get X σ (q_rf X (q_rf X g 3) 4) x), q_letE (F_X5_get X σ (q_rf X (q_rf X g 3) 4) x + 1), q_letE (F_X5_get X σ (q_rf X (q_rf X g 3) 3) x), ln.1]
  have qs := (hG.2.2.2.2.2.2 s hs.1 hs.2).2.1
  have st' := st
  unfold st_l at st'
  rcases st' with ⟨h0, -⟩ | ⟨h0, -⟩ | ⟨h0, -⟩ | ⟨h0, -⟩ | ⟨h0, -⟩ | ⟨-, k6, k18, k20, k21, k22⟩ | ⟨-, k6, k18, k21, k22⟩ | ⟨-, k6, k18, k20, k21, k22⟩ | ⟨-, k6, k18⟩
  · omega
  · omega
  · omega
  · omega
  · omega
  · have hp := qs (Or.inr (Or.inr ⟨h3, Or.inl k6⟩))
    have is : F_X12_isSo X τ a z7 = F_X12_isSo_J78_1 X z7 τ a (F_X12_cardsOf X τ a (τ.1 (q_rf X a 20) (z7 + 1).toNatClampNeg)) := by
      unfold F_X12_isSo
      rw [q_letE (z7 + 6), q_letE (τ.1 (q_rf X a 20) (z7 + 6).toNatClampNeg), e6, k6, if_neg (by decide : ¬ (0 : Int) = 3), if_pos (rfl : (0 : Int) = 0), q_letE (z7 + 1), q_letE (τ.1 (q_rf X a 20) (z7 + 1).toNatClampNeg), q_letE (F_X12_cardsOf X τ a (τ.1 (q_rf X a 20) (z7 + 1).toNatClampNeg))]
    rw [k18, is, if_neg (by decide : ¬ (5 : Int) = 0), if_neg (by decide : ¬ (5 : Int) = 1), if_neg (by decide : ¬ (5 : Int) = 2), if_neg (by decide : ¬ (5 : Int) = 3), if_neg (by decide : ¬ (5 : Int) = 4), if_pos (rfl : (5 : Int) = 5)]
    have c1 : (F_X5_get X σ (q_rf X (q_rf X g 1) 2) (F_X5_get X σ (q_rf X (q_rf X g 3) 5) x)).toInt = m_S c (34 + 10 * c (656 + 9 * s + 1)) 10 := (y_getI Y G w (id := 9) (r := q_rf X (q_rf X g 1) 2) ⟨by decide, by decide⟩ rfl (ln.2.2.1.trans k20) hp.1 (by rw [n9]; omega)).trans (Rg.2.2.2.1.2 _ hp.1 (by omega))
    have c2 := gm_cardsOf (X := X) hc hG e1 ⟨hp.1, by omega⟩
    have mm := pl_meets (X := X) (τ := τ) (a := a) Y G hV hc hx hl wz s30 k21 k22 (c1.trans c2.symm)
    rw [q_letE (F_X5_get X σ (q_rf X (q_rf X g 1) 2) (F_X5_get X σ (q_rf X (q_rf X g 3) 5) x)), q_letE (F_X8_meets X σ (q_rf X g 3) x (F_X5_get X σ (q_rf X (q_rf X g 1) 2) (F_X5_get X σ (q_rf X (q_rf X g 3) 5) x))), mm, q_letE (x + 1)]
  · have is : F_X12_isSo X τ a z7 = F_X12_isSo_J78_1 X z7 τ a (F_X12_heapMany X τ a) := by
      unfold F_X12_isSo
      rw [q_letE (z7 + 6), q_letE (τ.1 (q_rf X a 20) (z7 + 6).toNatClampNeg), e6, k6, if_neg (by decide : ¬ (1 : Int) = 3), if_neg (by decide : ¬ (1 : Int) = 0), if_pos (rfl : (1 : Int) = 1), q_letE (F_X12_heapMany X τ a)]
    rw [k18, is, if_neg (by decide : ¬ (6 : Int) = 0), if_neg (by decide : ¬ (6 : Int) = 1), if_neg (by decide : ¬ (6 : Int) = 2), if_neg (by decide : ¬ (6 : Int) = 3), if_neg (by decide : ¬ (6 : Int) = 4), if_neg (by decide : ¬ (6 : Int) = 5), if_pos (rfl : (6 : Int) = 6)]
    have c1 : (σ.1 (q_rf X g 2) 1).toInt = m_L c (c 9).toNat := (w.rd (id := 2) (by decide) 1 rfl).trans Rg.2.2.2.2.1.2.1
    have c2 := lk_heap (X := X) hc hG
    have mm := pl_meets (X := X) (τ := τ) (a := a) Y G hV hc hx hl wz s30 k21 k22 (c1.trans c2.symm)
    rw [q_letE (σ.1 (q_rf X g 2) 1), q_letE (F_X8_meets X σ (q_rf X g 3) x (σ.1 (q_rf X g 2) 1)), mm, q_letE (x + 1)]
  · have hp := qs (Or.inr (Or.inr ⟨h3, Or.inr k6⟩))
    have is : F_X12_isSo X τ a z7 = F_X12_isSo_J78_1 X z7 τ a (τ.1 (q_rf X a 20) ((22 : Int32) + τ.1 (q_rf X a 20) (z7 + 1).toNatClampNeg).toNatClampNeg) := by
      unfold F_X12_isSo
      rw [q_letE (z7 + 6), q_letE (τ.1 (q_rf X a 20) (z7 + 6).toNatClampNeg), e6, k6, if_neg (by decide : ¬ (2 : Int) = 3), if_neg (by decide : ¬ (2 : Int) = 0), if_neg (by decide : ¬ (2 : Int) = 1), q_letE (z7 + 1), q_letE (τ.1 (q_rf X a 20) (z7 + 1).toNatClampNeg), q_letE ((22 : Int32) + τ.1 (q_rf X a 20) (z7 + 1).toNatClampNeg), q_letE (τ.1 (q_rf X a 20) ((22 : Int32) + τ.1 (q_rf X a 20) (z7 + 1).toNatClampNeg).toNatClampNeg)]
    rw [k18, is, if_neg (by decide : ¬ (7 : Int) = 0), if_neg (by decide : ¬ (7 : Int) = 1), if_neg (by decide : ¬ (7 : Int) = 2), if_neg (by decide : ¬ (7 : Int) = 3), if_neg (by decide : ¬ (7 : Int) = 4), if_neg (by decide : ¬ (7 : Int) = 5), if_neg (by decide : ¬ (7 : Int) = 6), if_pos (rfl : (7 : Int) = 7)]
    have c1 : (F_X5_get X σ (q_rf X (q_rf X g 1) 5) (F_X5_get X σ (q_rf X (q_rf X g 3) 5) x)).toInt = c (22 + c (656 + 9 * s + 1)) := (y_getI Y G w (id := 12) (r := q_rf X (q_rf X g 1) 5) ⟨by decide, by decide⟩ rfl (ln.2.2.1.trans k20) hp.1 (by rw [n12]; omega)).trans (Rg.2.2.1 _ hp.1 (by omega)).2.2.1
    have c2 : (τ.1 (q_rf X a 20) ((22 : Int32) + τ.1 (q_rf X a 20) (z7 + 1).toNatClampNeg).toNatClampNeg).toInt = c (22 + c (656 + 9 * s + 1)) := gm_cell hc (by rw [ar_add, e22, e1, ar_wr (by omega) (by omega)])
    have mm := pl_meets (X := X) (τ := τ) (a := a) Y G hV hc hx hl wz s30 k21 k22 (c1.trans c2.symm)
    rw [q_letE (F_X5_get X σ (q_rf X (q_rf X g 1) 5) (F_X5_get X σ (q_rf X (q_rf X g 3) 5) x)), q_letE (F_X8_meets X σ (q_rf X g 3) x (F_X5_get X σ (q_rf X (q_rf X g 1) 5) (F_X5_get X σ (q_rf X (q_rf X g 3) 5) x))), mm, q_letE (x + 1)]
  · have s3 := Rg.2.1.2.2.1
    have c1 : (σ.1 g 6).toInt = c 8 := (w.rd (id := 0) (by decide) 6 rfl).trans s3.1
    have c2 : (τ.1 (q_rf X a 20) (8 : Int32).toNatClampNeg).toInt = c 8 := gm_cell (A := 8) hc rfl
    have is : F_X12_isSo X τ a z7 = if c 8 < 0 then 0 else 1 := by
      unfold F_X12_isSo
      rw [q_letE (z7 + 6), q_letE (τ.1 (q_rf X a 20) (z7 + 6).toNatClampNeg), e6, k6, if_pos (rfl : (3 : Int) = 3), q_letE (τ.1 (q_rf X a 20) (8 : Int32).toNatClampNeg), c2]
    rw [k18, is, if_neg (by decide : ¬ (8 : Int) = 0), if_neg (by decide : ¬ (8 : Int) = 1), if_neg (by decide : ¬ (8 : Int) = 2), if_neg (by decide : ¬ (8 : Int) = 3), if_neg (by decide : ¬ (8 : Int) = 4), if_neg (by decide : ¬ (8 : Int) = 5), if_neg (by decide : ¬ (8 : Int) = 6), if_neg (by decide : ¬ (8 : Int) = 7), if_pos (rfl : (8 : Int) = 8), q_letE (σ.1 g 6), c1, q_letE (x + 1)]
    by_cases q : c 8 = -1
    · rw [if_pos q, if_pos (by omega : c 8 < 0), if_pos (by decide : (0 : Int32).toInt = 0)]
    · rw [if_neg q, if_neg (by omega : ¬ c 8 < 0), if_neg (by decide : ¬ (1 : Int32).toInt = 0)]
/-- a loop of the reference at its end -/
theorem pl_loopEnd {z7 v1 : Int32} {FA : ST → Int32 → Int32 → ST} {fu : Nat} {y : Int32} {s N : Int} (hc : m_c X τ a = c) (wz : z7.toInt = 656 + 9 * s) (hs : 0 ≤ s ∧ s < 30) (hN : c (656 + 9 * s + 1) = N) (h : N ≤ y.toInt ∨ (τ.1 a 38).toInt ≠ 0) : F_X12_doOne_s_L117_1 X z7 a v1 FA (fu + 1) y τ = τ := by
  have e1 := pl_cellk hc wz ⟨by omega, by omega⟩ 1 (j := 1) rfl (by decide)
  rw [F_X12_doOne_s_L117_1_s]
  unfold F_X12_doOne_s_B117_1
  rw [q_letE (z7 + 1), q_letE (τ.1 (q_rf X a 20) (z7 + 1).toNatClampNeg), e1, hN]
  by_cases q : y.toInt < N
  · rw [if_pos q, q_letE (τ.1 a 38), if_neg (by
      rcases h with h | h
      · omega
      · exact h)]
  · rw [if_neg q]
/-- a body of its own -/
def pl_body (X : XW) (lb : Nat → Nat) (g o a R : Nat) (V0 : Nat → Int → Int) (c0 : Int → Int) (n : Int) (FA : ST → Int32 → Int32 → ST) (s b l m : Int) : Prop := ∀ (σ τ : ST) (v1 v2 x i : Int32) (B : Int), pl_J X g a R V0 c0 n σ τ → pl_on a τ → v1.toInt = s → v2.toInt = b → x.toInt = l → 0 ≤ i.toInt → i.toInt - 100 * (τ.1 a 40).toInt ≤ B → B ≤ 0 → pl_O X lb g o a R V0 c0 n σ τ (FA τ v1 v2) l m B x i
theorem pl_loop (Y : y_S X lb) (G : y_G X lb g o) (D : pl_D X lb o R) {FA : ST → Int32 → Int32 → ST} {s b m N : Int} (FB : pl_body X lb g o a R V0 c0 n FA (s + 1) b (l + 1) m) (hs : 0 ≤ s ∧ s < 30) (hl : 0 ≤ l ∧ l < m ∧ m < V0 3 2) (h60 : V0 3 2 ≤ 60) (hN : c0 (656 + 9 * s + 1) = N) (bN : 1 ≤ N ∧ N ≤ 99) (hb : c0 (656 + 9 * s + 8) = b) (m9 : V0 18 m = 9) (mm : V0 19 m = l) (l4 : V0 18 l = 4) {z7 v1 : Int32} (wz : z7.toInt = 656 + 9 * s) (hv : v1.toInt = s) (hB0 : B ≤ 0) (fu : Nat) :
    ∀ (y x i : Int32) (σ τ : ST) (k : Int), (2147483647 - y.toInt).toNat < fu → y.toInt = k → 0 ≤ k → k < N → pl_J X g a R V0 c0 n σ τ → pl_on a τ → (σ.1 (pl_T X R) l.toNat).toInt = N - k → x.toInt = l + 1 → 0 ≤ i.toInt → i.toInt - 100 * (τ.1 a 40).toInt ≤ B - 99 + k → pl_O X lb g o a R V0 c0 n σ τ (F_X12_doOne_s_L117_1 X z7 a v1 FA fu y τ) l (m + 1) B x i := by
  induction fu with
  | zero => intro y x i σ τ k h; exact absurd h (Nat.not_lt_zero _)
  | succ fu ih =>
    intro y x i σ τ k hf hy k0 k1 J on hT hx hi hB
    obtain ⟨fu', efu⟩ : ∃ q, fu = q + 1 := ⟨fu - 1, by omega⟩
    have one : (1 : Int32).toInt = 1 := rfl
    have J0 := J
    obtain ⟨-, -, -, -, -, V', c', i1, i2, i3, i4, i5, i6⟩ := J
    have e1 : (τ.1 (q_rf X a 20) (z7 + 1).toNatClampNeg).toInt = N := (pl_cellk i2 wz ⟨by omega, by omega⟩ 1 (j := 1) rfl (by decide)).trans ((i6.2 _ (by omega) (by omega)).trans hN)
    have e8 : (τ.1 (q_rf X a 20) (z7 + 8).toNatClampNeg).toInt = b := (pl_cellk i2 wz ⟨by omega, by omega⟩ 8 (j := 8) rfl (by decide)).trans ((i6.2 _ (by omega) (by omega)).trans hb)
    have y1 : (y + 1).toInt = k + 1 := by rw [y_inc (by omega), hy]
    have v1' : (v1 + 1).toInt = s + 1 := by rw [y_inc (by omega), hv]
    rw [F_X12_doOne_s_L117_1_s]
    unfold F_X12_doOne_s_B117_1
    rw [q_letE (z7 + 1), q_letE (τ.1 (q_rf X a 20) (z7 + 1).toNatClampNeg), e1, hy, if_pos k1, q_letE (τ.1 a 38), if_pos on.1, q_letE (v1 + 1), q_letE (z7 + 8), q_letE (τ.1 (q_rf X a 20) (z7 + 8).toNatClampNeg), q_letE (FA τ (v1 + 1) (τ.1 (q_rf X a 20) (z7 + 8).toNatClampNeg)), q_letE (y + 1)]
    have bo := FB σ τ (v1 + 1) (τ.1 (q_rf X a 20) (z7 + 8).toNatClampNeg) x i (B - 99 + k) J0 on v1' e8 hx hi hB (by omega)
    obtain ⟨τ1, et⟩ : ∃ t, t = FA τ (v1 + 1) (τ.1 (q_rf X a 20) (z7 + 8).toNatClampNeg) := ⟨_, rfl⟩
    rw [← et] at bo ⊢
    obtain ⟨σ1, a1, a2, a3, a4, a5⟩ := bo
    have J1 := a3
    obtain ⟨-, -, -, j5, jb, V1, c1, o1, o2, o3, o4, o5, o6⟩ := a3
    have N1 : c1 (656 + 9 * s + 1) = N := (o6.2 _ (by omega) (by omega)).trans hN
    rcases a5 with ⟨b1, x', i', b2, b3, b4, b5⟩ | ⟨b1, b2⟩
    · have T1 : σ1.1 (pl_T X R) l.toNat = σ.1 (pl_T X R) l.toNat := a4 _ (Or.inl (by omega))
      have T1v : (σ1.1 (pl_T X R) l.toNat - 1).toInt = N - k - 1 := by rw [ar_sub, T1, hT, one, ar_wr (by omega) (by omega)]
      have w32 : V1 3 2 = V0 3 2 := o6.1 3 2 (by decide)
      obtain ⟨u, hu, em⟩ := pl_endMove Y G D o1 (x := x') (i := i') (m := m) (l := l) ⟨b3, by omega⟩ b2 (by rw [w32]; exact ⟨hl.2.1, hl.2.2⟩) hl.1 (by rw [w32]; exact h60) ((congrArg Int32.toInt j5).trans b1.2) ((o6.1 18 m (by omega)).trans m9) ((o6.1 19 m (by omega)).trans mm)
      rw [if_pos ((o6.1 18 l (by omega)).trans l4), T1v] at em
      have i1' : (i' + 1).toInt = i'.toInt + 1 := y_inc (by omega)
      have x1' : (x' + 1).toInt = m + 1 := by rw [y_inc (by omega), b2]
      have u1' : (u + 1).toInt = l + 1 := by rw [y_inc (by omega), hu]
      have J2 := J1.st Y G D l.toNat (σ1.1 (pl_T X R) l.toNat - 1)
      have S2 : tkl (pl_Sg X lb o R) (fun _ _ => False) σ (q_si σ1 (pl_T X R) l.toNat (σ1.1 (pl_T X R) l.toNat - 1)) := a1.si _ (Or.inr (Or.inr rfl))
      have F2 : ∀ y : Nat, (y : Int) < l ∨ m + 1 ≤ (y : Int) → (q_si σ1 (pl_T X R) l.toNat (σ1.1 (pl_T X R) l.toNat - 1)).1 (pl_T X R) y = σ.1 (pl_T X R) y := fun y hy => by
        rw [si_f (by omega)]
        exact a4 y (by omega)
      by_cases q : 0 < N - k - 1
      · rw [if_pos q] at em
        refine pl_O.pre S2 a2 F2 (b5.trans em) (ih (y + 1) (u + 1) (i' + 1) _ τ1 (k + 1) (by omega) y1 (by omega) (by omega) J2 b1 ?_ u1' (by omega) (by omega))
        rw [si_eq, T1v]
        omega
      · rw [if_neg q] at em
        rw [efu, pl_loopEnd o2 wz hs N1 (Or.inl (by omega))]
        exact ⟨_, S2, a2, J2, F2, Or.inl ⟨b1, x' + 1, i' + 1, x1', by omega, by omega, b5.trans em⟩⟩
    · rw [efu, pl_loopEnd o2 wz hs N1 (Or.inr (by omega))]
      exact ⟨σ1, a1, a2, J1, fun y hy => a4 y (by omega), Or.inr ⟨b1, b2⟩⟩
/-- a step with a body -/
theorem pl_block (Y : y_S X lb) (G : y_G X lb g o) (D : pl_D X lb o R) (ha : q_kd X a = 12) (hn : n ≤ 800000) {FA : ST → Int32 → Int32 → ST} {s b m : Int} (FB : pl_body X lb g o a R V0 c0 n FA (s + 1) b (l + 1) m) (J : pl_J X g a R V0 c0 n σ τ) (on : pl_on a τ) (S : st_l V0 c0 s l) (hs : 0 ≤ s ∧ s < c0 655) (hl : 0 ≤ l ∧ l < m ∧ m < V0 3 2) (h60 : V0 3 2 ≤ 60) (hk : c0 (656 + 9 * s) = 3 ∨ c0 (656 + 9 * s) = 4) (hb : c0 (656 + 9 * s + 8) = b) (m9 : V0 18 m = 9) (mm : V0 19 m = l) (ml : V0 19 l = m) {v1 : Int32} (hx : x.toInt = l) (hv : v1.toInt = s) (hi : 0 ≤ i.toInt) (hB : i.toInt - 100 * (τ.1 a 40).toInt ≤ B) (hB0 : B ≤ 0) :
    pl_O X lb g o a R V0 c0 n σ τ (F_X12_doOne_s X τ a v1 FA) l (m + 1) B x i := by
  obtain ⟨n80, n8a, n0a⟩ := pl_k28 Y.1 ha
  obtain ⟨⟨k6, k2, k3, k4⟩, j0, j1, j5, jb, V', c', i1, i2, i3, i4, i5, i6⟩ := id J
  have one : (1 : Int32).toInt = 1 := rfl
  have w := pl_W (lb := lb) (o := o) i1
  have e655 : c' 655 = c0 655 := i6.2 655 (by decide) (Or.inr (by decide))
  have qq := i4.2.2.2.2.2.1
  have s30 : s < 30 := by omega
  have hl60 : 0 ≤ l ∧ l < 60 := ⟨hl.1, by omega⟩
  have v32 : V' 3 2 = V0 3 2 := i6.1 3 2 (by decide)
  have st := i6.st ⟨hs.1, s30⟩ hl60 S
  have ck : ∀ j : Int, 0 ≤ j ∧ j ≤ 10 → c' (656 + 9 * s + j) = c0 (656 + 9 * s + j) := fun j h => i6.2 _ (by omega) (by omega)
  have ck0 : c' (656 + 9 * s) = c0 (656 + 9 * s) := i6.2 _ (by omega) (by omega)
  have act := st.act
  have f2 : (σ.1 (q_rf X g 3) 2).toInt = V0 3 2 := (w.rd (id := 3) (by decide) 2 rfl).trans v32
  have ln := pl_line Y G i1 hx hl60
  have h5 : (σ.1 R 5).toInt = 0 := by rw [j5]; exact on.2
  have hi6 : 0 ≤ i.toInt ∧ i.toInt < 1000000 := ⟨hi, by omega⟩
  have r0 : (σ.1 R 0).toInt = (τ.1 a 40).toInt := congrArg Int32.toInt j0
  have xi : (x + 1).toInt = l + 1 := by rw [y_inc (by omega), hx]
  have ii : (i + 1).toInt = i.toInt + 1 := y_inc (by omega)
  have v1' : (v1 + 1).toInt = s + 1 := by rw [y_inc (by omega), hv]
  have step := pl_Lstep (X := X) (x := x) hi6 (by rw [f2]; omega) h5
  rw [if_neg (by rw [ln.1]; omega), r0] at step
  unfold F_X12_doOne_s
  rw [q_letE (τ.1 a 40)]
  by_cases q300 : (τ.1 a 40).toInt = 300
  · rw [if_pos q300] at step
    rw [if_pos q300, q_letE (q_si τ a 38 1), q_letE (q_si (q_si τ a 38 1) a 45 1)]
    exact pl_cut Y G D ha J step
  rw [if_neg q300] at step
  obtain ⟨J5, D5⟩ := J.step Y G D ha q300
  have v5 : y_v X g (q_si σ R 0 (σ.1 R 0 + 1)) = V' := (pl_vo Y G D.2.1 0 _).trans i1
  have m5 : m_c X (q_si τ a 40 (τ.1 a 40 + 1)) a = c' := (mv_cell Y.1 ha 40 _).trans i2
  have S5 : tkl (pl_Sg X lb o R) (fun _ _ => False) σ (q_si σ R 0 (σ.1 R 0 + 1)) := tkl.rf.si _ (Or.inr (Or.inl ⟨rfl, by decide⟩))
  have T5 : tkl (pl_Sq X a) (fun _ _ => False) τ (q_si τ a 40 (τ.1 a 40 + 1)) := tkl.rf.si _ (Or.inr (Or.inr ⟨rfl, by decide, by decide⟩))
  have u5 : ∀ y : Nat, (q_si σ R 0 (σ.1 R 0 + 1)).1 (pl_T X R) y = σ.1 (pl_T X R) y := fun y => q_si_ne D.ne y
  have on5 : pl_on a (q_si τ a 40 (τ.1 a 40 + 1)) := ⟨(congrArg Int32.toInt (si_f (by decide) a)).trans on.1, (congrArg Int32.toInt (si_f (by decide) a)).trans on.2⟩
  rw [if_neg q300, q_letE (τ.1 a 40), q_letE (τ.1 a 40 + 1), q_letE (q_si τ a 40 (τ.1 a 40 + 1)), q_letE ((9 : Int32) * v1), q_letE ((656 : Int32) + (9 : Int32) * v1)]
  obtain ⟨σ5, es⟩ : ∃ t, t = q_si σ R 0 (σ.1 R 0 + 1) := ⟨_, rfl⟩
  obtain ⟨τ5, et⟩ : ∃ t, t = q_si τ a 40 (τ.1 a 40 + 1) := ⟨_, rfl⟩
  rw [← es] at J5 v5 S5 u5 step
  rw [← et] at J5 D5 m5 T5 on5 ⊢
  have wz := pl_w656 hv ⟨hs.1, s30⟩
  obtain ⟨z7, ez⟩ : ∃ z, z = (656 : Int32) + (9 : Int32) * v1 := ⟨_, rfl⟩
  rw [← ez] at wz ⊢
  have g8 : (τ5.1 (q_rf X a 20) z7.toNatClampNeg).toInt = c' (656 + 9 * s) := gm_cell m5 wz
  have e8 : (τ5.1 (q_rf X a 20) (z7 + 8).toNatClampNeg).toInt = b := (pl_cellk m5 wz ⟨by omega, by omega⟩ 8 (j := 8) rfl (by decide)).trans ((ck 8 (by decide)).trans hb)
  rw [q_letE (τ5.1 (q_rf X a 20) z7.toNatClampNeg), g8, ck0]
  rcases hk with hk | hk
  · -- when
    rw [hk, if_neg (by decide : ¬ (3 : Int) < 3), if_pos rfl, q_letE (F_X12_isSo X τ5 a z7)]
    have vm : V' 19 l = m := (i6.1 19 l (by omega)).trans ml
    obtain ⟨y, hy, so⟩ := pl_so (R := R) Y G v5 i3 i4 m5 hx hl60 st (ck0.trans hk) wz ⟨hs.1, by rw [e655]; exact hs.2⟩ (by rw [vm]; omega)
    rw [vm] at hy
    rw [so] at step
    by_cases q : (F_X12_isSo X τ5 a z7).toInt = 0
    · rw [if_pos q, q_biP y σ5] at step
      rw [if_pos q, if_neg (by decide : ¬ (3 : Int) = 4), if_neg (by decide : ¬ (4 : Int) < 3)]
      exact ⟨σ5, S5, T5, J5, fun y _ => u5 y, Or.inl ⟨on5, y, i + 1, hy, by omega, by rw [D5]; omega, step⟩⟩
    · rw [if_neg q, q_biP (x + 1) σ5] at step
      rw [if_neg q, q_letE (v1 + 1), q_letE (z7 + 8), q_letE (τ5.1 (q_rf X a 20) (z7 + 8).toNatClampNeg), q_letE (FA τ5 (v1 + 1) (τ5.1 (q_rf X a 20) (z7 + 8).toNatClampNeg))]
      refine pl_O.pre S5 T5 (fun y _ => u5 y) step ?_
      have bo := FB σ5 τ5 (v1 + 1) (τ5.1 (q_rf X a 20) (z7 + 8).toNatClampNeg) (x + 1) (i + 1) (B - 99) J5 on5 v1' e8 xi (by omega) (by rw [D5]; omega) (by omega)
      obtain ⟨τ1, et1⟩ : ∃ t, t = FA τ5 (v1 + 1) (τ5.1 (q_rf X a 20) (z7 + 8).toNatClampNeg) := ⟨_, rfl⟩
      rw [← et1] at bo ⊢
      obtain ⟨σ1, a1, a2, a3, a4, a5⟩ := bo
      have J1 := a3
      obtain ⟨-, -, -, p5, pb, V1, c1, o1, o2, o3, o4, o5, o6⟩ := a3
      rcases a5 with ⟨b1, x', i', b2, b3, b4, b5⟩ | ⟨b1, b2⟩
      · have w32 : V1 3 2 = V0 3 2 := o6.1 3 2 (by decide)
        obtain ⟨u, hu, em⟩ := pl_endMove Y G D o1 (x := x') (i := i') (m := m) (l := l) ⟨b3, by omega⟩ b2 (by rw [w32]; exact ⟨hl.2.1, hl.2.2⟩) hl.1 (by rw [w32]; exact h60) ((congrArg Int32.toInt p5).trans b1.2) ((o6.1 18 m (by omega)).trans m9) ((o6.1 19 m (by omega)).trans mm)
        have n4 : ¬ V1 18 l = 4 := fun e => by
          have z1 := o6.1 18 l (by omega)
          have z2 := i6.1 18 l (by omega)
          have z3 := act.2.2.mp (by rw [z2, ← z1]; exact e)
          omega
        rw [if_neg n4] at em
        have i1' : (i' + 1).toInt = i'.toInt + 1 := y_inc (by omega)
        have x1' : (x' + 1).toInt = m + 1 := by rw [y_inc (by omega), b2]
        exact ⟨σ1, a1, a2, J1, fun y hy => a4 y (by omega), Or.inl ⟨b1, x' + 1, i' + 1, x1', by omega, by omega, b5.trans em⟩⟩
      · exact ⟨σ1, a1, a2, J1, fun y hy => a4 y (by omega), Or.inr ⟨b1, b2⟩⟩
  · -- loop
    rw [hk, if_neg (by decide : ¬ (4 : Int) < 3), if_neg (by decide : ¬ (4 : Int) = 3), if_pos rfl]
    have l4 : V' 18 l = 4 := act.2.2.mpr (ck0.trans hk)
    have nn : V' 22 l = c' (656 + 9 * s + 1) ∧ 1 ≤ c' (656 + 9 * s + 1) ∧ c' (656 + 9 * s + 1) ≤ 99 := by
      have st' := st
      unfold st_l at st'
      rw [ck0, hk] at st'
      omega
    have ln5 := pl_line Y G v5 hx hl60
    have xn : x.toNatClampNeg = l.toNat := by rw [ar_cl, hx]
    unfold F_X7_behindStep at step
    rw [q_letE (F_X5_get X σ5 (q_rf X (q_rf X g 3) 5) x), q_letE (F_X5_get X σ5 (q_rf X (q_rf X g 3) 7) x), q_letE (F_X5_get X σ5 (q_rf X (q_rf X g 3) 4) x), q_letE (F_X5_get X σ5 (q_rf X (q_rf X g 3) 4) x + 1), q_letE (F_X5_get X σ5 (q_rf X (q_rf X g 3) 3) x), ln5.1, l4, if_neg (by decide : ¬ (4 : Int) = 0), if_neg (by decide : ¬ (4 : Int) = 1), if_neg (by decide : ¬ (4 : Int) = 2), if_neg (by decide : ¬ (4 : Int) = 3), if_pos rfl, pl_tset Y D ⟨by omega, by omega⟩, xn, q_letE (q_si σ5 (pl_T X R) l.toNat (F_X5_get X σ5 (q_rf X (q_rf X g 3) 7) x)), q_letE (x + 1), q_biP (x + 1)] at step
    obtain ⟨N, eN⟩ : ∃ N, N = c' (656 + 9 * s + 1) := ⟨_, rfl⟩
    rw [← eN] at nn
    have lN : (F_X5_get X σ5 (q_rf X (q_rf X g 3) 7) x).toInt = N := ln5.2.2.2.2.trans nn.1
    obtain ⟨num, en⟩ : ∃ v, v = F_X5_get X σ5 (q_rf X (q_rf X g 3) 7) x := ⟨_, rfl⟩
    rw [← en] at step lN
    have S6 : tkl (pl_Sg X lb o R) (fun _ _ => False) σ (q_si σ5 (pl_T X R) l.toNat num) := S5.si _ (Or.inr (Or.inr rfl))
    refine pl_O.pre S6 T5 (fun y hy => by rw [si_f (by omega)]; exact u5 y) step ?_
    have z0 : (0 : Int32).toInt = 0 := rfl
    exact pl_loop Y G D FB ⟨hs.1, s30⟩ hl h60 (N := N) ((ck 1 (by decide)).symm.trans eN.symm) ⟨nn.2.1, nn.2.2⟩ hb m9 mm ((i6.1 18 l (by omega)).symm.trans l4) wz hv hB0 _ 0 (x + 1) (i + 1) _ τ5 0 (Nat.lt_succ_self _) z0 (by decide) (by omega) (J5.st Y G D l.toNat num) on5 (by rw [si_eq, lN]; omega) xi (by omega) (by rw [D5]; omega)
/-- nothing to do, or nothing more -/
theorem pl_allEnd {v2 y : Int32} {FO : ST → Int32 → ST} {fu : Nat} (h : v2.toInt ≤ y.toInt ∨ (τ.1 a 38).toInt ≠ 0) : F_X12_doAll_s_L2_1 X v2 a FO (fu + 1) y τ = τ := by
  rw [F_X12_doAll_s_L2_1_s]
  unfold F_X12_doAll_s_B2_1
  by_cases q : y.toInt < v2.toInt
  · rw [if_pos q, q_letE (τ.1 a 38), if_neg (by
      rcases h with h | h
      · omega
      · exact h)]
  · rw [if_neg q]
theorem pl_O.rf (J : pl_J X g a R V0 c0 n σ τ) (on : pl_on a τ) (hx : x.toInt = l) (hi : 0 ≤ i.toInt) (hB : i.toInt - 100 * (τ.1 a 40).toInt ≤ B) : pl_O X lb g o a R V0 c0 n σ τ τ l l B x i :=
  ⟨σ, tkl.rf, tkl.rf, J, fun _ _ => rfl, Or.inl ⟨on, x, i, hx, hi, hB, rfl⟩⟩
/-- one piece behind another -/
theorem pl_O.tr {τ2 : ST} {m : Int} (h : pl_O X lb g o a R V0 c0 n σ τ τ1 l m B x i) (hlm : l ≤ m) (hml : m ≤ l') (over : (τ1.1 a 38).toInt = 1 → τ2 = τ1) (k : ∀ (σ1 : ST) (x1 i1 : Int32), pl_J X g a R V0 c0 n σ1 τ1 → pl_on a τ1 → x1.toInt = m → 0 ≤ i1.toInt → i1.toInt - 100 * (τ1.1 a 40).toInt ≤ B → pl_O X lb g o a R V0 c0 n σ1 τ1 τ2 m l' B x1 i1) : pl_O X lb g o a R V0 c0 n σ τ τ2 l l' B x i := by
  obtain ⟨σ1, a1, a2, a3, a4, a5⟩ := h
  rcases a5 with ⟨b1, x', i', b2, b3, b4, b5⟩ | ⟨b1, b2⟩
  · obtain ⟨σ2, d1, d2, d3, d4, d5⟩ := k σ1 x' i' a3 b1 b2 b3 b4
    refine ⟨σ2, a1.tr d1, a2.tr d2, d3, fun y hy => (d4 y (by omega)).trans (a4 y (by omega)), ?_⟩
    rcases d5 with ⟨e1, x2, i2, e2, e3, e4, e5⟩ | ⟨e1, e2⟩
    · exact Or.inl ⟨e1, x2, i2, e2, e3, e4, b5.trans e5⟩
    · exact Or.inr ⟨e1, b5.trans e2⟩
  · rw [over b1]
    exact ⟨σ1, a1, a2, a3, fun y hy => a4 y (by omega), Or.inr ⟨b1, b2⟩⟩
theorem pl_allL (Y : y_S X lb) (G : y_G X lb g o) (D : pl_D X lb o R) (ha : q_kd X a = 12) (hn : n ≤ 800000) (h60 : V0 3 2 ≤ 60) (h30 : c0 655 ≤ 30) {FA : ST → Int32 → Int32 → ST} {d : Nat} (FB : ∀ (k : Nat) (s b l m : Int), 30 - (d : Int) ≤ s → 0 ≤ s → b ≤ c0 655 → 0 ≤ l → m ≤ V0 3 2 → fl V0 c0 k s b l m → pl_body X lb g o a R V0 c0 n FA s b l m) (k : Nat) :
    ∀ (fu : Nat) (s e l l' : Int) (σ τ : ST) (v1 v2 x i : Int32) (B : Int), (31 - s).toNat < fu → 30 - ((d + 1 : Nat) : Int) ≤ s → 0 ≤ s → e ≤ c0 655 → 0 ≤ l → l' ≤ V0 3 2 → fl V0 c0 k s e l l' → pl_J X g a R V0 c0 n σ τ → pl_on a τ → v1.toInt = s → v2.toInt = e → x.toInt = l → 0 ≤ i.toInt → i.toInt - 100 * (τ.1 a 40).toInt ≤ B → B ≤ 0 → pl_O X lb g o a R V0 c0 n σ τ (F_X12_doAll_s_L2_1 X v2 a (fun t w => F_X12_doOne_s X t a w FA) fu v1 τ) l l' B x i := by
  induction k with
  | zero =>
    intro fu s e l l' σ τ v1 v2 x i B hf hd s0 he l0 hl' F J on hv1 hv2 hx hi hB hB0
    have F' : s = e ∧ l = l' := F
    obtain ⟨fu', efu⟩ : ∃ q, fu = q + 1 := ⟨fu - 1, by omega⟩
    rw [efu, pl_allEnd (Or.inl (by omega)), ← F'.2]
    exact pl_O.rf J on hx hi hB
  | succ k ih =>
    intro fu s e l l' σ τ v1 v2 x i B hf hd s0 he l0 hl' F J on hv1 hv2 hx hi hB hB0
    obtain ⟨fu', efu⟩ : ∃ q, fu = q + 1 := ⟨fu - 1, by omega⟩
    rcases F with F | ⟨F1, F2, F3⟩
    · rw [efu, pl_allEnd (Or.inl (by omega)), ← F.2]
      exact pl_O.rf J on hx hi hB
    · obtain ⟨fu2, efu2⟩ : ∃ q, fu' = q + 1 := ⟨fu' - 1, by omega⟩
      rw [efu, F_X12_doAll_s_L2_1_s]
      unfold F_X12_doAll_s_B2_1
      rw [if_pos (by omega : v1.toInt < v2.toInt), q_letE (τ.1 a 38), if_pos on.1, q_letE (F_X12_doOne_s X τ a v1 FA), q_letE ((9 : Int32) * v1), q_letE ((656 : Int32) + (9 : Int32) * v1), q_letE ((656 : Int32) + (9 : Int32) * v1 + 8)]
      have wz := pl_w656 hv1 ⟨s0, by omega⟩
      -- the next step's number
      have next : ∀ (m : Int) (b : Int), pl_O X lb g o a R V0 c0 n σ τ (F_X12_doOne_s X τ a v1 FA) l m B x i → c0 (656 + 9 * s + 8) = b → l ≤ m → m ≤ l' → s < b → fl V0 c0 k b e m l' → pl_O X lb g o a R V0 c0 n σ τ (q_let ((F_X12_doOne_s X τ a v1 FA).1 (q_rf X a 20) ((656 : Int32) + (9 : Int32) * v1 + 8).toNatClampNeg) (fun f_12 => F_X12_doAll_s_L2_1 X v2 a (fun t w => F_X12_doOne_s X t a w FA) fu' f_12 (F_X12_doOne_s X τ a v1 FA))) l l' B x i := by
        intro m b O hb h1 h2 h3 F4
        obtain ⟨τ1, et⟩ : ∃ t, t = F_X12_doOne_s X τ a v1 FA := ⟨_, rfl⟩
        rw [← et] at O ⊢
        have O' := O
        obtain ⟨σ9, -, -, ⟨-, -, -, -, -, V1, c1, o1, o2, o3, o4, o5, o6⟩, -, -⟩ := O'
        have e8 : (τ1.1 (q_rf X a 20) ((656 : Int32) + (9 : Int32) * v1 + 8).toNatClampNeg).toInt = b := (pl_cellk o2 wz ⟨by omega, by omega⟩ 8 (j := 8) rfl (by decide)).trans ((o6.2 _ (by omega) (by omega)).trans hb)
        rw [q_letE (τ1.1 (q_rf X a 20) ((656 : Int32) + (9 : Int32) * v1 + 8).toNatClampNeg)]
        obtain ⟨y, ey⟩ : ∃ y, y = τ1.1 (q_rf X a 20) ((656 : Int32) + (9 : Int32) * v1 + 8).toNatClampNeg := ⟨_, rfl⟩
        rw [← ey] at e8 ⊢
        refine O.tr h1 h2 (fun h => by rw [efu2, pl_allEnd (Or.inr (by omega))]) (fun σ1 x1 i1 J1 on1 hx1 hi1 hB1 => ?_)
        exact ih fu' b e m l' σ1 τ1 y v2 x1 i1 B (by omega) (by omega) (by omega) he (by omega) hl' F4 J1 on1 e8 hv2 hx1 hi1 hB1 hB0
      rcases F3 with ⟨n3, n4, n8, F4⟩ | ⟨n3, m, b, n8, n18, n19, nl19, F4, F5⟩
      · have le := fl_le k F4
        exact next (l + 1) (s + 1) (pl_plain Y G D ha hn J on F2 ⟨s0, by omega⟩ ⟨l0, by omega⟩ h60 ⟨n3, n4⟩ hx hv1 hi hB hB0 FA) n8 (by omega) le.2 (by omega) F4
      · have le4 := fl_le k F4
        have le5 := fl_le k F5
        exact next (m + 1) b (pl_block Y G D ha hn (FB k (s + 1) b (l + 1) m (by omega) (by omega) (by omega) (by omega) (by omega) F4) J on F2 ⟨s0, by omega⟩ ⟨l0, by omega, by omega⟩ h60 n3 n8 n18 n19 nl19 hx hv1 hi hB hB0) n8 (by omega) le5.2 (by omega) F5
/-- all steps of a piece, in both -/
theorem pl_all (Y : y_S X lb) (G : y_G X lb g o) (D : pl_D X lb o R) (ha : q_kd X a = 12) (hn : n ≤ 800000) (h60 : V0 3 2 ≤ 60) (h30 : c0 655 ≤ 30) (d : Nat) : ∀ (k : Nat) (s b l m : Int), 30 - (d : Int) ≤ s → 0 ≤ s → b ≤ c0 655 → 0 ≤ l → m ≤ V0 3 2 → fl V0 c0 k s b l m → pl_body X lb g o a R V0 c0 n (F_X12_doAllN X a d) s b l m := by
  induction d with
  | zero =>
    intro k s b l m hd s0 hb l0 hm F σ τ v1 v2 x i B J on hv1 hv2 hx hi hB hB0
    have lm : l = m := by
      cases k with
      | zero => exact (show s = b ∧ l = m from F).2
      | succ k =>
        rcases F with F | ⟨F1, -⟩
        · exact F.2
        · omega
    have e : F_X12_doAllN X a 0 τ v1 v2 = τ := by
      show F_X12_doAll_z X τ a v1 v2 = τ
      unfold F_X12_doAll_z
      rw [F_X12_doAll_z_L2_1_s]
      unfold F_X12_doAll_z_B2_1
      split <;> rfl
    rw [e, ← lm]
    exact pl_O.rf J on hx hi hB
  | succ d ih =>
    intro k s b l m hd s0 hb l0 hm F σ τ v1 v2 x i B J on hv1 hv2 hx hi hB hB0
    have e : F_X12_doAllN X a (d + 1) τ v1 v2 = F_X12_doAll_s_L2_1 X v2 a (fun t w => F_X12_doOne_s X t a w (F_X12_doAllN X a d)) ((31 - v1.toInt).toNat + 1) v1 τ := rfl
    rw [e]
    exact pl_allL Y G D ha hn h60 h30 ih k _ s b l m σ τ v1 v2 x i B (by rw [hv1]; exact Nat.lt_succ_self _) hd s0 hb l0 hm F J on hv1 hv2 hx hi hB hB0
end PG

/-! FROM 49zs.play.lean.txt -/
/-! A ROUND PLAYED: go and plays; play called -/
section PH
variable {X : XW} {lb : Nat → Nat} {g o a R C : Nat} {σ σ' σ1 τ τ' τ1 : ST} {V0 V V' : Nat → Int → Int} {c0 c c' : Int → Int} {n : Int}
/-- a whole round -/
theorem pl_go (Y : y_S X lb) (G : y_G X lb g o) (D : pl_D X lb o R) (ha : q_kd X a = 12) (hn : n ≤ 800000) (hV : y_v X g σ = V) (Rg : rg V c) (hG : m_G c) (hW : m_W c n) (hc : m_c X τ a = c) (hr : rs V c) (v : Int32) :
    tkl (pl_Sg X lb o R) (fun _ _ => False) σ (F_X7_go X σ R g v) ∧ tkl (pl_Sq X a) (fun _ _ => False) τ (F_X12_plays X τ a v) ∧ pl_J X g a R V c n (F_X7_go X σ R g v) (F_X12_plays X τ a v) := by
  obtain ⟨n80, n8a, n0a⟩ := pl_k28 Y.1 ha
  obtain ⟨r0, r1, r2, ⟨r3, r4⟩, k, fk⟩ := hr
  have qq := hG.2.2.2.2.2.1
  have z0 : (0 : Int32).toInt = 0 := rfl
  unfold F_X7_go F_X12_plays
  -- the class begins
  obtain ⟨σ7, es⟩ : ∃ s, s = q_si (q_si (q_si (q_si (q_si (q_si (q_si σ R 0 0) R 1 0) R 2 0) R 3 0) R 4 0) R 5 0) R 6 v := ⟨_, rfl⟩
  rw [q_letE (q_si σ R 0 0), q_letE (q_si (q_si σ R 0 0) R 1 0), q_letE (q_si (q_si (q_si σ R 0 0) R 1 0) R 2 0), q_letE (q_si (q_si (q_si (q_si σ R 0 0) R 1 0) R 2 0) R 3 0), q_letE (q_si (q_si (q_si (q_si (q_si σ R 0 0) R 1 0) R 2 0) R 3 0) R 4 0), q_letE (q_si (q_si (q_si (q_si (q_si (q_si σ R 0 0) R 1 0) R 2 0) R 3 0) R 4 0) R 5 0), q_letE (q_si (q_si (q_si (q_si (q_si (q_si (q_si σ R 0 0) R 1 0) R 2 0) R 3 0) R 4 0) R 5 0) R 6 v), ← es]
  have s0 : σ7.1 R 0 = 0 := by rw [es, si_f (by decide), si_f (by decide), si_f (by decide), si_f (by decide), si_f (by decide), si_f (by decide), si_eq]
  have s1 : σ7.1 R 1 = 0 := by rw [es, si_f (by decide), si_f (by decide), si_f (by decide), si_f (by decide), si_f (by decide), si_eq]
  have s2 : σ7.1 R 2 = 0 := by rw [es, si_f (by decide), si_f (by decide), si_f (by decide), si_f (by decide), si_eq]
  have s3 : σ7.1 R 3 = 0 := by rw [es, si_f (by decide), si_f (by decide), si_f (by decide), si_eq]
  have s4 : σ7.1 R 4 = 0 := by rw [es, si_f (by decide), si_f (by decide), si_eq]
  have s5 : σ7.1 R 5 = 0 := by rw [es, si_f (by decide), si_eq]
  have s6 : σ7.1 R 6 = v := by rw [es, si_eq]
  have v7 : y_v X g σ7 = V := by
    rw [es, pl_vo Y G D.2.1, pl_vo Y G D.2.1, pl_vo Y G D.2.1, pl_vo Y G D.2.1, pl_vo Y G D.2.1, pl_vo Y G D.2.1, pl_vo Y G D.2.1]
    exact hV
  have S7 : tkl (pl_Sg X lb o R) (fun _ _ => False) σ σ7 := by
    rw [es]
    exact ((((((tkl.rf.si _ (Or.inr (Or.inl ⟨rfl, by decide⟩))).si _ (Or.inr (Or.inl ⟨rfl, by decide⟩))).si _ (Or.inr (Or.inl ⟨rfl, by decide⟩))).si _ (Or.inr (Or.inl ⟨rfl, by decide⟩))).si _ (Or.inr (Or.inl ⟨rfl, by decide⟩))).si _ (Or.inr (Or.inl ⟨rfl, by decide⟩))).si _ (Or.inr (Or.inl ⟨rfl, by decide⟩))
  -- the reference begins
  obtain ⟨τ8, et⟩ : ∃ s, s = q_si (q_si (q_si (q_si (q_si (q_si (q_si (q_si τ a 39 v) a 40 0) a 41 0) a 42 0) a 43 0) a 44 0) a 45 0) a 38 0 := ⟨_, rfl⟩
  rw [q_letE (q_si τ a 39 v), q_letE (q_si (q_si τ a 39 v) a 40 0), q_letE (q_si (q_si (q_si τ a 39 v) a 40 0) a 41 0), q_letE (q_si (q_si (q_si (q_si τ a 39 v) a 40 0) a 41 0) a 42 0), q_letE (q_si (q_si (q_si (q_si (q_si τ a 39 v) a 40 0) a 41 0) a 42 0) a 43 0), q_letE (q_si (q_si (q_si (q_si (q_si (q_si τ a 39 v) a 40 0) a 41 0) a 42 0) a 43 0) a 44 0), q_letE (q_si (q_si (q_si (q_si (q_si (q_si (q_si τ a 39 v) a 40 0) a 41 0) a 42 0) a 43 0) a 44 0) a 45 0), q_letE (q_si (q_si (q_si (q_si (q_si (q_si (q_si (q_si τ a 39 v) a 40 0) a 41 0) a 42 0) a 43 0) a 44 0) a 45 0) a 38 0), ← et]
  have t39 : τ8.1 a 39 = v := by rw [et, si_f (by decide), si_f (by decide), si_f (by decide), si_f (by decide), si_f (by decide), si_f (by decide), si_f (by decide), si_eq]
  have t40 : τ8.1 a 40 = 0 := by rw [et, si_f (by decide), si_f (by decide), si_f (by decide), si_f (by decide), si_f (by decide), si_f (by decide), si_eq]
  have t41 : τ8.1 a 41 = 0 := by rw [et, si_f (by decide), si_f (by decide), si_f (by decide), si_f (by decide), si_f (by decide), si_eq]
  have t42 : τ8.1 a 42 = 0 := by rw [et, si_f (by decide), si_f (by decide), si_f (by decide), si_f (by decide), si_eq]
  have t43 : τ8.1 a 43 = 0 := by rw [et, si_f (by decide), si_f (by decide), si_f (by decide), si_eq]
  have t44 : τ8.1 a 44 = 0 := by rw [et, si_f (by decide), si_f (by decide), si_eq]
  have t45 : τ8.1 a 45 = 0 := by rw [et, si_f (by decide), si_eq]
  have t38 : τ8.1 a 38 = 0 := by rw [et, si_eq]
  have m8 : m_c X τ8 a = c := by
    rw [et, mv_cell Y.1 ha, mv_cell Y.1 ha, mv_cell Y.1 ha, mv_cell Y.1 ha, mv_cell Y.1 ha, mv_cell Y.1 ha, mv_cell Y.1 ha, mv_cell Y.1 ha]
    exact hc
  have T8 : tkl (pl_Sq X a) (fun _ _ => False) τ τ8 := by
    rw [et]
    exact (((((((tkl.rf.si _ (Or.inr (Or.inr ⟨rfl, by decide, by decide⟩))).si _ (Or.inr (Or.inr ⟨rfl, by decide, by decide⟩))).si _ (Or.inr (Or.inr ⟨rfl, by decide, by decide⟩))).si _ (Or.inr (Or.inr ⟨rfl, by decide, by decide⟩))).si _ (Or.inr (Or.inr ⟨rfl, by decide, by decide⟩))).si _ (Or.inr (Or.inr ⟨rfl, by decide, by decide⟩))).si _ (Or.inr (Or.inr ⟨rfl, by decide, by decide⟩))).si _ (Or.inr (Or.inr ⟨rfl, by decide, by decide⟩))
  have J : pl_J X g a R V c n σ7 τ8 := by
    refine ⟨⟨?_, ?_, ?_, ?_⟩, ?_, ?_, ?_, ?_, V, c, v7, m8, Rg, hG, ?_, pl_fix.rf⟩
    · rw [s6, t39]
    · rw [s2, t42]
    · rw [s3, t43]
    · rw [s4, t44]
    · rw [s0, t40]
    · rw [s1, t41]
    · rw [s5, t45]
    · rw [t40, z0]
      decide
    · rw [t40, z0]
      exact hW.le (by omega)
  have on : pl_on a τ8 := ⟨by rw [t38, z0], by rw [t45, z0]⟩
  have g655 : (τ8.1 (q_rf X a 20) (655 : Int32).toNatClampNeg).toInt = c 655 := gm_cell (A := 655) m8 rfl
  rw [q_letE (τ8.1 (q_rf X a 20) (655 : Int32).toNatClampNeg), q_letE (F_X12_doAllN X a 30 τ8 0 (τ8.1 (q_rf X a 20) (655 : Int32).toNatClampNeg))]
  obtain ⟨σ2, a1, a2, a3, a4, a5⟩ := pl_all Y G D ha hn r4 qq.2 30 k 0 (c 655) 0 (V 3 2) (by decide) (by decide) (Int.le_refl _) (by decide) (Int.le_refl _) fk σ7 τ8 0 (τ8.1 (q_rf X a 20) (655 : Int32).toNatClampNeg) 0 0 0 J on rfl g655 rfl (by decide) (by rw [t40]; decide) (by decide)
  have e : pl_L X g R 0 0 σ7 = σ2 := by
    rcases a5 with ⟨-, x', i', b2, -, -, b5⟩ | ⟨-, b2⟩
    · rw [b5]
      exact pl_Lstop (Or.inr (by rw [a3.lines, b2]; exact Int.le_refl _))
    · exact b2
  have e' : F_X7_go_L46_1 X g R ((2147483647 - (0 : Int32).toInt).toNat + 1) 0 0 σ7 = σ2 := e
  rw [e']
  exact ⟨S7.tr a1, T8.tr a2, a3⟩
/-- game and marks behind a change of the game alone -/
theorem al_R.fr (K : al_C X lb C a) (A : al_R X C a σ τ) (M : m_M (m_c X τ a) (τ.1 a 24).toInt n) (v1 : y_v X (q_rf X C 8) σ' = V') (m1 : m_c X τ' a = c') (R' : rg V' c') (F : pl_fix (y_v X (q_rf X C 8) σ) V' (m_c X τ a) c') (fr : ∀ b, 3 ≤ lb b / 8192 → ∀ f, σ'.1 b f = σ.1 b f) (e11 : σ'.1 C 11 = σ.1 C 11) (e24 : τ'.1 a 24 = τ.1 a 24) (w1 : m_wd X τ' a = m_wd X τ a) : al_R X C a σ' τ' := by
  obtain ⟨kC, ka, S, lC, G8, G9, GM⟩ := K
  obtain ⟨⟨A1, A1b, A1c⟩, A2, A3, A4⟩ := A
  obtain ⟨fV, fc⟩ := F
  refine ⟨⟨?_, ?_, ?_⟩, by rw [e11, e24]; exact A2, by rw [e11]; exact A3, fun b b1 b2 => ?_⟩
  · rw [v1, m1]; exact R'
  · rw [v1, m1, w1, fc 2 (by decide) (by decide)]
    intro p p0 p1
    obtain ⟨a1, a2, a3⟩ := A1b p p0 p1
    rw [fV 6 p (by decide)]
    refine ⟨a1, fun i i0 i1 => by rw [fV 5 _ (by decide)]; exact a2 i i0 i1, ?_⟩
    rw [a3]
    refine tx_wv_ext (fun i hi => ?_)
    show y_v X (q_rf X C 8) σ 5 (8 * p + (0 + (i : Int))) = V' 5 (8 * p + (0 + (i : Int)))
    rw [fV 5 _ (by decide)]
  · rw [v1, m1]
    obtain ⟨h1, h2, h3, h4, n, h5⟩ := A1c
    have q := M.1.1.2.2.2.2.2.1
    refine ⟨?_, ?_, ?_, ?_, n, ?_⟩
    · rw [fV 3 0 (by decide), fc 654 (by decide) (by decide)]; exact h1
    · rw [fc 654 (by decide) (by decide)]; exact h2
    · rw [fV 3 1 (by decide), fc 655 (by decide) (by decide)]; exact h3
    · rw [fV 3 2 (by decide)]; exact h4
    · rw [fV 3 2 (by decide), fc 655 (by decide) (by decide)]
      exact fl_x (fun id i i0 i1 j0 j1 => fV id i (by omega)) (fun j j0 j1 => fc j (by omega) (by omega)) n (by decide) q.2 (by decide) h4.2 h5
  · rw [e11] at b2
    have z := A4 b b1 b2
    have gv : y_v X (q_rf X (q_rf X C 10) (b - 1)) σ' = y_v X (q_rf X (q_rf X C 10) (b - 1)) σ := y_v.k S (GM (b - 1) (by omega)) (fun x hx f => fr x (by omega) f)
    refine z.x (M.2 (b : Int) (by omega) (by rw [A2] at b2; exact b2)).1 (fun id i _ => by rw [gv]) (fun j j0 j1 => ?_) (fun j j0 j1 => by rw [w1])
    show m_c X τ' a (930 * (b : Int) + j) = m_c X τ a (930 * (b : Int) + j)
    rw [m1]
    exact fc _ (by omega) (by omega)
/-- both runs of an object -/
theorem al_run (K : al_C X lb C a) : pl_D X lb 1 (q_rf X C 14) ∧ pl_D X lb 2 (q_rf X C 15) := by
  obtain ⟨kC, ka, S, lC, G8, G9, GM⟩ := K
  obtain ⟨T, L, N⟩ := id S
  have k14 : q_kd X (q_rf X C 14) = 7 := (T.1 C 14 (by rw [kC]; decide)).trans (by rw [kC]; rfl)
  have k15 : q_kd X (q_rf X C 15) = 7 := (T.1 C 15 (by rw [kC]; decide)).trans (by rw [kC]; rfl)
  have l14 : lb (q_rf X C 14) = 30 := (L C 14 (by rw [kC]; decide)).trans (by rw [lC]; decide)
  have l15 : lb (q_rf X C 15) = 31 := (L C 15 (by rw [kC]; decide)).trans (by rw [lC]; decide)
  have one : ∀ (r l : Nat), q_kd X r = 7 → lb r = l → y_lc l 7 < 8192 → y_lc (y_lc l 7) 0 < 8192 → q_kd X (pl_T X r) = 20 ∧ q_ln X (pl_T X r) = 60 ∧ lb (pl_T X r) / 8192 = 0 := by
    intro r l kr lr h1 h2
    have k7 : q_kd X (q_rf X r 7) = 5 := (T.1 r 7 (by rw [kr]; decide)).trans (by rw [kr]; rfl)
    have l7 : lb (q_rf X r 7) = y_lc l 7 := (L r 7 (by rw [kr]; decide)).trans (by rw [lr])
    have k70 : q_kd X (q_rf X (q_rf X r 7) 0) = 20 := (T.1 (q_rf X r 7) 0 (by rw [k7]; decide)).trans (by rw [k7]; rfl)
    have l70 : lb (q_rf X (q_rf X r 7) 0) = y_lc (y_lc l 7) 0 := (L (q_rf X r 7) 0 (by rw [k7]; decide)).trans (by rw [l7])
    refine ⟨k70, (N r 7 (by rw [kr]; rfl)).trans (by rw [kr]; rfl), ?_⟩
    show lb (q_rf X (q_rf X r 7) 0) / 8192 = 0
    rw [l70]
    omega
  obtain ⟨p1, p2, p3⟩ := one _ _ k14 l14 (by decide) (by decide)
  obtain ⟨q1, q2, q3⟩ := one _ _ k15 l15 (by decide) (by decide)
  exact ⟨⟨k14, by rw [l14]; decide, by rw [p3]; decide, p1, p2⟩, ⟨k15, by rw [l15]; decide, by rw [q3]; decide, q1, q2⟩⟩
theorem al_T0 (K : al_C X lb C a) : lb (pl_T X (q_rf X C 14)) / 8192 = 0 := by
  obtain ⟨kC, ka, S, lC, G8, G9, GM⟩ := K
  obtain ⟨T, L, N⟩ := id S
  have k14 : q_kd X (q_rf X C 14) = 7 := (T.1 C 14 (by rw [kC]; decide)).trans (by rw [kC]; rfl)
  have l14 : lb (q_rf X C 14) = 30 := (L C 14 (by rw [kC]; decide)).trans (by rw [lC]; decide)
  have k7 : q_kd X (q_rf X (q_rf X C 14) 7) = 5 := (T.1 _ 7 (by rw [k14]; decide)).trans (by rw [k14]; rfl)
  have l7 : lb (q_rf X (q_rf X C 14) 7) = 487 := (L _ 7 (by rw [k14]; decide)).trans (by rw [l14]; decide)
  have l70 : lb (q_rf X (q_rf X (q_rf X C 14) 7) 0) = 7792 := (L _ 0 (by rw [k7]; decide)).trans (by rw [l7]; decide)
  show lb (q_rf X (q_rf X (q_rf X C 14) 7) 0) / 8192 = 0
  rw [l70]
/-- a number within bounds, for the reference -/
theorem lk_in (v : Int32) {x y : Int64} {A B : Int} (hx : x.toInt = A) (hy : y.toInt = B) : (F_X12_isIn X τ v.toInt64 x y).toInt = if A ≤ v.toInt ∧ v.toInt ≤ B then 1 else 0 := by
  rw [tm_isIn, ar_i2l, hx, hy]
/-- what was played, in both -/
def al_P (X : XW) (C a : Nat) (σ τ : ST) : Prop := (σ.1 C 16).toInt = (τ.1 a 37).toInt ∧ ((τ.1 a 37).toInt ≠ 0 → ∀ k : Nat, k < 5 → σ.1 (q_rf X C 14) (k + 1) = τ.1 (q_rf X a 36) k)
theorem al_play (K : al_C X lb C a) (A : al_R X C a σ τ) (M : m_M (m_c X τ a) (τ.1 a 24).toInt n) (hn : n ≤ 800000) (v : Int32) : ob_O X C a (F_X11_play X σ C v) (F_X12_play X τ a v) ∧ (al_P X C a σ τ → al_P X C a (F_X11_play X σ C v).2 (F_X12_play X τ a v).2) := by
  obtain ⟨kC, ka, S, lC, G8, G9, GM⟩ := id K
  obtain ⟨A1, A2, A3, A4⟩ := id A
  obtain ⟨D, -⟩ := al_run K
  obtain ⟨m2, s2, t2⟩ := mv_beg S.1 ka (rfl : m_c X τ a = m_c X τ a)
  obtain ⟨n80, n8a, n0a⟩ := pl_k28 S.1 ka
  have k36 : q_kd X (q_rf X a 36) = 41 := (S.1.1 a 36 (by rw [ka]; decide)).trans (by rw [ka]; rfl)
  have n36a : q_rf X a 36 ≠ a := m_ne k36 ka (by decide)
  have n36c : q_rf X a 36 ≠ q_rf X a 20 := m_ne k36 (tb_k S.1 ka).1 (by decide)
  have k28 : q_kd X (q_rf X a 28) = 39 := (S.1.1 a 28 (by rw [ka]; decide)).trans (by rw [ka]; rfl)
  have n36l : q_rf X a 36 ≠ q_rf X a 28 := m_ne k36 k28 (by decide)
  have nRC : C ≠ q_rf X C 14 := m_ne kC D.1 (by decide)
  have nTC : C ≠ pl_T X (q_rf X C 14) := m_ne kC D.2.2.2.1 (by decide)
  have ef : (σ.1 (q_rf X (q_rf X C 8) 3) 0).toInt = m_c X τ a 654 := ((y_W.rf (X := X) (lb := lb) (g := q_rf X C 8) (o := 1) (σ := σ)).rd (id := 3) (by decide) 0 rfl).trans A1.2.2.1
  -- a refused call
  have nop : ∀ k : Int32, (al_P X C a σ τ → al_P X C a (q_bi (F_X11_none X σ C k) (fun r s => (r, s))).2 (q_bi (F_X12_refuse X (q_si (q_si τ a 1 0) a 0 0) a k) (fun r s => (r, s))).2) := by
    intro k P
    rw [ob_pe, ob_pe, mv_none, mv_refuse]
    have c1 : ∀ f, f ≠ 0 → (q_si σ C 0 k).1 C f = σ.1 C f := fun f h => si_f h _
    have c2 : ∀ f, f ≠ 0 → f ≠ 1 → (q_si (q_si (q_si τ a 1 0) a 0 0) a 0 k).1 a f = τ.1 a f := fun f h1 h2 => (si_f h1 _).trans ((si_f h1 _).trans (si_f h2 _))
    show ((q_si σ C 0 k).1 C 16).toInt = ((q_si (q_si (q_si τ a 1 0) a 0 0) a 0 k).1 a 37).toInt ∧ (((q_si (q_si (q_si τ a 1 0) a 0 0) a 0 k).1 a 37).toInt ≠ 0 → ∀ j : Nat, j < 5 → (q_si σ C 0 k).1 (q_rf X C 14) (j + 1) = (q_si (q_si (q_si τ a 1 0) a 0 0) a 0 k).1 (q_rf X a 36) j)
    rw [c1 16 (by decide), c2 37 (by decide) (by decide)]
    refine ⟨P.1, fun h j hj => ?_⟩
    rw [q_si_ne (Ne.symm nRC), q_si_ne n36a, q_si_ne n36a, q_si_ne n36a]
    exact P.2 h j hj
  have i1 : (F_X12_isIn X (q_si (q_si τ a 1 0) a 0 0) v.toInt64 (0 : Int64) (9999 : Int64)).toInt = if 0 ≤ v.toInt ∧ v.toInt ≤ 9999 then 1 else 0 := lk_in (X := X) v rfl rfl
  unfold F_X11_play F_X12_play
  rw [q_letE (q_si τ a 1 0), q_letE (q_si (q_si τ a 1 0) a 0 0), q_letE v.toInt64, q_letE (F_X12_isIn X (q_si (q_si τ a 1 0) a 0 0) v.toInt64 (0 : Int64) (9999 : Int64)), i1]
  by_cases q0 : v.toInt < 0
  · rw [if_pos q0, if_neg (by omega : ¬ (0 ≤ v.toInt ∧ v.toInt ≤ 9999)), if_pos rfl]
    exact ⟨ob_none K A M 5, nop 5⟩
  by_cases q1 : 9999 < v.toInt
  · rw [if_neg q0, if_pos q1, if_neg (by omega : ¬ (0 ≤ v.toInt ∧ v.toInt ≤ 9999)), if_pos rfl]
    exact ⟨ob_none K A M 5, nop 5⟩
  rw [if_neg q0, if_neg q1, if_pos (⟨by omega, by omega⟩ : 0 ≤ v.toInt ∧ v.toInt ≤ 9999), if_neg (by decide : ¬ (1 : Int) = 0), q_letE (σ.1 (q_rf X (q_rf X C 8) 3) 0), ef]
  have g654 : ((q_si (q_si τ a 1 0) a 0 0).1 (q_rf X a 20) (654 : Int32).toNatClampNeg).toInt = m_c X τ a 654 := gm_cell (A := 654) m2 rfl
  rw [q_letE ((q_si (q_si τ a 1 0) a 0 0).1 (q_rf X a 20) (654 : Int32).toNatClampNeg), g654]
  by_cases q2 : m_c X τ a 654 = 0
  · rw [if_pos q2, if_pos q2]
    exact ⟨ob_none K A M 8, nop 8⟩
  rw [if_neg q2, if_neg q2]
  obtain ⟨h1, h2, J⟩ := pl_go S G8 D ka hn (rfl : y_v X (q_rf X C 8) σ = _) A1.1 M.1.1 M.1.2 m2 A1.2.2 v
  rw [q_letE (F_X7_go X σ (q_rf X C 14) (q_rf X C 8) v), q_letE (F_X12_plays X (q_si (q_si τ a 1 0) a 0 0) a v)]
  obtain ⟨σ9, es⟩ : ∃ s, s = F_X7_go X σ (q_rf X C 14) (q_rf X C 8) v := ⟨_, rfl⟩
  obtain ⟨τ9, et⟩ : ∃ s, s = F_X12_plays X (q_si (q_si τ a 1 0) a 0 0) a v := ⟨_, rfl⟩
  rw [← es] at h1 J ⊢
  rw [← et] at h2 J ⊢
  obtain ⟨⟨k6, k2, k3, k4⟩, j0, j1, j5, jb, V1, c1, o1, o2, o3, o4, o5, o6⟩ := J
  -- the class's end
  have f11 : (q_si σ9 C 16 1).1 (q_rf X C 14) 0 = σ9.1 (q_rf X C 14) 0 := q_si_ne (Ne.symm nRC) 0
  rw [q_letE (q_si σ9 C 16 1), q_letE ((q_si σ9 C 16 1).1 (q_rf X C 14) 0), f11, ob_pe, mv_good]
  have oC : lb C / 8192 ≠ 1 := by rw [lC]; decide
  have kCf : ∀ f, σ9.1 C f = σ.1 C f := fun f => h1.1 C f (by
    rintro (z | ⟨z, -⟩ | z)
    · exact oC z
    · exact nRC z
    · exact nTC z)
  -- the reference's end
  obtain ⟨y1, ey1⟩ : ∃ y, y = q_si τ9 (q_rf X a 36) 0 (τ9.1 a 41) := ⟨_, rfl⟩
  obtain ⟨y2, ey2⟩ : ∃ y, y = q_si y1 (q_rf X a 36) 1 (y1.1 a 42) := ⟨_, rfl⟩
  obtain ⟨y3, ey3⟩ : ∃ y, y = q_si y2 (q_rf X a 36) 2 (y2.1 a 43) := ⟨_, rfl⟩
  obtain ⟨y4, ey4⟩ : ∃ y, y = q_si y3 (q_rf X a 36) 3 (y3.1 a 44) := ⟨_, rfl⟩
  obtain ⟨y5, ey5⟩ : ∃ y, y = q_si y4 (q_rf X a 36) 4 (y4.1 a 45) := ⟨_, rfl⟩
  obtain ⟨y6, ey6⟩ : ∃ y, y = q_si y5 a 37 1 := ⟨_, rfl⟩
  have n0 : (0 : Int32).toNatClampNeg = 0 := rfl
  have n1 : (1 : Int32).toNatClampNeg = 1 := rfl
  have n2 : (2 : Int32).toNatClampNeg = 2 := rfl
  have n3 : (3 : Int32).toNatClampNeg = 3 := rfl
  have n4 : (4 : Int32).toNatClampNeg = 4 := rfl
  rw [n0, n1, n2, n3, n4, q_letE (τ9.1 a 41), q_letE (q_si τ9 (q_rf X a 36) 0 (τ9.1 a 41)), ← ey1, q_letE (y1.1 a 42), q_letE (q_si y1 (q_rf X a 36) 1 (y1.1 a 42)), ← ey2, q_letE (y2.1 a 43), q_letE (q_si y2 (q_rf X a 36) 2 (y2.1 a 43)), ← ey3, q_letE (y3.1 a 44), q_letE (q_si y3 (q_rf X a 36) 3 (y3.1 a 44)), ← ey4, q_letE (y4.1 a 45), q_letE (q_si y4 (q_rf X a 36) 4 (y4.1 a 45)), ← ey5, q_letE (q_si y5 a 37 1), ← ey6, q_letE (y6.1 a 40)]
  have ne : a ≠ q_rf X a 36 := Ne.symm n36a
  have a1 : ∀ f, y1.1 a f = τ9.1 a f := fun f => by rw [ey1]; exact q_si_ne ne f
  have a2 : ∀ f, y2.1 a f = τ9.1 a f := fun f => by rw [ey2, q_si_ne ne]; exact a1 f
  have a3 : ∀ f, y3.1 a f = τ9.1 a f := fun f => by rw [ey3, q_si_ne ne]; exact a2 f
  have a4 : ∀ f, y4.1 a f = τ9.1 a f := fun f => by rw [ey4, q_si_ne ne]; exact a3 f
  have a5 : ∀ f, y5.1 a f = τ9.1 a f := fun f => by rw [ey5, q_si_ne ne]; exact a4 f
  have a6 : ∀ f, f ≠ 37 → y6.1 a f = τ9.1 a f := fun f h => by rw [ey6, si_f h]; exact a5 f
  have a37 : y6.1 a 37 = 1 := by rw [ey6, si_eq]
  have m6 : m_c X y6 a = c1 := by
    rw [ey6, mv_cell S.1 ka]
    exact (pl_mc (fun f => by rw [ey5, q_si_ne (Ne.symm n36c), ey4, q_si_ne (Ne.symm n36c), ey3, q_si_ne (Ne.symm n36c), ey2, q_si_ne (Ne.symm n36c), ey1, q_si_ne (Ne.symm n36c)])).trans o2
  have l6 : y6.2 = τ9.2 := by rw [ey6, ey5, ey4, ey3, ey2, ey1]; rfl
  have p0 : y6.1 (q_rf X a 36) 0 = τ9.1 a 41 := by rw [ey6, q_si_ne n36a, ey5, si_f (by decide), ey4, si_f (by decide), ey3, si_f (by decide), ey2, si_f (by decide), ey1, si_eq]
  have p1 : y6.1 (q_rf X a 36) 1 = τ9.1 a 42 := by rw [ey6, q_si_ne n36a, ey5, si_f (by decide), ey4, si_f (by decide), ey3, si_f (by decide), ey2, si_eq, a1]
  have p2 : y6.1 (q_rf X a 36) 2 = τ9.1 a 43 := by rw [ey6, q_si_ne n36a, ey5, si_f (by decide), ey4, si_f (by decide), ey3, si_eq, a2]
  have p3 : y6.1 (q_rf X a 36) 3 = τ9.1 a 44 := by rw [ey6, q_si_ne n36a, ey5, si_f (by decide), ey4, si_eq, a3]
  have p4 : y6.1 (q_rf X a 36) 4 = τ9.1 a 45 := by rw [ey6, q_si_ne n36a, ey5, si_eq, a4]
  -- all together
  have q9 : y_v X (q_rf X C 8) (q_si (q_si σ9 C 16 1) C 0 0) = V1 := (pl_vo S G8 oC 0 0).trans ((pl_vo S G8 oC 16 1).trans o1)
  have kt : ∀ f, f < 38 → f ≠ 0 → f ≠ 1 → τ9.1 a f = τ.1 a f := fun f h h0 h1 => (h2.1 a f (by
    rintro (z | z | ⟨-, z, -⟩)
    · exact n0a z.symm
    · exact n8a z.symm
    · omega)).trans ((si_f h0 _).trans (si_f h1 _))
  have s0 : τ9.1 a 0 = 0 := (h2.1 a 0 (by
    rintro (z | z | ⟨-, z, -⟩)
    · exact n0a z.symm
    · exact n8a z.symm
    · omega)).trans s2
  refine ⟨⟨?_, ?_, ?_⟩, fun _ => ⟨?_, fun _ k hk => ?_⟩⟩
  · show (σ9.1 (q_rf X C 14) 0).toInt = (y6.1 a 40).toInt
    rw [a6 40 (by decide), j0]
  · show ((q_si (q_si σ9 C 16 1) C 0 0).1 C 0).toInt = (y6.1 a 0).toInt
    rw [si_eq, a6 0 (by decide), s0]
  · refine A.fr K M q9 m6 o3 o6 (fun b hb f => ?_) ?_ ?_ ?_
    · have nb : b ≠ C := fun e => by rw [e, lC] at hb; omega
      rw [q_si_ne nb, q_si_ne nb]
      refine h1.1 b f ?_
      have w0 := D.2.2.1
      rintro (z | ⟨z, -⟩ | z)
      · omega
      · have := (S.2.1 C 14 (by rw [kC]; decide))
        rw [← z, lC] at this
        have e : y_lc 1 14 = 30 := by decide
        rw [e] at this
        omega
      · exact absurd (al_T0 K) (by rw [← z]; omega)
    · rw [si_f (by decide), si_f (by decide), kCf]
    · rw [a6 24 (by decide), kt 24 (by decide) (by decide) (by decide)]
    · funext j
      show (y6.2.1 (q_rf X a 23) j.toNat).toInt = (τ.2.1 (q_rf X a 23) j.toNat).toInt
      rw [l6, h2.2.1 _ _ (fun z => z)]
      rfl
  · show ((q_si (q_si σ9 C 16 1) C 0 0).1 C 16).toInt = (y6.1 a 37).toInt
    rw [si_f (by decide), si_eq, a37]
  · show (q_si (q_si σ9 C 16 1) C 0 0).1 (q_rf X C 14) (k + 1) = y6.1 (q_rf X a 36) k
    rw [q_si_ne (Ne.symm nRC), q_si_ne (Ne.symm nRC)]
    rcases (by omega : k = 0 ∨ k = 1 ∨ k = 2 ∨ k = 3 ∨ k = 4) with e | e | e | e | e <;> subst e
    · rw [p0]; exact j1
    · rw [p1]; exact k2
    · rw [p2]; exact k3
    · rw [p3]; exact k4
    · rw [p4]; exact j5
end PH

/-! FROM 49zt.tries.lean.txt -/
/-! ROUNDS TRIED: wins and left -/
section PI
variable {X : XW} {lb : Nat → Nat} {g o a R C : Nat} {σ σ' σ1 τ τ' τ1 : ST} {V0 V V' : Nat → Int → Int} {c0 c c' : Int → Int} {n : Int}
/-- the class's fraction told: the answer, what is written -/
theorem fr_tell (σ : ST) (x y : Int64) : ∃ σ' : ST, F_X11_tell X σ C x y = (1, σ') ∧ σ'.1 = (q_si σ C 0 0).1 ∧ σ'.2.2 = σ.2.2 ∧ ∀ b f, b ≠ C → σ'.2.1 b f = σ.2.1 b f := by
  have one : ∀ u v : Int64, ∃ σ' : ST, q_bi (F_X11_yes X (q_sl (q_sl σ C 1 u) C 2 v) C) (fun r s => (r, s)) = (1, σ') ∧ σ'.1 = (q_si σ C 0 0).1 ∧ σ'.2.2 = σ.2.2 ∧ ∀ b f, b ≠ C → σ'.2.1 b f = σ.2.1 b f := by
    intro u v
    rw [ob_pe, mv_yes]
    exact ⟨_, rfl, rfl, rfl, fun b f h => (q_sl_ne h f).trans (q_sl_ne h f)⟩
  unfold F_X11_tell
  rw [q_letE (F_J9_abs_067f4 X σ x), q_letE (F_X11_commonDivisor X σ (F_J9_abs_067f4 X σ x) y), q_letE (lg_cmp x 0)]
  obtain ⟨d, hd⟩ : ∃ d, d = F_X11_commonDivisor X σ (F_J9_abs_067f4 X σ x) y := ⟨_, rfl⟩
  rw [← hd]
  by_cases q : (lg_cmp x 0).toInt = 0
  · rw [if_pos q, q_letE (q_sl σ C 1 0), q_letE (q_sl (q_sl σ C 1 0) C 2 1)]
    exact one 0 1
  · rw [if_neg q, q_letE (lg_cmp y 0)]
    by_cases q2 : 0 < (lg_cmp y 0).toInt
    · rw [if_pos q2, q_letE (lg_cmp d 0)]
      by_cases q3 : 0 < (lg_cmp d 0).toInt
      · rw [if_pos q3, q_letE (x / d), q_letE (q_sl σ C 1 (x / d)), q_letE (y / d), q_letE (q_sl (q_sl σ C 1 (x / d)) C 2 (y / d))]
        exact one _ _
      · rw [if_neg q3, q_letE (q_sl σ C 1 0), q_letE (q_sl (q_sl σ C 1 0) C 2 1)]
        exact one 0 1
    · rw [if_neg q2, q_letE (q_sl σ C 1 0), q_letE (q_sl (q_sl σ C 1 0) C 2 1)]
      exact one 0 1
/-- the reference's -/
theorem fr_fracL {x y : Int64} (k : Nat) : ∀ u v : Int64, v.toInt.natAbs < k → ∃ τ' : ST, F_X12_fraction_L9_1 X x τ a y k u v = (1, τ') ∧ τ'.1 = τ.1 ∧ τ'.2.2 = τ.2.2 ∧ ∀ b f, b ≠ a → τ'.2.1 b f = τ.2.1 b f := by
  induction k with
  | zero => intro u v h; exact absurd h (Nat.not_lt_zero _)
  | succ k ih =>
    intro u v h
    rw [F_X12_fraction_L9_1_s]
    unfold F_X12_fraction_B9_1
    have z0 : (0 : Int64).toInt = 0 := rfl
    have e0 : (lg_cmp v 0).toInt = 0 ↔ v.toInt = 0 := by
      have h1 := lg_cmp_lt v 0
      have h2 := lg_cmp_gt v 0
      rw [Int32.lt_iff_toInt_lt, q_z0, Int64.lt_iff_toInt_lt, z0] at h1
      rw [Int32.lt_iff_toInt_lt, q_z0, Int64.lt_iff_toInt_lt, z0] at h2
      constructor
      · intro e
        by_cases p : v.toInt < 0
        · have := h1.mpr p; omega
        · by_cases p2 : 0 < v.toInt
          · have := h2.mpr p2; omega
          · omega
      · intro e
        by_cases p : (lg_cmp v 0).toInt < 0
        · have := h1.mp p; omega
        · by_cases p2 : 0 < (lg_cmp v 0).toInt
          · have := h2.mp p2; omega
          · omega
    rw [q_letE (lg_cmp v 0)]
    by_cases q : v.toInt = 0
    · rw [if_pos (e0.mpr q)]
      unfold F_X12_fraction_E34_2
      rw [q_letE (x / u), q_letE (q_sl τ a 2 (x / u)), q_letE (y / u), q_letE (q_sl (q_sl τ a 2 (x / u)) a 3 (y / u))]
      exact ⟨_, rfl, rfl, rfl, fun b f h => (q_sl_ne h f).trans (q_sl_ne h f)⟩
    · rw [if_neg (fun z => q (e0.mp z)), q_letE (u % v)]
      have m := m_remabs (x := u) (y := v) (z := u % v) (q_remJ u v).symm q
      exact ih v (u % v) (by omega)
theorem fr_frac (τ : ST) (x y : Int64) : ∃ τ' : ST, F_X12_fraction X τ a x y = (1, τ') ∧ τ'.1 = τ.1 ∧ τ'.2.2 = τ.2.2 ∧ ∀ b f, b ≠ a → τ'.2.1 b f = τ.2.1 b f := by
  unfold F_X12_fraction
  rw [q_letE (F_J9_abs_m X τ x)]
  exact fr_fracL _ _ _ (Nat.lt_succ_self _)
/-- both tell a fraction -/
theorem al_told (K : al_C X lb C a) (A : al_R X C a σ τ) (h0 : (τ.1 a 0).toInt = 0) (x y x' y' : Int64) : ob_O X C a (F_X11_tell X σ C x y) (F_X12_fraction X τ a x' y') := by
  obtain ⟨kC, ka, S, lC, G8, G9, GM⟩ := id K
  obtain ⟨A1, A2, A3, A4⟩ := A
  obtain ⟨σ', e1, e2, e3, e4⟩ := fr_tell (X := X) (C := C) σ x y
  obtain ⟨τ', u1, u2, u3, u4⟩ := fr_frac (X := X) (a := a) τ x' y'
  rw [e1, u1]
  have k23 := (tb_k S.1 ka).2.2.1
  have n23 : q_rf X a 23 ≠ a := m_ne k23 ka (by decide)
  have c11 : σ'.1 C 11 = σ.1 C 11 := by rw [e2, si_f (by decide)]
  have oth : ∀ b, b ≠ C → ∀ f, σ'.1 b f = σ.1 b f := fun b hb f => by rw [e2, q_si_ne hb]
  have vv : ∀ (g o : Nat), y_G X lb g o → y_v X g σ' = y_v X g σ := fun g o Gg => y_v.k S Gg (fun b hb f => oth b (fun e => by rw [e, lC] at hb; have := Gg.2.2; omega) f)
  have mm : m_c X τ' a = m_c X τ a := pl_mc (fun f => by rw [u2])
  have ww : m_wd X τ' a = m_wd X τ a := by
    funext j
    exact congrArg Int64.toInt (u4 _ _ n23)
  refine ⟨rfl, ?_, ?_, ?_, ?_, fun b b1 b2 => ?_⟩
  · show (σ'.1 C 0).toInt = (τ'.1 a 0).toInt
    rw [e2, si_eq, u2, h0]
    rfl
  · rw [vv _ _ G8, mm, ww]; exact A1
  · rw [c11, u2]; exact A2
  · rw [c11]; exact A3
  · rw [c11] at b2
    rw [vv _ _ (GM (b - 1) (by omega)), mm, ww]
    exact A4 b b1 b2
/-- all kept in a try: the game is the same as before in both -/
def tr_K (X : XW) (lb : Nat → Nat) (C a : Nat) (σ0 σ τ0 τ : ST) (c : Int → Int) : Prop :=
  (∀ b, lb b / 8192 ≠ 2 → b ≠ q_rf X C 15 → b ≠ pl_T X (q_rf X C 15) → ∀ f, σ.1 b f = σ0.1 b f) ∧ σ.2 = σ0.2 ∧ m_c X τ a = c ∧ tkl (fun b f => pl_Sq X a b f ∨ b = q_rf X a 21) (fun _ _ => False) τ0 τ ∧ ∀ j : Int, 0 ≤ j → j < 654 → (τ.1 (q_rf X a 21) j.toNat).toInt = c j
theorem al_T15 (K : al_C X lb C a) : lb (q_rf X C 15) = 31 ∧ lb (pl_T X (q_rf X C 15)) = 8048 := by
  obtain ⟨kC, ka, S, lC, G8, G9, GM⟩ := K
  obtain ⟨T, L, N⟩ := id S
  have k14 : q_kd X (q_rf X C 15) = 7 := (T.1 C 15 (by rw [kC]; decide)).trans (by rw [kC]; rfl)
  have l14 : lb (q_rf X C 15) = 31 := (L C 15 (by rw [kC]; decide)).trans (by rw [lC]; decide)
  have k7 : q_kd X (q_rf X (q_rf X C 15) 7) = 5 := (T.1 _ 7 (by rw [k14]; decide)).trans (by rw [k14]; rfl)
  have l7 : lb (q_rf X (q_rf X C 15) 7) = 503 := (L _ 7 (by rw [k14]; decide)).trans (by rw [l14]; decide)
  exact ⟨l14, (L _ 0 (by rw [k7]; decide)).trans (by rw [l7]; decide)⟩
/-- the game as it was kept, copied back -/
theorem tr_back (hT : q_T X) (ha : q_kd X a = 12) (hk : ∀ j : Int, 0 ≤ j → j < 654 → (τ.1 (q_rf X a 21) j.toNat).toInt = c j) (hc : ∀ j : Int, 654 ≤ j → m_c X τ a j = c j) (c_neg : ∀ j : Int, j < 0 → c j = c 0) (L : Nat → Int32 → ST → Int32 × ST) (E : ST → Int32 × ST) (hS : ∀ k x s, L (k + 1) x s = if x.toInt < 654 then q_let (s.1 (q_rf X a 21) x.toNatClampNeg) (fun f => q_let (q_si s (q_rf X a 20) x.toNatClampNeg f) (fun s' => q_let (x + 1) (fun z => L k z s'))) else E s) (fu : Nat) :
    ∀ (x : Int32) (τ2 : ST), (2147483647 - x.toInt).toNat < fu → 0 ≤ x.toInt → x.toInt ≤ 654 → tkl (fun b _ => b = q_rf X a 20) (fun _ _ => False) τ τ2 → (∀ j : Int, 0 ≤ j → m_c X τ2 a j = if j < x.toInt then c j else m_c X τ a j) → ∃ τ3 : ST, L fu x τ2 = E τ3 ∧ tkl (fun b _ => b = q_rf X a 20) (fun _ _ => False) τ τ3 ∧ m_c X τ3 a = c := by
  have k21 : q_kd X (q_rf X a 21) = 35 := (hT.1 a 21 (by rw [ha]; decide)).trans (by rw [ha]; rfl)
  have n10 : q_rf X a 21 ≠ q_rf X a 20 := m_ne k21 (tb_k hT ha).1 (by decide)
  induction fu with
  | zero => intro x τ2 h; exact absurd h (Nat.not_lt_zero _)
  | succ fu ih =>
    intro x τ2 hf x0 x1 ht hm
    rw [hS]
    by_cases q : x.toInt < 654
    · have e1 : (x + 1).toInt = x.toInt + 1 := y_inc (by omega)
      have ek : (τ2.1 (q_rf X a 21) x.toNatClampNeg).toInt = c x.toInt := by
        rw [ht.1 _ _ n10]
        exact hk x.toInt x0 q
      rw [if_pos q, q_letE (τ2.1 (q_rf X a 21) x.toNatClampNeg), q_letE (q_si τ2 (q_rf X a 20) x.toNatClampNeg (τ2.1 (q_rf X a 21) x.toNatClampNeg)), q_letE (x + 1)]
      refine ih (x + 1) _ (by omega) (by omega) (by omega) (ht.si _ rfl) (fun j j0 => ?_)
      show ((q_si τ2 (q_rf X a 20) x.toNatClampNeg (τ2.1 (q_rf X a 21) x.toNatClampNeg)).1 (q_rf X a 20) j.toNat).toInt = _
      show (if q_rf X a 20 = q_rf X a 20 ∧ j.toNat = x.toNatClampNeg then τ2.1 (q_rf X a 21) x.toNatClampNeg else τ2.1 (q_rf X a 20) j.toNat).toInt = _
      rw [e1]
      by_cases e : j = x.toInt
      · rw [if_pos ⟨rfl, by rw [ar_cl, e]⟩, if_pos (by omega), ek, e]
      · rw [if_neg (fun z => e (by have := z.2; rw [ar_cl] at this; omega))]
        have z := hm j j0
        rw [show (τ2.1 (q_rf X a 20) j.toNat).toInt = m_c X τ2 a j from rfl, z]
        by_cases p : j < x.toInt
        · rw [if_pos p, if_pos (by omega)]
        · rw [if_neg p, if_neg (by omega)]
    · rw [if_neg q]
      refine ⟨τ2, rfl, ht, ?_⟩
      have ex : x.toInt = 654 := by omega
      have all : ∀ j : Int, 0 ≤ j → m_c X τ2 a j = c j := fun j j0 => by
        rw [hm j j0, ex]
        by_cases p : j < 654
        · rw [if_pos p]
        · rw [if_neg p]; exact hc j (by omega)
      funext j
      by_cases j0 : 0 ≤ j
      · exact all j j0
      · rw [m_c_neg X τ2 a (by omega), all 0 (by decide), c_neg j (by omega)]
/-- the game kept before the tries -/
theorem tr_keep (hT : q_T X) (ha : q_kd X a = 12) (hc : m_c X τ a = c) {v1 v2 v3 v4 : Int32} (fu : Nat) :
    ∀ (x : Int32) (τ2 : ST), (2147483647 - x.toInt).toNat < fu → 0 ≤ x.toInt → x.toInt ≤ 654 → tkl (fun b _ => b = q_rf X a 21) (fun _ _ => False) τ τ2 → (∀ j : Int, 0 ≤ j → j < x.toInt → (τ2.1 (q_rf X a 21) j.toNat).toInt = c j) → ∃ τ3 : ST, F_X12_tries_L78_1 X a v3 v2 v4 v1 fu x τ2 = F_X12_tries_L112_3 X v3 v2 a v4 v1 ((2147483647 - (0 : Int32).toInt).toNat + 1) 0 0 τ3 ∧ tkl (fun b _ => b = q_rf X a 21) (fun _ _ => False) τ τ3 ∧ ∀ j : Int, 0 ≤ j → j < 654 → (τ3.1 (q_rf X a 21) j.toNat).toInt = c j := by
  have k21 : q_kd X (q_rf X a 21) = 35 := (hT.1 a 21 (by rw [ha]; decide)).trans (by rw [ha]; rfl)
  have n10 : q_rf X a 20 ≠ q_rf X a 21 := m_ne (tb_k hT ha).1 k21 (by decide)
  induction fu with
  | zero => intro x τ2 h; exact absurd h (Nat.not_lt_zero _)
  | succ fu ih =>
    intro x τ2 hf x0 x1 ht hm
    rw [F_X12_tries_L78_1_s]
    unfold F_X12_tries_B78_1
    by_cases q : x.toInt < 654
    · have e1 : (x + 1).toInt = x.toInt + 1 := y_inc (by omega)
      have ek : (τ2.1 (q_rf X a 20) x.toNatClampNeg).toInt = c x.toInt := by
        rw [ht.1 _ _ n10]
        exact gm_cell hc rfl
      rw [if_pos q, q_letE (τ2.1 (q_rf X a 20) x.toNatClampNeg), q_letE (q_si τ2 (q_rf X a 21) x.toNatClampNeg (τ2.1 (q_rf X a 20) x.toNatClampNeg)), q_letE (x + 1)]
      refine ih (x + 1) _ (by omega) (by omega) (by omega) (ht.si _ rfl) (fun j j0 j1 => ?_)
      show (if q_rf X a 21 = q_rf X a 21 ∧ j.toNat = x.toNatClampNeg then τ2.1 (q_rf X a 20) x.toNatClampNeg else τ2.1 (q_rf X a 21) j.toNat).toInt = _
      by_cases e : j = x.toInt
      · rw [if_pos ⟨rfl, by rw [ar_cl, e]⟩, ek, e]
      · rw [if_neg (fun z => e (by have := z.2; rw [ar_cl] at this; omega))]
        exact hm j j0 (by omega)
    · rw [if_neg q]
      exact ⟨τ2, rfl, ht, fun j j0 j1 => hm j j0 (by omega)⟩
end PI

/-! FROM 49zu.wins.lean.txt -/
/-! ROUNDS TRIED: both answer the same, all stays the same -/
theorem pl_pair {α β : Type} {p q : α × β} (h1 : p.1 = q.1) (h2 : p.2 = q.2) : p = q := by
  show (p.1, p.2) = (q.1, q.2)
  rw [h1, h2]
section PJ
variable {X : XW} {lb : Nat → Nat} {a C : Nat} {σ0 σ τ0 τ : ST} {n : Int}
/-- one try: the spare game and the reference's own play the same round -/
theorem tr_step (K : al_C X lb C a) (A : al_R X C a σ0 τ0) (M : m_M (m_c X τ0 a) (τ0.1 a 24).toInt n) (hn : n ≤ 800000) (T : tr_K X lb C a σ0 σ τ0 τ (m_c X τ0 a)) (z : Int32) :
    ∃ (σ1 τ1 : ST) (V1 : Nat → Int → Int) (c1 : Int → Int), F_X7_go X (F_X0_copyFrom X σ (q_rf X C 9) (q_rf X C 8)) (q_rf X C 15) (q_rf X C 9) z = σ1 ∧ F_X12_plays X τ a z = τ1 ∧ y_v X (q_rf X C 9) σ1 = V1 ∧ m_c X τ1 a = c1 ∧ rg V1 c1 ∧ m_G c1 ∧ c1 2 = m_c X τ0 a 2 ∧ (∀ j : Int, 654 ≤ j → c1 j = m_c X τ0 a j) ∧
      (∀ b, lb b / 8192 ≠ 2 → b ≠ q_rf X C 15 → b ≠ pl_T X (q_rf X C 15) → ∀ f, σ1.1 b f = σ0.1 b f) ∧ σ1.2 = σ0.2 ∧ tkl (fun b f => pl_Sq X a b f ∨ b = q_rf X a 21) (fun _ _ => False) τ0 τ1 ∧ ∀ j : Int, 0 ≤ j → j < 654 → (τ1.1 (q_rf X a 21) j.toNat).toInt = m_c X τ0 a j := by
  obtain ⟨kC, ka, S, lC, G8, G9, GM⟩ := id K
  obtain ⟨A1, A2, A3, A4⟩ := id A
  obtain ⟨-, D⟩ := al_run K
  obtain ⟨l15, lT⟩ := al_T15 K
  obtain ⟨T1, T2, T3, T4, T5⟩ := T
  have k21 : q_kd X (q_rf X a 21) = 35 := (S.1.1 a 21 (by rw [ka]; decide)).trans (by rw [ka]; rfl)
  have k28 : q_kd X (q_rf X a 28) = 39 := (S.1.1 a 28 (by rw [ka]; decide)).trans (by rw [ka]; rfl)
  have k20 := (tb_k S.1 ka).1
  have v8 : y_v X (q_rf X C 8) σ = y_v X (q_rf X C 8) σ0 := y_v.k S G8 (fun b hb f => T1 b (by omega) (fun e => by rw [e, l15] at hb; omega) (fun e => by rw [e, lT] at hb; omega) f)
  obtain ⟨ow, o2, oV⟩ := (tb_copy (σ := σ) (g := q_rf X C 8) S G9 G8 (by decide)).cp
  obtain ⟨σ4, es⟩ : ∃ s, s = F_X0_copyFrom X σ (q_rf X C 9) (q_rf X C 8) := ⟨_, rfl⟩
  rw [← es] at ow o2 oV ⊢
  rw [v8] at oV
  have rb9 : rb (y_v X (q_rf X C 9) σ4) (m_c X τ0 a) (m_wd X τ0 a) := A1.x M.1.1 oV (fun _ _ _ => rfl) (fun _ _ _ => rfl)
  obtain ⟨h1, h2, J⟩ := pl_go S G9 D ka hn (rfl : y_v X (q_rf X C 9) σ4 = _) rb9.1 M.1.1 M.1.2 T3 rb9.2.2 z
  obtain ⟨-, -, -, -, -, V1, c1, o1, o2', o3, o4, o5, o6⟩ := J
  refine ⟨_, _, V1, c1, rfl, rfl, o1, o2', o3, o4, o6.2 2 (by decide) (Or.inl (by decide)), fun j hj => o6.2 j (by omega) (Or.inr hj), fun b b1 b2 b3 f => ?_, ?_, T4.tr (h2.mono (fun b f z => Or.inl z) (fun _ _ z => z)), fun j j0 j1 => ?_⟩
  · rw [h1.1 b f (by
      rintro (z | ⟨z, -⟩ | z)
      · exact b1 z
      · exact b2 z
      · exact b3 z), ow b b1 f, T1 b b1 b2 b3 f]
  · have e : (F_X7_go X σ4 (q_rf X C 15) (q_rf X C 9) z).2 = σ4.2 := pl_pair (funext (fun b => funext (fun f => h1.2.1 b f (fun z => z)))) h1.2.2
    rw [e, o2, T2]
  · rw [h2.1 _ _ (by
      rintro (z | z | ⟨z, -⟩)
      · exact m_ne k21 k20 (by decide) z
      · exact m_ne k21 k28 (by decide) z
      · exact m_ne k21 ka (by decide) z)]
    exact T5 j j0 j1
/-- a try taken back -/
theorem tr_next (K : al_C X lb C a) {σ1 τ1 : ST} {c1 : Int → Int} (m1 : m_c X τ1 a = c1) (c654 : ∀ j : Int, 654 ≤ j → c1 j = m_c X τ0 a j) (f1 : ∀ b, lb b / 8192 ≠ 2 → b ≠ q_rf X C 15 → b ≠ pl_T X (q_rf X C 15) → ∀ f, σ1.1 b f = σ0.1 b f) (f2 : σ1.2 = σ0.2) (f3 : tkl (fun b f => pl_Sq X a b f ∨ b = q_rf X a 21) (fun _ _ => False) τ0 τ1) (f4 : ∀ j : Int, 0 ≤ j → j < 654 → (τ1.1 (q_rf X a 21) j.toNat).toInt = m_c X τ0 a j) (L : Nat → Int32 → ST → Int32 × ST) (E : ST → Int32 × ST) (hS : ∀ k x s, L (k + 1) x s = if x.toInt < 654 then q_let (s.1 (q_rf X a 21) x.toNatClampNeg) (fun f => q_let (q_si s (q_rf X a 20) x.toNatClampNeg f) (fun s' => q_let (x + 1) (fun z => L k z s'))) else E s) :
    ∃ τ3 : ST, L ((2147483647 - (0 : Int32).toInt).toNat + 1) 0 τ1 = E τ3 ∧ tr_K X lb C a σ0 σ1 τ0 τ3 (m_c X τ0 a) := by
  obtain ⟨kC, ka, S, lC, G8, G9, GM⟩ := id K
  have k21 : q_kd X (q_rf X a 21) = 35 := (S.1.1 a 21 (by rw [ka]; decide)).trans (by rw [ka]; rfl)
  have k20 := (tb_k S.1 ka).1
  have z0 : (0 : Int32).toInt = 0 := rfl
  obtain ⟨τ3, x1, x2, x3⟩ := tr_back (τ := τ1) (c := m_c X τ0 a) S.1 ka f4 (fun j hj => by rw [m1]; exact c654 j hj) (fun j hj => m_c_neg X τ0 a hj) L E hS ((2147483647 - (0 : Int32).toInt).toNat + 1) 0 τ1 (Nat.lt_succ_self _) (by decide) (by decide) tkl.rf (fun j j0 => by rw [z0, if_neg (by omega)])
  refine ⟨τ3, x1, f1, f2, x3, f3.tr (x2.mono (fun b f z => Or.inl (Or.inl z)) (fun _ _ z => z)), fun j j0 j1 => ?_⟩
  rw [x2.1 _ _ (m_ne k21 k20 (by decide))]
  exact f4 j j0 j1
theorem tr_winsL (K : al_C X lb C a) (A : al_R X C a σ0 τ0) (M : m_M (m_c X τ0 a) (τ0.1 a 24).toInt n) (hn : n ≤ 800000) {v1 v2 v3 : Int32} (h3 : v3.toInt ≤ 20) (fu : Nat) :
    ∀ (fv : Nat) (x y : Int32) (σ τ : ST), (2147483647 - y.toInt).toNat < fu → (2147483647 - y.toInt).toNat < fv → 0 ≤ y.toInt → tr_K X lb C a σ0 σ τ0 τ (m_c X τ0 a) → ∃ (w : Int32) (σ' τ' : ST), F_X11_wins_L27_1 X v3 C v2 v1 fu x y σ = F_X11_tell X σ' C w.toInt64 v3.toInt64 ∧ F_X12_tries_L112_3 X v3 v2 a 1 v1 fv x y τ = F_X12_fraction X τ' a w.toInt64 v3.toInt64 ∧ tr_K X lb C a σ0 σ' τ0 τ' (m_c X τ0 a) := by
  obtain ⟨kC, ka, S, lC, G8, G9, GM⟩ := id K
  induction fu with
  | zero => intro fv x y σ τ h; exact absurd h (Nat.not_lt_zero _)
  | succ fu ih =>
    intro fv x y σ τ hf hfv y0 T
    obtain ⟨fv', efv⟩ : ∃ k, fv = k + 1 := ⟨fv - 1, by omega⟩
    subst efv
    rw [F_X11_wins_L27_1_s, F_X12_tries_L112_3_s]
    unfold F_X11_wins_B27_1 F_X12_tries_B112_3
    by_cases q : y.toInt < v3.toInt
    · have y1 : (y + 1).toInt = y.toInt + 1 := y_inc (by omega)
      obtain ⟨σ1, τ1, V1, c1, e1, e2, p1, p2, p3, p4, p5, p6, p7, p8, p9, p10⟩ := tr_step K A M hn T (v2 + y)
      rw [if_pos q, if_pos q, q_letE (F_X0_copyFrom X σ (q_rf X C 9) (q_rf X C 8)), q_letE (v2 + y), q_letE (F_X7_go X (F_X0_copyFrom X σ (q_rf X C 9) (q_rf X C 8)) (q_rf X C 15) (q_rf X C 9) (v2 + y)), e1, q_letE (v2 + y), q_letE (F_X12_plays X τ a (v2 + y)), e2, if_neg (by decide : ¬ (1 : Int32).toInt = 0)]
      have f18 : (σ1.1 (q_rf X C 9) 6).toInt = c1 8 := ((pl_W (lb := lb) (o := 2) p1).rd (id := 0) (by decide) 6 rfl).trans p3.2.1.2.2.1.1
      have g53 : (τ1.1 (q_rf X a 20) (8 : Int32).toNatClampNeg).toInt = c1 8 := gm_cell (A := 8) p2 rfl
      rw [q_letE (σ1.1 (q_rf X C 9) 6), f18, q_letE (τ1.1 (q_rf X a 20) (8 : Int32).toNatClampNeg), g53]
      by_cases qw : c1 8 = v1.toInt
      · obtain ⟨τ3, x1, x2⟩ := tr_next K p2 p6 p7 p8 p9 p10 (F_X12_tries_L163_9 X a y (F_X12_tries_L112_3 X v3 v2 a 1 v1 fv') (x + 1)) (F_X12_tries_E191_10 X y (F_X12_tries_L112_3 X v3 v2 a 1 v1 fv') (x + 1)) (fun k x s => by
          rw [F_X12_tries_L163_9_s]
          rfl)
        rw [if_pos qw, if_pos qw, q_letE (x + 1), q_letE (y + 1), q_letE (x + 1), x1]
        unfold F_X12_tries_E191_10
        rw [q_letE (y + 1)]
        exact ih fv' (x + 1) (y + 1) σ1 τ3 (by omega) (by omega) (by omega) x2
      · obtain ⟨τ3, x1, x2⟩ := tr_next K p2 p6 p7 p8 p9 p10 (F_X12_tries_L163_7 X a y (F_X12_tries_L112_3 X v3 v2 a 1 v1 fv') (x + 0)) (F_X12_tries_E191_8 X y (F_X12_tries_L112_3 X v3 v2 a 1 v1 fv') (x + 0)) (fun k x s => by
          rw [F_X12_tries_L163_7_s]
          rfl)
        rw [if_neg qw, if_neg qw, q_letE (y + 1), q_letE (x + 0), x1]
        unfold F_X12_tries_E191_8
        rw [q_letE (y + 1), Int32.add_zero]
        exact ih fv' x (y + 1) σ1 τ3 (by omega) (by omega) (by omega) x2
    · rw [if_neg q, if_neg q]
      unfold F_X11_wins_E79_2 F_X12_tries_E197_4
      rw [q_letE x.toInt64, q_letE v3.toInt64, ob_pe, q_letE x.toInt64, q_letE v3.toInt64, ob_pe]
      exact ⟨x, σ, τ, rfl, rfl, T⟩
theorem tr_leftL (K : al_C X lb C a) (A : al_R X C a σ0 τ0) (M : m_M (m_c X τ0 a) (τ0.1 a 24).toInt n) (hn : n ≤ 800000) {v1 v2 v3 : Int32} (h3 : v3.toInt ≤ 20) (h1 : 0 ≤ v1.toInt ∧ v1.toInt < m_c X τ0 a 2) (fu : Nat) :
    ∀ (fv : Nat) (x y : Int32) (σ τ : ST), (2147483647 - y.toInt).toNat < fu → (2147483647 - y.toInt).toNat < fv → 0 ≤ y.toInt → tr_K X lb C a σ0 σ τ0 τ (m_c X τ0 a) → ∃ (w : Int32) (σ' τ' : ST), F_X11_left_L27_1 X v3 C v2 v1 fu x y σ = F_X11_tell X σ' C w.toInt64 v3.toInt64 ∧ F_X12_tries_L112_3 X v3 v2 a 0 v1 fv x y τ = F_X12_fraction X τ' a w.toInt64 v3.toInt64 ∧ tr_K X lb C a σ0 σ' τ0 τ' (m_c X τ0 a) := by
  obtain ⟨kC, ka, S, lC, G8, G9, GM⟩ := id K
  have b2 : 0 ≤ m_c X τ0 a 2 ∧ m_c X τ0 a 2 ≤ 6 := M.1.1.1.2.1
  have n9 : ((y_gn 9 : Nat) : Int) = 6 := rfl
  induction fu with
  | zero => intro fv x y σ τ h; exact absurd h (Nat.not_lt_zero _)
  | succ fu ih =>
    intro fv x y σ τ hf hfv y0 T
    obtain ⟨fv', efv⟩ : ∃ k, fv = k + 1 := ⟨fv - 1, by omega⟩
    subst efv
    rw [F_X11_left_L27_1_s, F_X12_tries_L112_3_s]
    unfold F_X11_left_B27_1 F_X12_tries_B112_3
    by_cases q : y.toInt < v3.toInt
    · have y1 : (y + 1).toInt = y.toInt + 1 := y_inc (by omega)
      obtain ⟨σ1, τ1, V1, c1, e1, e2, p1, p2, p3, p4, p5, p6, p7, p8, p9, p10⟩ := tr_step K A M hn T (v2 + y)
      rw [if_pos q, if_pos q, q_letE (F_X0_copyFrom X σ (q_rf X C 9) (q_rf X C 8)), q_letE (v2 + y), q_letE (F_X7_go X (F_X0_copyFrom X σ (q_rf X C 9) (q_rf X C 8)) (q_rf X C 15) (q_rf X C 9) (v2 + y)), e1, q_letE (v2 + y), q_letE (F_X12_plays X τ a (v2 + y)), e2, if_pos (by decide : (0 : Int32).toInt = 0)]
      have f18 : (F_X5_get X σ1 (q_rf X (q_rf X (q_rf X C 9) 1) 2) v1).toInt = m_S c1 (34 + 10 * v1.toInt) 10 := (y_getI S G9 (pl_W (lb := lb) (o := 2) p1) (id := 9) (r := q_rf X (q_rf X (q_rf X C 9) 1) 2) ⟨by decide, by decide⟩ rfl rfl h1.1 (by rw [n9]; omega)).trans (p3.2.2.2.1.2 _ h1.1 (by omega))
      have g41 := gm_cardsOf (X := X) (a := a) (τ := τ1) p2 p4 (rfl : v1.toInt = _) ⟨h1.1, by omega⟩
      have ee : F_X5_get X σ1 (q_rf X (q_rf X (q_rf X C 9) 1) 2) v1 = F_X12_cardsOf X τ1 a v1 := Int32.toInt_inj.mp (f18.trans g41.symm)
      obtain ⟨τ3, x1, x2⟩ := tr_next K p2 p6 p7 p8 p9 p10 (F_X12_tries_L163_5 X a y (F_X12_tries_L112_3 X v3 v2 a 0 v1 fv') (x + F_X12_cardsOf X τ1 a v1)) (F_X12_tries_E191_6 X y (F_X12_tries_L112_3 X v3 v2 a 0 v1 fv') (x + F_X12_cardsOf X τ1 a v1)) (fun k x s => by
        rw [F_X12_tries_L163_5_s]
        rfl)
      rw [q_letE (F_X5_get X σ1 (q_rf X (q_rf X (q_rf X C 9) 1) 2) v1), ee, q_letE (x + F_X12_cardsOf X τ1 a v1), q_letE (y + 1), q_letE (F_X12_cardsOf X τ1 a v1), q_letE (x + F_X12_cardsOf X τ1 a v1), x1]
      unfold F_X12_tries_E191_6
      rw [q_letE (y + 1)]
      exact ih fv' _ (y + 1) σ1 τ3 (by omega) (by omega) (by omega) x2
    · rw [if_neg q, if_neg q]
      unfold F_X11_left_E84_2 F_X12_tries_E197_4
      rw [q_letE x.toInt64, q_letE v3.toInt64, ob_pe, q_letE x.toInt64, q_letE v3.toInt64, ob_pe]
      exact ⟨x, σ, τ, rfl, rfl, T⟩
/-- behind the tries all is as before -/
theorem tr_K.al (K : al_C X lb C a) (A : al_R X C a σ0 τ0) (M : m_M (m_c X τ0 a) (τ0.1 a 24).toInt n) (T : tr_K X lb C a σ0 σ τ0 τ (m_c X τ0 a)) : al_R X C a σ τ ∧ τ.1 a 0 = τ0.1 a 0 := by
  obtain ⟨kC, ka, S, lC, G8, G9, GM⟩ := id K
  obtain ⟨l15, lT⟩ := al_T15 K
  obtain ⟨T1, T2, T3, T4, T5⟩ := T
  have k21 : q_kd X (q_rf X a 21) = 35 := (S.1.1 a 21 (by rw [ka]; decide)).trans (by rw [ka]; rfl)
  obtain ⟨n80, n8a, n0a⟩ := pl_k28 S.1 ka
  have v8 : y_v X (q_rf X C 8) σ = y_v X (q_rf X C 8) σ0 := y_v.k S G8 (fun b hb f => T1 b (by omega) (fun e => by rw [e, l15] at hb; omega) (fun e => by rw [e, lT] at hb; omega) f)
  have ta : ∀ f, f < 38 → τ.1 a f = τ0.1 a f := fun f h => T4.1 a f (by
    rintro ((z | z | ⟨-, z, -⟩) | z)
    · exact n0a z.symm
    · exact n8a z.symm
    · omega
    · exact m_ne k21 ka (by decide) z.symm)
  refine ⟨A.fr K M v8 T3 A.1.1 pl_fix.rf (fun b hb f => T1 b (by omega) (fun e => by rw [e, l15] at hb; omega) (fun e => by rw [e, lT] at hb; omega) f) (T1 C (by omega) (fun e => by rw [e, l15] at lC; omega) (fun e => by rw [e, lT] at lC; omega) 11) (ta 24 (by decide)) ?_, ta 0 (by decide)⟩
  funext j
  exact congrArg Int64.toInt (T4.2.1 _ _ (fun z => z))
/-- whether seeds can be tried -/
theorem tr_status (K : al_C X lb C a) (A : al_R X C a σ τ) (M : m_M (m_c X τ a) (τ.1 a 24).toInt n) (v1 v2 v3 : Int32) : (F_X11_seedsStatus X σ C v1 v2 v3).toInt = if ¬ (0 ≤ v1.toInt ∧ v1.toInt < m_c X τ a 2) then 2 else if ¬ ((1 ≤ v3.toInt ∧ v3.toInt ≤ 20) ∧ 0 ≤ v2.toInt ∧ v2.toInt ≤ 10000 - v3.toInt) then 5 else if m_c X τ a 654 = 0 then 8 else 0 := by
  obtain ⟨A1, A2, A3, A4⟩ := A
  have w : y_W X lb (q_rf X C 8) 1 σ σ (y_v X (q_rf X C 8) σ) := y_W.rf
  have hP : y_v X (q_rf X C 8) σ 1 4 = m_c X τ a 2 := A1.1.1.2.2.2.2.1
  have p1 := lk_player w v1
  rw [hP] at p1
  have one : (1 : Int32).toInt = 1 := rfl
  have e9 : (9999 : Int32).toInt = 9999 := rfl
  have ef : (σ.1 (q_rf X (q_rf X C 8) 3) 0).toInt = m_c X τ a 654 := (w.rd (id := 3) (by decide) 0 rfl).trans A1.2.2.1
  unfold F_X11_seedsStatus
  rw [q_letE (F_X11_isPlayer X σ C v1), p1]
  by_cases q : 0 ≤ v1.toInt ∧ v1.toInt < m_c X τ a 2
  · rw [if_pos q, if_neg (by decide : ¬ (1 : Int) = 0), if_neg (not_not_intro q)]
    by_cases a1 : v2.toInt < 0
    · rw [if_pos a1, if_pos (by omega : ¬ ((1 ≤ v3.toInt ∧ v3.toInt ≤ 20) ∧ 0 ≤ v2.toInt ∧ v2.toInt ≤ 10000 - v3.toInt))]; rfl
    · rw [if_neg a1]
      by_cases a2 : v3.toInt < 1
      · rw [if_pos a2, if_pos (by omega : ¬ ((1 ≤ v3.toInt ∧ v3.toInt ≤ 20) ∧ 0 ≤ v2.toInt ∧ v2.toInt ≤ 10000 - v3.toInt))]; rfl
      · rw [if_neg a2]
        by_cases a3 : 20 < v3.toInt
        · rw [if_pos a3, if_pos (by omega : ¬ ((1 ≤ v3.toInt ∧ v3.toInt ≤ 20) ∧ 0 ≤ v2.toInt ∧ v2.toInt ≤ 10000 - v3.toInt))]; rfl
        · have e : ((9999 : Int32) - v3 + 1).toInt = 10000 - v3.toInt := by
            rw [ar_add, ar_sub, e9, one, ar_wr (n := 9999 - v3.toInt) (by omega) (by omega), ar_wr (by omega) (by omega)]
            omega
          rw [if_neg a3, q_letE ((9999 : Int32) - v3), q_letE ((9999 : Int32) - v3 + 1), e]
          by_cases a4 : 10000 - v3.toInt < v2.toInt
          · rw [if_pos a4, if_pos (by omega : ¬ ((1 ≤ v3.toInt ∧ v3.toInt ≤ 20) ∧ 0 ≤ v2.toInt ∧ v2.toInt ≤ 10000 - v3.toInt))]; rfl
          · rw [if_neg a4, if_neg (by omega : ¬ ¬ ((1 ≤ v3.toInt ∧ v3.toInt ≤ 20) ∧ 0 ≤ v2.toInt ∧ v2.toInt ≤ 10000 - v3.toInt)), q_letE (σ.1 (q_rf X (q_rf X C 8) 3) 0), ef]
            split <;> rfl
  · rw [if_neg q, if_pos rfl, if_pos q]
    rfl
theorem al_tries (K : al_C X lb C a) (A : al_R X C a σ τ) (M : m_M (m_c X τ a) (τ.1 a 24).toInt n) (hn : n ≤ 800000) (v1 v2 v3 : Int32) : ob_O X C a (F_X11_wins X σ C v1 v2 v3) (F_X12_wins X τ a v1 v2 v3) ∧ ob_O X C a (F_X11_left X σ C v1 v2 v3) (F_X12_left X τ a v1 v2 v3) := by
  obtain ⟨kC, ka, S, lC, G8, G9, GM⟩ := id K
  obtain ⟨m2, s2, t2⟩ := mv_beg S.1 ka (rfl : m_c X τ a = m_c X τ a)
  have b2 : 0 ≤ m_c X τ a 2 ∧ m_c X τ a 2 ≤ 6 := M.1.1.1.2.1
  have st := tr_status K A M v1 v2 v3
  have p2 := lk_playerAt m2 b2 v1
  have one : (1 : Int64).toInt = 1 := rfl
  have e20 : (20 : Int64).toInt = 20 := rfl
  have e0 : (0 : Int64).toInt = 0 := rfl
  have ek : (10000 : Int32).toInt = 10000 := rfl
  have g654 : ((q_si (q_si τ a 1 0) a 0 0).1 (q_rf X a 20) (654 : Int32).toNatClampNeg).toInt = m_c X τ a 654 := gm_cell (A := 654) m2 rfl
  have A' : al_R X C a σ (q_si (q_si τ a 1 0) a 0 0) := by
    refine A.fr K M rfl m2 A.1.1 pl_fix.rf (fun _ _ _ => rfl) rfl ?_ rfl
    rw [si_f (by decide), si_f (by decide)]
  have M' : m_M (m_c X (q_si (q_si τ a 1 0) a 0 0) a) ((q_si (q_si τ a 1 0) a 0 0).1 a 24).toInt n := by
    rw [m2, si_f (by decide), si_f (by decide)]
    exact M
  have noN : ∀ k : Int32, ob_O X C a (q_bi (F_X11_no X σ C k) (fun r s => (r, s))) (q_bi (F_X12_no X (q_si (q_si τ a 1 0) a 0 0) a k) (fun r s => (r, s))) := fun k => by
    rw [ob_pe, ob_pe, mv_no, mv_noM]
    refine ⟨rfl, ?_, (al_st K A M k).2 k⟩
    show ((q_si σ C 0 k).1 C 0).toInt = ((q_si (q_si (q_si τ a 1 0) a 0 0) a 0 k).1 a 0).toInt
    rw [si_eq, si_eq]
  unfold F_X11_wins F_X11_left F_X12_wins F_X12_left F_X12_tries
  rw [q_letE (F_X11_seedsStatus X σ C v1 v2 v3), q_letE (F_X11_seedsStatus X σ C v1 v2 v3), q_letE (q_si τ a 1 0), q_letE (q_si (q_si τ a 1 0) a 0 0), q_letE (q_si τ a 1 0), q_letE (q_si (q_si τ a 1 0) a 0 0)]
  obtain ⟨τ2, et⟩ : ∃ t, t = q_si (q_si τ a 1 0) a 0 0 := ⟨_, rfl⟩
  rw [← et] at m2 s2 p2 g654 A' M' noN ⊢
  have i3 : (F_X12_isIn X τ2 v3.toInt64 (1 : Int64) (20 : Int64)).toInt = if 1 ≤ v3.toInt ∧ v3.toInt ≤ 20 then 1 else 0 := lk_in (X := X) v3 one e20
  rw [q_letE (F_X12_isPlayerAt X τ2 a v1), q_letE (F_X12_isPlayerAt X τ2 a v1), p2]
  obtain ⟨w, ew⟩ : ∃ w, w = F_X11_seedsStatus X σ C v1 v2 v3 := ⟨_, rfl⟩
  rw [← ew] at st ⊢
  by_cases q1 : ¬ (0 ≤ v1.toInt ∧ v1.toInt < m_c X τ a 2)
  · rw [if_pos q1] at st
    have e : w = 2 := Int32.toInt_inj.mp (st.trans rfl)
    rw [e, if_neg (by decide : ¬ (2 : Int32).toInt = 0), if_neg (by decide : ¬ (2 : Int32).toInt = 0), if_neg q1, if_pos rfl, if_pos rfl, ob_pe (q_bi (F_X12_no X τ2 a 2) (fun r s => (r, s)))]
    exact ⟨noN 2, noN 2⟩
  have q1' := Classical.not_not.mp q1
  rw [if_neg q1] at st
  rw [if_pos q1', if_neg (by decide : ¬ (1 : Int) = 0), if_neg (by decide : ¬ (1 : Int) = 0), q_letE v3.toInt64, q_letE v3.toInt64, q_letE (F_X12_isIn X τ2 v3.toInt64 (1 : Int64) (20 : Int64)), q_letE (F_X12_isIn X τ2 v3.toInt64 (1 : Int64) (20 : Int64)), i3]
  by_cases q3 : ¬ (1 ≤ v3.toInt ∧ v3.toInt ≤ 20)
  · rw [if_pos (fun z => q3 z.1)] at st
    have e : w = 5 := Int32.toInt_inj.mp (st.trans rfl)
    rw [e, if_neg (by decide : ¬ (5 : Int32).toInt = 0), if_neg (by decide : ¬ (5 : Int32).toInt = 0), if_neg q3, if_pos rfl, if_pos rfl, ob_pe (q_bi (F_X12_no X τ2 a 5) (fun r s => (r, s)))]
    exact ⟨noN 5, noN 5⟩
  have q3' := Classical.not_not.mp q3
  have ez : ((10000 : Int32) - v3).toInt64.toInt = 10000 - v3.toInt := by rw [ar_i2l, ar_sub, ek, ar_wr (by omega) (by omega)]
  have i2 : (F_X12_isIn X τ2 v2.toInt64 (0 : Int64) ((10000 : Int32) - v3).toInt64).toInt = if 0 ≤ v2.toInt ∧ v2.toInt ≤ 10000 - v3.toInt then 1 else 0 := lk_in (X := X) v2 e0 ez
  rw [if_pos q3', if_neg (by decide : ¬ (1 : Int) = 0), if_neg (by decide : ¬ (1 : Int) = 0), q_letE v2.toInt64, q_letE ((10000 : Int32) - v3), q_letE ((10000 : Int32) - v3).toInt64, q_letE (F_X12_isIn X τ2 v2.toInt64 (0 : Int64) ((10000 : Int32) - v3).toInt64), q_letE v2.toInt64, q_letE ((10000 : Int32) - v3), q_letE ((10000 : Int32) - v3).toInt64, q_letE (F_X12_isIn X τ2 v2.toInt64 (0 : Int64) ((10000 : Int32) - v3).toInt64), i2]
  by_cases q4 : ¬ (0 ≤ v2.toInt ∧ v2.toInt ≤ 10000 - v3.toInt)
  · rw [if_pos (fun z => q4 z.2)] at st
    have e : w = 5 := Int32.toInt_inj.mp (st.trans rfl)
    rw [e, if_neg (by decide : ¬ (5 : Int32).toInt = 0), if_neg (by decide : ¬ (5 : Int32).toInt = 0), if_neg q4, if_pos rfl, if_pos rfl, ob_pe (q_bi (F_X12_no X τ2 a 5) (fun r s => (r, s)))]
    exact ⟨noN 5, noN 5⟩
  have q4' := Classical.not_not.mp q4
  rw [if_neg (fun z => z ⟨q3', q4'⟩)] at st
  rw [if_pos q4', if_neg (by decide : ¬ (1 : Int) = 0), if_neg (by decide : ¬ (1 : Int) = 0), q_letE (τ2.1 (q_rf X a 20) (654 : Int32).toNatClampNeg), q_letE (τ2.1 (q_rf X a 20) (654 : Int32).toNatClampNeg), g654]
  by_cases q5 : m_c X τ a 654 = 0
  · rw [if_pos q5] at st
    have e : w = 8 := Int32.toInt_inj.mp (st.trans rfl)
    rw [e, if_neg (by decide : ¬ (8 : Int32).toInt = 0), if_neg (by decide : ¬ (8 : Int32).toInt = 0), if_pos q5, if_pos q5, ob_pe (q_bi (F_X12_no X τ2 a 8) (fun r s => (r, s)))]
    exact ⟨noN 8, noN 8⟩
  rw [if_neg q5] at st
  rw [if_pos st, if_pos st, if_neg q5, if_neg q5]
  have z0 : (0 : Int32).toInt = 0 := rfl
  have k21 : q_kd X (q_rf X a 21) = 35 := (S.1.1 a 21 (by rw [ka]; decide)).trans (by rw [ka]; rfl)
  have keep : ∀ v4 : Int32, ∃ τ3 : ST, F_X12_tries_L78_1 X a v3 v2 v4 v1 ((2147483647 - (0 : Int32).toInt).toNat + 1) 0 τ2 = F_X12_tries_L112_3 X v3 v2 a v4 v1 ((2147483647 - (0 : Int32).toInt).toNat + 1) 0 0 τ3 ∧ tr_K X lb C a σ σ τ2 τ3 (m_c X τ2 a) := fun v4 => by
    obtain ⟨τ3, x1, x2, x3⟩ := tr_keep (v1 := v1) (v2 := v2) (v3 := v3) (v4 := v4) (c := m_c X τ2 a) S.1 ka rfl ((2147483647 - (0 : Int32).toInt).toNat + 1) 0 τ2 (Nat.lt_succ_self _) (by decide) (by decide) tkl.rf (fun j j0 j1 => by rw [z0] at j1; omega)
    exact ⟨τ3, x1, fun _ _ _ _ _ => rfl, rfl, pl_mc (fun f => x2.1 _ f (m_ne (tb_k S.1 ka).1 k21 (by decide))), x2.mono (fun b f z => Or.inr z) (fun _ _ z => z), x3⟩
  have fin : ∀ (σ' τ' : ST) (x y : Int64), tr_K X lb C a σ σ' τ2 τ' (m_c X τ2 a) → ob_O X C a (F_X11_tell X σ' C x y) (F_X12_fraction X τ' a x y) := fun σ' τ' x y T => by
    obtain ⟨B, b0⟩ := T.al K A' M'
    exact al_told K B (by rw [b0, s2]; rfl) x y x y
  refine ⟨?_, ?_⟩
  · obtain ⟨τ3, x1, x2⟩ := keep 1
    obtain ⟨w', σ', τ', j1, j2, j3⟩ := tr_winsL (v1 := v1) (v2 := v2) (v3 := v3) K A' M' hn q3'.2 ((2147483647 - (0 : Int32).toInt).toNat + 1) ((2147483647 - (0 : Int32).toInt).toNat + 1) 0 0 σ τ3 (Nat.lt_succ_self _) (Nat.lt_succ_self _) (by decide) x2
    rw [j1, x1, j2, ob_pe]
    exact fin σ' τ' _ _ j3
  · obtain ⟨τ3, x1, x2⟩ := keep 0
    obtain ⟨w', σ', τ', j1, j2, j3⟩ := tr_leftL (v1 := v1) (v2 := v2) (v3 := v3) K A' M' hn q3'.2 (by rw [m2]; exact q1') ((2147483647 - (0 : Int32).toInt).toNat + 1) ((2147483647 - (0 : Int32).toInt).toNat + 1) 0 0 σ τ3 (Nat.lt_succ_self _) (Nat.lt_succ_self _) (by decide) x2
    rw [j1, x1, j2, ob_pe]
    exact fin σ' τ' _ _ j3
end PJ

/-! FROM 49zv.keep.lean.txt -/
/-! WHAT STANDS BEHIND A CALL THAT MOVES NOTHING -/
def kp_C (L : List (Nat × Nat)) : Bool := L.all (fun x => x.1 != 1 && x.1 != 3 && x.1 != 6 && x.1 != 8 && x.1 != 20 && (x.1 != 11 || (x.2 != 11 && x.2 != 99)))
def kp_M (L M : List (Nat × Nat)) : Bool := L.all (fun x => x.1 != 34 && (x.1 != 12 || (x.2 != 24 && x.2 != 99))) && M.all (fun x => x.1 != 37)
theorem kp_no {L : List (Nat × Nat)} {k f : Nat} (h : L.all (fun x => x.1 != k || (x.2 != f && x.2 != 99)) = true) : q_in2 L k f = false := by
  unfold q_in2
  rw [List.any_eq_false]
  intro x hx
  have h1 := List.all_eq_true.mp h x hx
  intro e
  have e' : x.1 = k ∧ (x.2 = 99 ∨ x.2 = f) := by simpa using e
  have h1' : ¬ x.1 = k ∨ (x.2 ≠ f ∧ x.2 ≠ 99) := by simpa using h1
  have h2 : x.2 ≠ f ∧ x.2 ≠ 99 := by
    rcases h1' with h1' | h1'
    · exact absurd e'.1 h1'
    · exact h1'
  rcases e'.2 with e2 | e2
  · exact h2.2 e2
  · exact h2.1 e2
theorem kp_no1 {L : List (Nat × Nat)} {k : Nat} (h : L.all (fun x => x.1 != k) = true) (f : Nat) : q_in2 L k f = false := by
  refine kp_no (List.all_eq_true.mpr (fun x hx => ?_))
  have h1 := List.all_eq_true.mp h x hx
  rw [Bool.or_eq_true]
  exact Or.inl h1
theorem kp_Ce {L : List (Nat × Nat)} (h : kp_C L = true) : (∀ f, q_in2 L 1 f = false) ∧ (∀ f, q_in2 L 3 f = false) ∧ (∀ f, q_in2 L 6 f = false) ∧ (∀ f, q_in2 L 8 f = false) ∧ (∀ f, q_in2 L 20 f = false) ∧ q_in2 L 11 11 = false := by
  unfold kp_C at h
  rw [List.all_eq_true] at h
  have hs : ∀ x ∈ L, x.1 ≠ 1 ∧ x.1 ≠ 3 ∧ x.1 ≠ 6 ∧ x.1 ≠ 8 ∧ x.1 ≠ 20 ∧ (¬ x.1 = 11 ∨ (x.2 ≠ 11 ∧ x.2 ≠ 99)) := fun x hx => by
    have := h x hx
    simpa [and_assoc] using this
  have one : ∀ k, (∀ x ∈ L, x.1 ≠ k) → ∀ f, q_in2 L k f = false := fun k hk f => kp_no1 (List.all_eq_true.mpr (fun x hx => by simpa using hk x hx)) f
  refine ⟨one 1 (fun x hx => (hs x hx).1), one 3 (fun x hx => (hs x hx).2.1), one 6 (fun x hx => (hs x hx).2.2.1), one 8 (fun x hx => (hs x hx).2.2.2.1), one 20 (fun x hx => (hs x hx).2.2.2.2.1), kp_no (List.all_eq_true.mpr (fun x hx => ?_))⟩
  have := (hs x hx).2.2.2.2.2
  simpa using this
theorem kp_Me {L M : List (Nat × Nat)} (h : kp_M L M = true) : (∀ f, q_in2 L 34 f = false) ∧ q_in2 L 12 24 = false ∧ ∀ f, q_in2 M 37 f = false := by
  unfold kp_M at h
  rw [Bool.and_eq_true, List.all_eq_true, List.all_eq_true] at h
  have hs : ∀ x ∈ L, x.1 ≠ 34 ∧ (¬ x.1 = 12 ∨ (x.2 ≠ 24 ∧ x.2 ≠ 99)) := fun x hx => by
    have := h.1 x hx
    simpa using this
  refine ⟨fun f => kp_no1 (List.all_eq_true.mpr (fun x hx => by simpa using (hs x hx).1)) f, kp_no (List.all_eq_true.mpr (fun x hx => ?_)), fun f => kp_no1 (List.all_eq_true.mpr (fun x hx => h.2 x hx)) f⟩
  have := (hs x hx).2
  simpa using this
section KP
variable {X : XW} {lb : Nat → Nat} {g o C a : Nat} {σ σ' σ1 τ τ' : ST} {L M : List (Nat × Nat)} {n : Int}
theorem kp_v (S : y_S X lb) (G : y_G X lb g o) (ow : q_ow L M X σ σ') (h : kp_C L = true) : y_v X g σ' = y_v X g σ := by
  obtain ⟨h1, h3, h6, h8, h20, -⟩ := kp_Ce h
  funext id i
  unfold y_v
  by_cases q : id < 25 ∧ 0 ≤ i
  · rw [if_pos q, if_pos q]
    have k := (y_gf S G id q.1).2.1
    refine congrArg Int32.toInt (ow.1 _ _ ?_)
    rw [k]
    unfold y_ki
    split
    · exact h1 _
    · exact h6 _
    · exact h3 _
    · exact h8 _
    · exact h20 _
  · rw [if_neg q, if_neg q]
/-- the class's cells stand -/
theorem al_R.post (K : al_C X lb C a) (A : al_R X C a σ τ) (ow : q_ow L M X σ σ') (h : kp_C L = true) : al_R X C a σ' τ := by
  obtain ⟨kC, ka, S, lC, G8, G9, GM⟩ := id K
  obtain ⟨A1, A2, A3, A4⟩ := A
  have e11 : σ'.1 C 11 = σ.1 C 11 := ow.1 C 11 (by rw [kC]; exact (kp_Ce h).2.2.2.2.2)
  refine ⟨by rw [kp_v S G8 ow h]; exact A1, by rw [e11]; exact A2, by rw [e11]; exact A3, fun b b1 b2 => ?_⟩
  rw [e11] at b2
  rw [kp_v S (GM (b - 1) (by omega)) ow h]
  exact A4 b b1 b2
/-- the reference's cells stand -/
theorem al_R.pre (K : al_C X lb C a) (A : al_R X C a σ τ) (ow : q_ow L M X τ τ') (h : kp_M L M = true) : al_R X C a σ τ' := by
  obtain ⟨kC, ka, S, lC, G8, G9, GM⟩ := id K
  obtain ⟨h34, h24, h37⟩ := kp_Me h
  obtain ⟨A1, A2, A3, A4⟩ := A
  obtain ⟨k20, -, k23, -⟩ := tb_k S.1 ka
  have e24 : τ'.1 a 24 = τ.1 a 24 := ow.1 a 24 (by rw [ka]; exact h24)
  have m : m_c X τ' a = m_c X τ a := pl_mc (fun f => ow.1 _ f (by rw [k20]; exact h34 f))
  have w : m_wd X τ' a = m_wd X τ a := by
    funext j
    exact congrArg Int64.toInt (ow.2 _ _ (by rw [k23]; exact h37 _))
  exact ⟨by rw [m, w]; exact A1, by rw [e24]; exact A2, A3, fun b b1 b2 => by rw [m, w]; exact A4 b b1 b2⟩
/-! what a look ahead writes -/
def fs_S (X : XW) (g : Nat) (b f : Nat) : Prop := b = q_rf X (q_rf X g 10) 0 ∨ b = g ∧ 9 ≤ f
theorem fs_set (x v : Int32) : tkl (fs_S X g) (fun _ _ => False) σ (F_X5_set X σ (q_rf X g 10) x v) := by
  unfold F_X5_set
  split
  · exact tkl.rf
  · rw [q_letE (q_len X (q_rf X (q_rf X g 10) 0))]
    split
    · rw [q_letE]
      exact tkl.rf.si _ (Or.inl rfl)
    · exact tkl.rf
theorem fs_add (x v : Int32) : tkl (fs_S X g) (fun _ _ => False) σ (F_X5_add X σ (q_rf X g 10) x v) := by
  unfold F_X5_add
  split
  · exact tkl.rf
  · rw [q_letE (q_len X (q_rf X (q_rf X g 10) 0))]
    split
    · rw [q_letE, q_letE, q_letE]
      exact tkl.rf.si _ (Or.inl rfl)
    · exact tkl.rf
theorem fs_L {v1 v2 r : Int32} (fu : Nat) : ∀ (x : Int32) (σ1 : ST), tkl (fs_S X g) (fun _ _ => False) σ σ1 → tkl (fs_S X g) (fun _ _ => False) σ (F_X0_foresee_L83_4 X v2 g v1 r fu x σ1) := by
  induction fu with
  | zero => intro x σ1 h; exact h
  | succ fu ih =>
    intro x σ1 h
    have s : ∀ {s1 : ST}, tkl (fs_S X g) (fun _ _ => False) σ s1 → ∀ (f : Nat) (v : Int32), 9 ≤ f → tkl (fs_S X g) (fun _ _ => False) σ (q_si s1 g f v) := fun k f v hf => k.si _ (Or.inr ⟨rfl, hf⟩)
    rw [F_X0_foresee_L83_4_s]
    unfold F_X0_foresee_B83_4
    split
    · rw [q_letE (σ1.1 g 12)]
      split
      · rw [q_letE (F_X0_fallingKind X σ1 g v1 x)]
        obtain ⟨k, ek⟩ : ∃ k, k = F_X0_fallingKind X σ1 g v1 x := ⟨_, rfl⟩
        rw [← ek, q_letE (F_X5_get X σ1 (q_rf X g 10) k), q_letE (σ1.1 (q_rf X g 0) 3)]
        obtain ⟨m, em⟩ : ∃ m, m = F_J9_min_7cf53 X σ1 (F_X5_get X σ1 (q_rf X g 10) k) (σ1.1 (q_rf X g 0) 3) := ⟨_, rfl⟩
        rw [← em, q_letE m, q_letE (-m), q_letE (F_X5_add X σ1 (q_rf X g 10) k (-m))]
        have h2 := h.tr (fs_add (X := X) (g := g) (σ := σ1) k (-m))
        obtain ⟨σ2, e2⟩ : ∃ t, t = F_X5_add X σ1 (q_rf X g 10) k (-m) := ⟨_, rfl⟩
        rw [← e2] at h2 ⊢
        rw [q_letE (σ2.1 g 11), q_letE (σ2.1 g 11 + m), q_letE (q_si σ2 g 11 (σ2.1 g 11 + m))]
        have h3 := s h2 11 (σ2.1 g 11 + m) (by decide)
        obtain ⟨σ3, e3⟩ : ∃ t, t = q_si σ2 g 11 (σ2.1 g 11 + m) := ⟨_, rfl⟩
        rw [← e3] at h3 ⊢
        split
        · rw [q_letE (q_si σ3 g 13 k), q_letE ((q_si σ3 g 13 k).1 g 11)]
          have h4 := s h3 13 k (by decide)
          split
          · rw [q_letE (x + 1), q_letE (q_si (q_si σ3 g 13 k) g 12 (x + 1)), q_letE (x + 1)]
            exact ih _ _ (s h4 12 _ (by decide))
          · rw [q_letE (x + 1)]
            exact ih _ _ h4
        · rw [q_letE (σ3.1 g 14)]
          split
          · rw [q_letE (q_si σ3 g 14 x), q_letE ((q_si σ3 g 14 x).1 g 11)]
            have h4 := s h3 14 x (by decide)
            split
            · rw [q_letE (x + 1), q_letE (q_si (q_si σ3 g 14 x) g 12 (x + 1)), q_letE (x + 1)]
              exact ih _ _ (s h4 12 _ (by decide))
            · rw [q_letE (x + 1)]
              exact ih _ _ h4
          · rw [q_letE (σ3.1 g 11)]
            split
            · rw [q_letE (x + 1), q_letE (q_si σ3 g 12 (x + 1)), q_letE (x + 1)]
              exact ih _ _ (s h3 12 _ (by decide))
            · rw [q_letE (x + 1)]
              exact ih _ _ h3
      · exact h
    · exact h
theorem fs_J {v1 v2 r x : Int32} (h : tkl (fs_S X g) (fun _ _ => False) σ σ1) : tkl (fs_S X g) (fun _ _ => False) σ (F_X0_foresee_J67_3 X σ1 g v2 v1 r x) := by
  unfold F_X0_foresee_J67_3
  rw [q_letE, q_letE, q_letE]
  exact fs_L _ _ _ (((h.si _ (Or.inr ⟨rfl, by decide⟩)).si _ (Or.inr ⟨rfl, by decide⟩)).si _ (Or.inr ⟨rfl, by decide⟩))
theorem fs_K {v1 v2 r : Int32} (fu : Nat) : ∀ (x : Int32) (σ1 : ST), tkl (fs_S X g) (fun _ _ => False) σ σ1 → tkl (fs_S X g) (fun _ _ => False) σ (F_X0_foresee_L15_1 X g v1 r v2 fu x σ1) := by
  induction fu with
  | zero => intro x σ1 h; exact h
  | succ fu ih =>
    intro x σ1 h
    rw [F_X0_foresee_L15_1_s]
    unfold F_X0_foresee_B15_1
    rw [q_letE (σ1.1 (q_rf X g 0) 0)]
    split
    · rw [q_letE (F_X1_heldBy X σ1 (q_rf X g 1) v1 x), q_letE (F_X5_set X σ1 (q_rf X g 10) x (F_X1_heldBy X σ1 (q_rf X g 1) v1 x)), q_letE (x + 1)]
      exact ih _ _ (h.tr (fs_set _ _))
    · unfold F_X0_foresee_E52_6
      rw [q_letE (q_si σ1 g 11 0)]
      have h1 : tkl (fs_S X g) (fun _ _ => False) σ (q_si σ1 g 11 0) := h.si _ (Or.inr ⟨rfl, by decide⟩)
      split
      · exact fs_J h1
      · exact fs_J h1
theorem fs_all (v1 v2 : Int32) : tkl (fs_S X g) (fun _ _ => False) σ (F_X0_foresee X σ g v1 v2) := by
  unfold F_X0_foresee
  rw [q_letE (F_X5_get X σ (q_rf X (q_rf X g 1) 2) v1)]
  exact fs_K _ _ _ tkl.rf
/-- behind a look ahead both are the same -/
def fs_C (X : XW) (C : Nat) (b f : Nat) : Prop := fs_S X (q_rf X C 8) b f ∨ b = C ∧ f = 0
theorem al_R.fs (K : al_C X lb C a) (A : al_R X C a σ τ) (M : m_M (m_c X τ a) (τ.1 a 24).toInt n) (h : tkl (fs_C X C) (fun _ _ => False) σ σ') : al_R X C a σ' τ := by
  obtain ⟨kC, ka, S, lC, G8, G9, GM⟩ := id K
  have k8 := G8.1
  have n8 : C ≠ q_rf X C 8 := m_ne kC k8 (by decide)
  have k24 := (y_gf S G8 24 (by decide)).2.1
  have o24 := y_own S G8 (id := 24) (by decide)
  have o0 := y_own S G8 (id := 0) (by decide)
  have e : ∀ (id : Nat) (i : Int), id ≠ 24 → (id ≠ 0 ∨ i ≤ 8) → y_v X (q_rf X C 8) σ' id i = y_v X (q_rf X C 8) σ id i := by
    intro id i h1 h2
    unfold y_v
    by_cases q : id < 25 ∧ 0 ≤ i
    · rw [if_pos q, if_pos q]
      refine congrArg Int32.toInt (h.1 _ _ ?_)
      rintro ((z | ⟨z, z2⟩) | ⟨z, -⟩)
      · exact h1 (y_gA_inj S G8 (i := id) (j := 24) q.1 (by decide) z)
      · have := y_gA_inj S G8 (i := id) (j := 0) q.1 (by decide) z
        omega
      · have := y_own S G8 q.1
        rw [z, lC] at this
        omega
    · rw [if_neg q, if_neg q]
  refine A.fr K M rfl rfl (A.1.1.w M.1.1 (fun id i h1 h2 h3 => e id i h2 (by omega))) ⟨fun id i h1 => e id i (by omega) (by omega), fun _ _ _ => rfl⟩ (fun b hb f => h.1 b f ?_) (h.1 C 11 ?_) rfl rfl
  · rintro ((z | ⟨z, -⟩) | ⟨z, -⟩)
    · have : lb b / 8192 = 1 := by rw [z]; exact o24
      omega
    · have : lb b / 8192 = 1 := by rw [z]; exact o0
      omega
    · rw [z, lC] at hb
      omega
  · rintro ((z | ⟨z, -⟩) | ⟨-, z⟩)
    · have o24' : lb (q_rf X (q_rf X (q_rf X C 8) 10) 0) / 8192 = 1 := o24
      rw [← z, lC] at o24'
      omega
    · exact n8 z
    · omega
theorem fs_C0 (k : Int32) : tkl (fs_C X C) (fun _ _ => False) σ (q_si σ C 0 k) := tkl.rf.si _ (Or.inr ⟨rfl, rfl⟩)
theorem fs_Cs (v1 v2 : Int32) : tkl (fs_C X C) (fun _ _ => False) σ (F_X0_foresee X σ (q_rf X C 8) v1 v2) := (fs_all v1 v2).mono (fun b f z => Or.inl z) (fun _ _ z => z)
theorem fs_gn {σ1 : ST} (h : tkl (fs_C X C) (fun _ _ => False) σ σ1) (v : Int32) : tkl (fs_C X C) (fun _ _ => False) σ (q_bi (F_X11_goodOrNotThere X σ1 C v) (fun r s => (r, s))).2 := by
  rw [ob_pe]
  unfold F_X11_goodOrNotThere
  split
  · rw [ob_pe, mv_none]
    exact h.tr (fs_C0 _)
  · rw [ob_pe, mv_good]
    exact h.tr (fs_C0 _)
theorem fs_honestly (v1 v2 : Int32) : tkl (fs_C X C) (fun _ _ => False) σ (F_X11_honestly X σ C v1 v2).2 := by
  unfold F_X11_honestly
  rw [q_letE (F_X11_forecastStatus X σ C v1 v2)]
  split
  · rw [q_letE (F_X0_foresee X σ (q_rf X C 8) v1 v2), q_letE, ob_pe, mv_good]
    exact (fs_Cs v1 v2).tr (fs_C0 _)
  · rw [ob_pe, mv_none]
    exact fs_C0 _
theorem fs_rid (v1 : Int32) : tkl (fs_C X C) (fun _ _ => False) σ (F_X11_rid X σ C v1).2 := by
  unfold F_X11_rid
  rw [q_letE (F_X11_isPlayer X σ C v1)]
  split
  · rw [ob_pe, mv_none]
    exact fs_C0 _
  · rw [q_letE (F_X0_foresee X σ (q_rf X C 8) v1 60), q_letE]
    exact fs_gn (fs_Cs v1 60) _
theorem fs_mustLie (v1 : Int32) : tkl (fs_C X C) (fun _ _ => False) σ (F_X11_mustLie X σ C v1).2 := by
  unfold F_X11_mustLie
  rw [q_letE (F_X11_isPlayer X σ C v1)]
  split
  · rw [ob_pe, mv_none]
    exact fs_C0 _
  · rw [q_letE (F_X0_foresee X σ (q_rf X C 8) v1 60), q_letE]
    exact fs_gn (fs_Cs v1 60) _
theorem fs_lastKind (v1 : Int32) : tkl (fs_C X C) (fun _ _ => False) σ (F_X11_lastKind X σ C v1).2 := by
  unfold F_X11_lastKind
  rw [q_letE (F_X11_isPlayer X σ C v1)]
  split
  · rw [ob_pe, mv_none]
    exact fs_C0 _
  · rw [q_letE (F_X0_foresee X σ (q_rf X C 8) v1 60)]
    have h := fs_Cs (X := X) (C := C) (σ := σ) v1 60
    obtain ⟨σ6, e6⟩ : ∃ t, t = F_X0_foresee X σ (q_rf X C 8) v1 60 := ⟨_, rfl⟩
    rw [← e6] at h ⊢
    rw [q_letE (σ6.1 (q_rf X C 8) 12)]
    split
    · exact fs_gn h _
    · rw [q_letE (σ6.1 (q_rf X C 8) 13)]
      exact fs_gn h _
theorem fs_soonestL (fu : Nat) : ∀ (x y z : Int32) (σ1 : ST), tkl (fs_C X C) (fun _ _ => False) σ σ1 → tkl (fs_C X C) (fun _ _ => False) σ (F_X11_soonest_L7_1 X C fu x y z σ1).2 := by
  induction fu with
  | zero => intro x y z σ1 h; exact h
  | succ fu ih =>
    intro x y z σ1 h
    rw [F_X11_soonest_L7_1_s]
    unfold F_X11_soonest_B7_1
    rw [q_letE (σ1.1 (q_rf X (q_rf X C 8) 0) 4)]
    split
    · rw [q_letE (F_X0_foresee X σ1 (q_rf X C 8) z 60)]
      have h2 := h.tr (fs_Cs (X := X) (C := C) (σ := σ1) z 60)
      obtain ⟨σ6, e6⟩ : ∃ t, t = F_X0_foresee X σ1 (q_rf X C 8) z 60 := ⟨_, rfl⟩
      rw [← e6] at h2 ⊢
      rw [q_letE (σ6.1 (q_rf X C 8) 12)]
      split
      · rw [q_letE (z + 1)]
        exact ih _ _ _ _ h2
      · rw [q_letE (σ6.1 (q_rf X C 8) 12)]
        split
        · rw [q_letE (σ6.1 (q_rf X C 8) 12), q_letE (z + 1)]
          exact ih _ _ _ _ h2
        · rw [q_letE (z + 1)]
          exact ih _ _ _ _ h2
    · unfold F_X11_soonest_E69_2
      exact fs_gn h _
theorem fs_soonest : tkl (fs_C X C) (fun _ _ => False) σ (F_X11_soonest X σ C).2 := by
  unfold F_X11_soonest
  exact fs_soonestL _ _ _ _ _ tkl.rf
end KP

/-! FROM 49zw.wrap.lean.txt -/
/-- what an object's cells hold as it begins -/
def y_ik (k : Nat) : Bool := k == 1 || k == 3 || k == 6 || k == 7 || k == 8 || k == 10 || k == 11 || k == 12 || k == 20
def y_iv (k f : Nat) : Int32 := match k with
  | 1 => match f with | 6 => -1 | 12 => -1 | 13 => -1 | 14 => -1 | _ => 0
  | 6 => match f with | 0 => 2 | 1 => 1 | 3 => 4 | _ => 0
  | 10 => match f with | 1 => -1 | _ => 0
  | 11 => match f with | 6 => -1 | 7 => -1 | _ => 0
  | 12 => match f with | 10 => -1 | 11 => -1 | _ => 0
  | _ => 0
def y_il (k f : Nat) : Int64 := match k with
  | 11 => match f with | 2 => 1 | _ => 0
  | 12 => match f with | 3 => 1 | _ => 0
  | _ => 0
def y_IV (X : XW) (σ : ST) : Prop := ∀ a, y_ik (q_kd X a) = true → ∀ f, (20 ≤ q_kd X a ∨ f < 60) → σ.1 a f = y_iv (q_kd X a) f ∧ σ.2.1 a f = y_il (q_kd X a) f
/-! THE MOVERS AS ONE -/
section OW
variable {X : XW} {lb : Nat → Nat} {C a : Nat} {σ τ : ST} {n : Int}
theorem ob_mk {P Q : Int32 × ST} {z z' : Int32} {σ' τ' : ST} (e1 : P = (z, σ')) (e2 : Q = (z', τ')) (h : z.toInt = z'.toInt) (s : (σ'.1 C 0).toInt = (τ'.1 a 0).toInt) (A : al_R X C a σ' τ') : ob_O X C a P Q := by
  rw [e1, e2]
  exact ⟨h, s, A⟩
theorem ob_W (M : m_M (m_c X τ a) (τ.1 a 24).toInt n) (hn : n ≤ 1000000) : ∀ q : Int, 0 ≤ q → q < 6 → (0 ≤ m_c X τ a (22 + q) ∧ m_c X τ a (22 + q) ≤ 1000000) ∧ 0 ≤ m_c X τ a (28 + q) ∧ m_c X τ a (28 + q) ≤ 1000000 := fun q q0 q1 => by
  have := M.1.2 q q0 q1
  omega
theorem ob_lay (K : al_C X lb C a) (A : al_R X C a σ τ) (M : m_M (m_c X τ a) (τ.1 a 24).toInt n) (p q r s : Int32) : ob_O X C a (F_X11_lay X σ C p q r s) (F_X12_lay X τ a p q r s) := by
  obtain ⟨kC, ka, S, lC, G8, G9, GM⟩ := id K
  obtain ⟨z, σ', z', τ', e1, e2, h, s, m⟩ := mv_lay S G8 (by omega) ka A.1.1 M.1.1 rfl p q r s
  exact ob_mk e1 e2 h s (A.mv K M m)
theorem ob_leave (K : al_C X lb C a) (A : al_R X C a σ τ) (M : m_M (m_c X τ a) (τ.1 a 24).toInt n) : ob_O X C a (F_X11_leave X σ C) (F_X12_leave X τ a) := by
  obtain ⟨kC, ka, S, lC, G8, G9, GM⟩ := id K
  obtain ⟨z, σ', z', τ', e1, e2, h, s, m⟩ := mv_leave S G8 (by omega) ka A.1.1 M.1.1 rfl
  exact ob_mk e1 e2 h s (A.mv K M m)
theorem ob_doubt (K : al_C X lb C a) (A : al_R X C a σ τ) (M : m_M (m_c X τ a) (τ.1 a 24).toInt n) (hn : n ≤ 1000000) (v : Int32) : ob_O X C a (F_X11_doubt X σ C v) (F_X12_doubt X τ a v) := by
  obtain ⟨kC, ka, S, lC, G8, G9, GM⟩ := id K
  obtain ⟨z, σ', z', τ', e1, e2, h, s, m⟩ := mv_doubt S G8 (by omega) ka A.1.1 M.1.1 (ob_W M hn) rfl v
  exact ob_mk e1 e2 h s (A.mv K M m)
theorem ob_bend (K : al_C X lb C a) (A : al_R X C a σ τ) (M : m_M (m_c X τ a) (τ.1 a 24).toInt n) (v x y : Int32) : ob_O X C a (F_X11_bend X σ C v x y) (F_X12_bend X τ a v x y) := by
  obtain ⟨kC, ka, S, lC, G8, G9, GM⟩ := id K
  obtain ⟨z, σ', z', τ', e1, e2, h, s, m⟩ := mv_bend S G8 (by omega) ka A.1.1 M.1.1 rfl v x y
  exact ob_mk e1 e2 h s (A.mv K M m)
theorem ob_mark (K : al_C X lb C a) (A : al_R X C a σ τ) (M : m_M (m_c X τ a) (τ.1 a 24).toInt n) : ob_O X C a (F_X11_mark X σ C) (F_X12_mark X τ a) := by
  obtain ⟨z, σ', z', τ', e1, e2, h, s, m⟩ := al_mark K A M
  exact ob_mk e1 e2 h s m
theorem ob_back (K : al_C X lb C a) (A : al_R X C a σ τ) (M : m_M (m_c X τ a) (τ.1 a 24).toInt n) : ob_O X C a (F_X11_back X σ C) (F_X12_back X τ a) := by
  obtain ⟨z, σ', z', τ', e1, e2, h, s, m⟩ := al_back K A M
  exact ob_mk e1 e2 h s m
/-! THE START OF BOTH -/
theorem al_start (K : al_C X lb C a) (I : y_IV X σ) (h24 : σ.1 a 24 = 0) (hc : ∀ j, σ.1 (q_rf X a 20) j = if j = 6 then -1 else if j = 8 then -1 else if j = 4 then 4 else if j = 1 then 1 else if j = 0 then 2 else 0) : al_R X C a σ σ ∧ al_P X C a σ σ ∧ (σ.1 C 0).toInt = (σ.1 a 0).toInt ∧ (σ.1 C 6).toInt = (σ.1 a 10).toInt ∧ (σ.1 C 7).toInt = (σ.1 a 11).toInt ∧ σ.2.1 C 1 = σ.2.1 a 2 ∧ σ.2.1 C 2 = σ.2.1 a 3 := by
  obtain ⟨kC, ka, S, lC, G8, G9, GM⟩ := id K
  have z0 : (0 : Int32).toInt = 0 := rfl
  have c11 : ∀ f, f < 60 → σ.1 C f = y_iv 11 f ∧ σ.2.1 C f = y_il 11 f := fun f hf => by
    have z := I C (by rw [kC]; rfl) f (Or.inr hf)
    rw [kC] at z
    exact z
  have c12 : ∀ f, f < 60 → σ.1 a f = y_iv 12 f ∧ σ.2.1 a f = y_il 12 f := fun f hf => by
    have z := I a (by rw [ka]; rfl) f (Or.inr hf)
    rw [ka] at z
    exact z
  have vk : ∀ (id : Nat) (i : Int), id < 25 → 0 ≤ i → (y_ki id = 20 ∨ i < 60) → y_v X (q_rf X C 8) σ id i = (y_iv (y_ki id) i.toNat).toInt := fun id i h h0 h1 => by
    have k := (y_gf S G8 id h).2.1
    have ik : y_ik (y_ki id) = true := by
      rcases (by omega : id = 0 ∨ id = 1 ∨ id = 2 ∨ id = 3 ∨ 4 ≤ id) with e | e | e | e | e
      · subst e; rfl
      · subst e; rfl
      · subst e; rfl
      · subst e; rfl
      · have : y_ki id = 20 := by
          unfold y_ki
          split <;> first | omega | rfl
        rw [this]
        rfl
    have z := (I (y_gA X (q_rf X C 8) id) (by rw [k]; exact ik) i.toNat (by
      rw [k]
      rcases h1 with h1 | h1
      · exact Or.inl (by omega)
      · exact Or.inr (by omega))).1
    rw [k] at z
    unfold y_v
    rw [if_pos ⟨h, h0⟩, z]
  have v20 : ∀ (id : Nat) (i : Int), 4 ≤ id → id < 25 → 0 ≤ i → y_v X (q_rf X C 8) σ id i = 0 := fun id i h h' h0 => by
    have k : y_ki id = 20 := by
      unfold y_ki
      split <;> first | omega | rfl
    rw [vk id i h' h0 (Or.inl k), k]
    rfl
  have mc : ∀ j : Int, 0 ≤ j → m_c X σ a j = if j = 6 then -1 else if j = 8 then -1 else if j = 4 then 4 else if j = 1 then 1 else if j = 0 then 2 else 0 := fun j j0 => by
    show (σ.1 (q_rf X a 20) j.toNat).toInt = _
    rw [hc]
    rcases (by omega : j = 6 ∨ j = 8 ∨ j = 4 ∨ j = 1 ∨ j = 0 ∨ (j ≠ 6 ∧ j ≠ 8 ∧ j ≠ 4 ∧ j ≠ 1 ∧ j ≠ 0)) with e | e | e | e | e | e
    · subst e; rfl
    · subst e; rfl
    · subst e; rfl
    · subst e; rfl
    · subst e; rfl
    · rw [if_neg (by omega), if_neg (by omega), if_neg (by omega), if_neg (by omega), if_neg (by omega), if_neg e.1, if_neg e.2.1, if_neg e.2.2.1, if_neg e.2.2.2.1, if_neg e.2.2.2.2]
      rfl
  have m0 : ∀ j : Int, j ≠ 6 → j ≠ 8 → j ≠ 4 → j ≠ 1 → 1 ≤ j → m_c X σ a j = 0 := fun j h6 h8 h4 h1 h0 => by
    rw [mc j (by omega), if_neg h6, if_neg h8, if_neg h4, if_neg h1, if_neg (by omega)]
  have c0 : m_c X σ a 0 = 2 := mc 0 (by decide)
  have c1 : m_c X σ a 1 = 1 := mc 1 (by decide)
  have c4 : m_c X σ a 4 = 4 := mc 4 (by decide)
  have c8 : m_c X σ a 8 = -1 := mc 8 (by decide)
  have c2 : m_c X σ a 2 = 0 := m0 2 (by decide) (by decide) (by decide) (by decide) (by decide)
  have c9 : m_c X σ a 9 = 0 := m0 9 (by decide) (by decide) (by decide) (by decide) (by decide)
  have c655 : m_c X σ a 655 = 0 := m0 655 (by decide) (by decide) (by decide) (by decide) (by decide)
  have c654 : m_c X σ a 654 = 0 := m0 654 (by decide) (by decide) (by decide) (by decide) (by decide)
  have e11 : σ.1 C 11 = 0 := (c11 11 (by decide)).1
  refine ⟨⟨⟨⟨⟨?_, ?_, ?_, ?_, ?_, ?_, ?_⟩, ⟨?_, ?_, ⟨?_, ?_⟩, ?_⟩, fun p p0 p1 => ?_, ⟨fun j j0 j1 => ?_, fun p p0 p1 => ?_⟩, ⟨?_, ?_, fun k k0 k1 => ?_⟩, ⟨fun p k p0 p1 k0 k1 => ?_, fun k k0 k1 => ?_⟩⟩, ?_, ?_, ?_, ?_, ?_, 0, ?_⟩, ?_, ?_, fun b b1 b2 => ?_⟩, ⟨?_, ?_⟩, ?_, ?_, ?_, ?_, ?_⟩
  · rw [vk 1 0 (by decide) (by decide) (Or.inr (by decide)), c0]; rfl
  · rw [vk 1 1 (by decide) (by decide) (Or.inr (by decide)), c1]; rfl
  · rw [vk 1 2 (by decide) (by decide) (Or.inr (by decide)), m0 3 (by decide) (by decide) (by decide) (by decide) (by decide)]; rfl
  · rw [vk 1 3 (by decide) (by decide) (Or.inr (by decide)), c4]; rfl
  · rw [vk 1 4 (by decide) (by decide) (Or.inr (by decide)), c2]; rfl
  · rw [m0 3 (by decide) (by decide) (by decide) (by decide) (by decide)]; decide
  · rw [m0 3 (by decide) (by decide) (by decide) (by decide) (by decide)]; decide
  · rw [vk 0 4 (by decide) (by decide) (Or.inr (by decide)), m0 5 (by decide) (by decide) (by decide) (by decide) (by decide)]; rfl
  · rw [vk 0 5 (by decide) (by decide) (Or.inr (by decide)), if_pos c2]; rfl
  · rw [vk 0 6 (by decide) (by decide) (Or.inr (by decide)), c8]; rfl
  · rw [c8]; decide
  · rw [vk 0 7 (by decide) (by decide) (Or.inr (by decide)), m0 7 (by decide) (by decide) (by decide) (by decide) (by decide)]; rfl
  · rw [v20 10 p (by decide) (by decide) p0, v20 11 p (by decide) (by decide) p0, v20 12 p (by decide) (by decide) p0, v20 13 p (by decide) (by decide) p0, m0 _ (by omega) (by omega) (by omega) (by omega) (by omega), m0 _ (by omega) (by omega) (by omega) (by omega) (by omega), m0 _ (by omega) (by omega) (by omega) (by omega) (by omega), m0 _ (by omega) (by omega) (by omega) (by omega) (by omega)]
    exact ⟨rfl, rfl, rfl, rfl⟩
  · rw [v20 7 j (by decide) (by decide) j0, m0 _ (by omega) (by omega) (by omega) (by omega) (by omega)]
  · rw [v20 9 p (by decide) (by decide) p0]
    exact (m_S_z (fun j j0 j1 => m0 j (by omega) (by omega) (by omega) (by omega) (by omega))).symm
  · rw [vk 2 0 (by decide) (by decide) (Or.inr (by decide)), c9]; rfl
  · rw [vk 2 1 (by decide) (by decide) (Or.inr (by decide)), c9]; rfl
  · rw [c9] at k1; omega
  · rw [v20 8 _ (by decide) (by decide) (by omega), c9]; rfl
  · rw [v20 4 k (by decide) (by decide) k0]
    unfold m_I
    rw [c9, c2]
    rfl
  · intro p p0 p1
    rw [c2] at p1
    omega
  · rw [vk 3 0 (by decide) (by decide) (Or.inr (by decide)), c654]; rfl
  · exact Or.inl c654
  · rw [vk 3 1 (by decide) (by decide) (Or.inr (by decide)), c655]; rfl
  · rw [vk 3 2 (by decide) (by decide) (Or.inr (by decide))]; decide
  · rw [vk 3 2 (by decide) (by decide) (Or.inr (by decide)), c655]
    exact ⟨rfl, rfl⟩
  · rw [e11, h24]
  · rw [e11]; decide
  · rw [e11, z0] at b2; omega
  · rw [(c11 16 (by decide)).1, (c12 37 (by decide)).1]; rfl
  · intro h
    exact absurd (by rw [(c12 37 (by decide)).1]; rfl) h
  · rw [(c11 0 (by decide)).1, (c12 0 (by decide)).1]; rfl
  · rw [(c11 6 (by decide)).1, (c12 10 (by decide)).1]; rfl
  · rw [(c11 7 (by decide)).1, (c12 11 (by decide)).1]; rfl
  · rw [(c11 1 (by decide)).2, (c12 2 (by decide)).2]; rfl
  · rw [(c11 2 (by decide)).2, (c12 3 (by decide)).2]; rfl
end OW
end
/-! FROM 50.born.lean.txt -/
section
/-! CONSTRUCTORS: the world grows -/
abbrev DW : Type := va_G × (Nat → ClassId)
def q_tyD (D : DW) : List (ClassId × FieldType) := [(D.2 0, .byte), (D.2 1, .int), (D.2 2, .long), (D.2 3, .object "CheatHeap$Tray"), (D.2 4, .object "CheatHeap$Game")]
def q_w (X : XW) (σ : ST) (H : Heap) : Prop := q_T X ∧ q_R X σ H ∧ q_B X σ ∧ q_TT X σ ∧ y_Fo X ∧ y_IV X σ
def q_nw (h n : Nat) : Nat → Prop := fun q => q = h ∨ n ≤ q
def q_ext (A : Nat → Prop) (X X' : XW) (σ σ' : ST) : Prop := X'.1 = X.1 ∧ q_sk X' = q_sk X ∧ q_sv X' = q_sv X ∧ (∀ a, q_kd X a ≠ 0 → q_kd X' a = q_kd X a ∧ q_ln X' a = q_ln X a ∧ (∀ f, q_rf X' a f = q_rf X a f) ∧ ∀ f, σ'.1 a f = σ.1 a f) ∧ ∀ a, q_kd X' a ≠ 0 → q_kd X a ≠ 0 ∨ A a
theorem q_ext.rf {A : Nat → Prop} {X : XW} {σ : ST} : q_ext A X X σ σ := ⟨rfl, rfl, rfl, fun _ _ => ⟨rfl, rfl, fun _ => rfl, fun _ => rfl⟩, fun _ h => Or.inl h⟩
theorem q_ext.tr {A B : Nat → Prop} {X X1 X2 : XW} {σ σ1 σ2 : ST} (h : q_ext A X X1 σ σ1) (k : q_ext B X1 X2 σ1 σ2) (hb : ∀ a, B a → A a) : q_ext A X X2 σ σ2 := by
  obtain ⟨h1, h2, h3, h4, h5⟩ := h
  obtain ⟨k1, k2, k3, k4, k5⟩ := k
  refine ⟨k1.trans h1, k2.trans h2, k3.trans h3, fun a ha => ?_, fun a ha => ?_⟩
  · obtain ⟨p1, p2, p3, p4⟩ := h4 a ha
    obtain ⟨r1, r2, r3, r4⟩ := k4 a (by rw [p1]; exact ha)
    exact ⟨r1.trans p1, r2.trans p2, fun f => (r3 f).trans (p3 f), fun f => (r4 f).trans (p4 f)⟩
  · rcases k5 a ha with q | q
    · exact h5 a q
    · exact Or.inr (hb a q)
theorem q_ext.kd {A : Nat → Prop} {X X' : XW} {σ σ' : ST} {a k : Nat} (h : q_ext A X X' σ σ') (ha : q_kd X a = k) (hk : k ≠ 0) : q_kd X' a = k := ((h.2.2.2.1 a (by rw [ha]; exact hk)).1).trans ha
theorem q_ext.k0 {A : Nat → Prop} {X X' : XW} {σ σ' : ST} {a : Nat} (h : q_ext A X X' σ σ') (ha : q_kd X a = 0) (hA : ¬ A a) : q_kd X' a = 0 := by
  by_cases q : q_kd X' a = 0
  · exact q
  · rcases h.2.2.2.2 a q with w | w
    · exact absurd ha w
    · exact absurd w hA
def q_xg (X : XW) (h k n : Nat) (rf : Nat → Nat) : XW := (X.1, (fun a => if a = h then k else q_kd X a), (fun a f => if a = h then rf f else q_rf X a f), (fun a => if a = h then n else q_ln X a), q_sk X, q_sv X)
def q_sg (σ : ST) (h : Nat) (iv : Nat → Int32) (lv : Nat → Int64) (t : Nat) : ST := ((fun a f => if a = h then iv f else σ.1 a f), (fun a f => if a = h then lv f else σ.2.1 a f), fun a => if a = h then t else σ.2.2 a)
theorem q_xg_h {X : XW} {h k n : Nat} {rf : Nat → Nat} : q_kd (q_xg X h k n rf) h = k := if_pos rfl
theorem q_xg_ne {X : XW} {h k n a : Nat} {rf : Nat → Nat} (q : a ≠ h) : q_kd (q_xg X h k n rf) a = q_kd X a := if_neg q
theorem q_w.lt {X : XW} {σ : ST} {H : Heap} (w : q_w X σ H) {a : Nat} (ha : q_kd X a ≠ 0) : a < H.size := by
  have c := w.2.1 a ha
  by_cases q : q_kd X a < 20
  · obtain ⟨r, -, cell, h1, -⟩ := c.1 q
    exact (Array.getElem?_eq_some_iff.mp h1).1
  · exact (Array.getElem?_eq_some_iff.mp (c.2 (by omega))).1
theorem q_w.kept {X : XW} {σ : ST} {H H1 : Heap} (w : q_w X σ H) (hq : ∀ a, q_kd X a ≠ 0 → H1[a]? = H[a]?) : q_w X σ H1 := ⟨w.1, fun a ha => (w.2.1 a ha).ne (fun _ => rfl) (fun _ => rfl) rfl (hq a ha), w.2.2⟩
theorem q_w.fresh {X : XW} {σ : ST} {H : Heap} (w : q_w X σ H) {a : Nat} (ha : H.size ≤ a) : q_kd X a = 0 := by
  by_cases q : q_kd X a = 0
  · exact q
  · have := w.lt q
    omega
theorem y_xg {X : XW} {h k n : Nat} {rf : Nat → Nat} : y_ad1 X (q_xg X h k n rf) h k n rf := ⟨fun _ => rfl, fun _ _ => rfl, fun _ => rfl⟩
theorem y_IV.add {X : XW} {σ : ST} {h k n t : Nat} {rf : Nat → Nat} {iv : Nat → Int32} {lv : Nat → Int64} (I : y_IV X σ) (hiv : y_ik k = true → ∀ f, (20 ≤ k ∨ f < 60) → iv f = y_iv k f ∧ lv f = y_il k f) : y_IV (q_xg X h k n rf) (q_sg σ h iv lv t) := by
  intro a ha f hf
  by_cases q : a = h
  · subst q
    rw [q_xg_h] at ha hf ⊢
    have z := hiv ha f hf
    show (if a = a then iv f else σ.1 a f) = _ ∧ (if a = a then lv f else σ.2.1 a f) = _
    rw [if_pos rfl, if_pos rfl]
    exact z
  · rw [q_xg_ne q] at ha hf ⊢
    have z := I a ha f hf
    show (if a = h then iv f else σ.1 a f) = _ ∧ (if a = h then lv f else σ.2.1 a f) = _
    rw [if_neg q, if_neg q]
    exact z
theorem q_w.add {X : XW} {σ : ST} {H : Heap} {h k n t : Nat} {rf : Nat → Nat} {iv : Nat → Int32} {lv : Nat → Int64} (w : q_w X σ H) (h0 : q_kd X h = 0) (hrk : ∀ f, q_rk k f ≠ 0 → q_kd X (rf f) = q_rk k f) (hll : q_ll k ≠ 0 → n = q_ll k) (hn : n < 1000000) (h11 : k = 11 → q_ln X (rf 4) = 900 ∧ q_kd X (rf 4) ≠ 0) (hB : ∀ f, q_in (q_bn k f) (iv f)) (ht : k = 4 ∨ k = 9 → q_kd X t = 22) (hc : q_cf (q_xg X h k n rf) (q_sg σ h iv lv t) h H) (hup : ∀ f, q_rk k f ≠ 0 → h < rf f) (hinj : ∀ f g, q_rk k f ≠ 0 → q_rk k g ≠ 0 → rf f = rf g → f = g) (hroot : ∀ f, q_rk k f ≠ 0 → y_root X (rf f)) (hrow : ∀ f, q_rk k f = 5 → q_ln X (q_rf X (rf f) 0) = y_rl k f) (hiv : y_ik k = true → ∀ f, (20 ≤ k ∨ f < 60) → iv f = y_iv k f ∧ lv f = y_il k f) : q_w (q_xg X h k n rf) (q_sg σ h iv lv t) H := by
  have hT := w.1
  obtain ⟨⟨t1, t2, t3, t4⟩, wR, wB, wT, wF, wI⟩ := w
  have ne : ∀ a, q_kd X a ≠ 0 → a ≠ h := fun a ha e => ha (by rw [e]; exact h0)
  refine ⟨⟨fun a f hf => ?_, fun a ha => ?_, fun a => ?_, fun a ha => ?_⟩, fun a ha => ?_, fun a f => ?_, fun a ha => ?_, wF.add hT y_xg h0 hrk hup hinj hroot hrow, wI.add hiv⟩
  · by_cases q : a = h
    · subst q
      rw [q_xg_h] at hf ⊢
      show q_kd (q_xg X a k n rf) (if a = a then rf f else q_rf X a f) = _
      rw [if_pos rfl]
      have z := hrk f hf
      rw [q_xg_ne (ne _ (by rw [z]; exact hf))]
      exact z
    · rw [q_xg_ne q] at hf ⊢
      show q_kd (q_xg X h k n rf) (if a = h then rf f else q_rf X a f) = _
      rw [if_neg q]
      have z := t1 a f hf
      rw [q_xg_ne (ne _ (by rw [z]; exact hf))]
      exact z
  · show (if a = h then n else q_ln X a) = _
    by_cases q : a = h
    · subst q
      rw [q_xg_h] at ha ⊢
      rw [if_pos rfl]
      exact hll ha
    · rw [q_xg_ne q] at ha ⊢
      rw [if_neg q]
      exact t2 a ha
  · show (if a = h then n else q_ln X a) < _
    by_cases q : a = h
    · rw [if_pos q]; exact hn
    · rw [if_neg q]; exact t3 a
  · by_cases q : a = h
    · subst q
      rw [q_xg_h] at ha
      have z := h11 ha
      show (if (if a = a then rf 4 else q_rf X a 4) = a then n else q_ln X (if a = a then rf 4 else q_rf X a 4)) = 900
      rw [if_pos rfl, if_neg (ne _ z.2)]
      exact z.1
    · rw [q_xg_ne q] at ha
      show (if (if a = h then rf 4 else q_rf X a 4) = h then n else q_ln X (if a = h then rf 4 else q_rf X a 4)) = 900
      rw [if_neg q]
      have z := t1 a 4 (by rw [ha]; decide)
      rw [if_neg (ne _ (by rw [z, ha]; decide))]
      exact t4 a ha
  · by_cases q : a = h
    · rw [q]; exact hc
    · rw [q_xg_ne q] at ha
      have c := wR a ha
      have e1 : q_fvk (q_xg X h k n rf) (q_sg σ h iv lv t) (q_kd X a) a = q_fvk X σ (q_kd X a) a := by
        funext f
        unfold q_fvk
        show (match q_ft (q_kd X a) f with | 0 => Value.int (if a = h then iv f else σ.1 a f) | 1 => .long (if a = h then lv f else σ.2.1 a f) | 2 => .ref (if a = h then rf f else q_rf X a f) | _ => .ref (if a = h then t else σ.2.2 a)) = _
        rw [if_neg q, if_neg q, if_neg q, if_neg q]
        rfl
      have e2 : q_av (q_xg X h k n rf) (q_sg σ h iv lv t) (q_kd X a) a = q_av X σ (q_kd X a) a := by
        funext f
        unfold q_av
        show (match q_et (q_kd X a) with | 0 => Value.int (if a = h then iv f else σ.1 a f) | 1 => .int (if a = h then iv f else σ.1 a f) | 2 => .long (if a = h then lv f else σ.2.1 a f) | _ => .ref (if a = h then rf f else q_rf X a f)) = _
        rw [if_neg q, if_neg q, if_neg q]
        rfl
      have e3 : q_ln (q_xg X h k n rf) a = q_ln X a := if_neg q
      refine ⟨fun hk => ?_, fun hk => ?_⟩
      · rw [q_xg_ne q] at hk ⊢
        rw [e1]
        exact c.1 hk
      · rw [q_xg_ne q] at hk ⊢
        rw [e2, e3]
        exact c.2 hk
  · show q_in _ (if a = h then iv f else σ.1 a f)
    by_cases q : a = h
    · rw [if_pos q, q, q_xg_h]; exact hB f
    · rw [if_neg q, q_xg_ne q]; exact wB a f
  · show q_kd (q_xg X h k n rf) (if a = h then t else σ.2.2 a) = 22
    by_cases q : a = h
    · rw [if_pos q]
      rw [q, q_xg_h] at ha
      have z := ht ha
      rw [q_xg_ne (ne _ (by rw [z]; decide))]
      exact z
    · rw [if_neg q]
      rw [q_xg_ne q] at ha
      have z := wT a ha
      rw [q_xg_ne (ne _ (by rw [z]; decide))]
      exact z
theorem q_ext.add {X : XW} {σ : ST} {h k n t : Nat} {rf : Nat → Nat} {iv : Nat → Int32} {lv : Nat → Int64} (h0 : q_kd X h = 0) : q_ext (fun a => a = h) X (q_xg X h k n rf) σ (q_sg σ h iv lv t) := by
  refine ⟨rfl, rfl, rfl, fun a ha => ?_, fun a ha => ?_⟩
  · have q : a ≠ h := fun e => ha (by rw [e]; exact h0)
    exact ⟨q_xg_ne q, if_neg q, fun f => if_neg q, fun f => if_neg q⟩
  · by_cases q : a = h
    · exact Or.inr q
    · rw [q_xg_ne q] at ha
      exact Or.inl ha
/-- an object's fields, as the world and the state say -/
theorem q_fvg {X : XW} {σ : ST} {h k n t : Nat} {rf : Nat → Nat} {iv : Nat → Int32} {lv : Nat → Int64} (f : Nat) : q_fvk (q_xg X h k n rf) (q_sg σ h iv lv t) k h f = (match q_ft k f with | 0 => Value.int (iv f) | 1 => .long (lv f) | 2 => .ref (rf f) | _ => .ref t) := by
  unfold q_fvk
  show (match q_ft k f with | 0 => Value.int (if h = h then iv f else σ.1 h f) | 1 => .long (if h = h then lv f else σ.2.1 h f) | 2 => .ref (if h = h then rf f else q_rf X h f) | _ => .ref (if h = h then t else σ.2.2 h)) = _
  rw [if_pos rfl, if_pos rfl, if_pos rfl, if_pos rfl]
theorem t_lt {o : Nat} {cC : ClassId} {N : Nat} {iS : Nat → Nat} {H : Heap} {V : Nat → Value} (h : t_OB o cC N iS H V) : o < H.size := by
  obtain ⟨cell, h1, -⟩ := h
  exact (Array.getElem?_eq_some_iff.mp h1).1
theorem t_cell {o : Nat} {cC : ClassId} {N : Nat} {iS : Nat → Nat} {H : Heap} {V : Nat → Value} (h : t_OB o cC N iS H V) : ∃ cv : Cell, H[o]? = some cv ∧ cv.cls = cC ∧ cv.vm = .none := by
  obtain ⟨cell, h1, h2, h3, -⟩ := h
  exact ⟨cell, h1, h2, h3⟩
theorem q_rk_hi {k f : Nat} (h : 40 ≤ f) : q_rk k f = 0 := by
  unfold q_rk
  split <;> first | rfl | (split <;> first | rfl | omega)
theorem q_bn_hi (k f : Nat) (h : 40 ≤ f) : (q_bn k f).1 ≤ 0 ∧ 0 ≤ (q_bn k f).2 := by
  unfold q_bn
  split <;> first | decide | (split <;> first | decide | omega)
theorem q_hB {k : Nat} {L : List Int32} (h : ∀ f, f < 40 → (q_bn k f).1 ≤ (L.getD f 0).toInt ∧ (L.getD f 0).toInt ≤ (q_bn k f).2) (hl : L.length ≤ 40) (f : Nat) : q_in (q_bn k f) (L.getD f 0) := by
  by_cases q : f < 40
  · exact h f q
  · have e : L.getD f 0 = 0 := by
      rw [List.getD_eq_getElem?_getD, List.getElem?_eq_none (by omega)]
      rfl
    rw [e]
    exact q_bn_hi k f (by omega)
theorem q_hrk {X : XW} {k : Nat} {L : List Nat} (h : ∀ f, f < 40 → q_rk k f ≠ 0 → q_kd X (L.getD f 0) = q_rk k f) (f : Nat) (hf : q_rk k f ≠ 0) : q_kd X (L.getD f 0) = q_rk k f := by
  by_cases q : f < 40
  · exact h f q hf
  · exact absurd (q_rk_hi (by omega)) hf
theorem raw_lt {H : Heap} {r : Nat} {c : Cell} (h : H[r]? = some c) : r < H.size := (Array.getElem?_eq_some_iff.mp h).1
theorem q_cfO {D : DW} {X : XW} {σ : ST} {H : Heap} {h k ci N t : Nat} {C : String} {T : u_T} {rf : Nat → Nat} {iv : Nat → Int32} {lv : Nat → Int64} {V : Nat → Value} (hD : X.1 = D) (hk : k = ci + 1 ∧ k < 20) (hc : vwCl[ci]? = some (C, T, N)) (ob : t_OB h (D.1.1 ci) N (D.1.2 ci) H V) (hv : ∀ f, f < N → V f = (match q_ft k f with | 0 => Value.int (iv f) | 1 => .long (lv f) | 2 => .ref (rf f) | _ => .ref t)) : q_cf (q_xg X h k 0 rf) (q_sg σ h iv lv t) h H := by
  obtain ⟨rfl, h20⟩ := hk
  subst hD
  refine ⟨fun _ => ?_, fun q => absurd q (by rw [q_xg_h]; omega)⟩
  rw [q_xg_h]
  refine ⟨_, hc, ?_⟩
  refine t_OB.to (V := V) ob (fun f hf => ?_)
  rw [hv f hf, q_fvg]
def q_avm (t0 : Nat) (iv : Nat → Int32) (lv : Nat → Int64) (rf : Nat → Nat) (j : Nat) : Value := match t0 with | 0 => Value.int (iv j) | 1 => .int (iv j) | 2 => .long (lv j) | _ => .ref (rf j)
theorem q_cfA {D : DW} {X : XW} {σ : ST} {H : Heap} {h k n t t0 : Nat} {rf : Nat → Nat} {iv : Nat → Int32} {lv : Nat → Int64} {g : Nat → Value} (hD : X.1 = D) (hk : 20 ≤ k) (he : q_et k = t0) (ha : H[h]? = some (arrV (D.2 t0) n g)) (hv : ∀ j, g j = q_avm t0 iv lv rf j) : q_cf (q_xg X h k n rf) (q_sg σ h iv lv t) h H := by
  subst hD
  subst he
  refine ⟨fun q => absurd q (by rw [q_xg_h]; omega), fun _ => ?_⟩
  have e3 : q_ln (q_xg X h k n rf) h = n := if_pos rfl
  have e4 : q_av (q_xg X h k n rf) (q_sg σ h iv lv t) k h = g := by
    funext j
    rw [hv j]
    unfold q_av q_avm
    show (match q_et k with | 0 => Value.int (if h = h then iv j else σ.1 h j) | 1 => .int (if h = h then iv j else σ.1 h j) | 2 => .long (if h = h then lv j else σ.2.1 h j) | _ => .ref (if h = h then rf j else q_rf X h j)) = _
    rw [if_pos rfl, if_pos rfl, if_pos rfl]
  rw [q_xg_h, e3, e4]
  exact ha
theorem y_rlx {A : Nat → Prop} {X X' : XW} {σ σ' : ST} {c n : Nat} (hx : q_ext A X X' σ σ') (T : q_T X) (hc : q_kd X c = 5) (h : q_ln X (q_rf X c 0) = n) : q_ln X' (q_rf X' c 0) = n := by
  have k20 : q_kd X (q_rf X c 0) = 20 := (T.1 c 0 (by rw [hc]; decide)).trans (by rw [hc]; rfl)
  have e1 := (hx.2.2.2.1 c (by rw [hc]; decide)).2.2.1 0
  have e2 := (hx.2.2.2.1 (q_rf X c 0) (by rw [k20]; decide)).2.1
  rw [e1, e2]
  exact h
/-! rows of a constructor -/
def q_E0 (p : Program) (c : Code) (cc : ByteArray) (s : State) (m : MethodId) (args : Array Value) (own : String) (D : DW) : Prop :=
  p.tables.exec = Jvm.exec ∧ c.code = cc ∧ s.vm.findClass own = some m.cls ∧ (∀ w ∈ q_tbl, w.before args s = true) ∧ va_K D.1 vwCl (q_tyD D) s ∧ q_NW s ∧ va_AO "CheatHeap$Tray" s ∧ va_AO "CheatHeap$Game" s
def q_K0 (D : DW) (U : State) : Prop := va_K D.1 vwCl (q_tyD D) U ∧ q_NW U ∧ va_AO "CheatHeap$Tray" U ∧ va_AO "CheatHeap$Game" U
section QN
variable {p : Program} {l : Launch} {e : Env} {R : Room} {s : State} {m : MethodId} {args : Array Value} {below : List Frame} {meth : Method} {c : Code} {H : Heap} {locs : List Loc} {cells slots : Nat} {Q : State → Prop} {cc : ByteArray} {own : String} {D : DW} {A : Nat → Prop} {H0 : Heap} {pc : Nat} {ls : Array Slot} {rest : List Value} {h : Nat}
/-- new -/
theorem b_new (E : q_E0 p c cc s m args own D) (hS : va_S A H0 H locs) {C : String} {T : u_T} {N ci index : Nat} (hcl : Cond.classLink own index C ∈ q_tbl) (hinst : Cond.instantiable C N ∈ q_tbl) (hini : Cond.initialized C ∈ q_tbl) (hc : vwCl[ci]? = some (C, T, N)) (hin : ∀ w ∈ u_ws C T N, w ∈ q_tbl) (ty : Nat → FieldType) (hty : ∀ k, k < N → parseFieldDescriptor (T k).2.2.1 = some (ty k)) (hcells : cells + 1 ≤ R.cells) (hslots : slots + N ≤ R.slots) (hdg : decode cc pc = .ok (.new index, 3))
    (kk : ∀ (q : Nat) (H1 : Heap), q = H.size → H1.size = H.size + 1 → (∀ a, a < H.size → H1[a]? = H[a]?) → t_OB q (D.1.1 ci) N (D.1.2 ci) H1 (fun k => defaultValue (ty k)) → va_S A H0 H1 locs → W p l e R s m args below meth c H1 locs (cells + 1) (slots + N) Q (F0 m (pc + 3) ls (.ref q :: rest))) : W p l e R s m args below meth c H locs cells slots Q (F0 m pc ls rest) := by
  obtain ⟨hx, hb, hown, hts, hK, -⟩ := E
  have hKn := hK.1 ci _ hc
  refine W.newcK hx hb hown (hts _ hcl) (hts _ hinst) (hts _ hini) rfl hdg hcells hslots hKn.2.1 rfl fun H1 kC hkC e1 z1 o1 => ?_
  exact kk H.size H1 rfl z1 o1 (u_born ty hts hin hKn hkC e1 hty) ⟨Nat.le_trans hS.1 (by omega), fun x h1 h2 => (o1 x (Nat.lt_of_lt_of_le h1 hS.1)).trans (hS.2.1 x h1 h2), hS.2.2⟩
/-- newarray -/
theorem b_newa (E : q_E0 p c cc s m args own D) (hS : va_S A H0 H locs) {atype : ArrayType} (harr : Cond.arrayClass (newarray.typeOf atype) ∈ q_tbl) {t : Nat} (ht : (q_tyD D)[t]? = some (D.2 t, newarray.typeOf atype)) (hnm : ∀ U cA, va_RA U cA (newarray.typeOf atype) = (U.vm.findClass ("[" ++ (newarray.typeOf atype).toString) = some cA)) {n : Int32} {N' : Nat} (hn : 0 ≤ n.toInt) (hN : n.toNatClampNeg = N') (hbytes : N' * componentBytes (newarray.typeOf atype) ≤ 536870912) (hcells : cells + 1 ≤ R.cells) (hslots : slots + N' ≤ R.slots) (hdg : decode cc pc = .ok (.newarray atype, 2))
    (kk : ∀ (q : Nat) (H1 : Heap), q = H.size → H1.size = H.size + 1 → (∀ a, a < H.size → H1[a]? = H[a]?) → H1[q]? = some (arrV (D.2 t) N' (fun _ => defaultValue (newarray.typeOf atype))) → va_S A H0 H1 locs → W p l e R s m args below meth c H1 locs (cells + 1) (slots + N') Q (F0 m (pc + 2) ls (.ref q :: rest))) : W p l e R s m args below meth c H locs cells slots Q (F0 m pc ls (.int n :: rest)) := by
  obtain ⟨hx, hb, hown, hts, hK, -⟩ := E
  refine va_newaK hx hb (hts _ harr) rfl hdg rfl (fun q => by rw [Int32.lt_iff_toInt_lt, q_z0] at q; omega) hN hbytes hcells hslots rfl fun H1 cA e1 z1 o1 hAr hNm => ?_
  have w := (hK.2 t _ ht).2
  rw [hnm] at w
  have e : cA = D.2 t := Option.some.inj (hNm.symm.trans w)
  rw [e] at e1
  exact kk H.size H1 rfl z1 o1 e1 ⟨Nat.le_trans hS.1 (by omega), fun x h1 h2 => (o1 x (Nat.lt_of_lt_of_le h1 hS.1)).trans (hS.2.1 x h1 h2), hS.2.2⟩
/-- anewarray -/
theorem b_newq (E : q_E0 p c cc s m args own D) (hS : va_S A H0 H locs) {C : String} {index t : Nat} (hcl : Cond.classLink own index C ∈ q_tbl) (hao : va_AO C s) (ht : (q_tyD D)[t]? = some (D.2 t, .object C)) {n : Int32} {N' : Nat} (hn : 0 ≤ n.toInt) (hN : n.toNatClampNeg = N') (hbytes : N' * 4 ≤ 536870912) (hcells : cells + 1 ≤ R.cells) (hslots : slots + N' ≤ R.slots) (hdg : decode cc pc = .ok (.anewarray index, 3))
    (kk : ∀ (q : Nat) (H1 : Heap), q = H.size → H1.size = H.size + 1 → (∀ a, a < H.size → H1[a]? = H[a]?) → H1[q]? = some (arrV (D.2 t) N' (fun _ => .null)) → va_S A H0 H1 locs → W p l e R s m args below meth c H1 locs (cells + 1) (slots + N') Q (F0 m (pc + 3) ls (.ref q :: rest))) : W p l e R s m args below meth c H locs cells slots Q (F0 m pc ls (.int n :: rest)) := by
  obtain ⟨hx, hb, hown, hts, hK, -⟩ := E
  subst hN
  refine W.anew hx hb hown (hts _ hcl) (va_AO.use hao) rfl hdg rfl (fun q => by rw [Int32.lt_iff_toInt_lt, q_z0] at q; omega) hbytes hcells hslots fun cA kA comp f1 f2 f3 f4 => ?_
  obtain ⟨kA', comp', -, -, -, w4⟩ := (hK.2 t _ ht).2
  have e : cA = D.2 t := Option.some.inj (f1.symm.trans w4)
  generalize hH1 : H.push ({ cls := cA, slots := Array.replicate n.toNatClampNeg .null, vm := .none } : Cell) = H1
  have z1 : H1.size = H.size + 1 := by rw [← hH1, Array.size_push]
  have e1 : H1[H.size]? = some (arrV cA n.toNatClampNeg (fun _ => .null)) := by rw [← hH1, Array.getElem?_push_size, ← arrV_new]
  have o1 : ∀ q : Nat, q < H.size → H1[q]? = H[q]? := fun q hq => by rw [← hH1, Array.getElem?_push, if_neg (Nat.ne_of_lt hq)]
  rw [e] at e1
  exact kk H.size H1 rfl z1 o1 e1 ⟨Nat.le_trans hS.1 (by omega), fun x h1 h2 => (o1 x (Nat.lt_of_lt_of_le h1 hS.1)).trans (hS.2.1 x h1 h2), hS.2.2⟩
/-- putfield of an object that is being made -/
theorem b_put (E : q_E0 p c cc s m args own D) (hS : va_S A H0 H locs) (hAh : A h) (hin2 : meth.name = "<init>") {ci N index f : Nat} {C ref : String} {T : u_T} {ty0 : Nat → FieldType} {V : Nat → Value} {v : Value} (ob : t_OB h (D.1.1 ci) N (D.1.2 ci) H V) (hc : vwCl[ci]? = some (C, T, N)) (hin : ∀ w ∈ u_ws C T N, w ∈ q_tbl) (hty : ∀ k, k < N → parseFieldDescriptor (T k).2.2.1 = some (ty0 k)) (hnm : ∀ a, a < N → ∀ b, b < N → a ≠ b → (T a).2.1 ≠ (T b).2.1) (hf : f < N)
    (hlink : Cond.fieldLink own index ref (T f).2.1 (T f).2.2.1 ∈ q_tbl) (hsame : ref = (T f).1) (hdecl : (T f).2.2.2 = true → (T f).1 = own) {ty : FieldType} (hd : parseFieldDescriptor (T f).2.2.1 = some ty) (hn : narrow ty v = v) (hfit : fits ty v = true) (hdg : decode cc pc = .ok (.putfield index, 3))
    (kk : ∀ (H1 : Heap) (locs1 : List Loc), H1.size = H.size → (∀ a, a ≠ h → H1[a]? = H[a]?) → t_OB h (D.1.1 ci) N (D.1.2 ci) H1 (updV V f v) → va_S A H0 H1 locs1 → W p l e R s m args below meth c H1 locs1 cells slots Q (F0 m (pc + 3) ls rest)) : W p l e R s m args below meth c H locs cells slots Q (F0 m pc ls (v :: .ref h :: rest)) := by
  obtain ⟨hx, hb, hown, hts, hK, -⟩ := E
  obtain ⟨cell, q1, q2, q3, q4⟩ := ob
  have hap := va_apart (own := own) hts hin ty0 hty hnm hK hc
  obtain ⟨hSl, hfc, kC, hkC, hkind⟩ := hK.1 ci _ hc
  obtain ⟨cf, kf, fi, fd, hi, hsl⟩ := hSl f hf
  have hi' : s.fieldFound? ref (T f).2.1 (T f).2.2.1 = some (cf, kf, fi, fd) := by rw [hsame]; exact hi
  have hlay := hts _ (hin _ (u_in_lay hf))
  have hst := (u_facts hfc hkC (u_lays hts hin hf) hi).1
  unfold u_lay at hlay
  by_cases hfin : (T f).2.2.2 = true
  · rw [if_pos hfin] at hlay
    have hcf : m.cls = cf := by
      obtain ⟨_, _, c', _, _, _, -, -, hf', -, -, -, hown2, -⟩ := Cond.laysFinal_spec hlay
      have e1 : c' = cf := by have := hi.symm.trans hf'; simp at this; exact this.1.symm
      rw [hdecl hfin] at hown2
      rw [← e1]; exact Option.some.inj (hown.symm.trans hown2)
    have h6 := u_fits hfc hkC hkind (Or.inr hlay) hi hd hn hfit
    refine W.putFinK hx hb hown (hts _ hlink) hi' hst hcf hin2 (by rw [q2]; exact h6) q1 q3 (by rw [hsl]; exact k2_hasslot (q4 f hf)) rfl rfl hdg fun H' g1 g2 g3 => ?_
    rw [hsl] at g1 ⊢
    exact kk H' _ g2 g3 ⟨_, g1, q2, q3, t_set q4 hap hf v⟩ (hS.put g2 g3 hAh)
  · rw [if_neg hfin] at hlay
    have h6 := u_store hfc hkC hkind hlay hi hd hn hfit
    refine W.putK hx hb (f := fd) ⟨hown, hts _ hlink, ⟨_, _, _, hi'⟩, hst⟩ (by rw [q2]; exact h6) q1 q3 (by rw [hsl]; exact k2_hasslot (q4 f hf)) rfl rfl hdg fun H' g1 g2 g3 => ?_
    rw [hsl] at g1 ⊢
    exact kk H' _ g2 g3 ⟨_, g1, q2, q3, t_set q4 hap hf v⟩ (hS.put g2 g3 hAh)
/-- getfield of an object that is being made -/
theorem b_get (E : q_E0 p c cc s m args own D) {ci N index f : Nat} {C ref : String} {T : u_T} {V : Nat → Value} {v : Value} (ob : t_OB h (D.1.1 ci) N (D.1.2 ci) H V) (hc : vwCl[ci]? = some (C, T, N)) (hin : ∀ w ∈ u_ws C T N, w ∈ q_tbl) (hf : f < N) (hlink : Cond.fieldLink own index ref (T f).2.1 (T f).2.2.1 ∈ q_tbl) (hsame : ref = (T f).1) (hv : V f = v) (hdg : decode cc pc = .ok (.getfield index, 3))
    (kk : W p l e R s m args below meth c H locs cells slots Q (F0 m (pc + 3) ls (v :: rest))) : W p l e R s m args below meth c H locs cells slots Q (F0 m pc ls (.ref h :: rest)) := by
  obtain ⟨hx, hb, hown, hts, hK, -⟩ := E
  obtain ⟨cell, q1, q2, q3, q4⟩ := ob
  obtain ⟨hSl, hfc, kC, hkC, hkind⟩ := hK.1 ci _ hc
  obtain ⟨cf, kf, fi, fd, hi, hsl⟩ := hSl f hf
  have hi' : s.fieldFound? ref (T f).2.1 (T f).2.2.1 = some (cf, kf, fi, fd) := by rw [hsame]; exact hi
  have hst := (u_facts hfc hkC (u_lays hts hin hf) hi).1
  refine W.getf hx hb hown (hts _ hlink) hi' hst q1 (by rw [q3]; exact fun h => by cases h) (v := v) ?_ rfl rfl hdg kk
  rw [hsl, q4 f hf, hv]
/-- a cell of an array of ints that is being made -/
theorem b_iast (E : q_E0 p c cc s m args own D) (hS : va_S A H0 H locs) {r n : Nat} (hAr : A r) {g : Nat → Int32} (hr : H[r]? = some (arrV (D.2 1) n (fun j => Value.int (g j)))) {i v : Int32} (h0 : 0 ≤ i.toInt) (h1 : i.toInt < n) (hdg : decode cc pc = .ok (.iastore, 1))
    (kk : ∀ (H1 : Heap) (locs1 : List Loc), H1.size = H.size → (∀ a, a ≠ r → H1[a]? = H[a]?) → H1[r]? = some (arrV (D.2 1) n (fun j => Value.int (if j = i.toNatClampNeg then v else g j))) → va_S A H0 H1 locs1 → W p l e R s m args below meth c H1 locs1 cells slots Q (F0 m (pc + 1) ls rest)) : W p l e R s m args below meth c H locs cells slots Q (F0 m pc ls (.int v :: .int i :: .ref r :: rest)) := by
  obtain ⟨hx, hb, hown, hts, hK, -⟩ := E
  have hin : vp_in i n := vp_in_iff.mpr ⟨h0, h1⟩
  refine W.iast hx hb hr ((hK.2 1 _ rfl).1 _ _) (fun q => by cases q) (by rw [arrV_size]; exact hin) rfl rfl hdg fun H1 g1 g2 g3 => ?_
  refine kk H1 _ g2 g3 ?_ (hS.put g2 g3 hAr)
  rw [g1, arrV_store]
  congr 2
  funext j
  unfold updV
  by_cases hj : j = i.toNatClampNeg
  · rw [if_pos hj, if_pos hj]
  · rw [if_neg hj, if_neg hj]
/-- a place of an array of objects that is being made -/
theorem b_aast (E : q_E0 p c cc s m args own D) (hS : va_S A H0 H locs) {r n t ci N v : Nat} {C : String} {T : u_T} (hAr : A r) (ht : (q_tyD D)[t]? = some (D.2 t, .object C)) (hc : vwCl[ci]? = some (C, T, N)) {g : Nat → Value} (hr : H[r]? = some (arrV (D.2 t) n g)) (hv : ∃ cv : Cell, H[v]? = some cv ∧ cv.cls = D.1.1 ci ∧ cv.vm = .none) {i : Int32} (h0 : 0 ≤ i.toInt) (h1 : i.toInt < n) (hdg : decode cc pc = .ok (.aastore, 1))
    (kk : ∀ (H1 : Heap) (locs1 : List Loc), H1.size = H.size → (∀ a, a ≠ r → H1[a]? = H[a]?) → H1[r]? = some (arrV (D.2 t) n (updV g i.toNatClampNeg (.ref v))) → va_S A H0 H1 locs1 → W p l e R s m args below meth c H1 locs1 cells slots Q (F0 m (pc + 1) ls rest)) : W p l e R s m args below meth c H locs cells slots Q (F0 m pc ls (.ref v :: .int i :: .ref r :: rest)) := by
  obtain ⟨hx, hb, hown, hts, hK, -⟩ := E
  obtain ⟨kA, comp, w1, w2, w3, w4⟩ := (hK.2 t _ ht).2
  obtain ⟨hSl, hfc, kC, hkC, hkind⟩ := hK.1 ci _ hc
  obtain ⟨cv, v1, v2, v3⟩ := hv
  have e : comp = D.1.1 ci := Option.some.inj (w3.symm.trans hfc)
  refine W.aast hx hb hr (fun q z => by cases z) (fun z => by cases z) w1 w2 rfl (by rw [e]; exact hkC) ⟨fun q => by rw [Int32.lt_iff_toInt_lt, q_z0] at q; omega, by rw [arrV_size, q_cn]; omega⟩ v1 (fun q z => by rw [v3] at z; cases z) (by rw [v2]; exact hkC) (by rw [v2, e]; exact va_asg _ _) rfl rfl hdg fun H1 g1 g2 g3 => ?_
  refine kk H1 _ g2 g3 ?_ (hS.put g2 g3 hAr)
  rw [g1, arrV_store]
end QN
/-! contracts of constructors -/
abbrev q_PN (D : DW) (X : XW) (σ : ST) (h sz ci N : Nat) (V : Nat → Value) (av : List Value) : Array Value → State → Prop := va_Pc av (fun U => U.heap.size = sz ∧ X.1 = D ∧ q_w X σ U.heap ∧ q_kd X h = 0 ∧ t_OB h (D.1.1 ci) N (D.1.2 ci) U.heap V ∧ q_K0 D U)
abbrev q_QN (X : XW) (σ : ST) (h sz k : Nat) (post : XW → ST → Prop) : Array Value → State → Outcome → State → Prop := va_Qv (S := XW × ST) (fun u => q_ext (q_nw h sz) X u.1 σ u.2 ∧ q_kd u.1 h = k ∧ post u.1 u.2) (fun u t => q_w u.1 u.2 t.heap) (q_nw h sz)
theorem q_K0.alike {D : DW} {u U : State} (hW : u.vm.Alike U.vm) (hN : q_NW U) (h : q_K0 D u) (a1 : va_AO "CheatHeap$Tray" U) (a2 : va_AO "CheatHeap$Game" U) : q_K0 D U := ⟨va_K.moved hW h.1, hN, a1, a2⟩
theorem q_blindN {D : DW} {X : XW} {σ : ST} {h sz ci N : Nat} {V : Nat → Value} {av : List Value} : FrameBlind (q_PN D X σ h sz ci N V av) := by
  rintro a U g mk ⟨h1, hs, hD, hw, h0, hO, hK, hN, hA, hA2⟩
  exact ⟨h1, hs, hD, hw, h0, hO, va_K.moved (u := U) (U := U.calling g mk a) (Vm.Alike.refl U.vm) hK, fun r hr => va_Nw.same (u := U) (U := U.calling g mk a) rfl rfl (hN r hr), hA, hA2⟩
theorem b_met {l : Launch} {y : MethodName} {cc : ByteArray} {mL : Nat} {rm : Room} {av : List Value} {D : DW} {X : XW} {σ : ST} {own : String} {h sz ci N mc ms : Nat} {V : Nat → Value} {Qc : Array Value → State → Outcome → State → Prop} (hy : plainFor y = true) (ho : y.cls = own) (hyn : y.name = "<init>") (hlen : (lg_sl av).length ≤ mL)
    (body : ∀ (p : Program) (e : Env) (s : State) (m : MethodId) (below : List Frame) (meth : Method) (c : Code), q_E0 p c cc s m av.toArray own D → c.maxLocals = mL → meth.sig.returnType = none → meth.locks = false → meth.name = "<init>" → s.heap.size = sz → X.1 = D → q_w X σ s.heap → q_kd X h = 0 → t_OB h (D.1.1 ci) N (D.1.2 ci) s.heap V → ∀ ls : Array Slot, lv_has ls mL (lv_args 0 av) → W p l e rm s m av.toArray below meth c s.heap [] 0 0 (MQ below Qc av.toArray s mc ms (q_nw h sz)) (F0 m 0 ls [])) :
    Met l y (q_ws y cc mL none) rm (q_PN D X σ h sz ci N V av) Qc mc ms (q_nw h sz) := by
  refine MetFree.of_bodySF (code := cc) (maxLocals := mL) (ret := none) hy ?_ ?_
  · intro args s m h hn
    obtain ⟨meth, c, h1, h2, h3, h4, h5, h6, -, -⟩ := Cond.code_spec hn (atoms_spec (ws := q_ws y cc mL none) h _ List.mem_cons_self)
    exact ⟨meth, c, h1, h2, h3, h4, h5, h6⟩
  intro p e s m args below meth c s₁ B hml hv _
  obtain ⟨rfl, hs, hD, hw, h0, hO, hK, hN, hA, hA2⟩ := hv
  have hh0 : s₁.heap = s.heap := by rw [B.state]; rfl
  suffices hW9 : W p l e rm s m av.toArray below meth c s.heap [] 0 0 (MQ below Qc av.toArray s mc ms (q_nw h sz)) (entryFrame m av.toArray mL) by
    obtain ⟨t, a1, o, b1, b2, b3⟩ := hW9 s₁ hh0 (Stand.of_body B)
    exact ⟨t, o, a1, b1, b2, ⟨b3.1, b3.2⟩⟩
  have hts := atoms_spec (ws := q_ws y cc mL none) B.pre
  have hown : s.vm.findClass y.cls = some m.cls := findClass_of_methodNamed B.named
  rw [ho] at hown
  have hnm : meth.name = "<init>" := (name_of_methodNamed B.named B.method).1.trans hyn
  have hl := lv_entry av hlen
  rw [lg_entry_eq]
  generalize (lg_sl av ++ List.replicate (mL - (lg_sl av).length) Slot.unset).toArray = ls at hl ⊢
  exact body p e s m below meth c ⟨B.exec, B.bytes, hown, fun w hw => hts w (List.mem_cons_of_mem _ hw), hK, hN, hA, hA2⟩ hml B.returns B.notSynchronized hnm hs hD hw h0 hO ls hl
/-- words of a constructor's call site: by name, or as a nest mate's -/
def b_okI (own : String) (index : Nat) (y : MethodName) (bytes : ByteArray) (mL n : Nat) : Prop :=
  Cond.methodLink own index y ∈ q_tbl ∧ Cond.instanceMethod y ∈ q_tbl ∧ Cond.initialized y.cls ∈ q_tbl ∧ Cond.code y bytes mL none ∈ q_tbl ∧ y.name = "<init>" ∧ (y.cls ≠ "java/lang/invoke/MethodHandle" ∧ y.cls ≠ "java/lang/invoke/VarHandle" ∧ (parseMethodDescriptor y.desc).map (fun d => d.parameters.length) = some n)
def b_okN (own : String) (index : Nat) (host : String) (y : MethodName) (bytes : ByteArray) (mL n : Nat) : Prop :=
  (own, index, y, host) ∈ q_nest ∧ Cond.instanceMethod y ∈ q_tbl ∧ Cond.initialized y.cls ∈ q_tbl ∧ Cond.code y bytes mL none ∈ q_tbl ∧ y.name = "<init>" ∧ (y.cls ≠ "java/lang/invoke/MethodHandle" ∧ y.cls ≠ "java/lang/invoke/VarHandle" ∧ (parseMethodDescriptor y.desc).map (fun d => d.parameters.length) = some n)
section QO
variable {p : Program} {l : Launch} {e : Env} {R : Room} {s : State} {m : MethodId} {args : Array Value} {below : List Frame} {meth : Method} {c : Code} {H : Heap} {locs : List Loc} {cells slots : Nat} {Q : State → Prop} {cc : ByteArray} {own : String} {D : DW} {A : Nat → Prop} {pc : Nat} {ls : Array Slot} {rest st : List Value} {h : Nat} {X : XW} {σ : ST}
theorem b_pre (E : q_E0 p c cc s m args own D) {ci N sz : Nat} {V : Nat → Value} (hD : X.1 = D) (hw : q_w X σ H) (h0 : q_kd X h = 0) (ob : t_OB h (D.1.1 ci) N (D.1.2 ci) H V) (hs : H.size = sz) (av : List Value) : PreS s H (q_PN D X σ h sz ci N V av) av :=
  ⟨q_blindN, fun U hU hW => ⟨rfl, by rw [hU]; exact hs, hD, by rw [hU]; exact hw, h0, by rw [hU]; exact ob, va_K.moved hW.alike E.2.2.2.2.1, fun r hr => va_Nw.warmM hW (E.2.2.2.2.2.1 r hr), va_AO.moved hW.alike E.2.2.2.2.2.2.1, va_AO.moved hW.alike E.2.2.2.2.2.2.2⟩⟩
theorem b_runI (E : q_E0 p c cc s m args own D) (hml : c.maxLocals = ls.size) {ci N sz index mL na mc ms f w : Nat} {V : Nat → Value} {As : List Value} {y : MethodName} {bytes : ByteArray} {Qc : Array Value → State → Outcome → State → Prop} (hD : X.1 = D) (hw : q_w X σ H) (h0 : q_kd X h = 0) (ob : t_OB h (D.1.1 ci) N (D.1.2 ci) H V) (hs : H.size = sz)
    (hM : Met l y (q_ws y bytes mL none) { frames := f, cells := mc, slots := ms, locals := w } (q_PN D X σ h sz ci N V (.ref h :: As)) Qc mc ms (q_nw h sz)) (ok : b_okI own index y bytes mL na) (hn : As.length = na) (hR : f + 1 ≤ R.frames ∧ 8 + (mL + 11) + w ≤ R.locals) (hcs : cells + mc ≤ R.cells ∧ slots + ms ≤ R.slots)
    (hst : st = As.reverse ++ .ref h :: rest) (hW : (rest.map fun v => v.category).sum ≤ 8) (hdg : decode cc pc = .ok (.invokespecial index, 3)) :
    va_Run p l e R s m args below meth c H locs cells slots mc ms (F0 m pc ls st) rest (Qc (Value.ref h :: As).toArray) (q_nw h sz) := by
  obtain ⟨o1, o2, o3, o4, o5, o6⟩ := ok
  obtain ⟨hx, hb, hown, hts, -⟩ := id E
  exact va_runI (nL := ls.size) ⟨hx, hb, hml, hown, hts⟩ hM (cwI na hts (q_goodIn fun w hw => (List.mem_cons.mp hw).elim (fun e => by rw [e]; exact o4) id) rfl rfl rfl (hts _ o3) (hts _ o1) (hts _ o2) o5 o6 hR) (b_pre E hD hw h0 ob hs (.ref h :: As)) rfl hn rfl hst (lv_room hW) hdg hcs
theorem b_runN (E : q_E0 p c cc s m args own D) (hml : c.maxLocals = ls.size) {ci N sz index mL na mc ms f w : Nat} {V : Nat → Value} {host : String} {As : List Value} {y : MethodName} {bytes : ByteArray} {Qc : Array Value → State → Outcome → State → Prop} (hD : X.1 = D) (hw : q_w X σ H) (h0 : q_kd X h = 0) (ob : t_OB h (D.1.1 ci) N (D.1.2 ci) H V) (hs : H.size = sz)
    (hM : Met l y (q_ws y bytes mL none) { frames := f, cells := mc, slots := ms, locals := w } (q_PN D X σ h sz ci N V (.ref h :: As)) Qc mc ms (q_nw h sz)) (ok : b_okN own index host y bytes mL na) (hn : As.length = na) (hR : f + 1 ≤ R.frames ∧ 8 + (mL + 11) + w ≤ R.locals) (hcs : cells + mc ≤ R.cells ∧ slots + ms ≤ R.slots)
    (hst : st = As.reverse ++ .ref h :: rest) (hW : (rest.map fun v => v.category).sum ≤ 8) (hdg : decode cc pc = .ok (.invokespecial index, 3)) :
    va_Run p l e R s m args below meth c H locs cells slots mc ms (F0 m pc ls st) rest (Qc (Value.ref h :: As).toArray) (q_nw h sz) := by
  obtain ⟨o1, o2, o3, o4, o5, o6⟩ := ok
  obtain ⟨hx, hb, hown, hts, -⟩ := id E
  have hl : va_Nw (.methodLinkNest own index y host) s := E.2.2.2.2.2.1 _ o1
  exact va_runIN (nL := ls.size) ⟨hx, hb, hml, hown, hts⟩ hM ⟨va_cnB na hts (q_goodIn fun w hw => (List.mem_cons.mp hw).elim (fun e => by rw [e]; exact o4) id) rfl rfl rfl hl (hts _ o3) o6 hR, o5, hts _ o2⟩ (b_pre E hD hw h0 ob hs (.ref h :: As)) rfl hn rfl hst (lv_room hW) hdg hcs
/-- the call goes on, the object made -/
theorem b_cv {sz k mc ms : Nat} {post : XW → ST → Prop} {args2 : Array Value} {H0 : Heap} (hr : va_Run p l e R s m args below meth c H locs cells slots mc ms (F0 m pc ls st) rest (q_QN X σ h sz k post args2) (q_nw h sz)) (hS : va_S A H0 H locs) (hs : H.size = sz) (hA : ∀ q, q_nw h sz q → A q)
    (kk : ∀ (X1 : XW) (σ1 : ST) (H1 : Heap) (locs1 : List Loc), q_ext (q_nw h sz) X X1 σ σ1 → q_kd X1 h = k → post X1 σ1 → q_w X1 σ1 H1 → H.size ≤ H1.size → (∀ a, a < H.size → a ≠ h → H1[a]? = H[a]?) → va_S A H0 H1 locs1 → W p l e R s m args below meth c H1 locs1 (cells + mc) (slots + ms) Q (F0 m (pc + 3) ls rest)) : W p l e R s m args below meth c H locs cells slots Q (F0 m pc ls st) := by
  refine va_callv hr hS (fun q _ => hA q) hA (fun u t H1 locs1 e1 _ hp hb hz hk hS1 => ?_)
  refine kk u.1 u.2 H1 locs1 hp.1 hp.2.1 hp.2.2 (by rw [← e1]; exact hb) hz (fun a h1 h2 => hk a h1 ?_) hS1
  rintro (q | q)
  · exact h2 q
  · omega
/-- return -/
theorem b_ret (E : q_E0 p c cc s m args own D) (hr : meth.sig.returnType = none) (hlk : meth.locks = false) {X0 : XW} {σ0 : ST} {sz k : Nat} {post : XW → ST → Prop} (hS : va_S (q_nw h sz) s.heap H locs) (hx : q_ext (q_nw h sz) X0 X σ0 σ) (hk : q_kd X h = k) (hp : post X σ) (hw : q_w X σ H) (hdg : decode cc pc = .ok (.return_, 1)) : W p l e R s m args below meth c H locs cells slots (MQ below (q_QN X0 σ0 h sz k post) args s cells slots (q_nw h sz)) (F0 m pc ls []) :=
  W.vret E.1 E.2.1 hr (fun t ht _ => ⟨⟨(X, σ), rfl, ⟨hx, hk, hp⟩, by show q_w X σ t.heap; rw [ht]; exact hw⟩, hS.F ht⟩) hS.2.2 hdg hlk
end QO
end
/-! FROM 50b.born.lean.txt -/
section
theorem q_exi {A : Nat → Prop} {X X' : XW} {σ σ' : ST} {a f : Nat} (hx : q_ext A X X' σ σ') (ha : q_kd X a ≠ 0) : σ'.1 a f = σ.1 a f := (hx.2.2.2.1 a ha).2.2.2 f
theorem q_wcell {D : DW} {X : XW} {σ : ST} {H : Heap} {v k ci N : Nat} {C : String} {T : u_T} (hD : X.1 = D) (w : q_w X σ H) (hk : q_kd X v = k) (hci : k = ci + 1 ∧ k < 20) (hc : vwCl[ci]? = some (C, T, N)) : ∃ cv : Cell, H[v]? = some cv ∧ cv.cls = D.1.1 ci ∧ cv.vm = .none := by
  obtain ⟨rfl, h20⟩ := hci
  subst hD
  obtain ⟨r, h1, h2⟩ := (w.2.1 v (by rw [hk]; omega)).1 (by rw [hk]; exact h20)
  rw [hk] at h2
  exact t_cell h2
theorem q_arr_eq {c : ClassId} {n : Nat} {g g' : Nat → Value} (h : ∀ j, j < n → g j = g' j) : arrV c n g = arrV c n g' := by
  have e : (fun j : Fin n => g j.val) = fun j : Fin n => g' j.val := funext fun j => h j.1 j.2
  unfold arrV
  rw [e]
theorem q_bn12 (f : Nat) (h : 40 ≤ f) : q_bn 12 f = q_full := by
  unfold q_bn
  split <;> first | rfl | omega | (split <;> first | rfl | omega)
theorem q_hB2 {L : List Int32} (h : ∀ f, f < 40 → (q_bn 12 f).1 ≤ (L.getD f 0).toInt ∧ (L.getD f 0).toInt ≤ (q_bn 12 f).2) (f : Nat) : q_in (q_bn 12 f) (L.getD f 0) := by
  by_cases q : f < 40
  · exact h f q
  · exact q_inU (q_bn12 f (by omega))
end
/-! FROM 51.words.lean.txt -/
section
theorem bw_47 : Cond.methodLink RX5 1 Lib.objectInit ∈ q_tbl := (q_in_t1 (i := 47) (by first | rfl | decide +kernel) rfl)
theorem bw_26 : Cond.instanceMethod Lib.objectInit ∈ q_tbl := (q_in_t1 (i := 26) (by first | rfl | decide +kernel) rfl)
theorem bw_27 : Cond.code Lib.objectInit ⟨#[0xb1]⟩ 1 none ∈ q_tbl := (q_in_t1 (i := 27) (by first | rfl | decide +kernel) rfl)
theorem bw_56 : Cond.arrayClass (newarray.typeOf .int) ∈ q_tbl := (q_in_t1 (i := 56) (by first | rfl | decide +kernel) rfl)
theorem bw_51 : Cond.fieldLink RX5 13 "CheatHeap$Row" "cells" "[I" ∈ q_tbl := (q_in_t1 (i := 51) (by first | rfl | decide +kernel) rfl)
theorem bw_429 : Cond.methodLink RX10 3 Lib.objectInit ∈ q_tbl := (q_in_t2 (i := 189) (by first | rfl | decide +kernel) rfl)
theorem bw_430 : Cond.fieldLink RX10 9 "CheatHeap$Tray" "sort" "I" ∈ q_tbl := (q_in_t2 (i := 190) (by first | rfl | decide +kernel) rfl)
theorem bw_432 : Cond.fieldLink RX10 15 "CheatHeap$Tray" "places" "I" ∈ q_tbl := (q_in_t2 (i := 192) (by first | rfl | decide +kernel) rfl)
theorem bw_441 : Cond.arrayClass (newarray.typeOf .long) ∈ q_tbl := (q_in_t2 (i := 201) (by first | rfl | decide +kernel) rfl)
theorem bw_433 : Cond.fieldLink RX10 18 "CheatHeap$Tray" "cells" "[J" ∈ q_tbl := (q_in_t2 (i := 193) (by first | rfl | decide +kernel) rfl)
theorem bw_41 : Cond.methodLink RX6 3 Lib.objectInit ∈ q_tbl := (q_in_t1 (i := 41) (by first | rfl | decide +kernel) rfl)
theorem bw_57 : Cond.fieldLink RX6 9 "CheatHeap$Rules" "kinds" "I" ∈ q_tbl := (q_in_t1 (i := 57) (by first | rfl | decide +kernel) rfl)
theorem bw_62 : Cond.fieldLink RX6 15 "CheatHeap$Rules" "each" "I" ∈ q_tbl := (q_in_t1 (i := 62) (by first | rfl | decide +kernel) rfl)
theorem bw_65 : Cond.fieldLink RX6 18 "CheatHeap$Rules" "law" "I" ∈ q_tbl := (q_in_t1 (i := 65) (by first | rfl | decide +kernel) rfl)
theorem bw_68 : Cond.fieldLink RX6 21 "CheatHeap$Rules" "most" "I" ∈ q_tbl := (q_in_t1 (i := 68) (by first | rfl | decide +kernel) rfl)
theorem bw_73 : Cond.fieldLink RX6 24 "CheatHeap$Rules" "players" "I" ∈ q_tbl := (q_in_t1 (i := 73) (by first | rfl | decide +kernel) rfl)
theorem bw_42 : Cond.classLink RX6 27 RX5 ∈ q_tbl := (q_in_t1 (i := 42) (by first | rfl | decide +kernel) rfl)
theorem bw_43 : Cond.instantiable RX5 1 ∈ q_tbl := (q_in_t1 (i := 43) (by first | rfl | decide +kernel) rfl)
theorem bw_4 : Cond.initialized RX5 ∈ q_tbl := (q_in_t1 (i := 4) (by first | rfl | decide +kernel) rfl)
theorem bi_X6_29 : b_okI RX6 29 yX5_init cX5_init 2 1 := ⟨(q_in_t1 (i := 44) (by first | rfl | decide +kernel) rfl), (q_in_t1 (i := 45) (by first | rfl | decide +kernel) rfl), (q_in_t1 (i := 4) (by first | rfl | decide +kernel) rfl), (q_in_t1 (i := 46) (by first | rfl | decide +kernel) rfl), rfl, ⟨by decide, by decide, rfl⟩⟩
theorem bw_78 : Cond.fieldLink RX6 32 "CheatHeap$Rules" "dealt" "LCheatHeap$Row;" ∈ q_tbl := (q_in_t1 (i := 78) (by first | rfl | decide +kernel) rfl)
theorem bw_82 : Cond.fieldLink RX6 36 "CheatHeap$Rules" "names" "LCheatHeap$Row;" ∈ q_tbl := (q_in_t1 (i := 82) (by first | rfl | decide +kernel) rfl)
theorem bw_83 : Cond.fieldLink RX6 39 "CheatHeap$Rules" "nameLength" "LCheatHeap$Row;" ∈ q_tbl := (q_in_t1 (i := 83) (by first | rfl | decide +kernel) rfl)
theorem bw_106 : Cond.methodLink RX1 3 Lib.objectInit ∈ q_tbl := (q_in_t1 (i := 106) (by first | rfl | decide +kernel) rfl)
theorem bw_107 : Cond.classLink RX1 9 RX5 ∈ q_tbl := (q_in_t1 (i := 107) (by first | rfl | decide +kernel) rfl)
theorem bi_X1_11 : b_okI RX1 11 yX5_init cX5_init 2 1 := ⟨(q_in_t1 (i := 108) (by first | rfl | decide +kernel) rfl), (q_in_t1 (i := 45) (by first | rfl | decide +kernel) rfl), (q_in_t1 (i := 4) (by first | rfl | decide +kernel) rfl), (q_in_t1 (i := 46) (by first | rfl | decide +kernel) rfl), rfl, ⟨by decide, by decide, rfl⟩⟩
theorem bw_109 : Cond.fieldLink RX1 14 "CheatHeap$Hands" "held" "LCheatHeap$Row;" ∈ q_tbl := (q_in_t1 (i := 109) (by first | rfl | decide +kernel) rfl)
theorem bw_110 : Cond.fieldLink RX1 20 "CheatHeap$Hands" "laid" "LCheatHeap$Row;" ∈ q_tbl := (q_in_t1 (i := 110) (by first | rfl | decide +kernel) rfl)
theorem bw_111 : Cond.fieldLink RX1 23 "CheatHeap$Hands" "cards" "LCheatHeap$Row;" ∈ q_tbl := (q_in_t1 (i := 111) (by first | rfl | decide +kernel) rfl)
theorem bw_115 : Cond.fieldLink RX1 26 "CheatHeap$Hands" "lying" "LCheatHeap$Row;" ∈ q_tbl := (q_in_t1 (i := 115) (by first | rfl | decide +kernel) rfl)
theorem bw_119 : Cond.fieldLink RX1 29 "CheatHeap$Hands" "doubting" "LCheatHeap$Row;" ∈ q_tbl := (q_in_t1 (i := 119) (by first | rfl | decide +kernel) rfl)
theorem bw_123 : Cond.fieldLink RX1 32 "CheatHeap$Hands" "shown" "LCheatHeap$Row;" ∈ q_tbl := (q_in_t1 (i := 123) (by first | rfl | decide +kernel) rfl)
theorem bw_127 : Cond.fieldLink RX1 35 "CheatHeap$Hands" "untrue" "LCheatHeap$Row;" ∈ q_tbl := (q_in_t1 (i := 127) (by first | rfl | decide +kernel) rfl)
theorem bw_150 : Cond.methodLink RX2 3 Lib.objectInit ∈ q_tbl := (q_in_t1 (i := 150) (by first | rfl | decide +kernel) rfl)
theorem bw_153 : Cond.fieldLink RX2 9 "CheatHeap$Pile" "layings" "I" ∈ q_tbl := (q_in_t1 (i := 153) (by first | rfl | decide +kernel) rfl)
theorem bw_155 : Cond.fieldLink RX2 15 "CheatHeap$Pile" "cards" "I" ∈ q_tbl := (q_in_t1 (i := 155) (by first | rfl | decide +kernel) rfl)
theorem bw_151 : Cond.classLink RX2 18 RX5 ∈ q_tbl := (q_in_t1 (i := 151) (by first | rfl | decide +kernel) rfl)
theorem bi_X2_20 : b_okI RX2 20 yX5_init cX5_init 2 1 := ⟨(q_in_t1 (i := 152) (by first | rfl | decide +kernel) rfl), (q_in_t1 (i := 45) (by first | rfl | decide +kernel) rfl), (q_in_t1 (i := 4) (by first | rfl | decide +kernel) rfl), (q_in_t1 (i := 46) (by first | rfl | decide +kernel) rfl), rfl, ⟨by decide, by decide, rfl⟩⟩
theorem bw_159 : Cond.fieldLink RX2 23 "CheatHeap$Pile" "layer" "LCheatHeap$Row;" ∈ q_tbl := (q_in_t1 (i := 159) (by first | rfl | decide +kernel) rfl)
theorem bw_161 : Cond.fieldLink RX2 27 "CheatHeap$Pile" "kindSaid" "LCheatHeap$Row;" ∈ q_tbl := (q_in_t1 (i := 161) (by first | rfl | decide +kernel) rfl)
theorem bw_163 : Cond.fieldLink RX2 30 "CheatHeap$Pile" "size" "LCheatHeap$Row;" ∈ q_tbl := (q_in_t1 (i := 163) (by first | rfl | decide +kernel) rfl)
theorem bw_165 : Cond.fieldLink RX2 33 "CheatHeap$Pile" "card" "LCheatHeap$Row;" ∈ q_tbl := (q_in_t1 (i := 165) (by first | rfl | decide +kernel) rfl)
theorem bw_184 : Cond.methodLink RX8 5 Lib.objectInit ∈ q_tbl := (q_in_t1 (i := 184) (by first | rfl | decide +kernel) rfl)
theorem bw_187 : Cond.fieldLink RX8 11 "CheatHeap$Script" "isThere" "Z" ∈ q_tbl := (q_in_t1 (i := 187) (by first | rfl | decide +kernel) rfl)
theorem bw_190 : Cond.fieldLink RX8 15 "CheatHeap$Script" "steps" "I" ∈ q_tbl := (q_in_t1 (i := 190) (by first | rfl | decide +kernel) rfl)
theorem bw_193 : Cond.fieldLink RX8 19 "CheatHeap$Script" "lines" "I" ∈ q_tbl := (q_in_t1 (i := 193) (by first | rfl | decide +kernel) rfl)
theorem bw_185 : Cond.classLink RX8 22 RX5 ∈ q_tbl := (q_in_t1 (i := 185) (by first | rfl | decide +kernel) rfl)
theorem bi_X8_24 : b_okI RX8 24 yX5_init cX5_init 2 1 := ⟨(q_in_t1 (i := 186) (by first | rfl | decide +kernel) rfl), (q_in_t1 (i := 45) (by first | rfl | decide +kernel) rfl), (q_in_t1 (i := 4) (by first | rfl | decide +kernel) rfl), (q_in_t1 (i := 46) (by first | rfl | decide +kernel) rfl), rfl, ⟨by decide, by decide, rfl⟩⟩
theorem bw_195 : Cond.fieldLink RX8 27 "CheatHeap$Script" "action" "LCheatHeap$Row;" ∈ q_tbl := (q_in_t1 (i := 195) (by first | rfl | decide +kernel) rfl)
theorem bw_198 : Cond.fieldLink RX8 31 "CheatHeap$Script" "mate" "LCheatHeap$Row;" ∈ q_tbl := (q_in_t1 (i := 198) (by first | rfl | decide +kernel) rfl)
theorem bw_201 : Cond.fieldLink RX8 34 "CheatHeap$Script" "who" "LCheatHeap$Row;" ∈ q_tbl := (q_in_t1 (i := 201) (by first | rfl | decide +kernel) rfl)
theorem bw_204 : Cond.fieldLink RX8 37 "CheatHeap$Script" "comparison" "LCheatHeap$Row;" ∈ q_tbl := (q_in_t1 (i := 204) (by first | rfl | decide +kernel) rfl)
theorem bw_206 : Cond.fieldLink RX8 40 "CheatHeap$Script" "number" "LCheatHeap$Row;" ∈ q_tbl := (q_in_t1 (i := 206) (by first | rfl | decide +kernel) rfl)
theorem bw_391 : Cond.methodLink RX7 3 Lib.objectInit ∈ q_tbl := (q_in_t2 (i := 151) (by first | rfl | decide +kernel) rfl)
theorem bw_394 : Cond.fieldLink RX7 9 "CheatHeap$Run" "steps" "I" ∈ q_tbl := (q_in_t2 (i := 154) (by first | rfl | decide +kernel) rfl)
theorem bw_396 : Cond.fieldLink RX7 15 "CheatHeap$Run" "missed" "I" ∈ q_tbl := (q_in_t2 (i := 156) (by first | rfl | decide +kernel) rfl)
theorem bw_398 : Cond.fieldLink RX7 18 "CheatHeap$Run" "layings" "I" ∈ q_tbl := (q_in_t2 (i := 158) (by first | rfl | decide +kernel) rfl)
theorem bw_400 : Cond.fieldLink RX7 21 "CheatHeap$Run" "doubts" "I" ∈ q_tbl := (q_in_t2 (i := 160) (by first | rfl | decide +kernel) rfl)
theorem bw_402 : Cond.fieldLink RX7 24 "CheatHeap$Run" "rightDoubts" "I" ∈ q_tbl := (q_in_t2 (i := 162) (by first | rfl | decide +kernel) rfl)
theorem bw_404 : Cond.fieldLink RX7 27 "CheatHeap$Run" "isCut" "Z" ∈ q_tbl := (q_in_t2 (i := 164) (by first | rfl | decide +kernel) rfl)
theorem bw_406 : Cond.fieldLink RX7 31 "CheatHeap$Run" "state" "I" ∈ q_tbl := (q_in_t2 (i := 166) (by first | rfl | decide +kernel) rfl)
theorem bw_392 : Cond.classLink RX7 34 RX5 ∈ q_tbl := (q_in_t2 (i := 152) (by first | rfl | decide +kernel) rfl)
theorem bi_X7_38 : b_okI RX7 38 yX5_init cX5_init 2 1 := ⟨(q_in_t2 (i := 153) (by first | rfl | decide +kernel) rfl), (q_in_t1 (i := 45) (by first | rfl | decide +kernel) rfl), (q_in_t1 (i := 4) (by first | rfl | decide +kernel) rfl), (q_in_t1 (i := 46) (by first | rfl | decide +kernel) rfl), rfl, ⟨by decide, by decide, rfl⟩⟩
theorem bw_407 : Cond.fieldLink RX7 41 "CheatHeap$Run" "timesLeft" "LCheatHeap$Row;" ∈ q_tbl := (q_in_t2 (i := 167) (by first | rfl | decide +kernel) rfl)
theorem bw_35 : Cond.methodLink RX0 3 Lib.objectInit ∈ q_tbl := (q_in_t1 (i := 35) (by first | rfl | decide +kernel) rfl)
theorem bw_36 : Cond.classLink RX0 9 RX6 ∈ q_tbl := (q_in_t1 (i := 36) (by first | rfl | decide +kernel) rfl)
theorem bw_37 : Cond.instantiable RX6 8 ∈ q_tbl := (q_in_t1 (i := 37) (by first | rfl | decide +kernel) rfl)
theorem bw_3 : Cond.initialized RX6 ∈ q_tbl := (q_in_t1 (i := 3) (by first | rfl | decide +kernel) rfl)
theorem bi_X0_11 : b_okN RX0 11 "CheatHeap" yX6_init cX6_init 1 0 := ⟨List.mem_of_getElem? (i := 1) rfl, (q_in_t1 (i := 39) (by first | rfl | decide +kernel) rfl), (q_in_t1 (i := 3) (by first | rfl | decide +kernel) rfl), (q_in_t1 (i := 40) (by first | rfl | decide +kernel) rfl), rfl, ⟨by decide, by decide, rfl⟩⟩
theorem bw_228 : Cond.fieldLink RX0 12 "CheatHeap$Game" "rules" "LCheatHeap$Rules;" ∈ q_tbl := (q_in_t1 (i := 228) (by first | rfl | decide +kernel) rfl)
theorem bw_101 : Cond.classLink RX0 18 RX1 ∈ q_tbl := (q_in_t1 (i := 101) (by first | rfl | decide +kernel) rfl)
theorem bw_102 : Cond.instantiable RX1 7 ∈ q_tbl := (q_in_t1 (i := 102) (by first | rfl | decide +kernel) rfl)
theorem bw_6 : Cond.initialized RX1 ∈ q_tbl := (q_in_t1 (i := 6) (by first | rfl | decide +kernel) rfl)
theorem bi_X0_20 : b_okN RX0 20 "CheatHeap" yX1_init cX1_init 1 0 := ⟨List.mem_of_getElem? (i := 2) rfl, (q_in_t1 (i := 104) (by first | rfl | decide +kernel) rfl), (q_in_t1 (i := 6) (by first | rfl | decide +kernel) rfl), (q_in_t1 (i := 105) (by first | rfl | decide +kernel) rfl), rfl, ⟨by decide, by decide, rfl⟩⟩
theorem bw_232 : Cond.fieldLink RX0 21 "CheatHeap$Game" "hands" "LCheatHeap$Hands;" ∈ q_tbl := (q_in_t1 (i := 232) (by first | rfl | decide +kernel) rfl)
theorem bw_145 : Cond.classLink RX0 25 RX2 ∈ q_tbl := (q_in_t1 (i := 145) (by first | rfl | decide +kernel) rfl)
theorem bw_146 : Cond.instantiable RX2 6 ∈ q_tbl := (q_in_t1 (i := 146) (by first | rfl | decide +kernel) rfl)
theorem bw_7 : Cond.initialized RX2 ∈ q_tbl := (q_in_t1 (i := 7) (by first | rfl | decide +kernel) rfl)
theorem bi_X0_27 : b_okN RX0 27 "CheatHeap" yX2_init cX2_init 1 0 := ⟨List.mem_of_getElem? (i := 3) rfl, (q_in_t1 (i := 148) (by first | rfl | decide +kernel) rfl), (q_in_t1 (i := 7) (by first | rfl | decide +kernel) rfl), (q_in_t1 (i := 149) (by first | rfl | decide +kernel) rfl), rfl, ⟨by decide, by decide, rfl⟩⟩
theorem bw_236 : Cond.fieldLink RX0 28 "CheatHeap$Game" "pile" "LCheatHeap$Pile;" ∈ q_tbl := (q_in_t1 (i := 236) (by first | rfl | decide +kernel) rfl)
theorem bw_179 : Cond.classLink RX0 32 RX8 ∈ q_tbl := (q_in_t1 (i := 179) (by first | rfl | decide +kernel) rfl)
theorem bw_180 : Cond.instantiable RX8 8 ∈ q_tbl := (q_in_t1 (i := 180) (by first | rfl | decide +kernel) rfl)
theorem bw_8 : Cond.initialized RX8 ∈ q_tbl := (q_in_t1 (i := 8) (by first | rfl | decide +kernel) rfl)
theorem bi_X0_34 : b_okN RX0 34 "CheatHeap" yX8_init cX8_init 1 0 := ⟨List.mem_of_getElem? (i := 4) rfl, (q_in_t1 (i := 182) (by first | rfl | decide +kernel) rfl), (q_in_t1 (i := 8) (by first | rfl | decide +kernel) rfl), (q_in_t1 (i := 183) (by first | rfl | decide +kernel) rfl), rfl, ⟨by decide, by decide, rfl⟩⟩
theorem bw_239 : Cond.fieldLink RX0 35 "CheatHeap$Game" "script" "LCheatHeap$Script;" ∈ q_tbl := (q_in_t1 (i := 239) (by first | rfl | decide +kernel) rfl)
theorem bw_242 : Cond.fieldLink RX0 39 "CheatHeap$Game" "kind" "I" ∈ q_tbl := (q_in_t2 (i := 2) (by first | rfl | decide +kernel) rfl)
theorem bw_245 : Cond.fieldLink RX0 43 "CheatHeap$Game" "turn" "I" ∈ q_tbl := (q_in_t2 (i := 5) (by first | rfl | decide +kernel) rfl)
theorem bw_248 : Cond.fieldLink RX0 46 "CheatHeap$Game" "winner" "I" ∈ q_tbl := (q_in_t2 (i := 8) (by first | rfl | decide +kernel) rfl)
theorem bw_251 : Cond.fieldLink RX0 49 "CheatHeap$Game" "open" "Z" ∈ q_tbl := (q_in_t2 (i := 11) (by first | rfl | decide +kernel) rfl)
theorem bw_226 : Cond.classLink RX0 53 RX5 ∈ q_tbl := (q_in_t1 (i := 226) (by first | rfl | decide +kernel) rfl)
theorem bi_X0_55 : b_okI RX0 55 yX5_init cX5_init 2 1 := ⟨(q_in_t1 (i := 227) (by first | rfl | decide +kernel) rfl), (q_in_t1 (i := 45) (by first | rfl | decide +kernel) rfl), (q_in_t1 (i := 4) (by first | rfl | decide +kernel) rfl), (q_in_t1 (i := 46) (by first | rfl | decide +kernel) rfl), rfl, ⟨by decide, by decide, rfl⟩⟩
theorem bw_254 : Cond.fieldLink RX0 58 "CheatHeap$Game" "wants" "LCheatHeap$Row;" ∈ q_tbl := (q_in_t2 (i := 14) (by first | rfl | decide +kernel) rfl)
theorem bw_255 : Cond.fieldLink RX0 62 "CheatHeap$Game" "wanted" "I" ∈ q_tbl := (q_in_t2 (i := 15) (by first | rfl | decide +kernel) rfl)
theorem bw_257 : Cond.fieldLink RX0 65 "CheatHeap$Game" "rest" "LCheatHeap$Row;" ∈ q_tbl := (q_in_t2 (i := 17) (by first | rfl | decide +kernel) rfl)
theorem bw_258 : Cond.fieldLink RX0 68 "CheatHeap$Game" "sumForeseen" "I" ∈ q_tbl := (q_in_t2 (i := 18) (by first | rfl | decide +kernel) rfl)
theorem bw_260 : Cond.fieldLink RX0 71 "CheatHeap$Game" "ridBehind" "I" ∈ q_tbl := (q_in_t2 (i := 20) (by first | rfl | decide +kernel) rfl)
theorem bw_262 : Cond.fieldLink RX0 74 "CheatHeap$Game" "latestKind" "I" ∈ q_tbl := (q_in_t2 (i := 22) (by first | rfl | decide +kernel) rfl)
theorem bw_264 : Cond.fieldLink RX0 77 "CheatHeap$Game" "firstLie" "I" ∈ q_tbl := (q_in_t2 (i := 24) (by first | rfl | decide +kernel) rfl)
theorem bw_306 : Cond.methodLink RX3 3 Lib.objectInit ∈ q_tbl := (q_in_t2 (i := 66) (by first | rfl | decide +kernel) rfl)
theorem bw_55 : Cond.arrayClass (newarray.typeOf .byte) ∈ q_tbl := (q_in_t1 (i := 55) (by first | rfl | decide +kernel) rfl)
theorem bw_316 : Cond.fieldLink RX3 9 "CheatHeap$Reader" "text" "[B" ∈ q_tbl := (q_in_t2 (i := 76) (by first | rfl | decide +kernel) rfl)
theorem bw_317 : Cond.fieldLink RX3 15 "CheatHeap$Reader" "length" "I" ∈ q_tbl := (q_in_t2 (i := 77) (by first | rfl | decide +kernel) rfl)
theorem bw_318 : Cond.fieldLink RX3 19 "CheatHeap$Reader" "begin" "I" ∈ q_tbl := (q_in_t2 (i := 78) (by first | rfl | decide +kernel) rfl)
theorem bw_319 : Cond.fieldLink RX3 22 "CheatHeap$Reader" "end" "I" ∈ q_tbl := (q_in_t2 (i := 79) (by first | rfl | decide +kernel) rfl)
theorem bw_320 : Cond.fieldLink RX3 25 "CheatHeap$Reader" "type" "I" ∈ q_tbl := (q_in_t2 (i := 80) (by first | rfl | decide +kernel) rfl)
theorem bw_325 : Cond.fieldLink RX3 28 "CheatHeap$Reader" "value" "I" ∈ q_tbl := (q_in_t2 (i := 85) (by first | rfl | decide +kernel) rfl)
theorem bw_328 : Cond.fieldLink RX3 31 "CheatHeap$Reader" "fault" "I" ∈ q_tbl := (q_in_t2 (i := 88) (by first | rfl | decide +kernel) rfl)
theorem bw_330 : Cond.fieldLink RX3 34 "CheatHeap$Reader" "place" "I" ∈ q_tbl := (q_in_t2 (i := 90) (by first | rfl | decide +kernel) rfl)
theorem bi_X9_3 : b_okN RX9 3 "CheatHeap" yX3_init cX3_init 1 0 := ⟨List.mem_of_getElem? (i := 6) rfl, (q_in_t2 (i := 64) (by first | rfl | decide +kernel) rfl), (q_in_t1 (i := 9) (by first | rfl | decide +kernel) rfl), (q_in_t2 (i := 65) (by first | rfl | decide +kernel) rfl), rfl, ⟨by decide, by decide, rfl⟩⟩
theorem bw_307 : Cond.classLink RX9 9 RX0 ∈ q_tbl := (q_in_t2 (i := 67) (by first | rfl | decide +kernel) rfl)
theorem bw_31 : Cond.instantiable RX0 15 ∈ q_tbl := (q_in_t1 (i := 31) (by first | rfl | decide +kernel) rfl)
theorem bw_2 : Cond.initialized RX0 ∈ q_tbl := (q_in_t1 (i := 2) (by first | rfl | decide +kernel) rfl)
theorem bi_X9_11 : b_okN RX9 11 "CheatHeap" yX0_init cX0_init 1 0 := ⟨List.mem_of_getElem? (i := 7) rfl, (q_in_t1 (i := 33) (by first | rfl | decide +kernel) rfl), (q_in_t1 (i := 2) (by first | rfl | decide +kernel) rfl), (q_in_t1 (i := 34) (by first | rfl | decide +kernel) rfl), rfl, ⟨by decide, by decide, rfl⟩⟩
theorem bw_311 : Cond.fieldLink RX9 12 "CheatHeap$TableReader" "game" "LCheatHeap$Game;" ∈ q_tbl := (q_in_t2 (i := 71) (by first | rfl | decide +kernel) rfl)
theorem bw_313 : Cond.fieldLink RX9 18 "CheatHeap$TableReader" "isLawTold" "Z" ∈ q_tbl := (q_in_t2 (i := 73) (by first | rfl | decide +kernel) rfl)
theorem bw_314 : Cond.fieldLink RX9 22 "CheatHeap$TableReader" "isMostTold" "Z" ∈ q_tbl := (q_in_t2 (i := 74) (by first | rfl | decide +kernel) rfl)
theorem bw_309 : Cond.classLink RX9 25 RX5 ∈ q_tbl := (q_in_t2 (i := 69) (by first | rfl | decide +kernel) rfl)
theorem bi_X9_27 : b_okI RX9 27 yX5_init cX5_init 2 1 := ⟨(q_in_t2 (i := 70) (by first | rfl | decide +kernel) rfl), (q_in_t1 (i := 45) (by first | rfl | decide +kernel) rfl), (q_in_t1 (i := 4) (by first | rfl | decide +kernel) rfl), (q_in_t1 (i := 46) (by first | rfl | decide +kernel) rfl), rfl, ⟨by decide, by decide, rfl⟩⟩
theorem bw_315 : Cond.fieldLink RX9 30 "CheatHeap$TableReader" "toldKinds" "LCheatHeap$Row;" ∈ q_tbl := (q_in_t2 (i := 75) (by first | rfl | decide +kernel) rfl)
theorem bi_X4_3 : b_okN RX4 3 "CheatHeap" yX3_init cX3_init 1 0 := ⟨List.mem_of_getElem? (i := 9) rfl, (q_in_t2 (i := 64) (by first | rfl | decide +kernel) rfl), (q_in_t1 (i := 9) (by first | rfl | decide +kernel) rfl), (q_in_t2 (i := 65) (by first | rfl | decide +kernel) rfl), rfl, ⟨by decide, by decide, rfl⟩⟩
theorem bw_363 : Cond.classLink RX4 9 RX8 ∈ q_tbl := (q_in_t2 (i := 123) (by first | rfl | decide +kernel) rfl)
theorem bi_X4_11 : b_okN RX4 11 "CheatHeap" yX8_init cX8_init 1 0 := ⟨List.mem_of_getElem? (i := 10) rfl, (q_in_t1 (i := 182) (by first | rfl | decide +kernel) rfl), (q_in_t1 (i := 8) (by first | rfl | decide +kernel) rfl), (q_in_t1 (i := 183) (by first | rfl | decide +kernel) rfl), rfl, ⟨by decide, by decide, rfl⟩⟩
theorem bw_367 : Cond.fieldLink RX4 12 "CheatHeap$RoundReader" "script" "LCheatHeap$Script;" ∈ q_tbl := (q_in_t2 (i := 127) (by first | rfl | decide +kernel) rfl)
theorem bw_365 : Cond.classLink RX4 18 RX5 ∈ q_tbl := (q_in_t2 (i := 125) (by first | rfl | decide +kernel) rfl)
theorem bi_X4_20 : b_okI RX4 20 yX5_init cX5_init 2 1 := ⟨(q_in_t2 (i := 126) (by first | rfl | decide +kernel) rfl), (q_in_t1 (i := 45) (by first | rfl | decide +kernel) rfl), (q_in_t1 (i := 4) (by first | rfl | decide +kernel) rfl), (q_in_t1 (i := 46) (by first | rfl | decide +kernel) rfl), rfl, ⟨by decide, by decide, rfl⟩⟩
theorem bw_369 : Cond.fieldLink RX4 23 "CheatHeap$RoundReader" "openAt" "LCheatHeap$Row;" ∈ q_tbl := (q_in_t2 (i := 129) (by first | rfl | decide +kernel) rfl)
theorem bw_370 : Cond.fieldLink RX4 27 "CheatHeap$RoundReader" "depth" "I" ∈ q_tbl := (q_in_t2 (i := 130) (by first | rfl | decide +kernel) rfl)
theorem bw_25 : Cond.methodLink RX11 3 Lib.objectInit ∈ q_tbl := (q_in_t1 (i := 25) (by first | rfl | decide +kernel) rfl)
theorem bw_442 : Cond.fieldLink RX11 9 "CheatHeap" "status" "I" ∈ q_tbl := (q_in_t2 (i := 202) (by first | rfl | decide +kernel) rfl)
theorem bw_443 : Cond.fieldLink RX11 13 "CheatHeap" "fractionTop" "J" ∈ q_tbl := (q_in_t2 (i := 203) (by first | rfl | decide +kernel) rfl)
theorem bw_444 : Cond.fieldLink RX11 17 "CheatHeap" "fractionBottom" "J" ∈ q_tbl := (q_in_t2 (i := 204) (by first | rfl | decide +kernel) rfl)
theorem bw_28 : Cond.classLink RX11 20 RX10 ∈ q_tbl := (q_in_t1 (i := 28) (by first | rfl | decide +kernel) rfl)
theorem bw_445 : Cond.fieldLink RX11 22 "CheatHeap" "trays" "[LCheatHeap$Tray;" ∈ q_tbl := (q_in_t2 (i := 205) (by first | rfl | decide +kernel) rfl)
theorem bw_446 : Cond.fieldLink RX11 26 "CheatHeap" "tape" "[B" ∈ q_tbl := (q_in_t2 (i := 206) (by first | rfl | decide +kernel) rfl)
theorem bw_447 : Cond.fieldLink RX11 30 "CheatHeap" "taped" "I" ∈ q_tbl := (q_in_t2 (i := 207) (by first | rfl | decide +kernel) rfl)
theorem bw_448 : Cond.fieldLink RX11 33 "CheatHeap" "faultKind" "I" ∈ q_tbl := (q_in_t2 (i := 208) (by first | rfl | decide +kernel) rfl)
theorem bw_449 : Cond.fieldLink RX11 36 "CheatHeap" "faultPlace" "I" ∈ q_tbl := (q_in_t2 (i := 209) (by first | rfl | decide +kernel) rfl)
theorem bw_30 : Cond.classLink RX11 39 RX0 ∈ q_tbl := (q_in_t1 (i := 30) (by first | rfl | decide +kernel) rfl)
theorem bi_X11_41 : b_okN RX11 41 "CheatHeap" yX0_init cX0_init 1 0 := ⟨List.mem_of_getElem? (i := 0) rfl, (q_in_t1 (i := 33) (by first | rfl | decide +kernel) rfl), (q_in_t1 (i := 2) (by first | rfl | decide +kernel) rfl), (q_in_t1 (i := 34) (by first | rfl | decide +kernel) rfl), rfl, ⟨by decide, by decide, rfl⟩⟩
theorem bw_450 : Cond.fieldLink RX11 42 "CheatHeap" "game" "LCheatHeap$Game;" ∈ q_tbl := (q_in_t2 (i := 210) (by first | rfl | decide +kernel) rfl)
theorem bw_451 : Cond.fieldLink RX11 46 "CheatHeap" "spare" "LCheatHeap$Game;" ∈ q_tbl := (q_in_t2 (i := 211) (by first | rfl | decide +kernel) rfl)
theorem bw_452 : Cond.fieldLink RX11 49 "CheatHeap" "marks" "[LCheatHeap$Game;" ∈ q_tbl := (q_in_t2 (i := 212) (by first | rfl | decide +kernel) rfl)
theorem bw_453 : Cond.fieldLink RX11 53 "CheatHeap" "marked" "I" ∈ q_tbl := (q_in_t2 (i := 213) (by first | rfl | decide +kernel) rfl)
theorem bw_298 : Cond.classLink RX11 56 RX9 ∈ q_tbl := (q_in_t2 (i := 58) (by first | rfl | decide +kernel) rfl)
theorem bw_299 : Cond.instantiable RX9 12 ∈ q_tbl := (q_in_t2 (i := 59) (by first | rfl | decide +kernel) rfl)
theorem bw_10 : Cond.initialized RX9 ∈ q_tbl := (q_in_t1 (i := 10) (by first | rfl | decide +kernel) rfl)
theorem bi_X11_58 : b_okN RX11 58 "CheatHeap" yX9_init cX9_init 1 0 := ⟨List.mem_of_getElem? (i := 5) rfl, (q_in_t2 (i := 61) (by first | rfl | decide +kernel) rfl), (q_in_t1 (i := 10) (by first | rfl | decide +kernel) rfl), (q_in_t2 (i := 62) (by first | rfl | decide +kernel) rfl), rfl, ⟨by decide, by decide, rfl⟩⟩
theorem bw_454 : Cond.fieldLink RX11 59 "CheatHeap" "tableReader" "LCheatHeap$TableReader;" ∈ q_tbl := (q_in_t2 (i := 214) (by first | rfl | decide +kernel) rfl)
theorem bw_357 : Cond.classLink RX11 63 RX4 ∈ q_tbl := (q_in_t2 (i := 117) (by first | rfl | decide +kernel) rfl)
theorem bw_358 : Cond.instantiable RX4 11 ∈ q_tbl := (q_in_t2 (i := 118) (by first | rfl | decide +kernel) rfl)
theorem bw_11 : Cond.initialized RX4 ∈ q_tbl := (q_in_t1 (i := 11) (by first | rfl | decide +kernel) rfl)
theorem bi_X11_65 : b_okN RX11 65 "CheatHeap" yX4_init cX4_init 1 0 := ⟨List.mem_of_getElem? (i := 8) rfl, (q_in_t2 (i := 120) (by first | rfl | decide +kernel) rfl), (q_in_t1 (i := 11) (by first | rfl | decide +kernel) rfl), (q_in_t2 (i := 121) (by first | rfl | decide +kernel) rfl), rfl, ⟨by decide, by decide, rfl⟩⟩
theorem bw_455 : Cond.fieldLink RX11 66 "CheatHeap" "roundReader" "LCheatHeap$RoundReader;" ∈ q_tbl := (q_in_t2 (i := 215) (by first | rfl | decide +kernel) rfl)
theorem bw_386 : Cond.classLink RX11 70 RX7 ∈ q_tbl := (q_in_t2 (i := 146) (by first | rfl | decide +kernel) rfl)
theorem bw_387 : Cond.instantiable RX7 8 ∈ q_tbl := (q_in_t2 (i := 147) (by first | rfl | decide +kernel) rfl)
theorem bw_12 : Cond.initialized RX7 ∈ q_tbl := (q_in_t1 (i := 12) (by first | rfl | decide +kernel) rfl)
theorem bi_X11_72 : b_okN RX11 72 "CheatHeap" yX7_init cX7_init 1 0 := ⟨List.mem_of_getElem? (i := 11) rfl, (q_in_t2 (i := 149) (by first | rfl | decide +kernel) rfl), (q_in_t1 (i := 12) (by first | rfl | decide +kernel) rfl), (q_in_t2 (i := 150) (by first | rfl | decide +kernel) rfl), rfl, ⟨by decide, by decide, rfl⟩⟩
theorem bw_456 : Cond.fieldLink RX11 73 "CheatHeap" "run" "LCheatHeap$Run;" ∈ q_tbl := (q_in_t2 (i := 216) (by first | rfl | decide +kernel) rfl)
theorem bw_457 : Cond.fieldLink RX11 77 "CheatHeap" "trial" "LCheatHeap$Run;" ∈ q_tbl := (q_in_t2 (i := 217) (by first | rfl | decide +kernel) rfl)
theorem bw_458 : Cond.fieldLink RX11 80 "CheatHeap" "hasPlayed" "Z" ∈ q_tbl := (q_in_t2 (i := 218) (by first | rfl | decide +kernel) rfl)
theorem bw_425 : Cond.instantiable RX10 3 ∈ q_tbl := (q_in_t2 (i := 185) (by first | rfl | decide +kernel) rfl)
theorem bw_13 : Cond.initialized RX10 ∈ q_tbl := (q_in_t1 (i := 13) (by first | rfl | decide +kernel) rfl)
theorem bi_X11_84 : b_okN RX11 84 "CheatHeap" yX10_init cX10_init 1 0 := ⟨List.mem_of_getElem? (i := 12) rfl, (q_in_t2 (i := 187) (by first | rfl | decide +kernel) rfl), (q_in_t1 (i := 13) (by first | rfl | decide +kernel) rfl), (q_in_t2 (i := 188) (by first | rfl | decide +kernel) rfl), rfl, ⟨by decide, by decide, rfl⟩⟩
theorem bw_1424 : Cond.methodLink RX12 1 Lib.objectInit ∈ q_tbl := (q_in_t6 (i := 224) (by first | rfl | decide +kernel) rfl)
theorem bw_1428 : Cond.fieldLink RX12 7 "CheatHeapModel" "under" "J" ∈ q_tbl := (q_in_t6 (i := 228) (by first | rfl | decide +kernel) rfl)
theorem bw_1429 : Cond.fieldLink RX12 13 "CheatHeapModel" "traySort" "[I" ∈ q_tbl := (q_in_t6 (i := 229) (by first | rfl | decide +kernel) rfl)
theorem bw_1430 : Cond.fieldLink RX12 17 "CheatHeapModel" "trayMany" "[I" ∈ q_tbl := (q_in_t6 (i := 230) (by first | rfl | decide +kernel) rfl)
theorem bw_1431 : Cond.fieldLink RX12 20 "CheatHeapModel" "numbers" "[J" ∈ q_tbl := (q_in_t6 (i := 231) (by first | rfl | decide +kernel) rfl)
theorem bw_1432 : Cond.fieldLink RX12 24 "CheatHeapModel" "tape" "[B" ∈ q_tbl := (q_in_t6 (i := 232) (by first | rfl | decide +kernel) rfl)
theorem bw_1435 : Cond.fieldLink RX12 28 "CheatHeapModel" "faultKind" "I" ∈ q_tbl := (q_in_t6 (i := 235) (by first | rfl | decide +kernel) rfl)
theorem bw_1436 : Cond.fieldLink RX12 32 "CheatHeapModel" "faultAt" "I" ∈ q_tbl := (q_in_t6 (i := 236) (by first | rfl | decide +kernel) rfl)
theorem bw_1445 : Cond.fieldLink RX12 35 "CheatHeapModel" "c" "[I" ∈ q_tbl := (q_in_t7 (i := 5) (by first | rfl | decide +kernel) rfl)
theorem bw_1446 : Cond.fieldLink RX12 38 "CheatHeapModel" "kept" "[I" ∈ q_tbl := (q_in_t7 (i := 6) (by first | rfl | decide +kernel) rfl)
theorem bw_1447 : Cond.fieldLink RX12 41 "CheatHeapModel" "handTold" "[I" ∈ q_tbl := (q_in_t7 (i := 7) (by first | rfl | decide +kernel) rfl)
theorem bw_1448 : Cond.fieldLink RX12 44 "CheatHeapModel" "words" "[J" ∈ q_tbl := (q_in_t7 (i := 8) (by first | rfl | decide +kernel) rfl)
theorem bw_1453 : Cond.fieldLink RX12 47 "CheatHeapModel" "lying" "[I" ∈ q_tbl := (q_in_t7 (i := 13) (by first | rfl | decide +kernel) rfl)
theorem bw_1454 : Cond.fieldLink RX12 50 "CheatHeapModel" "asked" "[I" ∈ q_tbl := (q_in_t7 (i := 14) (by first | rfl | decide +kernel) rfl)
theorem bw_1457 : Cond.fieldLink RX12 53 "CheatHeapModel" "left" "[I" ∈ q_tbl := (q_in_t7 (i := 17) (by first | rfl | decide +kernel) rfl)
theorem bw_1461 : Cond.fieldLink RX12 56 "CheatHeapModel" "playedLast" "[I" ∈ q_tbl := (q_in_t7 (i := 21) (by first | rfl | decide +kernel) rfl)
end
/-! FROM 52.born.lean.txt -/
section
theorem nw_no {h q n : Nat} (h1 : h < q) (h2 : h < n) : ¬ q_nw q n h := by
  rintro (e | e)
  · exact Nat.ne_of_lt h1 e
  · exact Nat.not_lt_of_ge e h2
theorem nw_in {h q n sz : Nat} (g : sz ≤ q) (k : sz ≤ n) : ∀ a, q_nw q n a → q_nw h sz a := by
  rintro a (e | e)
  · exact Or.inr (by rw [e]; exact g)
  · exact Or.inr (Nat.le_trans k e)
set_option maxRecDepth 100000 in
set_option maxHeartbeats 4000000 in
theorem n_X5 (l : Launch) (D : DW) (X : XW) (σ : ST) (h sz : Nat) (v1 : Int32) (kn : Nat) (hv : 0 ≤ v1.toInt) (hkn : v1.toNatClampNeg = kn) (hk : kn < 1000) : Met l yX5_init (q_ws yX5_init cX5_init 2 none) { frames := 1, cells := 1, slots := 0 + kn, locals := 24 } (q_PN D X σ h sz 4 1 (fun k => defaultValue (tyX5 k)) [.ref h, .int v1]) (q_QN X σ h sz 5 (fun X' σ' => (y_rt X X' ∧ y_root X' h) ∧ q_ln X' (q_rf X' h 0) = kn)) 1 (0 + kn) (q_nw h sz) := by
  refine b_met  (by first | exact rfl | decide +kernel) rfl rfl (Nat.le_of_ble_eq_true rfl) (fun p e s m below meth c E hml hr hlk hnm hsz hD hw0 h00 hob ls hl => ?_)
  subst hsz
  have hxx := E.1
  have hb := E.2.1
  have hl : lv_has ls 2 [(0, .ref h), (1, .int v1)] := hl
  have hS : va_S (q_nw h s.heap.size) s.heap s.heap [] := va_S.rf
  have hx0 : q_ext (q_nw h s.heap.size) X X σ σ := q_ext.rf
  have hAh : q_nw h s.heap.size h := Or.inl rfl
  have yr0 : y_rt X X := y_rt.rf
  have hlt := t_lt hob
  refine lv_aload_n hxx hb dX5_init_0 rfl (lv_at hl 0 rfl) ?_
  refine W.objInit hxx hb E.2.2.1 (E.2.2.2.1 _ bw_47) (E.2.2.2.1 _ bw_26) (E.2.2.2.1 _ bw_27) rfl (by rw [hml]; exact hl.1) rfl dX5_init_1 (Nat.le_of_ble_eq_true rfl) (Nat.le_of_ble_eq_true rfl) ?_
  refine W.eq (g2 := F0 m 4 ls []) rfl ?_
  refine lv_aload_n hxx hb dX5_init_4 rfl (lv_at hl 0 rfl) ?_
  refine lv_iconst (v := 0) hxx hb dX5_init_5 (by decide) ?_
  refine lv_iload_n hxx hb dX5_init_6 rfl (lv_at hl 1 rfl) ?_
  refine va_mmax hxx hb (hml.trans hl.1.symm) E.2.2.1 (E.2.2.2.1 _ (q_in_t1 (i := 48) (by first | rfl | decide +kernel) rfl)) (E.2.2.2.1 _ (q_in_t1 (i := 49) (by first | rfl | decide +kernel) rfl)) (E.2.2.2.1 _ (q_in_t1 (i := 5) (by first | rfl | decide +kernel) rfl)) (E.2.2.2.1 _ (q_in_t1 (i := 50) (by first | rfl | decide +kernel) rfl)) (Nat.le_of_ble_eq_true rfl) (Nat.le_of_ble_eq_true rfl) (Nat.zero_le _) (Nat.zero_le _) dX5_init_7 ?_
  have hmx : (if (0 : Int32) < v1 then v1 else 0) = v1 := by
    by_cases q : (0 : Int32) < v1
    · rw [if_pos q]
    · rw [if_neg q]; rw [Int32.lt_iff_toInt_lt, q_z0] at q; exact Int32.toInt_inj.mp (by rw [q_z0]; omega)
  rw [hmx]
  refine b_newa E hS bw_56 (t := 1) rfl (fun _ _ => rfl) (N' := kn) hv hkn (by show kn * 4 ≤ 536870912; omega) (Nat.le_of_ble_eq_true rfl) (Nat.le_refl _) dX5_init_10 (fun q1 H2 e3 z4 o5 r6 S7 => ?_)
  have hq1 : h < q1 := by first | exact Nat.lt_of_lt_of_eq hlt e3.symm | omega
  have gg_q1 : s.heap.size ≤ q1 := Nat.le_trans hS.1 (Nat.le_of_eq e3.symm)
  have mm_q1 : q1 < H2.size := by rw [z4, e3]; exact Nat.lt_succ_self _
  have w8 : q_w X σ H2 := hw0.kept (fun a ha => o5 a (hw0.lt ha))
  have b9 := hob.kept (o5 h hlt)
  try clear o5
  have t10 := t_lt b9
  have k11 : q_kd X q1 = 0 := hw0.fresh (Nat.le_of_eq e3.symm)
  have g12 := S7.1
  refine b_put E S7 hAh hnm (f := 0) b9 (show vwCl[4]? = some (RX5, TX5, 1) from rfl) q_inX5 tyX5_ok nmX5 (by decide) bw_51 rfl (fun _ => rfl) (tyX5_ok 0 (by decide)) rfl rfl dX5_init_12 (fun H13 locs1 z14 o15 b16 S17 => ?_)
  try clear b9; try clear S7
  have w18 : q_w X σ H13 := w8.kept (fun a ha => o15 a (fun e => ha (by rw [e]; exact h00)))
  try clear w8
  have t19 := t_lt b16
  try clear t10
  have r20 := (o15 q1 (by first | exact (Nat.ne_of_gt hq1) | omega)).trans r6
  try clear o15; try clear r6
  have y25 := raw_lt r20
  try clear y25
  obtain ⟨X21, dX21⟩ : ∃ Y, Y = q_xg X q1 20 kn (fun _ => 0) := ⟨_, rfl⟩
  obtain ⟨σ22, dσ22⟩ : ∃ τ, τ = q_sg σ q1 (fun _ => 0 : Nat → Int32) (fun _ => 0) 0 := ⟨_, rfl⟩
  have x23 : q_ext (fun a => a = q1) X X21 σ σ22 := by rw [dX21, dσ22]; exact q_ext.add k11
  have y26 : y_root X21 q1 := by rw [dX21]; exact (y_root.out w18.1 k11).add y_xg (fun f hf => absurd rfl hf)
  have y27 : y_rt X X21 := by rw [dX21]; exact yr0.add y_xg (fun f hf => absurd rfl hf)
  have w24 : q_w X21 σ22 H13 := by
    rw [dX21, dσ22]
    exact w18.add k11 (fun f hf => absurd rfl hf) (fun q => absurd rfl q) (by omega) (fun q => absurd q (by decide)) (fun f => q_inU rfl) (fun q => by rcases q with q | q <;> exact absurd q (by decide)) (q_cfA hD (by decide) (t0 := 1) rfl r20 (fun j => rfl)) (fun f hf => absurd rfl hf) (fun f g hf _ _ => absurd rfl hf) (fun f hf => absurd rfl hf) (fun f hf => absurd (show (0 : Nat) = 5 from hf) (by decide)) (fun _ f _ => ⟨rfl, rfl⟩)
  try clear r20; try clear w18; try clear k11; try clear t0
  have D28 : X21.1 = D := x23.1.trans hD
  have k29 : q_kd X21 q1 = 20 := by rw [dX21]; exact q_xg_h
  have n30 : q_ln X21 q1 = kn := by rw [dX21]; exact if_pos rfl
  have x31 := hx0.tr x23 (fun a e => Or.inr (by rw [e]; exact gg_q1))
  have k32 : q_kd X21 h = 0 := x23.k0 h00 (by first | exact (Nat.ne_of_lt hq1) | (omega))
  try clear x23
  obtain ⟨X33, dX33⟩ : ∃ Y, Y = q_xg X21 h 5 0 (fun f => ([q1] : List Nat).getD f 0) := ⟨_, rfl⟩
  obtain ⟨σ34, dσ34⟩ : ∃ τ, τ = q_sg σ22 h (fun f => ([0] : List Int32).getD f 0) (fun f => ([0] : List Int64).getD f 0) 0 := ⟨_, rfl⟩
  have x35 : q_ext (fun a => a = h) X21 X33 σ22 σ34 := by rw [dX33, dσ34]; exact q_ext.add k32
  have hrk : ∀ f, f < 40 → q_rk 5 f ≠ 0 → q_kd X21 (([q1] : List Nat).getD f 0) = q_rk 5 f := fun f h40 hf => match f, h40, hf with | 0, _, _ => k29 | 1, _, hf => absurd rfl hf | 2, _, hf => absurd rfl hf | 3, _, hf => absurd rfl hf | 4, _, hf => absurd rfl hf | 5, _, hf => absurd rfl hf | 6, _, hf => absurd rfl hf | 7, _, hf => absurd rfl hf | 8, _, hf => absurd rfl hf | 9, _, hf => absurd rfl hf | 10, _, hf => absurd rfl hf | 11, _, hf => absurd rfl hf | 12, _, hf => absurd rfl hf | 13, _, hf => absurd rfl hf | 14, _, hf => absurd rfl hf | 15, _, hf => absurd rfl hf | 16, _, hf => absurd rfl hf | 17, _, hf => absurd rfl hf | 18, _, hf => absurd rfl hf | 19, _, hf => absurd rfl hf | 20, _, hf => absurd rfl hf | 21, _, hf => absurd rfl hf | 22, _, hf => absurd rfl hf | 23, _, hf => absurd rfl hf | 24, _, hf => absurd rfl hf | 25, _, hf => absurd rfl hf | 26, _, hf => absurd rfl hf | 27, _, hf => absurd rfl hf | 28, _, hf => absurd rfl hf | 29, _, hf => absurd rfl hf | 30, _, hf => absurd rfl hf | 31, _, hf => absurd rfl hf | 32, _, hf => absurd rfl hf | 33, _, hf => absurd rfl hf | 34, _, hf => absurd rfl hf | 35, _, hf => absurd rfl hf | 36, _, hf => absurd rfl hf | 37, _, hf => absurd rfl hf | 38, _, hf => absurd rfl hf | 39, _, hf => absurd rfl hf | (n + 40), h40, _ => absurd h40 (Nat.not_lt_of_ge (Nat.le_add_left 40 n))
  have hB : ∀ f, f < 40 → (q_bn 5 f).1 ≤ ((([0] : List Int32).getD f 0).toInt) ∧ (([0] : List Int32).getD f 0).toInt ≤ (q_bn 5 f).2 := by decide +kernel
  have y37 : ∀ f, q_rk 5 f ≠ 0 → h < ([q1] : List Nat).getD f 0 := by
    intro f hf
    rcases y_fs5 hf with rfl
    · exact (hq1)
  have y38 : ∀ f, q_rk 5 f ≠ 0 → y_root X21 (([q1] : List Nat).getD f 0) := by
    intro f hf
    rcases y_fs5 hf with rfl
    · exact y26
  try clear y26
  have y39 : ∀ f, q_rk 5 f = 5 → q_ln X21 (q_rf X21 (([q1] : List Nat).getD f 0) 0) = y_rl 5 f := by
    intro f hf
    rcases y_fs5 (show q_rk 5 f ≠ 0 by rw [hf]; decide) with rfl
    · exact absurd hf (by decide)
  have y40 : ∀ f, q_rk 5 f ≠ 0 → ([q1] : List Nat).getD f 0 ≠ h := by
    intro f hf
    rcases y_fs5 hf with rfl
    · exact ((Nat.ne_of_gt hq1))
  have y41 : ∀ f, q_rk 5 f ≠ 0 → q_kd X (([q1] : List Nat).getD f 0) = 0 := by
    intro f hf
    rcases y_fs5 hf with rfl
    · exact hw0.fresh (gg_q1)
  have w36 : q_w X33 σ34 H13 := by
    rw [dX33, dσ34]
    exact w24.add k32 (q_hrk hrk) (fun q => absurd rfl q) (by decide) (fun q => absurd q (by decide)) (q_hB hB (by decide)) (fun q => by rcases q with q | q <;> exact absurd q (by decide)) (q_cfO D28 ⟨rfl, by decide⟩ (show vwCl[4]? = some (RX5, TX5, 1) from rfl) b16 (fun f hf => match f, hf with | 0, _ => rfl | (n + 1), hf => absurd hf (Nat.not_lt_of_ge (Nat.le_add_left 1 n)))) y37 (y_in5 (rf := (fun f => ([q1] : List Nat).getD f 0))) y38 y39 (fun q => absurd q (by decide))
  try clear y39; try clear y38; try clear y37; try clear D28; try clear b16
  have y42 : y_root X33 h := by
    rw [dX33]
    exact (y_root.out w24.1 k32).add y_xg y40
  try clear y40; try clear k32; try clear w24
  have y43 : y_rt X X33 := by
    rw [dX33]
    exact y27.add y_xg y41
  try clear y41; try clear y27
  have k44 : q_kd X33 h = 5 := by rw [dX33]; exact q_xg_h
  have x45 := x31.tr x35 (fun a e => Or.inl e)
  try clear x31
  have k46 := x35.kd k29 (by decide)
  try clear k46
  have hr0 : q_rf X33 h 0 = q1 := by rw [dX33]; exact if_pos rfl
  have hl0 : q_ln X33 (q_rf X33 h 0) = kn := by rw [hr0]; exact (x35.2.2.2.1 q1 (by rw [k29]; decide)).2.1.trans n30
  try clear x35; try clear k29
  exact b_ret E hr hlk S17 x45 k44 ⟨⟨y43, y42⟩, hl0⟩ w36 dX5_init_15

set_option maxRecDepth 100000 in
set_option maxHeartbeats 4000000 in
theorem n_X10 (l : Launch) (D : DW) (X : XW) (σ : ST) (h sz : Nat) : Met l yX10_init (q_ws yX10_init cX10_init 1 none) { frames := 1, cells := 1, slots := 60, locals := 12 } (q_PN D X σ h sz 9 3 (fun k => defaultValue (tyX10 k)) [.ref h]) (q_QN X σ h sz 10 (fun X' σ' => (y_rt X X' ∧ y_root X' h) ∧ σ'.1 h 0 = 0 ∧ σ'.1 h 1 = -1)) 1 60 (q_nw h sz) := by
  refine b_met  (by first | exact rfl | decide +kernel) rfl rfl (Nat.le_of_ble_eq_true rfl) (fun p e s m below meth c E hml hr hlk hnm hsz hD hw0 h00 hob ls hl => ?_)
  subst hsz
  have hxx := E.1
  have hb := E.2.1
  have hl : lv_has ls 1 [(0, .ref h)] := hl
  have hS : va_S (q_nw h s.heap.size) s.heap s.heap [] := va_S.rf
  have hx0 : q_ext (q_nw h s.heap.size) X X σ σ := q_ext.rf
  have hAh : q_nw h s.heap.size h := Or.inl rfl
  have yr0 : y_rt X X := y_rt.rf
  have hlt := t_lt hob
  refine lv_aload_n hxx hb dX10_init_0 rfl (lv_at hl 0 rfl) ?_
  refine W.objInit hxx hb E.2.2.1 (E.2.2.2.1 _ bw_429) (E.2.2.2.1 _ bw_26) (E.2.2.2.1 _ bw_27) rfl (by rw [hml]; exact hl.1) rfl dX10_init_1 (Nat.le_of_ble_eq_true rfl) (Nat.le_of_ble_eq_true rfl) ?_
  refine W.eq (g2 := F0 m 4 ls []) rfl ?_
  refine lv_aload_n hxx hb dX10_init_4 rfl (lv_at hl 0 rfl) ?_
  refine lv_iconst (v := 0) hxx hb dX10_init_5 (by decide) ?_
  refine b_put E hS hAh hnm (f := 0) hob (show vwCl[9]? = some (RX10, TX10, 3) from rfl) q_inX10 tyX10_ok nmX10 (by decide) bw_430 rfl (fun _ => rfl) (tyX10_ok 0 (by decide)) rfl rfl dX10_init_6 (fun H1 locs1 z2 o3 b4 S5 => ?_)
  have w6 : q_w X σ H1 := hw0.kept (fun a ha => o3 a (fun e => ha (by rw [e]; exact h00)))
  try clear o3
  have t7 := t_lt b4
  refine lv_aload_n hxx hb dX10_init_9 rfl (lv_at hl 0 rfl) ?_
  refine lv_iconst (v := (-1)) hxx hb dX10_init_10 (by decide) ?_
  refine b_put E S5 hAh hnm (f := 1) b4 (show vwCl[9]? = some (RX10, TX10, 3) from rfl) q_inX10 tyX10_ok nmX10 (by decide) bw_432 rfl (fun _ => rfl) (tyX10_ok 1 (by decide)) rfl rfl dX10_init_11 (fun H8 locs1 z9 o10 b11 S12 => ?_)
  try clear S5; try clear b4
  have w13 : q_w X σ H8 := w6.kept (fun a ha => o10 a (fun e => ha (by rw [e]; exact h00)))
  try clear o10; try clear w6
  have t14 := t_lt b11
  try clear t7
  refine lv_aload_n hxx hb dX10_init_14 rfl (lv_at hl 0 rfl) ?_
  refine lv_bipush (v := 60) hxx hb dX10_init_15 (by decide) ?_
  refine b_newa E S12 bw_441 (t := 2) rfl (fun _ _ => rfl) (N' := 60) (by decide) (by decide) (by decide) (Nat.le_of_ble_eq_true rfl) (Nat.le_of_ble_eq_true rfl) dX10_init_17 (fun q15 H16 e17 z18 o19 r20 S21 => ?_)
  have hq15 : h < q15 := by first | exact Nat.lt_of_lt_of_eq t14 e17.symm | omega
  have gg_q15 : s.heap.size ≤ q15 := Nat.le_trans S12.1 (Nat.le_of_eq e17.symm)
  have mm_q15 : q15 < H16.size := by rw [z18, e17]; exact Nat.lt_succ_self _
  try clear S12
  have w22 : q_w X σ H16 := w13.kept (fun a ha => o19 a (w13.lt ha))
  have b23 := b11.kept (o19 h t14)
  try clear o19; try clear b11
  have t24 := t_lt b23
  try clear t14
  have k25 : q_kd X q15 = 0 := w13.fresh (Nat.le_of_eq e17.symm)
  try clear w13
  have g26 := S21.1
  refine b_put E S21 hAh hnm (f := 2) b23 (show vwCl[9]? = some (RX10, TX10, 3) from rfl) q_inX10 tyX10_ok nmX10 (by decide) bw_433 rfl (fun _ => rfl) (tyX10_ok 2 (by decide)) rfl rfl dX10_init_19 (fun H27 locs1 z28 o29 b30 S31 => ?_)
  try clear b23; try clear S21
  have w32 : q_w X σ H27 := w22.kept (fun a ha => o29 a (fun e => ha (by rw [e]; exact h00)))
  try clear w22
  have t33 := t_lt b30
  try clear t24
  have r34 := (o29 q15 (by first | exact (Nat.ne_of_gt hq15) | omega)).trans r20
  try clear o29; try clear r20
  have y39 := raw_lt r34
  try clear y39
  obtain ⟨X35, dX35⟩ : ∃ Y, Y = q_xg X q15 21 60 (fun _ => 0) := ⟨_, rfl⟩
  obtain ⟨σ36, dσ36⟩ : ∃ τ, τ = q_sg σ q15 (fun _ => 0) (fun _ => 0) 0 := ⟨_, rfl⟩
  have x37 : q_ext (fun a => a = q15) X X35 σ σ36 := by rw [dX35, dσ36]; exact q_ext.add k25
  have y40 : y_root X35 q15 := by rw [dX35]; exact (y_root.out w32.1 k25).add y_xg (fun f hf => absurd rfl hf)
  have y41 : y_rt X X35 := by rw [dX35]; exact yr0.add y_xg (fun f hf => absurd rfl hf)
  have w38 : q_w X35 σ36 H27 := by
    rw [dX35, dσ36]
    exact w32.add k25 (fun f hf => absurd rfl hf) (fun _ => rfl) (by decide) (fun q => absurd q (by decide)) (fun f => q_inU rfl) (fun q => by rcases q with q | q <;> exact absurd q (by decide)) (q_cfA hD (by decide) (t0 := 2) rfl r34 (fun j => rfl)) (fun f hf => absurd rfl hf) (fun f g hf _ _ => absurd rfl hf) (fun f hf => absurd rfl hf) (fun f hf => absurd (show (0 : Nat) = 5 from hf) (by decide)) (fun q => absurd q (by decide))
  try clear r34; try clear w32; try clear k25; try clear t0
  have D42 : X35.1 = D := x37.1.trans hD
  have k43 : q_kd X35 q15 = 21 := by rw [dX35]; exact q_xg_h
  have n44 : q_ln X35 q15 = 60 := by rw [dX35]; exact if_pos rfl
  have x45 := hx0.tr x37 (fun a e => Or.inr (by rw [e]; exact gg_q15))
  have k46 : q_kd X35 h = 0 := x37.k0 h00 (by first | exact (Nat.ne_of_lt hq15) | (omega))
  try clear x37
  obtain ⟨X47, dX47⟩ : ∃ Y, Y = q_xg X35 h 10 0 (fun f => ([0, 0, q15] : List Nat).getD f 0) := ⟨_, rfl⟩
  obtain ⟨σ48, dσ48⟩ : ∃ τ, τ = q_sg σ36 h (fun f => ([0, (-1), 0] : List Int32).getD f 0) (fun f => ([0, 0, 0] : List Int64).getD f 0) 0 := ⟨_, rfl⟩
  have x49 : q_ext (fun a => a = h) X35 X47 σ36 σ48 := by rw [dX47, dσ48]; exact q_ext.add k46
  have hrk : ∀ f, f < 40 → q_rk 10 f ≠ 0 → q_kd X35 (([0, 0, q15] : List Nat).getD f 0) = q_rk 10 f := fun f h40 hf => match f, h40, hf with | 0, _, hf => absurd rfl hf | 1, _, hf => absurd rfl hf | 2, _, _ => k43 | 3, _, hf => absurd rfl hf | 4, _, hf => absurd rfl hf | 5, _, hf => absurd rfl hf | 6, _, hf => absurd rfl hf | 7, _, hf => absurd rfl hf | 8, _, hf => absurd rfl hf | 9, _, hf => absurd rfl hf | 10, _, hf => absurd rfl hf | 11, _, hf => absurd rfl hf | 12, _, hf => absurd rfl hf | 13, _, hf => absurd rfl hf | 14, _, hf => absurd rfl hf | 15, _, hf => absurd rfl hf | 16, _, hf => absurd rfl hf | 17, _, hf => absurd rfl hf | 18, _, hf => absurd rfl hf | 19, _, hf => absurd rfl hf | 20, _, hf => absurd rfl hf | 21, _, hf => absurd rfl hf | 22, _, hf => absurd rfl hf | 23, _, hf => absurd rfl hf | 24, _, hf => absurd rfl hf | 25, _, hf => absurd rfl hf | 26, _, hf => absurd rfl hf | 27, _, hf => absurd rfl hf | 28, _, hf => absurd rfl hf | 29, _, hf => absurd rfl hf | 30, _, hf => absurd rfl hf | 31, _, hf => absurd rfl hf | 32, _, hf => absurd rfl hf | 33, _, hf => absurd rfl hf | 34, _, hf => absurd rfl hf | 35, _, hf => absurd rfl hf | 36, _, hf => absurd rfl hf | 37, _, hf => absurd rfl hf | 38, _, hf => absurd rfl hf | 39, _, hf => absurd rfl hf | (n + 40), h40, _ => absurd h40 (Nat.not_lt_of_ge (Nat.le_add_left 40 n))
  have hB : ∀ f, f < 40 → (q_bn 10 f).1 ≤ ((([0, (-1), 0] : List Int32).getD f 0).toInt) ∧ (([0, (-1), 0] : List Int32).getD f 0).toInt ≤ (q_bn 10 f).2 := by decide +kernel
  have y51 : ∀ f, q_rk 10 f ≠ 0 → h < ([0, 0, q15] : List Nat).getD f 0 := by
    intro f hf
    rcases y_fs10 hf with rfl
    · exact (hq15)
  have y52 : ∀ f, q_rk 10 f ≠ 0 → y_root X35 (([0, 0, q15] : List Nat).getD f 0) := by
    intro f hf
    rcases y_fs10 hf with rfl
    · exact y40
  try clear y40
  have y53 : ∀ f, q_rk 10 f = 5 → q_ln X35 (q_rf X35 (([0, 0, q15] : List Nat).getD f 0) 0) = y_rl 10 f := by
    intro f hf
    rcases y_fs10 (show q_rk 10 f ≠ 0 by rw [hf]; decide) with rfl
    · exact absurd hf (by decide)
  have y54 : ∀ f, q_rk 10 f ≠ 0 → ([0, 0, q15] : List Nat).getD f 0 ≠ h := by
    intro f hf
    rcases y_fs10 hf with rfl
    · exact ((Nat.ne_of_gt hq15))
  have y55 : ∀ f, q_rk 10 f ≠ 0 → q_kd X (([0, 0, q15] : List Nat).getD f 0) = 0 := by
    intro f hf
    rcases y_fs10 hf with rfl
    · exact hw0.fresh (gg_q15)
  have hIV : ∀ f, f < 60 → ([0, (-1), 0] : List Int32).getD f 0 = y_iv 10 f ∧ ([0, 0, 0] : List Int64).getD f 0 = y_il 10 f := by decide +kernel
  have w50 : q_w X47 σ48 H27 := by
    rw [dX47, dσ48]
    exact w38.add k46 (q_hrk hrk) (fun q => absurd rfl q) (by decide) (fun q => absurd q (by decide)) (q_hB hB (by decide)) (fun q => by rcases q with q | q <;> exact absurd q (by decide)) (q_cfO D42 ⟨rfl, by decide⟩ (show vwCl[9]? = some (RX10, TX10, 3) from rfl) b30 (fun f hf => match f, hf with | 0, _ => rfl | 1, _ => rfl | 2, _ => rfl | (n + 3), hf => absurd hf (Nat.not_lt_of_ge (Nat.le_add_left 3 n)))) y51 (y_in10 (rf := (fun f => ([0, 0, q15] : List Nat).getD f 0))) y52 y53 (fun _ f hf => hIV f (hf.resolve_left (by decide)))
  try clear y53; try clear y52; try clear y51; try clear D42; try clear b30
  have y56 : y_root X47 h := by
    rw [dX47]
    exact (y_root.out w38.1 k46).add y_xg y54
  try clear y54; try clear k46; try clear w38
  have y57 : y_rt X X47 := by
    rw [dX47]
    exact y41.add y_xg y55
  try clear y55; try clear y41
  have k58 : q_kd X47 h = 10 := by rw [dX47]; exact q_xg_h
  have x59 := x45.tr x49 (fun a e => Or.inl e)
  try clear x45
  have k60 := x49.kd k43 (by decide)
  try clear k60; try clear x49; try clear k43
  exact b_ret E hr hlk S31 x59 k58 ⟨⟨y57, y56⟩, ⟨by rw [dσ48]; exact if_pos rfl, by rw [dσ48]; exact if_pos rfl⟩⟩ w50 dX10_init_22

set_option maxRecDepth 100000 in
set_option maxHeartbeats 4000000 in
theorem n_X6 (l : Launch) (D : DW) (X : XW) (σ : ST) (h sz : Nat) : Met l yX6_init (q_ws yX6_init cX6_init 1 none) { frames := 2, cells := 6, slots := 67, locals := 45 } (q_PN D X σ h sz 5 8 (fun k => defaultValue (tyX6 k)) [.ref h]) (q_QN X σ h sz 6 (fun X' _ => (y_rt X X' ∧ y_root X' h) ∧ True)) 6 67 (q_nw h sz) := by
  refine b_met  (by first | exact rfl | decide +kernel) rfl rfl (Nat.le_of_ble_eq_true rfl) (fun p e s m below meth c E hml hr hlk hnm hsz hD hw0 h00 hob ls hl => ?_)
  subst hsz
  have hxx := E.1
  have hb := E.2.1
  have hl : lv_has ls 1 [(0, .ref h)] := hl
  have hS : va_S (q_nw h s.heap.size) s.heap s.heap [] := va_S.rf
  have hx0 : q_ext (q_nw h s.heap.size) X X σ σ := q_ext.rf
  have hAh : q_nw h s.heap.size h := Or.inl rfl
  have yr0 : y_rt X X := y_rt.rf
  have hlt := t_lt hob
  refine lv_aload_n hxx hb dX6_init_0 rfl (lv_at hl 0 rfl) ?_
  refine W.objInit hxx hb E.2.2.1 (E.2.2.2.1 _ bw_41) (E.2.2.2.1 _ bw_26) (E.2.2.2.1 _ bw_27) rfl (by rw [hml]; exact hl.1) rfl dX6_init_1 (Nat.le_of_ble_eq_true rfl) (Nat.le_of_ble_eq_true rfl) ?_
  refine W.eq (g2 := F0 m 4 ls []) rfl ?_
  refine lv_aload_n hxx hb dX6_init_4 rfl (lv_at hl 0 rfl) ?_
  refine lv_iconst (v := 2) hxx hb dX6_init_5 (by decide) ?_
  refine b_put E hS hAh hnm (f := 0) hob (show vwCl[5]? = some (RX6, TX6, 8) from rfl) q_inX6 tyX6_ok nmX6 (by decide) bw_57 rfl (fun _ => rfl) (tyX6_ok 0 (by decide)) rfl rfl dX6_init_6 (fun H1 locs1 z2 o3 b4 S5 => ?_)
  have w6 : q_w X σ H1 := hw0.kept (fun a ha => o3 a (fun e => ha (by rw [e]; exact h00)))
  try clear o3
  have t7 := t_lt b4
  refine lv_aload_n hxx hb dX6_init_9 rfl (lv_at hl 0 rfl) ?_
  refine lv_iconst (v := 1) hxx hb dX6_init_10 (by decide) ?_
  refine b_put E S5 hAh hnm (f := 1) b4 (show vwCl[5]? = some (RX6, TX6, 8) from rfl) q_inX6 tyX6_ok nmX6 (by decide) bw_62 rfl (fun _ => rfl) (tyX6_ok 1 (by decide)) rfl rfl dX6_init_11 (fun H8 locs1 z9 o10 b11 S12 => ?_)
  try clear S5; try clear b4
  have w13 : q_w X σ H8 := w6.kept (fun a ha => o10 a (fun e => ha (by rw [e]; exact h00)))
  try clear o10; try clear w6
  have t14 := t_lt b11
  try clear t7
  refine lv_aload_n hxx hb dX6_init_14 rfl (lv_at hl 0 rfl) ?_
  refine lv_iconst (v := 0) hxx hb dX6_init_15 (by decide) ?_
  refine b_put E S12 hAh hnm (f := 2) b11 (show vwCl[5]? = some (RX6, TX6, 8) from rfl) q_inX6 tyX6_ok nmX6 (by decide) bw_65 rfl (fun _ => rfl) (tyX6_ok 2 (by decide)) rfl rfl dX6_init_16 (fun H15 locs1 z16 o17 b18 S19 => ?_)
  try clear S12; try clear b11
  have w20 : q_w X σ H15 := w13.kept (fun a ha => o17 a (fun e => ha (by rw [e]; exact h00)))
  try clear o17; try clear w13
  have t21 := t_lt b18
  try clear t14
  refine lv_aload_n hxx hb dX6_init_19 rfl (lv_at hl 0 rfl) ?_
  refine lv_iconst (v := 4) hxx hb dX6_init_20 (by decide) ?_
  refine b_put E S19 hAh hnm (f := 3) b18 (show vwCl[5]? = some (RX6, TX6, 8) from rfl) q_inX6 tyX6_ok nmX6 (by decide) bw_68 rfl (fun _ => rfl) (tyX6_ok 3 (by decide)) rfl rfl dX6_init_21 (fun H22 locs1 z23 o24 b25 S26 => ?_)
  try clear S19; try clear b18
  have w27 : q_w X σ H22 := w20.kept (fun a ha => o24 a (fun e => ha (by rw [e]; exact h00)))
  try clear o24; try clear w20
  have t28 := t_lt b25
  try clear t21
  refine lv_aload_n hxx hb dX6_init_24 rfl (lv_at hl 0 rfl) ?_
  refine lv_iconst (v := 0) hxx hb dX6_init_25 (by decide) ?_
  refine b_put E S26 hAh hnm (f := 4) b25 (show vwCl[5]? = some (RX6, TX6, 8) from rfl) q_inX6 tyX6_ok nmX6 (by decide) bw_73 rfl (fun _ => rfl) (tyX6_ok 4 (by decide)) rfl rfl dX6_init_26 (fun H29 locs1 z30 o31 b32 S33 => ?_)
  try clear S26; try clear b25
  have w34 : q_w X σ H29 := w27.kept (fun a ha => o31 a (fun e => ha (by rw [e]; exact h00)))
  try clear o31; try clear w27
  have t35 := t_lt b32
  try clear t28
  refine lv_aload_n hxx hb dX6_init_29 rfl (lv_at hl 0 rfl) ?_
  refine b_new E S33 bw_42 bw_43 bw_4 (show vwCl[4]? = some (RX5, TX5, 1) from rfl) q_inX5 tyX5 tyX5_ok (Nat.le_of_ble_eq_true rfl) (Nat.le_of_ble_eq_true rfl) dX6_init_30 (fun q36 H37 e38 z39 o40 b41 S42 => ?_)
  have hq36 : h < q36 := by first | exact Nat.lt_of_lt_of_eq t35 e38.symm | omega
  have gg_q36 : s.heap.size ≤ q36 := Nat.le_trans S33.1 (Nat.le_of_eq e38.symm)
  have mm_q36 : q36 < H37.size := by rw [z39, e38]; exact Nat.lt_succ_self _
  try clear S33
  have w43 : q_w X σ H37 := w34.kept (fun a ha => o40 a (w34.lt ha))
  have b44 := b32.kept (o40 h t35)
  try clear o40; try clear b32
  have t45 := t_lt b44
  try clear t35
  have k46 : q_kd X q36 = 0 := w34.fresh (Nat.le_of_eq e38.symm)
  try clear w34
  have g47 := S42.1
  refine lv_dup hxx hb dX6_init_33 rfl ?_
  refine lv_bipush (v := 10) hxx hb dX6_init_34 (by decide) ?_
  have a58 : ∀ a, q_nw q36 H37.size a → q_nw h s.heap.size a := nw_in gg_q36 (Nat.le_trans gg_q36 (Nat.le_of_lt mm_q36))
  refine b_cv (b_runI (As := [.int 10]) (rest := [.ref q36, .ref h]) E (hml.trans hl.1.symm) hD w43 k46 b41 rfl (n_X5 l D X σ q36 H37.size 10 10 (by decide) (by decide) (by decide)) bi_X6_29 rfl ⟨Nat.le_of_ble_eq_true rfl, Nat.le_of_ble_eq_true rfl⟩ ⟨Nat.le_of_ble_eq_true rfl, Nat.le_of_ble_eq_true rfl⟩ rfl (Nat.le_of_ble_eq_true rfl) dX6_init_36) S42 rfl a58 (fun X48 σ49 H50 locs1 x51 k52 p53 w54 z55 o56 S57 => ?_)
  try clear k46; try clear w43; try clear S42; try clear b41
  have D59 : X48.1 = D := x51.1.trans hD
  have k60 : q_kd X48 h = 0 := x51.k0 h00 (by first | exact (nw_no hq36 (Nat.lt_trans hq36 mm_q36)) | (rintro (e | e) <;> omega))
  have b61 := b44.kept (o56 h t45 (by first | exact (Nat.ne_of_lt hq36) | omega))
  try clear o56; try clear b44
  have t62 := t_lt b61
  try clear t45
  have y63 := yr0.tr p53.1.1 (fun c hc => by rw [(hx0.2.2.2.1 c hc).1]; exact hc)
  have x64 := hx0.tr x51 a58
  try clear x51
  have y65 := p53.1.2
  have y66 := p53.2
  try clear p53
  refine b_put E S57 hAh hnm (f := 5) b61 (show vwCl[5]? = some (RX6, TX6, 8) from rfl) q_inX6 tyX6_ok nmX6 (by decide) bw_78 rfl (fun _ => rfl) (tyX6_ok 5 (by decide)) rfl rfl dX6_init_39 (fun H67 locs1 z68 o69 b70 S71 => ?_)
  try clear b61; try clear S57
  have w72 : q_w X48 σ49 H67 := w54.kept (fun a ha => o69 a (fun e => ha (by rw [e]; exact k60)))
  try clear o69; try clear w54
  have t73 := t_lt b70
  try clear t62
  refine lv_aload_n hxx hb dX6_init_42 rfl (lv_at hl 0 rfl) ?_
  refine b_new E S71 bw_42 bw_43 bw_4 (show vwCl[4]? = some (RX5, TX5, 1) from rfl) q_inX5 tyX5 tyX5_ok (Nat.le_of_ble_eq_true rfl) (Nat.le_of_ble_eq_true rfl) dX6_init_43 (fun q74 H75 e76 z77 o78 b79 S80 => ?_)
  have hq74 : h < q74 := by first | exact Nat.lt_of_lt_of_eq t73 e76.symm | omega
  have gg_q74 : s.heap.size ≤ q74 := Nat.le_trans S71.1 (Nat.le_of_eq e76.symm)
  have mm_q74 : q74 < H75.size := by rw [z77, e76]; exact Nat.lt_succ_self _
  have cc_q74 : q36 < q74 := by first | exact Nat.lt_of_lt_of_eq (Nat.lt_of_lt_of_le (Nat.lt_of_lt_of_le mm_q36 z55) (Nat.le_of_eq z68.symm)) e76.symm | omega
  try clear S71
  have w81 : q_w X48 σ49 H75 := w72.kept (fun a ha => o78 a (w72.lt ha))
  have b82 := b70.kept (o78 h t73)
  try clear o78; try clear b70
  have t83 := t_lt b82
  try clear t73
  have k84 : q_kd X48 q74 = 0 := w72.fresh (Nat.le_of_eq e76.symm)
  try clear w72
  have g85 := S80.1
  refine lv_dup hxx hb dX6_init_46 rfl ?_
  refine lv_bipush (v := 48) hxx hb dX6_init_47 (by decide) ?_
  have a96 : ∀ a, q_nw q74 H75.size a → q_nw h s.heap.size a := nw_in gg_q74 (Nat.le_trans gg_q74 (Nat.le_of_lt mm_q74))
  refine b_cv (b_runI (As := [.int 48]) (rest := [.ref q74, .ref h]) E (hml.trans hl.1.symm) D59 w81 k84 b79 rfl (n_X5 l D X48 σ49 q74 H75.size 48 48 (by decide) (by decide) (by decide)) bi_X6_29 rfl ⟨Nat.le_of_ble_eq_true rfl, Nat.le_of_ble_eq_true rfl⟩ ⟨Nat.le_of_ble_eq_true rfl, Nat.le_of_ble_eq_true rfl⟩ rfl (Nat.le_of_ble_eq_true rfl) dX6_init_49) S80 rfl a96 (fun X86 σ87 H88 locs1 x89 k90 p91 w92 z93 o94 S95 => ?_)
  try clear k84; try clear S80; try clear b79
  have D97 : X86.1 = D := x89.1.trans D59
  try clear D59
  have k98 : q_kd X86 h = 0 := x89.k0 k60 (by first | exact (nw_no hq74 (Nat.lt_trans hq74 mm_q74)) | (rintro (e | e) <;> omega))
  try clear k60
  have b99 := b82.kept (o94 h t83 (by first | exact (Nat.ne_of_lt hq74) | omega))
  try clear o94; try clear b82
  have t100 := t_lt b99
  try clear t83
  have y101 := y63.tr p91.1.1 (fun c hc => by rw [(x64.2.2.2.1 c hc).1]; exact hc)
  try clear y63
  have x102 := x64.tr x89 a96
  try clear x64
  have k103 := x89.kd k52 (by decide)
  have y104 := p91.1.1 q36 (by rw [k52]; decide) y65
  try clear y65
  have y105 := y_rlx x89 w81.1 k52 y66
  try clear x89; try clear w81; try clear y66; try clear k52
  have y106 := p91.1.2
  have y107 := p91.2
  try clear p91
  refine b_put E S95 hAh hnm (f := 6) b99 (show vwCl[5]? = some (RX6, TX6, 8) from rfl) q_inX6 tyX6_ok nmX6 (by decide) bw_82 rfl (fun _ => rfl) (tyX6_ok 6 (by decide)) rfl rfl dX6_init_52 (fun H108 locs1 z109 o110 b111 S112 => ?_)
  try clear b99; try clear S95
  have w113 : q_w X86 σ87 H108 := w92.kept (fun a ha => o110 a (fun e => ha (by rw [e]; exact k98)))
  try clear o110; try clear w92
  have t114 := t_lt b111
  try clear t100
  refine lv_aload_n hxx hb dX6_init_55 rfl (lv_at hl 0 rfl) ?_
  refine b_new E S112 bw_42 bw_43 bw_4 (show vwCl[4]? = some (RX5, TX5, 1) from rfl) q_inX5 tyX5 tyX5_ok (Nat.le_of_ble_eq_true rfl) (Nat.le_of_ble_eq_true rfl) dX6_init_56 (fun q115 H116 e117 z118 o119 b120 S121 => ?_)
  have hq115 : h < q115 := by first | exact Nat.lt_of_lt_of_eq t114 e117.symm | omega
  have gg_q115 : s.heap.size ≤ q115 := Nat.le_trans S112.1 (Nat.le_of_eq e117.symm)
  have mm_q115 : q115 < H116.size := by rw [z118, e117]; exact Nat.lt_succ_self _
  have cc_q115 : q74 < q115 := by first | exact Nat.lt_of_lt_of_eq (Nat.lt_of_lt_of_le (Nat.lt_of_lt_of_le mm_q74 z93) (Nat.le_of_eq z109.symm)) e117.symm | omega
  try clear S112
  have w122 : q_w X86 σ87 H116 := w113.kept (fun a ha => o119 a (w113.lt ha))
  have b123 := b111.kept (o119 h t114)
  try clear o119; try clear b111
  have t124 := t_lt b123
  try clear t114
  have k125 : q_kd X86 q115 = 0 := w113.fresh (Nat.le_of_eq e117.symm)
  try clear w113
  have g126 := S121.1
  refine lv_dup hxx hb dX6_init_59 rfl ?_
  refine lv_bipush (v := 6) hxx hb dX6_init_60 (by decide) ?_
  have a137 : ∀ a, q_nw q115 H116.size a → q_nw h s.heap.size a := nw_in gg_q115 (Nat.le_trans gg_q115 (Nat.le_of_lt mm_q115))
  refine b_cv (b_runI (As := [.int 6]) (rest := [.ref q115, .ref h]) E (hml.trans hl.1.symm) D97 w122 k125 b120 rfl (n_X5 l D X86 σ87 q115 H116.size 6 6 (by decide) (by decide) (by decide)) bi_X6_29 rfl ⟨Nat.le_of_ble_eq_true rfl, Nat.le_of_ble_eq_true rfl⟩ ⟨Nat.le_of_ble_eq_true rfl, Nat.le_of_ble_eq_true rfl⟩ rfl (Nat.le_of_ble_eq_true rfl) dX6_init_62) S121 rfl a137 (fun X127 σ128 H129 locs1 x130 k131 p132 w133 z134 o135 S136 => ?_)
  try clear k125; try clear S121; try clear b120
  have D138 : X127.1 = D := x130.1.trans D97
  try clear D97
  have k139 : q_kd X127 h = 0 := x130.k0 k98 (by first | exact (nw_no hq115 (Nat.lt_trans hq115 mm_q115)) | (rintro (e | e) <;> omega))
  try clear k98
  have b140 := b123.kept (o135 h t124 (by first | exact (Nat.ne_of_lt hq115) | omega))
  try clear o135; try clear b123
  have t141 := t_lt b140
  try clear t124
  have y142 := y101.tr p132.1.1 (fun c hc => by rw [(x102.2.2.2.1 c hc).1]; exact hc)
  try clear y101
  have x143 := x102.tr x130 a137
  try clear x102
  have k144 := x130.kd k103 (by decide)
  have k145 := x130.kd k90 (by decide)
  have y146 := p132.1.1 q36 (by rw [k103]; decide) y104
  try clear y104
  have y147 := p132.1.1 q74 (by rw [k90]; decide) y106
  try clear y106
  have y148 := y_rlx x130 w122.1 k103 y105
  try clear y105; try clear k103
  have y149 := y_rlx x130 w122.1 k90 y107
  try clear x130; try clear w122; try clear y107; try clear k90
  have y150 := p132.1.2
  have y151 := p132.2
  try clear p132
  refine b_put E S136 hAh hnm (f := 7) b140 (show vwCl[5]? = some (RX6, TX6, 8) from rfl) q_inX6 tyX6_ok nmX6 (by decide) bw_83 rfl (fun _ => rfl) (tyX6_ok 7 (by decide)) rfl rfl dX6_init_65 (fun H152 locs1 z153 o154 b155 S156 => ?_)
  try clear b140; try clear S136
  have w157 : q_w X127 σ128 H152 := w133.kept (fun a ha => o154 a (fun e => ha (by rw [e]; exact k139)))
  try clear o154; try clear w133
  have t158 := t_lt b155
  try clear t141
  obtain ⟨X159, dX159⟩ : ∃ Y, Y = q_xg X127 h 6 0 (fun f => ([0, 0, 0, 0, 0, q36, q74, q115] : List Nat).getD f 0) := ⟨_, rfl⟩
  obtain ⟨σ160, dσ160⟩ : ∃ τ, τ = q_sg σ128 h (fun f => ([2, 1, 0, 4, 0, 0, 0, 0] : List Int32).getD f 0) (fun f => ([0, 0, 0, 0, 0, 0, 0, 0] : List Int64).getD f 0) 0 := ⟨_, rfl⟩
  have x161 : q_ext (fun a => a = h) X127 X159 σ128 σ160 := by rw [dX159, dσ160]; exact q_ext.add k139
  have hrk : ∀ f, f < 40 → q_rk 6 f ≠ 0 → q_kd X127 (([0, 0, 0, 0, 0, q36, q74, q115] : List Nat).getD f 0) = q_rk 6 f := fun f h40 hf => match f, h40, hf with | 0, _, hf => absurd rfl hf | 1, _, hf => absurd rfl hf | 2, _, hf => absurd rfl hf | 3, _, hf => absurd rfl hf | 4, _, hf => absurd rfl hf | 5, _, _ => k144 | 6, _, _ => k145 | 7, _, _ => k131 | 8, _, hf => absurd rfl hf | 9, _, hf => absurd rfl hf | 10, _, hf => absurd rfl hf | 11, _, hf => absurd rfl hf | 12, _, hf => absurd rfl hf | 13, _, hf => absurd rfl hf | 14, _, hf => absurd rfl hf | 15, _, hf => absurd rfl hf | 16, _, hf => absurd rfl hf | 17, _, hf => absurd rfl hf | 18, _, hf => absurd rfl hf | 19, _, hf => absurd rfl hf | 20, _, hf => absurd rfl hf | 21, _, hf => absurd rfl hf | 22, _, hf => absurd rfl hf | 23, _, hf => absurd rfl hf | 24, _, hf => absurd rfl hf | 25, _, hf => absurd rfl hf | 26, _, hf => absurd rfl hf | 27, _, hf => absurd rfl hf | 28, _, hf => absurd rfl hf | 29, _, hf => absurd rfl hf | 30, _, hf => absurd rfl hf | 31, _, hf => absurd rfl hf | 32, _, hf => absurd rfl hf | 33, _, hf => absurd rfl hf | 34, _, hf => absurd rfl hf | 35, _, hf => absurd rfl hf | 36, _, hf => absurd rfl hf | 37, _, hf => absurd rfl hf | 38, _, hf => absurd rfl hf | 39, _, hf => absurd rfl hf | (n + 40), h40, _ => absurd h40 (Nat.not_lt_of_ge (Nat.le_add_left 40 n))
  have hB : ∀ f, f < 40 → (q_bn 6 f).1 ≤ ((([2, 1, 0, 4, 0, 0, 0, 0] : List Int32).getD f 0).toInt) ∧ (([2, 1, 0, 4, 0, 0, 0, 0] : List Int32).getD f 0).toInt ≤ (q_bn 6 f).2 := by decide +kernel
  have y163 : ∀ f, q_rk 6 f ≠ 0 → h < ([0, 0, 0, 0, 0, q36, q74, q115] : List Nat).getD f 0 := by
    intro f hf
    rcases y_fs6 hf with rfl | rfl | rfl
    · exact (hq36)
    · exact (hq74)
    · exact (hq115)
  have y164 : ∀ f, q_rk 6 f ≠ 0 → y_root X127 (([0, 0, 0, 0, 0, q36, q74, q115] : List Nat).getD f 0) := by
    intro f hf
    rcases y_fs6 hf with rfl | rfl | rfl
    · exact y146
    · exact y147
    · exact y150
  try clear y150; try clear y147; try clear y146
  have y165 : ∀ f, q_rk 6 f = 5 → q_ln X127 (q_rf X127 (([0, 0, 0, 0, 0, q36, q74, q115] : List Nat).getD f 0) 0) = y_rl 6 f := by
    intro f hf
    rcases y_fs6 (show q_rk 6 f ≠ 0 by rw [hf]; decide) with rfl | rfl | rfl
    · exact y148
    · exact y149
    · exact y151
  have y166 : ∀ f, q_rk 6 f ≠ 0 → ([0, 0, 0, 0, 0, q36, q74, q115] : List Nat).getD f 0 ≠ h := by
    intro f hf
    rcases y_fs6 hf with rfl | rfl | rfl
    · exact ((Nat.ne_of_gt hq36))
    · exact ((Nat.ne_of_gt hq74))
    · exact ((Nat.ne_of_gt hq115))
  have y167 : ∀ f, q_rk 6 f ≠ 0 → q_kd X (([0, 0, 0, 0, 0, q36, q74, q115] : List Nat).getD f 0) = 0 := by
    intro f hf
    rcases y_fs6 hf with rfl | rfl | rfl
    · exact hw0.fresh (gg_q36)
    · exact hw0.fresh (gg_q74)
    · exact hw0.fresh (gg_q115)
  have hIV : ∀ f, f < 60 → ([2, 1, 0, 4, 0, 0, 0, 0] : List Int32).getD f 0 = y_iv 6 f ∧ ([0, 0, 0, 0, 0, 0, 0, 0] : List Int64).getD f 0 = y_il 6 f := by decide +kernel
  have w162 : q_w X159 σ160 H152 := by
    rw [dX159, dσ160]
    exact w157.add k139 (q_hrk hrk) (fun q => absurd rfl q) (by decide) (fun q => absurd q (by decide)) (q_hB hB (by decide)) (fun q => by rcases q with q | q <;> exact absurd q (by decide)) (q_cfO D138 ⟨rfl, by decide⟩ (show vwCl[5]? = some (RX6, TX6, 8) from rfl) b155 (fun f hf => match f, hf with | 0, _ => rfl | 1, _ => rfl | 2, _ => rfl | 3, _ => rfl | 4, _ => rfl | 5, _ => rfl | 6, _ => rfl | 7, _ => rfl | (n + 8), hf => absurd hf (Nat.not_lt_of_ge (Nat.le_add_left 8 n)))) y163 (y_in6 (rf := (fun f => ([0, 0, 0, 0, 0, q36, q74, q115] : List Nat).getD f 0)) (show q36 < q74 from cc_q74) (show q74 < q115 from cc_q115)) y164 y165 (fun _ f hf => hIV f (hf.resolve_left (by decide)))
  try clear y165; try clear y164; try clear y163; try clear b155; try clear D138
  have y168 : y_root X159 h := by
    rw [dX159]
    exact (y_root.out w157.1 k139).add y_xg y166
  try clear y166; try clear k139
  have y169 : y_rt X X159 := by
    rw [dX159]
    exact y142.add y_xg y167
  try clear y167; try clear y142
  have k170 : q_kd X159 h = 6 := by rw [dX159]; exact q_xg_h
  have x171 := x143.tr x161 (fun a e => Or.inl e)
  try clear x143
  have y172 := y_rlx x161 w157.1 k144 y148
  try clear y172; try clear y148
  have y173 := y_rlx x161 w157.1 k145 y149
  try clear y173; try clear y149
  have y174 := y_rlx x161 w157.1 k131 y151
  try clear y174; try clear w157; try clear y151
  have k175 := x161.kd k144 (by decide)
  try clear k175; try clear k144
  have k176 := x161.kd k145 (by decide)
  try clear k176; try clear k145
  have k177 := x161.kd k131 (by decide)
  try clear k177; try clear x161; try clear k131
  exact b_ret E hr hlk S156 x171 k170 ⟨⟨y169, y168⟩, trivial⟩ w162 dX6_init_68

set_option maxRecDepth 100000 in
set_option maxHeartbeats 4000000 in
theorem n_X1 (l : Launch) (D : DW) (X : XW) (σ : ST) (h sz : Nat) : Met l yX1_init (q_ws yX1_init cX1_init 1 none) { frames := 2, cells := 14, slots := 157, locals := 45 } (q_PN D X σ h sz 1 7 (fun k => defaultValue (tyX1 k)) [.ref h]) (q_QN X σ h sz 2 (fun X' _ => (y_rt X X' ∧ y_root X' h) ∧ True)) 14 157 (q_nw h sz) := by
  refine b_met  (by first | exact rfl | decide +kernel) rfl rfl (Nat.le_of_ble_eq_true rfl) (fun p e s m below meth c E hml hr hlk hnm hsz hD hw0 h00 hob ls hl => ?_)
  subst hsz
  have hxx := E.1
  have hb := E.2.1
  have hl : lv_has ls 1 [(0, .ref h)] := hl
  have hS : va_S (q_nw h s.heap.size) s.heap s.heap [] := va_S.rf
  have hx0 : q_ext (q_nw h s.heap.size) X X σ σ := q_ext.rf
  have hAh : q_nw h s.heap.size h := Or.inl rfl
  have yr0 : y_rt X X := y_rt.rf
  have hlt := t_lt hob
  refine lv_aload_n hxx hb dX1_init_0 rfl (lv_at hl 0 rfl) ?_
  refine W.objInit hxx hb E.2.2.1 (E.2.2.2.1 _ bw_106) (E.2.2.2.1 _ bw_26) (E.2.2.2.1 _ bw_27) rfl (by rw [hml]; exact hl.1) rfl dX1_init_1 (Nat.le_of_ble_eq_true rfl) (Nat.le_of_ble_eq_true rfl) ?_
  refine W.eq (g2 := F0 m 4 ls []) rfl ?_
  refine lv_aload_n hxx hb dX1_init_4 rfl (lv_at hl 0 rfl) ?_
  refine b_new E hS bw_107 bw_43 bw_4 (show vwCl[4]? = some (RX5, TX5, 1) from rfl) q_inX5 tyX5 tyX5_ok (Nat.le_of_ble_eq_true rfl) (Nat.le_of_ble_eq_true rfl) dX1_init_5 (fun q1 H2 e3 z4 o5 b6 S7 => ?_)
  have hq1 : h < q1 := by first | exact Nat.lt_of_lt_of_eq hlt e3.symm | omega
  have gg_q1 : s.heap.size ≤ q1 := Nat.le_trans hS.1 (Nat.le_of_eq e3.symm)
  have mm_q1 : q1 < H2.size := by rw [z4, e3]; exact Nat.lt_succ_self _
  have w8 : q_w X σ H2 := hw0.kept (fun a ha => o5 a (hw0.lt ha))
  have b9 := hob.kept (o5 h hlt)
  try clear o5
  have t10 := t_lt b9
  have k11 : q_kd X q1 = 0 := hw0.fresh (Nat.le_of_eq e3.symm)
  have g12 := S7.1
  refine lv_dup hxx hb dX1_init_8 rfl ?_
  refine lv_bipush (v := 60) hxx hb dX1_init_9 (by decide) ?_
  have a23 : ∀ a, q_nw q1 H2.size a → q_nw h s.heap.size a := nw_in gg_q1 (Nat.le_trans gg_q1 (Nat.le_of_lt mm_q1))
  refine b_cv (b_runI (As := [.int 60]) (rest := [.ref q1, .ref h]) E (hml.trans hl.1.symm) hD w8 k11 b6 rfl (n_X5 l D X σ q1 H2.size 60 60 (by decide) (by decide) (by decide)) bi_X1_11 rfl ⟨Nat.le_of_ble_eq_true rfl, Nat.le_of_ble_eq_true rfl⟩ ⟨Nat.le_of_ble_eq_true rfl, Nat.le_of_ble_eq_true rfl⟩ rfl (Nat.le_of_ble_eq_true rfl) dX1_init_11) S7 rfl a23 (fun X13 σ14 H15 locs1 x16 k17 p18 w19 z20 o21 S22 => ?_)
  try clear k11; try clear w8; try clear S7; try clear b6
  have D24 : X13.1 = D := x16.1.trans hD
  have k25 : q_kd X13 h = 0 := x16.k0 h00 (by first | exact (nw_no hq1 (Nat.lt_trans hq1 mm_q1)) | (rintro (e | e) <;> omega))
  have b26 := b9.kept (o21 h t10 (by first | exact (Nat.ne_of_lt hq1) | omega))
  try clear o21; try clear b9
  have t27 := t_lt b26
  try clear t10
  have y28 := yr0.tr p18.1.1 (fun c hc => by rw [(hx0.2.2.2.1 c hc).1]; exact hc)
  have x29 := hx0.tr x16 a23
  try clear x16
  have y30 := p18.1.2
  have y31 := p18.2
  try clear p18
  refine b_put E S22 hAh hnm (f := 0) b26 (show vwCl[1]? = some (RX1, TX1, 7) from rfl) q_inX1 tyX1_ok nmX1 (by decide) bw_109 rfl (fun _ => rfl) (tyX1_ok 0 (by decide)) rfl rfl dX1_init_14 (fun H32 locs1 z33 o34 b35 S36 => ?_)
  try clear b26; try clear S22
  have w37 : q_w X13 σ14 H32 := w19.kept (fun a ha => o34 a (fun e => ha (by rw [e]; exact k25)))
  try clear o34; try clear w19
  have t38 := t_lt b35
  try clear t27
  refine lv_aload_n hxx hb dX1_init_17 rfl (lv_at hl 0 rfl) ?_
  refine b_new E S36 bw_107 bw_43 bw_4 (show vwCl[4]? = some (RX5, TX5, 1) from rfl) q_inX5 tyX5 tyX5_ok (Nat.le_of_ble_eq_true rfl) (Nat.le_of_ble_eq_true rfl) dX1_init_18 (fun q39 H40 e41 z42 o43 b44 S45 => ?_)
  have hq39 : h < q39 := by first | exact Nat.lt_of_lt_of_eq t38 e41.symm | omega
  have gg_q39 : s.heap.size ≤ q39 := Nat.le_trans S36.1 (Nat.le_of_eq e41.symm)
  have mm_q39 : q39 < H40.size := by rw [z42, e41]; exact Nat.lt_succ_self _
  have cc_q39 : q1 < q39 := by first | exact Nat.lt_of_lt_of_eq (Nat.lt_of_lt_of_le (Nat.lt_of_lt_of_le mm_q1 z20) (Nat.le_of_eq z33.symm)) e41.symm | omega
  try clear S36
  have w46 : q_w X13 σ14 H40 := w37.kept (fun a ha => o43 a (w37.lt ha))
  have b47 := b35.kept (o43 h t38)
  try clear o43; try clear b35
  have t48 := t_lt b47
  try clear t38
  have k49 : q_kd X13 q39 = 0 := w37.fresh (Nat.le_of_eq e41.symm)
  try clear w37
  have g50 := S45.1
  refine lv_dup hxx hb dX1_init_21 rfl ?_
  refine lv_bipush (v := 60) hxx hb dX1_init_22 (by decide) ?_
  have a61 : ∀ a, q_nw q39 H40.size a → q_nw h s.heap.size a := nw_in gg_q39 (Nat.le_trans gg_q39 (Nat.le_of_lt mm_q39))
  refine b_cv (b_runI (As := [.int 60]) (rest := [.ref q39, .ref h]) E (hml.trans hl.1.symm) D24 w46 k49 b44 rfl (n_X5 l D X13 σ14 q39 H40.size 60 60 (by decide) (by decide) (by decide)) bi_X1_11 rfl ⟨Nat.le_of_ble_eq_true rfl, Nat.le_of_ble_eq_true rfl⟩ ⟨Nat.le_of_ble_eq_true rfl, Nat.le_of_ble_eq_true rfl⟩ rfl (Nat.le_of_ble_eq_true rfl) dX1_init_24) S45 rfl a61 (fun X51 σ52 H53 locs1 x54 k55 p56 w57 z58 o59 S60 => ?_)
  try clear k49; try clear S45; try clear b44
  have D62 : X51.1 = D := x54.1.trans D24
  try clear D24
  have k63 : q_kd X51 h = 0 := x54.k0 k25 (by first | exact (nw_no hq39 (Nat.lt_trans hq39 mm_q39)) | (rintro (e | e) <;> omega))
  try clear k25
  have b64 := b47.kept (o59 h t48 (by first | exact (Nat.ne_of_lt hq39) | omega))
  try clear o59; try clear b47
  have t65 := t_lt b64
  try clear t48
  have y66 := y28.tr p56.1.1 (fun c hc => by rw [(x29.2.2.2.1 c hc).1]; exact hc)
  try clear y28
  have x67 := x29.tr x54 a61
  try clear x29
  have k68 := x54.kd k17 (by decide)
  have y69 := p56.1.1 q1 (by rw [k17]; decide) y30
  try clear y30
  have y70 := y_rlx x54 w46.1 k17 y31
  try clear x54; try clear w46; try clear y31; try clear k17
  have y71 := p56.1.2
  have y72 := p56.2
  try clear p56
  refine b_put E S60 hAh hnm (f := 1) b64 (show vwCl[1]? = some (RX1, TX1, 7) from rfl) q_inX1 tyX1_ok nmX1 (by decide) bw_110 rfl (fun _ => rfl) (tyX1_ok 1 (by decide)) rfl rfl dX1_init_27 (fun H73 locs1 z74 o75 b76 S77 => ?_)
  try clear b64; try clear S60
  have w78 : q_w X51 σ52 H73 := w57.kept (fun a ha => o75 a (fun e => ha (by rw [e]; exact k63)))
  try clear o75; try clear w57
  have t79 := t_lt b76
  try clear t65
  refine lv_aload_n hxx hb dX1_init_30 rfl (lv_at hl 0 rfl) ?_
  refine b_new E S77 bw_107 bw_43 bw_4 (show vwCl[4]? = some (RX5, TX5, 1) from rfl) q_inX5 tyX5 tyX5_ok (Nat.le_of_ble_eq_true rfl) (Nat.le_of_ble_eq_true rfl) dX1_init_31 (fun q80 H81 e82 z83 o84 b85 S86 => ?_)
  have hq80 : h < q80 := by first | exact Nat.lt_of_lt_of_eq t79 e82.symm | omega
  have gg_q80 : s.heap.size ≤ q80 := Nat.le_trans S77.1 (Nat.le_of_eq e82.symm)
  have mm_q80 : q80 < H81.size := by rw [z83, e82]; exact Nat.lt_succ_self _
  have cc_q80 : q39 < q80 := by first | exact Nat.lt_of_lt_of_eq (Nat.lt_of_lt_of_le (Nat.lt_of_lt_of_le mm_q39 z58) (Nat.le_of_eq z74.symm)) e82.symm | omega
  try clear S77
  have w87 : q_w X51 σ52 H81 := w78.kept (fun a ha => o84 a (w78.lt ha))
  have b88 := b76.kept (o84 h t79)
  try clear o84; try clear b76
  have t89 := t_lt b88
  try clear t79
  have k90 : q_kd X51 q80 = 0 := w78.fresh (Nat.le_of_eq e82.symm)
  try clear w78
  have g91 := S86.1
  refine lv_dup hxx hb dX1_init_34 rfl ?_
  refine lv_bipush (v := 6) hxx hb dX1_init_35 (by decide) ?_
  have a102 : ∀ a, q_nw q80 H81.size a → q_nw h s.heap.size a := nw_in gg_q80 (Nat.le_trans gg_q80 (Nat.le_of_lt mm_q80))
  refine b_cv (b_runI (As := [.int 6]) (rest := [.ref q80, .ref h]) E (hml.trans hl.1.symm) D62 w87 k90 b85 rfl (n_X5 l D X51 σ52 q80 H81.size 6 6 (by decide) (by decide) (by decide)) bi_X1_11 rfl ⟨Nat.le_of_ble_eq_true rfl, Nat.le_of_ble_eq_true rfl⟩ ⟨Nat.le_of_ble_eq_true rfl, Nat.le_of_ble_eq_true rfl⟩ rfl (Nat.le_of_ble_eq_true rfl) dX1_init_37) S86 rfl a102 (fun X92 σ93 H94 locs1 x95 k96 p97 w98 z99 o100 S101 => ?_)
  try clear k90; try clear S86; try clear b85
  have D103 : X92.1 = D := x95.1.trans D62
  try clear D62
  have k104 : q_kd X92 h = 0 := x95.k0 k63 (by first | exact (nw_no hq80 (Nat.lt_trans hq80 mm_q80)) | (rintro (e | e) <;> omega))
  try clear k63
  have b105 := b88.kept (o100 h t89 (by first | exact (Nat.ne_of_lt hq80) | omega))
  try clear o100; try clear b88
  have t106 := t_lt b105
  try clear t89
  have y107 := y66.tr p97.1.1 (fun c hc => by rw [(x67.2.2.2.1 c hc).1]; exact hc)
  try clear y66
  have x108 := x67.tr x95 a102
  try clear x67
  have k109 := x95.kd k68 (by decide)
  have k110 := x95.kd k55 (by decide)
  have y111 := p97.1.1 q1 (by rw [k68]; decide) y69
  try clear y69
  have y112 := p97.1.1 q39 (by rw [k55]; decide) y71
  try clear y71
  have y113 := y_rlx x95 w87.1 k68 y70
  try clear y70; try clear k68
  have y114 := y_rlx x95 w87.1 k55 y72
  try clear x95; try clear w87; try clear y72; try clear k55
  have y115 := p97.1.2
  have y116 := p97.2
  try clear p97
  refine b_put E S101 hAh hnm (f := 2) b105 (show vwCl[1]? = some (RX1, TX1, 7) from rfl) q_inX1 tyX1_ok nmX1 (by decide) bw_111 rfl (fun _ => rfl) (tyX1_ok 2 (by decide)) rfl rfl dX1_init_40 (fun H117 locs1 z118 o119 b120 S121 => ?_)
  try clear b105; try clear S101
  have w122 : q_w X92 σ93 H117 := w98.kept (fun a ha => o119 a (fun e => ha (by rw [e]; exact k104)))
  try clear o119; try clear w98
  have t123 := t_lt b120
  try clear t106
  refine lv_aload_n hxx hb dX1_init_43 rfl (lv_at hl 0 rfl) ?_
  refine b_new E S121 bw_107 bw_43 bw_4 (show vwCl[4]? = some (RX5, TX5, 1) from rfl) q_inX5 tyX5 tyX5_ok (Nat.le_of_ble_eq_true rfl) (Nat.le_of_ble_eq_true rfl) dX1_init_44 (fun q124 H125 e126 z127 o128 b129 S130 => ?_)
  have hq124 : h < q124 := by first | exact Nat.lt_of_lt_of_eq t123 e126.symm | omega
  have gg_q124 : s.heap.size ≤ q124 := Nat.le_trans S121.1 (Nat.le_of_eq e126.symm)
  have mm_q124 : q124 < H125.size := by rw [z127, e126]; exact Nat.lt_succ_self _
  have cc_q124 : q80 < q124 := by first | exact Nat.lt_of_lt_of_eq (Nat.lt_of_lt_of_le (Nat.lt_of_lt_of_le mm_q80 z99) (Nat.le_of_eq z118.symm)) e126.symm | omega
  try clear S121
  have w131 : q_w X92 σ93 H125 := w122.kept (fun a ha => o128 a (w122.lt ha))
  have b132 := b120.kept (o128 h t123)
  try clear o128; try clear b120
  have t133 := t_lt b132
  try clear t123
  have k134 : q_kd X92 q124 = 0 := w122.fresh (Nat.le_of_eq e126.symm)
  try clear w122
  have g135 := S130.1
  refine lv_dup hxx hb dX1_init_47 rfl ?_
  refine lv_bipush (v := 6) hxx hb dX1_init_48 (by decide) ?_
  have a146 : ∀ a, q_nw q124 H125.size a → q_nw h s.heap.size a := nw_in gg_q124 (Nat.le_trans gg_q124 (Nat.le_of_lt mm_q124))
  refine b_cv (b_runI (As := [.int 6]) (rest := [.ref q124, .ref h]) E (hml.trans hl.1.symm) D103 w131 k134 b129 rfl (n_X5 l D X92 σ93 q124 H125.size 6 6 (by decide) (by decide) (by decide)) bi_X1_11 rfl ⟨Nat.le_of_ble_eq_true rfl, Nat.le_of_ble_eq_true rfl⟩ ⟨Nat.le_of_ble_eq_true rfl, Nat.le_of_ble_eq_true rfl⟩ rfl (Nat.le_of_ble_eq_true rfl) dX1_init_50) S130 rfl a146 (fun X136 σ137 H138 locs1 x139 k140 p141 w142 z143 o144 S145 => ?_)
  try clear k134; try clear S130; try clear b129
  have D147 : X136.1 = D := x139.1.trans D103
  try clear D103
  have k148 : q_kd X136 h = 0 := x139.k0 k104 (by first | exact (nw_no hq124 (Nat.lt_trans hq124 mm_q124)) | (rintro (e | e) <;> omega))
  try clear k104
  have b149 := b132.kept (o144 h t133 (by first | exact (Nat.ne_of_lt hq124) | omega))
  try clear o144; try clear b132
  have t150 := t_lt b149
  try clear t133
  have y151 := y107.tr p141.1.1 (fun c hc => by rw [(x108.2.2.2.1 c hc).1]; exact hc)
  try clear y107
  have x152 := x108.tr x139 a146
  try clear x108
  have k153 := x139.kd k109 (by decide)
  have k154 := x139.kd k110 (by decide)
  have k155 := x139.kd k96 (by decide)
  have y156 := p141.1.1 q1 (by rw [k109]; decide) y111
  try clear y111
  have y157 := p141.1.1 q39 (by rw [k110]; decide) y112
  try clear y112
  have y158 := p141.1.1 q80 (by rw [k96]; decide) y115
  try clear y115
  have y159 := y_rlx x139 w131.1 k109 y113
  try clear y113; try clear k109
  have y160 := y_rlx x139 w131.1 k110 y114
  try clear y114; try clear k110
  have y161 := y_rlx x139 w131.1 k96 y116
  try clear x139; try clear w131; try clear y116; try clear k96
  have y162 := p141.1.2
  have y163 := p141.2
  try clear p141
  refine b_put E S145 hAh hnm (f := 3) b149 (show vwCl[1]? = some (RX1, TX1, 7) from rfl) q_inX1 tyX1_ok nmX1 (by decide) bw_115 rfl (fun _ => rfl) (tyX1_ok 3 (by decide)) rfl rfl dX1_init_53 (fun H164 locs1 z165 o166 b167 S168 => ?_)
  try clear b149; try clear S145
  have w169 : q_w X136 σ137 H164 := w142.kept (fun a ha => o166 a (fun e => ha (by rw [e]; exact k148)))
  try clear o166; try clear w142
  have t170 := t_lt b167
  try clear t150
  refine lv_aload_n hxx hb dX1_init_56 rfl (lv_at hl 0 rfl) ?_
  refine b_new E S168 bw_107 bw_43 bw_4 (show vwCl[4]? = some (RX5, TX5, 1) from rfl) q_inX5 tyX5 tyX5_ok (Nat.le_of_ble_eq_true rfl) (Nat.le_of_ble_eq_true rfl) dX1_init_57 (fun q171 H172 e173 z174 o175 b176 S177 => ?_)
  have hq171 : h < q171 := by first | exact Nat.lt_of_lt_of_eq t170 e173.symm | omega
  have gg_q171 : s.heap.size ≤ q171 := Nat.le_trans S168.1 (Nat.le_of_eq e173.symm)
  have mm_q171 : q171 < H172.size := by rw [z174, e173]; exact Nat.lt_succ_self _
  have cc_q171 : q124 < q171 := by first | exact Nat.lt_of_lt_of_eq (Nat.lt_of_lt_of_le (Nat.lt_of_lt_of_le mm_q124 z143) (Nat.le_of_eq z165.symm)) e173.symm | omega
  try clear S168
  have w178 : q_w X136 σ137 H172 := w169.kept (fun a ha => o175 a (w169.lt ha))
  have b179 := b167.kept (o175 h t170)
  try clear o175; try clear b167
  have t180 := t_lt b179
  try clear t170
  have k181 : q_kd X136 q171 = 0 := w169.fresh (Nat.le_of_eq e173.symm)
  try clear w169
  have g182 := S177.1
  refine lv_dup hxx hb dX1_init_60 rfl ?_
  refine lv_bipush (v := 6) hxx hb dX1_init_61 (by decide) ?_
  have a193 : ∀ a, q_nw q171 H172.size a → q_nw h s.heap.size a := nw_in gg_q171 (Nat.le_trans gg_q171 (Nat.le_of_lt mm_q171))
  refine b_cv (b_runI (As := [.int 6]) (rest := [.ref q171, .ref h]) E (hml.trans hl.1.symm) D147 w178 k181 b176 rfl (n_X5 l D X136 σ137 q171 H172.size 6 6 (by decide) (by decide) (by decide)) bi_X1_11 rfl ⟨Nat.le_of_ble_eq_true rfl, Nat.le_of_ble_eq_true rfl⟩ ⟨Nat.le_of_ble_eq_true rfl, Nat.le_of_ble_eq_true rfl⟩ rfl (Nat.le_of_ble_eq_true rfl) dX1_init_63) S177 rfl a193 (fun X183 σ184 H185 locs1 x186 k187 p188 w189 z190 o191 S192 => ?_)
  try clear k181; try clear S177; try clear b176
  have D194 : X183.1 = D := x186.1.trans D147
  try clear D147
  have k195 : q_kd X183 h = 0 := x186.k0 k148 (by first | exact (nw_no hq171 (Nat.lt_trans hq171 mm_q171)) | (rintro (e | e) <;> omega))
  try clear k148
  have b196 := b179.kept (o191 h t180 (by first | exact (Nat.ne_of_lt hq171) | omega))
  try clear o191; try clear b179
  have t197 := t_lt b196
  try clear t180
  have y198 := y151.tr p188.1.1 (fun c hc => by rw [(x152.2.2.2.1 c hc).1]; exact hc)
  try clear y151
  have x199 := x152.tr x186 a193
  try clear x152
  have k200 := x186.kd k153 (by decide)
  have k201 := x186.kd k154 (by decide)
  have k202 := x186.kd k155 (by decide)
  have k203 := x186.kd k140 (by decide)
  have y204 := p188.1.1 q1 (by rw [k153]; decide) y156
  try clear y156
  have y205 := p188.1.1 q39 (by rw [k154]; decide) y157
  try clear y157
  have y206 := p188.1.1 q80 (by rw [k155]; decide) y158
  try clear y158
  have y207 := p188.1.1 q124 (by rw [k140]; decide) y162
  try clear y162
  have y208 := y_rlx x186 w178.1 k153 y159
  try clear y159; try clear k153
  have y209 := y_rlx x186 w178.1 k154 y160
  try clear y160; try clear k154
  have y210 := y_rlx x186 w178.1 k155 y161
  try clear y161; try clear k155
  have y211 := y_rlx x186 w178.1 k140 y163
  try clear x186; try clear w178; try clear y163; try clear k140
  have y212 := p188.1.2
  have y213 := p188.2
  try clear p188
  refine b_put E S192 hAh hnm (f := 4) b196 (show vwCl[1]? = some (RX1, TX1, 7) from rfl) q_inX1 tyX1_ok nmX1 (by decide) bw_119 rfl (fun _ => rfl) (tyX1_ok 4 (by decide)) rfl rfl dX1_init_66 (fun H214 locs1 z215 o216 b217 S218 => ?_)
  try clear b196; try clear S192
  have w219 : q_w X183 σ184 H214 := w189.kept (fun a ha => o216 a (fun e => ha (by rw [e]; exact k195)))
  try clear o216; try clear w189
  have t220 := t_lt b217
  try clear t197
  refine lv_aload_n hxx hb dX1_init_69 rfl (lv_at hl 0 rfl) ?_
  refine b_new E S218 bw_107 bw_43 bw_4 (show vwCl[4]? = some (RX5, TX5, 1) from rfl) q_inX5 tyX5 tyX5_ok (Nat.le_of_ble_eq_true rfl) (Nat.le_of_ble_eq_true rfl) dX1_init_70 (fun q221 H222 e223 z224 o225 b226 S227 => ?_)
  have hq221 : h < q221 := by first | exact Nat.lt_of_lt_of_eq t220 e223.symm | omega
  have gg_q221 : s.heap.size ≤ q221 := Nat.le_trans S218.1 (Nat.le_of_eq e223.symm)
  have mm_q221 : q221 < H222.size := by rw [z224, e223]; exact Nat.lt_succ_self _
  have cc_q221 : q171 < q221 := by first | exact Nat.lt_of_lt_of_eq (Nat.lt_of_lt_of_le (Nat.lt_of_lt_of_le mm_q171 z190) (Nat.le_of_eq z215.symm)) e223.symm | omega
  try clear S218
  have w228 : q_w X183 σ184 H222 := w219.kept (fun a ha => o225 a (w219.lt ha))
  have b229 := b217.kept (o225 h t220)
  try clear o225; try clear b217
  have t230 := t_lt b229
  try clear t220
  have k231 : q_kd X183 q221 = 0 := w219.fresh (Nat.le_of_eq e223.symm)
  try clear w219
  have g232 := S227.1
  refine lv_dup hxx hb dX1_init_73 rfl ?_
  refine lv_bipush (v := 6) hxx hb dX1_init_74 (by decide) ?_
  have a243 : ∀ a, q_nw q221 H222.size a → q_nw h s.heap.size a := nw_in gg_q221 (Nat.le_trans gg_q221 (Nat.le_of_lt mm_q221))
  refine b_cv (b_runI (As := [.int 6]) (rest := [.ref q221, .ref h]) E (hml.trans hl.1.symm) D194 w228 k231 b226 rfl (n_X5 l D X183 σ184 q221 H222.size 6 6 (by decide) (by decide) (by decide)) bi_X1_11 rfl ⟨Nat.le_of_ble_eq_true rfl, Nat.le_of_ble_eq_true rfl⟩ ⟨Nat.le_of_ble_eq_true rfl, Nat.le_of_ble_eq_true rfl⟩ rfl (Nat.le_of_ble_eq_true rfl) dX1_init_76) S227 rfl a243 (fun X233 σ234 H235 locs1 x236 k237 p238 w239 z240 o241 S242 => ?_)
  try clear k231; try clear S227; try clear b226
  have D244 : X233.1 = D := x236.1.trans D194
  try clear D194
  have k245 : q_kd X233 h = 0 := x236.k0 k195 (by first | exact (nw_no hq221 (Nat.lt_trans hq221 mm_q221)) | (rintro (e | e) <;> omega))
  try clear k195
  have b246 := b229.kept (o241 h t230 (by first | exact (Nat.ne_of_lt hq221) | omega))
  try clear o241; try clear b229
  have t247 := t_lt b246
  try clear t230
  have y248 := y198.tr p238.1.1 (fun c hc => by rw [(x199.2.2.2.1 c hc).1]; exact hc)
  try clear y198
  have x249 := x199.tr x236 a243
  try clear x199
  have k250 := x236.kd k200 (by decide)
  have k251 := x236.kd k201 (by decide)
  have k252 := x236.kd k202 (by decide)
  have k253 := x236.kd k203 (by decide)
  have k254 := x236.kd k187 (by decide)
  have y255 := p238.1.1 q1 (by rw [k200]; decide) y204
  try clear y204
  have y256 := p238.1.1 q39 (by rw [k201]; decide) y205
  try clear y205
  have y257 := p238.1.1 q80 (by rw [k202]; decide) y206
  try clear y206
  have y258 := p238.1.1 q124 (by rw [k203]; decide) y207
  try clear y207
  have y259 := p238.1.1 q171 (by rw [k187]; decide) y212
  try clear y212
  have y260 := y_rlx x236 w228.1 k200 y208
  try clear y208; try clear k200
  have y261 := y_rlx x236 w228.1 k201 y209
  try clear y209; try clear k201
  have y262 := y_rlx x236 w228.1 k202 y210
  try clear y210; try clear k202
  have y263 := y_rlx x236 w228.1 k203 y211
  try clear y211; try clear k203
  have y264 := y_rlx x236 w228.1 k187 y213
  try clear x236; try clear w228; try clear y213; try clear k187
  have y265 := p238.1.2
  have y266 := p238.2
  try clear p238
  refine b_put E S242 hAh hnm (f := 5) b246 (show vwCl[1]? = some (RX1, TX1, 7) from rfl) q_inX1 tyX1_ok nmX1 (by decide) bw_123 rfl (fun _ => rfl) (tyX1_ok 5 (by decide)) rfl rfl dX1_init_79 (fun H267 locs1 z268 o269 b270 S271 => ?_)
  try clear b246; try clear S242
  have w272 : q_w X233 σ234 H267 := w239.kept (fun a ha => o269 a (fun e => ha (by rw [e]; exact k245)))
  try clear o269; try clear w239
  have t273 := t_lt b270
  try clear t247
  refine lv_aload_n hxx hb dX1_init_82 rfl (lv_at hl 0 rfl) ?_
  refine b_new E S271 bw_107 bw_43 bw_4 (show vwCl[4]? = some (RX5, TX5, 1) from rfl) q_inX5 tyX5 tyX5_ok (Nat.le_of_ble_eq_true rfl) (Nat.le_of_ble_eq_true rfl) dX1_init_83 (fun q274 H275 e276 z277 o278 b279 S280 => ?_)
  have hq274 : h < q274 := by first | exact Nat.lt_of_lt_of_eq t273 e276.symm | omega
  have gg_q274 : s.heap.size ≤ q274 := Nat.le_trans S271.1 (Nat.le_of_eq e276.symm)
  have mm_q274 : q274 < H275.size := by rw [z277, e276]; exact Nat.lt_succ_self _
  have cc_q274 : q221 < q274 := by first | exact Nat.lt_of_lt_of_eq (Nat.lt_of_lt_of_le (Nat.lt_of_lt_of_le mm_q221 z240) (Nat.le_of_eq z268.symm)) e276.symm | omega
  try clear S271
  have w281 : q_w X233 σ234 H275 := w272.kept (fun a ha => o278 a (w272.lt ha))
  have b282 := b270.kept (o278 h t273)
  try clear o278; try clear b270
  have t283 := t_lt b282
  try clear t273
  have k284 : q_kd X233 q274 = 0 := w272.fresh (Nat.le_of_eq e276.symm)
  try clear w272
  have g285 := S280.1
  refine lv_dup hxx hb dX1_init_86 rfl ?_
  refine lv_bipush (v := 6) hxx hb dX1_init_87 (by decide) ?_
  have a296 : ∀ a, q_nw q274 H275.size a → q_nw h s.heap.size a := nw_in gg_q274 (Nat.le_trans gg_q274 (Nat.le_of_lt mm_q274))
  refine b_cv (b_runI (As := [.int 6]) (rest := [.ref q274, .ref h]) E (hml.trans hl.1.symm) D244 w281 k284 b279 rfl (n_X5 l D X233 σ234 q274 H275.size 6 6 (by decide) (by decide) (by decide)) bi_X1_11 rfl ⟨Nat.le_of_ble_eq_true rfl, Nat.le_of_ble_eq_true rfl⟩ ⟨Nat.le_of_ble_eq_true rfl, Nat.le_of_ble_eq_true rfl⟩ rfl (Nat.le_of_ble_eq_true rfl) dX1_init_89) S280 rfl a296 (fun X286 σ287 H288 locs1 x289 k290 p291 w292 z293 o294 S295 => ?_)
  try clear k284; try clear S280; try clear b279
  have D297 : X286.1 = D := x289.1.trans D244
  try clear D244
  have k298 : q_kd X286 h = 0 := x289.k0 k245 (by first | exact (nw_no hq274 (Nat.lt_trans hq274 mm_q274)) | (rintro (e | e) <;> omega))
  try clear k245
  have b299 := b282.kept (o294 h t283 (by first | exact (Nat.ne_of_lt hq274) | omega))
  try clear o294; try clear b282
  have t300 := t_lt b299
  try clear t283
  have y301 := y248.tr p291.1.1 (fun c hc => by rw [(x249.2.2.2.1 c hc).1]; exact hc)
  try clear y248
  have x302 := x249.tr x289 a296
  try clear x249
  have k303 := x289.kd k250 (by decide)
  have k304 := x289.kd k251 (by decide)
  have k305 := x289.kd k252 (by decide)
  have k306 := x289.kd k253 (by decide)
  have k307 := x289.kd k254 (by decide)
  have k308 := x289.kd k237 (by decide)
  have y309 := p291.1.1 q1 (by rw [k250]; decide) y255
  try clear y255
  have y310 := p291.1.1 q39 (by rw [k251]; decide) y256
  try clear y256
  have y311 := p291.1.1 q80 (by rw [k252]; decide) y257
  try clear y257
  have y312 := p291.1.1 q124 (by rw [k253]; decide) y258
  try clear y258
  have y313 := p291.1.1 q171 (by rw [k254]; decide) y259
  try clear y259
  have y314 := p291.1.1 q221 (by rw [k237]; decide) y265
  try clear y265
  have y315 := y_rlx x289 w281.1 k250 y260
  try clear y260; try clear k250
  have y316 := y_rlx x289 w281.1 k251 y261
  try clear y261; try clear k251
  have y317 := y_rlx x289 w281.1 k252 y262
  try clear y262; try clear k252
  have y318 := y_rlx x289 w281.1 k253 y263
  try clear y263; try clear k253
  have y319 := y_rlx x289 w281.1 k254 y264
  try clear y264; try clear k254
  have y320 := y_rlx x289 w281.1 k237 y266
  try clear x289; try clear w281; try clear y266; try clear k237
  have y321 := p291.1.2
  have y322 := p291.2
  try clear p291
  refine b_put E S295 hAh hnm (f := 6) b299 (show vwCl[1]? = some (RX1, TX1, 7) from rfl) q_inX1 tyX1_ok nmX1 (by decide) bw_127 rfl (fun _ => rfl) (tyX1_ok 6 (by decide)) rfl rfl dX1_init_92 (fun H323 locs1 z324 o325 b326 S327 => ?_)
  try clear b299; try clear S295
  have w328 : q_w X286 σ287 H323 := w292.kept (fun a ha => o325 a (fun e => ha (by rw [e]; exact k298)))
  try clear o325; try clear w292
  have t329 := t_lt b326
  try clear t300
  obtain ⟨X330, dX330⟩ : ∃ Y, Y = q_xg X286 h 2 0 (fun f => ([q1, q39, q80, q124, q171, q221, q274] : List Nat).getD f 0) := ⟨_, rfl⟩
  obtain ⟨σ331, dσ331⟩ : ∃ τ, τ = q_sg σ287 h (fun f => ([0, 0, 0, 0, 0, 0, 0] : List Int32).getD f 0) (fun f => ([0, 0, 0, 0, 0, 0, 0] : List Int64).getD f 0) 0 := ⟨_, rfl⟩
  have x332 : q_ext (fun a => a = h) X286 X330 σ287 σ331 := by rw [dX330, dσ331]; exact q_ext.add k298
  have hrk : ∀ f, f < 40 → q_rk 2 f ≠ 0 → q_kd X286 (([q1, q39, q80, q124, q171, q221, q274] : List Nat).getD f 0) = q_rk 2 f := fun f h40 hf => match f, h40, hf with | 0, _, _ => k303 | 1, _, _ => k304 | 2, _, _ => k305 | 3, _, _ => k306 | 4, _, _ => k307 | 5, _, _ => k308 | 6, _, _ => k290 | 7, _, hf => absurd rfl hf | 8, _, hf => absurd rfl hf | 9, _, hf => absurd rfl hf | 10, _, hf => absurd rfl hf | 11, _, hf => absurd rfl hf | 12, _, hf => absurd rfl hf | 13, _, hf => absurd rfl hf | 14, _, hf => absurd rfl hf | 15, _, hf => absurd rfl hf | 16, _, hf => absurd rfl hf | 17, _, hf => absurd rfl hf | 18, _, hf => absurd rfl hf | 19, _, hf => absurd rfl hf | 20, _, hf => absurd rfl hf | 21, _, hf => absurd rfl hf | 22, _, hf => absurd rfl hf | 23, _, hf => absurd rfl hf | 24, _, hf => absurd rfl hf | 25, _, hf => absurd rfl hf | 26, _, hf => absurd rfl hf | 27, _, hf => absurd rfl hf | 28, _, hf => absurd rfl hf | 29, _, hf => absurd rfl hf | 30, _, hf => absurd rfl hf | 31, _, hf => absurd rfl hf | 32, _, hf => absurd rfl hf | 33, _, hf => absurd rfl hf | 34, _, hf => absurd rfl hf | 35, _, hf => absurd rfl hf | 36, _, hf => absurd rfl hf | 37, _, hf => absurd rfl hf | 38, _, hf => absurd rfl hf | 39, _, hf => absurd rfl hf | (n + 40), h40, _ => absurd h40 (Nat.not_lt_of_ge (Nat.le_add_left 40 n))
  have hB : ∀ f, f < 40 → (q_bn 2 f).1 ≤ ((([0, 0, 0, 0, 0, 0, 0] : List Int32).getD f 0).toInt) ∧ (([0, 0, 0, 0, 0, 0, 0] : List Int32).getD f 0).toInt ≤ (q_bn 2 f).2 := by decide +kernel
  have y334 : ∀ f, q_rk 2 f ≠ 0 → h < ([q1, q39, q80, q124, q171, q221, q274] : List Nat).getD f 0 := by
    intro f hf
    rcases y_fs2 hf with rfl | rfl | rfl | rfl | rfl | rfl | rfl
    · exact (hq1)
    · exact (hq39)
    · exact (hq80)
    · exact (hq124)
    · exact (hq171)
    · exact (hq221)
    · exact (hq274)
  have y335 : ∀ f, q_rk 2 f ≠ 0 → y_root X286 (([q1, q39, q80, q124, q171, q221, q274] : List Nat).getD f 0) := by
    intro f hf
    rcases y_fs2 hf with rfl | rfl | rfl | rfl | rfl | rfl | rfl
    · exact y309
    · exact y310
    · exact y311
    · exact y312
    · exact y313
    · exact y314
    · exact y321
  try clear y321; try clear y314; try clear y313; try clear y312; try clear y311; try clear y310; try clear y309
  have y336 : ∀ f, q_rk 2 f = 5 → q_ln X286 (q_rf X286 (([q1, q39, q80, q124, q171, q221, q274] : List Nat).getD f 0) 0) = y_rl 2 f := by
    intro f hf
    rcases y_fs2 (show q_rk 2 f ≠ 0 by rw [hf]; decide) with rfl | rfl | rfl | rfl | rfl | rfl | rfl
    · exact y315
    · exact y316
    · exact y317
    · exact y318
    · exact y319
    · exact y320
    · exact y322
  have y337 : ∀ f, q_rk 2 f ≠ 0 → ([q1, q39, q80, q124, q171, q221, q274] : List Nat).getD f 0 ≠ h := by
    intro f hf
    rcases y_fs2 hf with rfl | rfl | rfl | rfl | rfl | rfl | rfl
    · exact ((Nat.ne_of_gt hq1))
    · exact ((Nat.ne_of_gt hq39))
    · exact ((Nat.ne_of_gt hq80))
    · exact ((Nat.ne_of_gt hq124))
    · exact ((Nat.ne_of_gt hq171))
    · exact ((Nat.ne_of_gt hq221))
    · exact ((Nat.ne_of_gt hq274))
  have y338 : ∀ f, q_rk 2 f ≠ 0 → q_kd X (([q1, q39, q80, q124, q171, q221, q274] : List Nat).getD f 0) = 0 := by
    intro f hf
    rcases y_fs2 hf with rfl | rfl | rfl | rfl | rfl | rfl | rfl
    · exact hw0.fresh (gg_q1)
    · exact hw0.fresh (gg_q39)
    · exact hw0.fresh (gg_q80)
    · exact hw0.fresh (gg_q124)
    · exact hw0.fresh (gg_q171)
    · exact hw0.fresh (gg_q221)
    · exact hw0.fresh (gg_q274)
  have w333 : q_w X330 σ331 H323 := by
    rw [dX330, dσ331]
    exact w328.add k298 (q_hrk hrk) (fun q => absurd rfl q) (by decide) (fun q => absurd q (by decide)) (q_hB hB (by decide)) (fun q => by rcases q with q | q <;> exact absurd q (by decide)) (q_cfO D297 ⟨rfl, by decide⟩ (show vwCl[1]? = some (RX1, TX1, 7) from rfl) b326 (fun f hf => match f, hf with | 0, _ => rfl | 1, _ => rfl | 2, _ => rfl | 3, _ => rfl | 4, _ => rfl | 5, _ => rfl | 6, _ => rfl | (n + 7), hf => absurd hf (Nat.not_lt_of_ge (Nat.le_add_left 7 n)))) y334 (y_in2 (rf := (fun f => ([q1, q39, q80, q124, q171, q221, q274] : List Nat).getD f 0)) (show q1 < q39 from cc_q39) (show q39 < q80 from cc_q80) (show q80 < q124 from cc_q124) (show q124 < q171 from cc_q171) (show q171 < q221 from cc_q221) (show q221 < q274 from cc_q274)) y335 y336 (fun q => absurd q (by decide))
  try clear y336; try clear y335; try clear y334; try clear b326; try clear D297
  have y339 : y_root X330 h := by
    rw [dX330]
    exact (y_root.out w328.1 k298).add y_xg y337
  try clear y337; try clear k298
  have y340 : y_rt X X330 := by
    rw [dX330]
    exact y301.add y_xg y338
  try clear y338; try clear y301
  have k341 : q_kd X330 h = 2 := by rw [dX330]; exact q_xg_h
  have x342 := x302.tr x332 (fun a e => Or.inl e)
  try clear x302
  have y343 := y_rlx x332 w328.1 k303 y315
  try clear y343; try clear y315
  have y344 := y_rlx x332 w328.1 k304 y316
  try clear y344; try clear y316
  have y345 := y_rlx x332 w328.1 k305 y317
  try clear y345; try clear y317
  have y346 := y_rlx x332 w328.1 k306 y318
  try clear y346; try clear y318
  have y347 := y_rlx x332 w328.1 k307 y319
  try clear y347; try clear y319
  have y348 := y_rlx x332 w328.1 k308 y320
  try clear y348; try clear y320
  have y349 := y_rlx x332 w328.1 k290 y322
  try clear y349; try clear w328; try clear y322
  have k350 := x332.kd k303 (by decide)
  try clear k350; try clear k303
  have k351 := x332.kd k304 (by decide)
  try clear k351; try clear k304
  have k352 := x332.kd k305 (by decide)
  try clear k352; try clear k305
  have k353 := x332.kd k306 (by decide)
  try clear k353; try clear k306
  have k354 := x332.kd k307 (by decide)
  try clear k354; try clear k307
  have k355 := x332.kd k308 (by decide)
  try clear k355; try clear k308
  have k356 := x332.kd k290 (by decide)
  try clear k356; try clear x332; try clear k290
  exact b_ret E hr hlk S327 x342 k341 ⟨⟨y340, y339⟩, trivial⟩ w333 dX1_init_95

set_option maxRecDepth 100000 in
set_option maxHeartbeats 4000000 in
theorem n_X2 (l : Launch) (D : DW) (X : XW) (σ : ST) (h sz : Nat) : Met l yX2_init (q_ws yX2_init cX2_init 1 none) { frames := 2, cells := 8, slots := 564, locals := 45 } (q_PN D X σ h sz 2 6 (fun k => defaultValue (tyX2 k)) [.ref h]) (q_QN X σ h sz 3 (fun X' _ => (y_rt X X' ∧ y_root X' h) ∧ True)) 8 564 (q_nw h sz) := by
  refine b_met  (by first | exact rfl | decide +kernel) rfl rfl (Nat.le_of_ble_eq_true rfl) (fun p e s m below meth c E hml hr hlk hnm hsz hD hw0 h00 hob ls hl => ?_)
  subst hsz
  have hxx := E.1
  have hb := E.2.1
  have hl : lv_has ls 1 [(0, .ref h)] := hl
  have hS : va_S (q_nw h s.heap.size) s.heap s.heap [] := va_S.rf
  have hx0 : q_ext (q_nw h s.heap.size) X X σ σ := q_ext.rf
  have hAh : q_nw h s.heap.size h := Or.inl rfl
  have yr0 : y_rt X X := y_rt.rf
  have hlt := t_lt hob
  refine lv_aload_n hxx hb dX2_init_0 rfl (lv_at hl 0 rfl) ?_
  refine W.objInit hxx hb E.2.2.1 (E.2.2.2.1 _ bw_150) (E.2.2.2.1 _ bw_26) (E.2.2.2.1 _ bw_27) rfl (by rw [hml]; exact hl.1) rfl dX2_init_1 (Nat.le_of_ble_eq_true rfl) (Nat.le_of_ble_eq_true rfl) ?_
  refine W.eq (g2 := F0 m 4 ls []) rfl ?_
  refine lv_aload_n hxx hb dX2_init_4 rfl (lv_at hl 0 rfl) ?_
  refine lv_iconst (v := 0) hxx hb dX2_init_5 (by decide) ?_
  refine b_put E hS hAh hnm (f := 0) hob (show vwCl[2]? = some (RX2, TX2, 6) from rfl) q_inX2 tyX2_ok nmX2 (by decide) bw_153 rfl (fun _ => rfl) (tyX2_ok 0 (by decide)) rfl rfl dX2_init_6 (fun H1 locs1 z2 o3 b4 S5 => ?_)
  have w6 : q_w X σ H1 := hw0.kept (fun a ha => o3 a (fun e => ha (by rw [e]; exact h00)))
  try clear o3
  have t7 := t_lt b4
  refine lv_aload_n hxx hb dX2_init_9 rfl (lv_at hl 0 rfl) ?_
  refine lv_iconst (v := 0) hxx hb dX2_init_10 (by decide) ?_
  refine b_put E S5 hAh hnm (f := 1) b4 (show vwCl[2]? = some (RX2, TX2, 6) from rfl) q_inX2 tyX2_ok nmX2 (by decide) bw_155 rfl (fun _ => rfl) (tyX2_ok 1 (by decide)) rfl rfl dX2_init_11 (fun H8 locs1 z9 o10 b11 S12 => ?_)
  try clear S5; try clear b4
  have w13 : q_w X σ H8 := w6.kept (fun a ha => o10 a (fun e => ha (by rw [e]; exact h00)))
  try clear o10; try clear w6
  have t14 := t_lt b11
  try clear t7
  refine lv_aload_n hxx hb dX2_init_14 rfl (lv_at hl 0 rfl) ?_
  refine b_new E S12 bw_151 bw_43 bw_4 (show vwCl[4]? = some (RX5, TX5, 1) from rfl) q_inX5 tyX5 tyX5_ok (Nat.le_of_ble_eq_true rfl) (Nat.le_of_ble_eq_true rfl) dX2_init_15 (fun q15 H16 e17 z18 o19 b20 S21 => ?_)
  have hq15 : h < q15 := by first | exact Nat.lt_of_lt_of_eq t14 e17.symm | omega
  have gg_q15 : s.heap.size ≤ q15 := Nat.le_trans S12.1 (Nat.le_of_eq e17.symm)
  have mm_q15 : q15 < H16.size := by rw [z18, e17]; exact Nat.lt_succ_self _
  try clear S12
  have w22 : q_w X σ H16 := w13.kept (fun a ha => o19 a (w13.lt ha))
  have b23 := b11.kept (o19 h t14)
  try clear o19; try clear b11
  have t24 := t_lt b23
  try clear t14
  have k25 : q_kd X q15 = 0 := w13.fresh (Nat.le_of_eq e17.symm)
  try clear w13
  have g26 := S21.1
  refine lv_dup hxx hb dX2_init_18 rfl ?_
  refine lv_bipush (v := 80) hxx hb dX2_init_19 (by decide) ?_
  have a37 : ∀ a, q_nw q15 H16.size a → q_nw h s.heap.size a := nw_in gg_q15 (Nat.le_trans gg_q15 (Nat.le_of_lt mm_q15))
  refine b_cv (b_runI (As := [.int 80]) (rest := [.ref q15, .ref h]) E (hml.trans hl.1.symm) hD w22 k25 b20 rfl (n_X5 l D X σ q15 H16.size 80 80 (by decide) (by decide) (by decide)) bi_X2_20 rfl ⟨Nat.le_of_ble_eq_true rfl, Nat.le_of_ble_eq_true rfl⟩ ⟨Nat.le_of_ble_eq_true rfl, Nat.le_of_ble_eq_true rfl⟩ rfl (Nat.le_of_ble_eq_true rfl) dX2_init_21) S21 rfl a37 (fun X27 σ28 H29 locs1 x30 k31 p32 w33 z34 o35 S36 => ?_)
  try clear k25; try clear w22; try clear S21; try clear b20
  have D38 : X27.1 = D := x30.1.trans hD
  have k39 : q_kd X27 h = 0 := x30.k0 h00 (by first | exact (nw_no hq15 (Nat.lt_trans hq15 mm_q15)) | (rintro (e | e) <;> omega))
  have b40 := b23.kept (o35 h t24 (by first | exact (Nat.ne_of_lt hq15) | omega))
  try clear o35; try clear b23
  have t41 := t_lt b40
  try clear t24
  have y42 := yr0.tr p32.1.1 (fun c hc => by rw [(hx0.2.2.2.1 c hc).1]; exact hc)
  have x43 := hx0.tr x30 a37
  try clear x30
  have y44 := p32.1.2
  have y45 := p32.2
  try clear p32
  refine b_put E S36 hAh hnm (f := 2) b40 (show vwCl[2]? = some (RX2, TX2, 6) from rfl) q_inX2 tyX2_ok nmX2 (by decide) bw_159 rfl (fun _ => rfl) (tyX2_ok 2 (by decide)) rfl rfl dX2_init_24 (fun H46 locs1 z47 o48 b49 S50 => ?_)
  try clear b40; try clear S36
  have w51 : q_w X27 σ28 H46 := w33.kept (fun a ha => o48 a (fun e => ha (by rw [e]; exact k39)))
  try clear o48; try clear w33
  have t52 := t_lt b49
  try clear t41
  refine lv_aload_n hxx hb dX2_init_27 rfl (lv_at hl 0 rfl) ?_
  refine b_new E S50 bw_151 bw_43 bw_4 (show vwCl[4]? = some (RX5, TX5, 1) from rfl) q_inX5 tyX5 tyX5_ok (Nat.le_of_ble_eq_true rfl) (Nat.le_of_ble_eq_true rfl) dX2_init_28 (fun q53 H54 e55 z56 o57 b58 S59 => ?_)
  have hq53 : h < q53 := by first | exact Nat.lt_of_lt_of_eq t52 e55.symm | omega
  have gg_q53 : s.heap.size ≤ q53 := Nat.le_trans S50.1 (Nat.le_of_eq e55.symm)
  have mm_q53 : q53 < H54.size := by rw [z56, e55]; exact Nat.lt_succ_self _
  have cc_q53 : q15 < q53 := by first | exact Nat.lt_of_lt_of_eq (Nat.lt_of_lt_of_le (Nat.lt_of_lt_of_le mm_q15 z34) (Nat.le_of_eq z47.symm)) e55.symm | omega
  try clear S50
  have w60 : q_w X27 σ28 H54 := w51.kept (fun a ha => o57 a (w51.lt ha))
  have b61 := b49.kept (o57 h t52)
  try clear o57; try clear b49
  have t62 := t_lt b61
  try clear t52
  have k63 : q_kd X27 q53 = 0 := w51.fresh (Nat.le_of_eq e55.symm)
  try clear w51
  have g64 := S59.1
  refine lv_dup hxx hb dX2_init_31 rfl ?_
  refine lv_bipush (v := 80) hxx hb dX2_init_32 (by decide) ?_
  have a75 : ∀ a, q_nw q53 H54.size a → q_nw h s.heap.size a := nw_in gg_q53 (Nat.le_trans gg_q53 (Nat.le_of_lt mm_q53))
  refine b_cv (b_runI (As := [.int 80]) (rest := [.ref q53, .ref h]) E (hml.trans hl.1.symm) D38 w60 k63 b58 rfl (n_X5 l D X27 σ28 q53 H54.size 80 80 (by decide) (by decide) (by decide)) bi_X2_20 rfl ⟨Nat.le_of_ble_eq_true rfl, Nat.le_of_ble_eq_true rfl⟩ ⟨Nat.le_of_ble_eq_true rfl, Nat.le_of_ble_eq_true rfl⟩ rfl (Nat.le_of_ble_eq_true rfl) dX2_init_34) S59 rfl a75 (fun X65 σ66 H67 locs1 x68 k69 p70 w71 z72 o73 S74 => ?_)
  try clear k63; try clear S59; try clear b58
  have D76 : X65.1 = D := x68.1.trans D38
  try clear D38
  have k77 : q_kd X65 h = 0 := x68.k0 k39 (by first | exact (nw_no hq53 (Nat.lt_trans hq53 mm_q53)) | (rintro (e | e) <;> omega))
  try clear k39
  have b78 := b61.kept (o73 h t62 (by first | exact (Nat.ne_of_lt hq53) | omega))
  try clear o73; try clear b61
  have t79 := t_lt b78
  try clear t62
  have y80 := y42.tr p70.1.1 (fun c hc => by rw [(x43.2.2.2.1 c hc).1]; exact hc)
  try clear y42
  have x81 := x43.tr x68 a75
  try clear x43
  have k82 := x68.kd k31 (by decide)
  have y83 := p70.1.1 q15 (by rw [k31]; decide) y44
  try clear y44
  have y84 := y_rlx x68 w60.1 k31 y45
  try clear x68; try clear w60; try clear y45; try clear k31
  have y85 := p70.1.2
  have y86 := p70.2
  try clear p70
  refine b_put E S74 hAh hnm (f := 3) b78 (show vwCl[2]? = some (RX2, TX2, 6) from rfl) q_inX2 tyX2_ok nmX2 (by decide) bw_161 rfl (fun _ => rfl) (tyX2_ok 3 (by decide)) rfl rfl dX2_init_37 (fun H87 locs1 z88 o89 b90 S91 => ?_)
  try clear b78; try clear S74
  have w92 : q_w X65 σ66 H87 := w71.kept (fun a ha => o89 a (fun e => ha (by rw [e]; exact k77)))
  try clear o89; try clear w71
  have t93 := t_lt b90
  try clear t79
  refine lv_aload_n hxx hb dX2_init_40 rfl (lv_at hl 0 rfl) ?_
  refine b_new E S91 bw_151 bw_43 bw_4 (show vwCl[4]? = some (RX5, TX5, 1) from rfl) q_inX5 tyX5 tyX5_ok (Nat.le_of_ble_eq_true rfl) (Nat.le_of_ble_eq_true rfl) dX2_init_41 (fun q94 H95 e96 z97 o98 b99 S100 => ?_)
  have hq94 : h < q94 := by first | exact Nat.lt_of_lt_of_eq t93 e96.symm | omega
  have gg_q94 : s.heap.size ≤ q94 := Nat.le_trans S91.1 (Nat.le_of_eq e96.symm)
  have mm_q94 : q94 < H95.size := by rw [z97, e96]; exact Nat.lt_succ_self _
  have cc_q94 : q53 < q94 := by first | exact Nat.lt_of_lt_of_eq (Nat.lt_of_lt_of_le (Nat.lt_of_lt_of_le mm_q53 z72) (Nat.le_of_eq z88.symm)) e96.symm | omega
  try clear S91
  have w101 : q_w X65 σ66 H95 := w92.kept (fun a ha => o98 a (w92.lt ha))
  have b102 := b90.kept (o98 h t93)
  try clear o98; try clear b90
  have t103 := t_lt b102
  try clear t93
  have k104 : q_kd X65 q94 = 0 := w92.fresh (Nat.le_of_eq e96.symm)
  try clear w92
  have g105 := S100.1
  refine lv_dup hxx hb dX2_init_44 rfl ?_
  refine lv_bipush (v := 80) hxx hb dX2_init_45 (by decide) ?_
  have a116 : ∀ a, q_nw q94 H95.size a → q_nw h s.heap.size a := nw_in gg_q94 (Nat.le_trans gg_q94 (Nat.le_of_lt mm_q94))
  refine b_cv (b_runI (As := [.int 80]) (rest := [.ref q94, .ref h]) E (hml.trans hl.1.symm) D76 w101 k104 b99 rfl (n_X5 l D X65 σ66 q94 H95.size 80 80 (by decide) (by decide) (by decide)) bi_X2_20 rfl ⟨Nat.le_of_ble_eq_true rfl, Nat.le_of_ble_eq_true rfl⟩ ⟨Nat.le_of_ble_eq_true rfl, Nat.le_of_ble_eq_true rfl⟩ rfl (Nat.le_of_ble_eq_true rfl) dX2_init_47) S100 rfl a116 (fun X106 σ107 H108 locs1 x109 k110 p111 w112 z113 o114 S115 => ?_)
  try clear k104; try clear S100; try clear b99
  have D117 : X106.1 = D := x109.1.trans D76
  try clear D76
  have k118 : q_kd X106 h = 0 := x109.k0 k77 (by first | exact (nw_no hq94 (Nat.lt_trans hq94 mm_q94)) | (rintro (e | e) <;> omega))
  try clear k77
  have b119 := b102.kept (o114 h t103 (by first | exact (Nat.ne_of_lt hq94) | omega))
  try clear o114; try clear b102
  have t120 := t_lt b119
  try clear t103
  have y121 := y80.tr p111.1.1 (fun c hc => by rw [(x81.2.2.2.1 c hc).1]; exact hc)
  try clear y80
  have x122 := x81.tr x109 a116
  try clear x81
  have k123 := x109.kd k82 (by decide)
  have k124 := x109.kd k69 (by decide)
  have y125 := p111.1.1 q15 (by rw [k82]; decide) y83
  try clear y83
  have y126 := p111.1.1 q53 (by rw [k69]; decide) y85
  try clear y85
  have y127 := y_rlx x109 w101.1 k82 y84
  try clear y84; try clear k82
  have y128 := y_rlx x109 w101.1 k69 y86
  try clear x109; try clear w101; try clear y86; try clear k69
  have y129 := p111.1.2
  have y130 := p111.2
  try clear p111
  refine b_put E S115 hAh hnm (f := 4) b119 (show vwCl[2]? = some (RX2, TX2, 6) from rfl) q_inX2 tyX2_ok nmX2 (by decide) bw_163 rfl (fun _ => rfl) (tyX2_ok 4 (by decide)) rfl rfl dX2_init_50 (fun H131 locs1 z132 o133 b134 S135 => ?_)
  try clear b119; try clear S115
  have w136 : q_w X106 σ107 H131 := w112.kept (fun a ha => o133 a (fun e => ha (by rw [e]; exact k118)))
  try clear o133; try clear w112
  have t137 := t_lt b134
  try clear t120
  refine lv_aload_n hxx hb dX2_init_53 rfl (lv_at hl 0 rfl) ?_
  refine b_new E S135 bw_151 bw_43 bw_4 (show vwCl[4]? = some (RX5, TX5, 1) from rfl) q_inX5 tyX5 tyX5_ok (Nat.le_of_ble_eq_true rfl) (Nat.le_of_ble_eq_true rfl) dX2_init_54 (fun q138 H139 e140 z141 o142 b143 S144 => ?_)
  have hq138 : h < q138 := by first | exact Nat.lt_of_lt_of_eq t137 e140.symm | omega
  have gg_q138 : s.heap.size ≤ q138 := Nat.le_trans S135.1 (Nat.le_of_eq e140.symm)
  have mm_q138 : q138 < H139.size := by rw [z141, e140]; exact Nat.lt_succ_self _
  have cc_q138 : q94 < q138 := by first | exact Nat.lt_of_lt_of_eq (Nat.lt_of_lt_of_le (Nat.lt_of_lt_of_le mm_q94 z113) (Nat.le_of_eq z132.symm)) e140.symm | omega
  try clear S135
  have w145 : q_w X106 σ107 H139 := w136.kept (fun a ha => o142 a (w136.lt ha))
  have b146 := b134.kept (o142 h t137)
  try clear o142; try clear b134
  have t147 := t_lt b146
  try clear t137
  have k148 : q_kd X106 q138 = 0 := w136.fresh (Nat.le_of_eq e140.symm)
  try clear w136
  have g149 := S144.1
  refine lv_dup hxx hb dX2_init_57 rfl ?_
  refine lv_sipush (v := 320) hxx hb dX2_init_58 (by decide) ?_
  have a160 : ∀ a, q_nw q138 H139.size a → q_nw h s.heap.size a := nw_in gg_q138 (Nat.le_trans gg_q138 (Nat.le_of_lt mm_q138))
  refine b_cv (b_runI (As := [.int 320]) (rest := [.ref q138, .ref h]) E (hml.trans hl.1.symm) D117 w145 k148 b143 rfl (n_X5 l D X106 σ107 q138 H139.size 320 320 (by decide) (by decide) (by decide)) bi_X2_20 rfl ⟨Nat.le_of_ble_eq_true rfl, Nat.le_of_ble_eq_true rfl⟩ ⟨Nat.le_of_ble_eq_true rfl, Nat.le_of_ble_eq_true rfl⟩ rfl (Nat.le_of_ble_eq_true rfl) dX2_init_61) S144 rfl a160 (fun X150 σ151 H152 locs1 x153 k154 p155 w156 z157 o158 S159 => ?_)
  try clear k148; try clear S144; try clear b143
  have D161 : X150.1 = D := x153.1.trans D117
  try clear D117
  have k162 : q_kd X150 h = 0 := x153.k0 k118 (by first | exact (nw_no hq138 (Nat.lt_trans hq138 mm_q138)) | (rintro (e | e) <;> omega))
  try clear k118
  have b163 := b146.kept (o158 h t147 (by first | exact (Nat.ne_of_lt hq138) | omega))
  try clear o158; try clear b146
  have t164 := t_lt b163
  try clear t147
  have y165 := y121.tr p155.1.1 (fun c hc => by rw [(x122.2.2.2.1 c hc).1]; exact hc)
  try clear y121
  have x166 := x122.tr x153 a160
  try clear x122
  have k167 := x153.kd k123 (by decide)
  have k168 := x153.kd k124 (by decide)
  have k169 := x153.kd k110 (by decide)
  have y170 := p155.1.1 q15 (by rw [k123]; decide) y125
  try clear y125
  have y171 := p155.1.1 q53 (by rw [k124]; decide) y126
  try clear y126
  have y172 := p155.1.1 q94 (by rw [k110]; decide) y129
  try clear y129
  have y173 := y_rlx x153 w145.1 k123 y127
  try clear y127; try clear k123
  have y174 := y_rlx x153 w145.1 k124 y128
  try clear y128; try clear k124
  have y175 := y_rlx x153 w145.1 k110 y130
  try clear x153; try clear w145; try clear y130; try clear k110
  have y176 := p155.1.2
  have y177 := p155.2
  try clear p155
  refine b_put E S159 hAh hnm (f := 5) b163 (show vwCl[2]? = some (RX2, TX2, 6) from rfl) q_inX2 tyX2_ok nmX2 (by decide) bw_165 rfl (fun _ => rfl) (tyX2_ok 5 (by decide)) rfl rfl dX2_init_64 (fun H178 locs1 z179 o180 b181 S182 => ?_)
  try clear b163; try clear S159
  have w183 : q_w X150 σ151 H178 := w156.kept (fun a ha => o180 a (fun e => ha (by rw [e]; exact k162)))
  try clear o180; try clear w156
  have t184 := t_lt b181
  try clear t164
  obtain ⟨X185, dX185⟩ : ∃ Y, Y = q_xg X150 h 3 0 (fun f => ([0, 0, q15, q53, q94, q138] : List Nat).getD f 0) := ⟨_, rfl⟩
  obtain ⟨σ186, dσ186⟩ : ∃ τ, τ = q_sg σ151 h (fun f => ([0, 0, 0, 0, 0, 0] : List Int32).getD f 0) (fun f => ([0, 0, 0, 0, 0, 0] : List Int64).getD f 0) 0 := ⟨_, rfl⟩
  have x187 : q_ext (fun a => a = h) X150 X185 σ151 σ186 := by rw [dX185, dσ186]; exact q_ext.add k162
  have hrk : ∀ f, f < 40 → q_rk 3 f ≠ 0 → q_kd X150 (([0, 0, q15, q53, q94, q138] : List Nat).getD f 0) = q_rk 3 f := fun f h40 hf => match f, h40, hf with | 0, _, hf => absurd rfl hf | 1, _, hf => absurd rfl hf | 2, _, _ => k167 | 3, _, _ => k168 | 4, _, _ => k169 | 5, _, _ => k154 | 6, _, hf => absurd rfl hf | 7, _, hf => absurd rfl hf | 8, _, hf => absurd rfl hf | 9, _, hf => absurd rfl hf | 10, _, hf => absurd rfl hf | 11, _, hf => absurd rfl hf | 12, _, hf => absurd rfl hf | 13, _, hf => absurd rfl hf | 14, _, hf => absurd rfl hf | 15, _, hf => absurd rfl hf | 16, _, hf => absurd rfl hf | 17, _, hf => absurd rfl hf | 18, _, hf => absurd rfl hf | 19, _, hf => absurd rfl hf | 20, _, hf => absurd rfl hf | 21, _, hf => absurd rfl hf | 22, _, hf => absurd rfl hf | 23, _, hf => absurd rfl hf | 24, _, hf => absurd rfl hf | 25, _, hf => absurd rfl hf | 26, _, hf => absurd rfl hf | 27, _, hf => absurd rfl hf | 28, _, hf => absurd rfl hf | 29, _, hf => absurd rfl hf | 30, _, hf => absurd rfl hf | 31, _, hf => absurd rfl hf | 32, _, hf => absurd rfl hf | 33, _, hf => absurd rfl hf | 34, _, hf => absurd rfl hf | 35, _, hf => absurd rfl hf | 36, _, hf => absurd rfl hf | 37, _, hf => absurd rfl hf | 38, _, hf => absurd rfl hf | 39, _, hf => absurd rfl hf | (n + 40), h40, _ => absurd h40 (Nat.not_lt_of_ge (Nat.le_add_left 40 n))
  have hB : ∀ f, f < 40 → (q_bn 3 f).1 ≤ ((([0, 0, 0, 0, 0, 0] : List Int32).getD f 0).toInt) ∧ (([0, 0, 0, 0, 0, 0] : List Int32).getD f 0).toInt ≤ (q_bn 3 f).2 := by decide +kernel
  have y189 : ∀ f, q_rk 3 f ≠ 0 → h < ([0, 0, q15, q53, q94, q138] : List Nat).getD f 0 := by
    intro f hf
    rcases y_fs3 hf with rfl | rfl | rfl | rfl
    · exact (hq15)
    · exact (hq53)
    · exact (hq94)
    · exact (hq138)
  have y190 : ∀ f, q_rk 3 f ≠ 0 → y_root X150 (([0, 0, q15, q53, q94, q138] : List Nat).getD f 0) := by
    intro f hf
    rcases y_fs3 hf with rfl | rfl | rfl | rfl
    · exact y170
    · exact y171
    · exact y172
    · exact y176
  try clear y176; try clear y172; try clear y171; try clear y170
  have y191 : ∀ f, q_rk 3 f = 5 → q_ln X150 (q_rf X150 (([0, 0, q15, q53, q94, q138] : List Nat).getD f 0) 0) = y_rl 3 f := by
    intro f hf
    rcases y_fs3 (show q_rk 3 f ≠ 0 by rw [hf]; decide) with rfl | rfl | rfl | rfl
    · exact y173
    · exact y174
    · exact y175
    · exact y177
  have y192 : ∀ f, q_rk 3 f ≠ 0 → ([0, 0, q15, q53, q94, q138] : List Nat).getD f 0 ≠ h := by
    intro f hf
    rcases y_fs3 hf with rfl | rfl | rfl | rfl
    · exact ((Nat.ne_of_gt hq15))
    · exact ((Nat.ne_of_gt hq53))
    · exact ((Nat.ne_of_gt hq94))
    · exact ((Nat.ne_of_gt hq138))
  have y193 : ∀ f, q_rk 3 f ≠ 0 → q_kd X (([0, 0, q15, q53, q94, q138] : List Nat).getD f 0) = 0 := by
    intro f hf
    rcases y_fs3 hf with rfl | rfl | rfl | rfl
    · exact hw0.fresh (gg_q15)
    · exact hw0.fresh (gg_q53)
    · exact hw0.fresh (gg_q94)
    · exact hw0.fresh (gg_q138)
  have hIV : ∀ f, f < 60 → ([0, 0, 0, 0, 0, 0] : List Int32).getD f 0 = y_iv 3 f ∧ ([0, 0, 0, 0, 0, 0] : List Int64).getD f 0 = y_il 3 f := by decide +kernel
  have w188 : q_w X185 σ186 H178 := by
    rw [dX185, dσ186]
    exact w183.add k162 (q_hrk hrk) (fun q => absurd rfl q) (by decide) (fun q => absurd q (by decide)) (q_hB hB (by decide)) (fun q => by rcases q with q | q <;> exact absurd q (by decide)) (q_cfO D161 ⟨rfl, by decide⟩ (show vwCl[2]? = some (RX2, TX2, 6) from rfl) b181 (fun f hf => match f, hf with | 0, _ => rfl | 1, _ => rfl | 2, _ => rfl | 3, _ => rfl | 4, _ => rfl | 5, _ => rfl | (n + 6), hf => absurd hf (Nat.not_lt_of_ge (Nat.le_add_left 6 n)))) y189 (y_in3 (rf := (fun f => ([0, 0, q15, q53, q94, q138] : List Nat).getD f 0)) (show q15 < q53 from cc_q53) (show q53 < q94 from cc_q94) (show q94 < q138 from cc_q138)) y190 y191 (fun _ f hf => hIV f (hf.resolve_left (by decide)))
  try clear y191; try clear y190; try clear y189; try clear b181; try clear D161
  have y194 : y_root X185 h := by
    rw [dX185]
    exact (y_root.out w183.1 k162).add y_xg y192
  try clear y192; try clear k162
  have y195 : y_rt X X185 := by
    rw [dX185]
    exact y165.add y_xg y193
  try clear y193; try clear y165
  have k196 : q_kd X185 h = 3 := by rw [dX185]; exact q_xg_h
  have x197 := x166.tr x187 (fun a e => Or.inl e)
  try clear x166
  have y198 := y_rlx x187 w183.1 k167 y173
  try clear y198; try clear y173
  have y199 := y_rlx x187 w183.1 k168 y174
  try clear y199; try clear y174
  have y200 := y_rlx x187 w183.1 k169 y175
  try clear y200; try clear y175
  have y201 := y_rlx x187 w183.1 k154 y177
  try clear y201; try clear w183; try clear y177
  have k202 := x187.kd k167 (by decide)
  try clear k202; try clear k167
  have k203 := x187.kd k168 (by decide)
  try clear k203; try clear k168
  have k204 := x187.kd k169 (by decide)
  try clear k204; try clear k169
  have k205 := x187.kd k154 (by decide)
  try clear k205; try clear x187; try clear k154
  exact b_ret E hr hlk S182 x197 k196 ⟨⟨y195, y194⟩, trivial⟩ w188 dX2_init_67

set_option maxRecDepth 100000 in
set_option maxHeartbeats 4000000 in
theorem n_X8 (l : Launch) (D : DW) (X : XW) (σ : ST) (h sz : Nat) : Met l yX8_init (q_ws yX8_init cX8_init 1 none) { frames := 2, cells := 10, slots := 305, locals := 45 } (q_PN D X σ h sz 7 8 (fun k => defaultValue (tyX8 k)) [.ref h]) (q_QN X σ h sz 8 (fun X' _ => (y_rt X X' ∧ y_root X' h) ∧ True)) 10 305 (q_nw h sz) := by
  refine b_met  (by first | exact rfl | decide +kernel) rfl rfl (Nat.le_of_ble_eq_true rfl) (fun p e s m below meth c E hml hr hlk hnm hsz hD hw0 h00 hob ls hl => ?_)
  subst hsz
  have hxx := E.1
  have hb := E.2.1
  have hl : lv_has ls 1 [(0, .ref h)] := hl
  have hS : va_S (q_nw h s.heap.size) s.heap s.heap [] := va_S.rf
  have hx0 : q_ext (q_nw h s.heap.size) X X σ σ := q_ext.rf
  have hAh : q_nw h s.heap.size h := Or.inl rfl
  have yr0 : y_rt X X := y_rt.rf
  have hlt := t_lt hob
  refine lv_aload_n hxx hb dX8_init_0 rfl (lv_at hl 0 rfl) ?_
  refine W.objInit hxx hb E.2.2.1 (E.2.2.2.1 _ bw_184) (E.2.2.2.1 _ bw_26) (E.2.2.2.1 _ bw_27) rfl (by rw [hml]; exact hl.1) rfl dX8_init_1 (Nat.le_of_ble_eq_true rfl) (Nat.le_of_ble_eq_true rfl) ?_
  refine W.eq (g2 := F0 m 4 ls []) rfl ?_
  refine lv_aload_n hxx hb dX8_init_4 rfl (lv_at hl 0 rfl) ?_
  refine lv_iconst (v := 0) hxx hb dX8_init_5 (by decide) ?_
  refine b_put E hS hAh hnm (f := 0) hob (show vwCl[7]? = some (RX8, TX8, 8) from rfl) q_inX8 tyX8_ok nmX8 (by decide) bw_187 rfl (fun _ => rfl) (tyX8_ok 0 (by decide)) rfl rfl dX8_init_6 (fun H1 locs1 z2 o3 b4 S5 => ?_)
  have w6 : q_w X σ H1 := hw0.kept (fun a ha => o3 a (fun e => ha (by rw [e]; exact h00)))
  try clear o3
  have t7 := t_lt b4
  refine lv_aload_n hxx hb dX8_init_9 rfl (lv_at hl 0 rfl) ?_
  refine lv_iconst (v := 0) hxx hb dX8_init_10 (by decide) ?_
  refine b_put E S5 hAh hnm (f := 1) b4 (show vwCl[7]? = some (RX8, TX8, 8) from rfl) q_inX8 tyX8_ok nmX8 (by decide) bw_190 rfl (fun _ => rfl) (tyX8_ok 1 (by decide)) rfl rfl dX8_init_11 (fun H8 locs1 z9 o10 b11 S12 => ?_)
  try clear S5; try clear b4
  have w13 : q_w X σ H8 := w6.kept (fun a ha => o10 a (fun e => ha (by rw [e]; exact h00)))
  try clear o10; try clear w6
  have t14 := t_lt b11
  try clear t7
  refine lv_aload_n hxx hb dX8_init_14 rfl (lv_at hl 0 rfl) ?_
  refine lv_iconst (v := 0) hxx hb dX8_init_15 (by decide) ?_
  refine b_put E S12 hAh hnm (f := 2) b11 (show vwCl[7]? = some (RX8, TX8, 8) from rfl) q_inX8 tyX8_ok nmX8 (by decide) bw_193 rfl (fun _ => rfl) (tyX8_ok 2 (by decide)) rfl rfl dX8_init_16 (fun H15 locs1 z16 o17 b18 S19 => ?_)
  try clear S12; try clear b11
  have w20 : q_w X σ H15 := w13.kept (fun a ha => o17 a (fun e => ha (by rw [e]; exact h00)))
  try clear o17; try clear w13
  have t21 := t_lt b18
  try clear t14
  refine lv_aload_n hxx hb dX8_init_19 rfl (lv_at hl 0 rfl) ?_
  refine b_new E S19 bw_185 bw_43 bw_4 (show vwCl[4]? = some (RX5, TX5, 1) from rfl) q_inX5 tyX5 tyX5_ok (Nat.le_of_ble_eq_true rfl) (Nat.le_of_ble_eq_true rfl) dX8_init_20 (fun q22 H23 e24 z25 o26 b27 S28 => ?_)
  have hq22 : h < q22 := by first | exact Nat.lt_of_lt_of_eq t21 e24.symm | omega
  have gg_q22 : s.heap.size ≤ q22 := Nat.le_trans S19.1 (Nat.le_of_eq e24.symm)
  have mm_q22 : q22 < H23.size := by rw [z25, e24]; exact Nat.lt_succ_self _
  try clear S19
  have w29 : q_w X σ H23 := w20.kept (fun a ha => o26 a (w20.lt ha))
  have b30 := b18.kept (o26 h t21)
  try clear o26; try clear b18
  have t31 := t_lt b30
  try clear t21
  have k32 : q_kd X q22 = 0 := w20.fresh (Nat.le_of_eq e24.symm)
  try clear w20
  have g33 := S28.1
  refine lv_dup hxx hb dX8_init_23 rfl ?_
  refine lv_bipush (v := 60) hxx hb dX8_init_24 (by decide) ?_
  have a44 : ∀ a, q_nw q22 H23.size a → q_nw h s.heap.size a := nw_in gg_q22 (Nat.le_trans gg_q22 (Nat.le_of_lt mm_q22))
  refine b_cv (b_runI (As := [.int 60]) (rest := [.ref q22, .ref h]) E (hml.trans hl.1.symm) hD w29 k32 b27 rfl (n_X5 l D X σ q22 H23.size 60 60 (by decide) (by decide) (by decide)) bi_X8_24 rfl ⟨Nat.le_of_ble_eq_true rfl, Nat.le_of_ble_eq_true rfl⟩ ⟨Nat.le_of_ble_eq_true rfl, Nat.le_of_ble_eq_true rfl⟩ rfl (Nat.le_of_ble_eq_true rfl) dX8_init_26) S28 rfl a44 (fun X34 σ35 H36 locs1 x37 k38 p39 w40 z41 o42 S43 => ?_)
  try clear k32; try clear w29; try clear S28; try clear b27
  have D45 : X34.1 = D := x37.1.trans hD
  have k46 : q_kd X34 h = 0 := x37.k0 h00 (by first | exact (nw_no hq22 (Nat.lt_trans hq22 mm_q22)) | (rintro (e | e) <;> omega))
  have b47 := b30.kept (o42 h t31 (by first | exact (Nat.ne_of_lt hq22) | omega))
  try clear o42; try clear b30
  have t48 := t_lt b47
  try clear t31
  have y49 := yr0.tr p39.1.1 (fun c hc => by rw [(hx0.2.2.2.1 c hc).1]; exact hc)
  have x50 := hx0.tr x37 a44
  try clear x37
  have y51 := p39.1.2
  have y52 := p39.2
  try clear p39
  refine b_put E S43 hAh hnm (f := 3) b47 (show vwCl[7]? = some (RX8, TX8, 8) from rfl) q_inX8 tyX8_ok nmX8 (by decide) bw_195 rfl (fun _ => rfl) (tyX8_ok 3 (by decide)) rfl rfl dX8_init_29 (fun H53 locs1 z54 o55 b56 S57 => ?_)
  try clear b47; try clear S43
  have w58 : q_w X34 σ35 H53 := w40.kept (fun a ha => o55 a (fun e => ha (by rw [e]; exact k46)))
  try clear o55; try clear w40
  have t59 := t_lt b56
  try clear t48
  refine lv_aload_n hxx hb dX8_init_32 rfl (lv_at hl 0 rfl) ?_
  refine b_new E S57 bw_185 bw_43 bw_4 (show vwCl[4]? = some (RX5, TX5, 1) from rfl) q_inX5 tyX5 tyX5_ok (Nat.le_of_ble_eq_true rfl) (Nat.le_of_ble_eq_true rfl) dX8_init_33 (fun q60 H61 e62 z63 o64 b65 S66 => ?_)
  have hq60 : h < q60 := by first | exact Nat.lt_of_lt_of_eq t59 e62.symm | omega
  have gg_q60 : s.heap.size ≤ q60 := Nat.le_trans S57.1 (Nat.le_of_eq e62.symm)
  have mm_q60 : q60 < H61.size := by rw [z63, e62]; exact Nat.lt_succ_self _
  have cc_q60 : q22 < q60 := by first | exact Nat.lt_of_lt_of_eq (Nat.lt_of_lt_of_le (Nat.lt_of_lt_of_le mm_q22 z41) (Nat.le_of_eq z54.symm)) e62.symm | omega
  try clear S57
  have w67 : q_w X34 σ35 H61 := w58.kept (fun a ha => o64 a (w58.lt ha))
  have b68 := b56.kept (o64 h t59)
  try clear o64; try clear b56
  have t69 := t_lt b68
  try clear t59
  have k70 : q_kd X34 q60 = 0 := w58.fresh (Nat.le_of_eq e62.symm)
  try clear w58
  have g71 := S66.1
  refine lv_dup hxx hb dX8_init_36 rfl ?_
  refine lv_bipush (v := 60) hxx hb dX8_init_37 (by decide) ?_
  have a82 : ∀ a, q_nw q60 H61.size a → q_nw h s.heap.size a := nw_in gg_q60 (Nat.le_trans gg_q60 (Nat.le_of_lt mm_q60))
  refine b_cv (b_runI (As := [.int 60]) (rest := [.ref q60, .ref h]) E (hml.trans hl.1.symm) D45 w67 k70 b65 rfl (n_X5 l D X34 σ35 q60 H61.size 60 60 (by decide) (by decide) (by decide)) bi_X8_24 rfl ⟨Nat.le_of_ble_eq_true rfl, Nat.le_of_ble_eq_true rfl⟩ ⟨Nat.le_of_ble_eq_true rfl, Nat.le_of_ble_eq_true rfl⟩ rfl (Nat.le_of_ble_eq_true rfl) dX8_init_39) S66 rfl a82 (fun X72 σ73 H74 locs1 x75 k76 p77 w78 z79 o80 S81 => ?_)
  try clear k70; try clear S66; try clear b65
  have D83 : X72.1 = D := x75.1.trans D45
  try clear D45
  have k84 : q_kd X72 h = 0 := x75.k0 k46 (by first | exact (nw_no hq60 (Nat.lt_trans hq60 mm_q60)) | (rintro (e | e) <;> omega))
  try clear k46
  have b85 := b68.kept (o80 h t69 (by first | exact (Nat.ne_of_lt hq60) | omega))
  try clear o80; try clear b68
  have t86 := t_lt b85
  try clear t69
  have y87 := y49.tr p77.1.1 (fun c hc => by rw [(x50.2.2.2.1 c hc).1]; exact hc)
  try clear y49
  have x88 := x50.tr x75 a82
  try clear x50
  have k89 := x75.kd k38 (by decide)
  have y90 := p77.1.1 q22 (by rw [k38]; decide) y51
  try clear y51
  have y91 := y_rlx x75 w67.1 k38 y52
  try clear x75; try clear w67; try clear y52; try clear k38
  have y92 := p77.1.2
  have y93 := p77.2
  try clear p77
  refine b_put E S81 hAh hnm (f := 4) b85 (show vwCl[7]? = some (RX8, TX8, 8) from rfl) q_inX8 tyX8_ok nmX8 (by decide) bw_198 rfl (fun _ => rfl) (tyX8_ok 4 (by decide)) rfl rfl dX8_init_42 (fun H94 locs1 z95 o96 b97 S98 => ?_)
  try clear b85; try clear S81
  have w99 : q_w X72 σ73 H94 := w78.kept (fun a ha => o96 a (fun e => ha (by rw [e]; exact k84)))
  try clear o96; try clear w78
  have t100 := t_lt b97
  try clear t86
  refine lv_aload_n hxx hb dX8_init_45 rfl (lv_at hl 0 rfl) ?_
  refine b_new E S98 bw_185 bw_43 bw_4 (show vwCl[4]? = some (RX5, TX5, 1) from rfl) q_inX5 tyX5 tyX5_ok (Nat.le_of_ble_eq_true rfl) (Nat.le_of_ble_eq_true rfl) dX8_init_46 (fun q101 H102 e103 z104 o105 b106 S107 => ?_)
  have hq101 : h < q101 := by first | exact Nat.lt_of_lt_of_eq t100 e103.symm | omega
  have gg_q101 : s.heap.size ≤ q101 := Nat.le_trans S98.1 (Nat.le_of_eq e103.symm)
  have mm_q101 : q101 < H102.size := by rw [z104, e103]; exact Nat.lt_succ_self _
  have cc_q101 : q60 < q101 := by first | exact Nat.lt_of_lt_of_eq (Nat.lt_of_lt_of_le (Nat.lt_of_lt_of_le mm_q60 z79) (Nat.le_of_eq z95.symm)) e103.symm | omega
  try clear S98
  have w108 : q_w X72 σ73 H102 := w99.kept (fun a ha => o105 a (w99.lt ha))
  have b109 := b97.kept (o105 h t100)
  try clear o105; try clear b97
  have t110 := t_lt b109
  try clear t100
  have k111 : q_kd X72 q101 = 0 := w99.fresh (Nat.le_of_eq e103.symm)
  try clear w99
  have g112 := S107.1
  refine lv_dup hxx hb dX8_init_49 rfl ?_
  refine lv_bipush (v := 60) hxx hb dX8_init_50 (by decide) ?_
  have a123 : ∀ a, q_nw q101 H102.size a → q_nw h s.heap.size a := nw_in gg_q101 (Nat.le_trans gg_q101 (Nat.le_of_lt mm_q101))
  refine b_cv (b_runI (As := [.int 60]) (rest := [.ref q101, .ref h]) E (hml.trans hl.1.symm) D83 w108 k111 b106 rfl (n_X5 l D X72 σ73 q101 H102.size 60 60 (by decide) (by decide) (by decide)) bi_X8_24 rfl ⟨Nat.le_of_ble_eq_true rfl, Nat.le_of_ble_eq_true rfl⟩ ⟨Nat.le_of_ble_eq_true rfl, Nat.le_of_ble_eq_true rfl⟩ rfl (Nat.le_of_ble_eq_true rfl) dX8_init_52) S107 rfl a123 (fun X113 σ114 H115 locs1 x116 k117 p118 w119 z120 o121 S122 => ?_)
  try clear k111; try clear S107; try clear b106
  have D124 : X113.1 = D := x116.1.trans D83
  try clear D83
  have k125 : q_kd X113 h = 0 := x116.k0 k84 (by first | exact (nw_no hq101 (Nat.lt_trans hq101 mm_q101)) | (rintro (e | e) <;> omega))
  try clear k84
  have b126 := b109.kept (o121 h t110 (by first | exact (Nat.ne_of_lt hq101) | omega))
  try clear o121; try clear b109
  have t127 := t_lt b126
  try clear t110
  have y128 := y87.tr p118.1.1 (fun c hc => by rw [(x88.2.2.2.1 c hc).1]; exact hc)
  try clear y87
  have x129 := x88.tr x116 a123
  try clear x88
  have k130 := x116.kd k89 (by decide)
  have k131 := x116.kd k76 (by decide)
  have y132 := p118.1.1 q22 (by rw [k89]; decide) y90
  try clear y90
  have y133 := p118.1.1 q60 (by rw [k76]; decide) y92
  try clear y92
  have y134 := y_rlx x116 w108.1 k89 y91
  try clear y91; try clear k89
  have y135 := y_rlx x116 w108.1 k76 y93
  try clear x116; try clear w108; try clear y93; try clear k76
  have y136 := p118.1.2
  have y137 := p118.2
  try clear p118
  refine b_put E S122 hAh hnm (f := 5) b126 (show vwCl[7]? = some (RX8, TX8, 8) from rfl) q_inX8 tyX8_ok nmX8 (by decide) bw_201 rfl (fun _ => rfl) (tyX8_ok 5 (by decide)) rfl rfl dX8_init_55 (fun H138 locs1 z139 o140 b141 S142 => ?_)
  try clear b126; try clear S122
  have w143 : q_w X113 σ114 H138 := w119.kept (fun a ha => o140 a (fun e => ha (by rw [e]; exact k125)))
  try clear o140; try clear w119
  have t144 := t_lt b141
  try clear t127
  refine lv_aload_n hxx hb dX8_init_58 rfl (lv_at hl 0 rfl) ?_
  refine b_new E S142 bw_185 bw_43 bw_4 (show vwCl[4]? = some (RX5, TX5, 1) from rfl) q_inX5 tyX5 tyX5_ok (Nat.le_of_ble_eq_true rfl) (Nat.le_of_ble_eq_true rfl) dX8_init_59 (fun q145 H146 e147 z148 o149 b150 S151 => ?_)
  have hq145 : h < q145 := by first | exact Nat.lt_of_lt_of_eq t144 e147.symm | omega
  have gg_q145 : s.heap.size ≤ q145 := Nat.le_trans S142.1 (Nat.le_of_eq e147.symm)
  have mm_q145 : q145 < H146.size := by rw [z148, e147]; exact Nat.lt_succ_self _
  have cc_q145 : q101 < q145 := by first | exact Nat.lt_of_lt_of_eq (Nat.lt_of_lt_of_le (Nat.lt_of_lt_of_le mm_q101 z120) (Nat.le_of_eq z139.symm)) e147.symm | omega
  try clear S142
  have w152 : q_w X113 σ114 H146 := w143.kept (fun a ha => o149 a (w143.lt ha))
  have b153 := b141.kept (o149 h t144)
  try clear o149; try clear b141
  have t154 := t_lt b153
  try clear t144
  have k155 : q_kd X113 q145 = 0 := w143.fresh (Nat.le_of_eq e147.symm)
  try clear w143
  have g156 := S151.1
  refine lv_dup hxx hb dX8_init_62 rfl ?_
  refine lv_bipush (v := 60) hxx hb dX8_init_63 (by decide) ?_
  have a167 : ∀ a, q_nw q145 H146.size a → q_nw h s.heap.size a := nw_in gg_q145 (Nat.le_trans gg_q145 (Nat.le_of_lt mm_q145))
  refine b_cv (b_runI (As := [.int 60]) (rest := [.ref q145, .ref h]) E (hml.trans hl.1.symm) D124 w152 k155 b150 rfl (n_X5 l D X113 σ114 q145 H146.size 60 60 (by decide) (by decide) (by decide)) bi_X8_24 rfl ⟨Nat.le_of_ble_eq_true rfl, Nat.le_of_ble_eq_true rfl⟩ ⟨Nat.le_of_ble_eq_true rfl, Nat.le_of_ble_eq_true rfl⟩ rfl (Nat.le_of_ble_eq_true rfl) dX8_init_65) S151 rfl a167 (fun X157 σ158 H159 locs1 x160 k161 p162 w163 z164 o165 S166 => ?_)
  try clear k155; try clear S151; try clear b150
  have D168 : X157.1 = D := x160.1.trans D124
  try clear D124
  have k169 : q_kd X157 h = 0 := x160.k0 k125 (by first | exact (nw_no hq145 (Nat.lt_trans hq145 mm_q145)) | (rintro (e | e) <;> omega))
  try clear k125
  have b170 := b153.kept (o165 h t154 (by first | exact (Nat.ne_of_lt hq145) | omega))
  try clear o165; try clear b153
  have t171 := t_lt b170
  try clear t154
  have y172 := y128.tr p162.1.1 (fun c hc => by rw [(x129.2.2.2.1 c hc).1]; exact hc)
  try clear y128
  have x173 := x129.tr x160 a167
  try clear x129
  have k174 := x160.kd k130 (by decide)
  have k175 := x160.kd k131 (by decide)
  have k176 := x160.kd k117 (by decide)
  have y177 := p162.1.1 q22 (by rw [k130]; decide) y132
  try clear y132
  have y178 := p162.1.1 q60 (by rw [k131]; decide) y133
  try clear y133
  have y179 := p162.1.1 q101 (by rw [k117]; decide) y136
  try clear y136
  have y180 := y_rlx x160 w152.1 k130 y134
  try clear y134; try clear k130
  have y181 := y_rlx x160 w152.1 k131 y135
  try clear y135; try clear k131
  have y182 := y_rlx x160 w152.1 k117 y137
  try clear x160; try clear w152; try clear y137; try clear k117
  have y183 := p162.1.2
  have y184 := p162.2
  try clear p162
  refine b_put E S166 hAh hnm (f := 6) b170 (show vwCl[7]? = some (RX8, TX8, 8) from rfl) q_inX8 tyX8_ok nmX8 (by decide) bw_204 rfl (fun _ => rfl) (tyX8_ok 6 (by decide)) rfl rfl dX8_init_68 (fun H185 locs1 z186 o187 b188 S189 => ?_)
  try clear b170; try clear S166
  have w190 : q_w X157 σ158 H185 := w163.kept (fun a ha => o187 a (fun e => ha (by rw [e]; exact k169)))
  try clear o187; try clear w163
  have t191 := t_lt b188
  try clear t171
  refine lv_aload_n hxx hb dX8_init_71 rfl (lv_at hl 0 rfl) ?_
  refine b_new E S189 bw_185 bw_43 bw_4 (show vwCl[4]? = some (RX5, TX5, 1) from rfl) q_inX5 tyX5 tyX5_ok (Nat.le_of_ble_eq_true rfl) (Nat.le_of_ble_eq_true rfl) dX8_init_72 (fun q192 H193 e194 z195 o196 b197 S198 => ?_)
  have hq192 : h < q192 := by first | exact Nat.lt_of_lt_of_eq t191 e194.symm | omega
  have gg_q192 : s.heap.size ≤ q192 := Nat.le_trans S189.1 (Nat.le_of_eq e194.symm)
  have mm_q192 : q192 < H193.size := by rw [z195, e194]; exact Nat.lt_succ_self _
  have cc_q192 : q145 < q192 := by first | exact Nat.lt_of_lt_of_eq (Nat.lt_of_lt_of_le (Nat.lt_of_lt_of_le mm_q145 z164) (Nat.le_of_eq z186.symm)) e194.symm | omega
  try clear S189
  have w199 : q_w X157 σ158 H193 := w190.kept (fun a ha => o196 a (w190.lt ha))
  have b200 := b188.kept (o196 h t191)
  try clear o196; try clear b188
  have t201 := t_lt b200
  try clear t191
  have k202 : q_kd X157 q192 = 0 := w190.fresh (Nat.le_of_eq e194.symm)
  try clear w190
  have g203 := S198.1
  refine lv_dup hxx hb dX8_init_75 rfl ?_
  refine lv_bipush (v := 60) hxx hb dX8_init_76 (by decide) ?_
  have a214 : ∀ a, q_nw q192 H193.size a → q_nw h s.heap.size a := nw_in gg_q192 (Nat.le_trans gg_q192 (Nat.le_of_lt mm_q192))
  refine b_cv (b_runI (As := [.int 60]) (rest := [.ref q192, .ref h]) E (hml.trans hl.1.symm) D168 w199 k202 b197 rfl (n_X5 l D X157 σ158 q192 H193.size 60 60 (by decide) (by decide) (by decide)) bi_X8_24 rfl ⟨Nat.le_of_ble_eq_true rfl, Nat.le_of_ble_eq_true rfl⟩ ⟨Nat.le_of_ble_eq_true rfl, Nat.le_of_ble_eq_true rfl⟩ rfl (Nat.le_of_ble_eq_true rfl) dX8_init_78) S198 rfl a214 (fun X204 σ205 H206 locs1 x207 k208 p209 w210 z211 o212 S213 => ?_)
  try clear k202; try clear S198; try clear b197
  have D215 : X204.1 = D := x207.1.trans D168
  try clear D168
  have k216 : q_kd X204 h = 0 := x207.k0 k169 (by first | exact (nw_no hq192 (Nat.lt_trans hq192 mm_q192)) | (rintro (e | e) <;> omega))
  try clear k169
  have b217 := b200.kept (o212 h t201 (by first | exact (Nat.ne_of_lt hq192) | omega))
  try clear o212; try clear b200
  have t218 := t_lt b217
  try clear t201
  have y219 := y172.tr p209.1.1 (fun c hc => by rw [(x173.2.2.2.1 c hc).1]; exact hc)
  try clear y172
  have x220 := x173.tr x207 a214
  try clear x173
  have k221 := x207.kd k174 (by decide)
  have k222 := x207.kd k175 (by decide)
  have k223 := x207.kd k176 (by decide)
  have k224 := x207.kd k161 (by decide)
  have y225 := p209.1.1 q22 (by rw [k174]; decide) y177
  try clear y177
  have y226 := p209.1.1 q60 (by rw [k175]; decide) y178
  try clear y178
  have y227 := p209.1.1 q101 (by rw [k176]; decide) y179
  try clear y179
  have y228 := p209.1.1 q145 (by rw [k161]; decide) y183
  try clear y183
  have y229 := y_rlx x207 w199.1 k174 y180
  try clear y180; try clear k174
  have y230 := y_rlx x207 w199.1 k175 y181
  try clear y181; try clear k175
  have y231 := y_rlx x207 w199.1 k176 y182
  try clear y182; try clear k176
  have y232 := y_rlx x207 w199.1 k161 y184
  try clear x207; try clear w199; try clear y184; try clear k161
  have y233 := p209.1.2
  have y234 := p209.2
  try clear p209
  refine b_put E S213 hAh hnm (f := 7) b217 (show vwCl[7]? = some (RX8, TX8, 8) from rfl) q_inX8 tyX8_ok nmX8 (by decide) bw_206 rfl (fun _ => rfl) (tyX8_ok 7 (by decide)) rfl rfl dX8_init_81 (fun H235 locs1 z236 o237 b238 S239 => ?_)
  try clear b217; try clear S213
  have w240 : q_w X204 σ205 H235 := w210.kept (fun a ha => o237 a (fun e => ha (by rw [e]; exact k216)))
  try clear o237; try clear w210
  have t241 := t_lt b238
  try clear t218
  obtain ⟨X242, dX242⟩ : ∃ Y, Y = q_xg X204 h 8 0 (fun f => ([0, 0, 0, q22, q60, q101, q145, q192] : List Nat).getD f 0) := ⟨_, rfl⟩
  obtain ⟨σ243, dσ243⟩ : ∃ τ, τ = q_sg σ205 h (fun f => ([0, 0, 0, 0, 0, 0, 0, 0] : List Int32).getD f 0) (fun f => ([0, 0, 0, 0, 0, 0, 0, 0] : List Int64).getD f 0) 0 := ⟨_, rfl⟩
  have x244 : q_ext (fun a => a = h) X204 X242 σ205 σ243 := by rw [dX242, dσ243]; exact q_ext.add k216
  have hrk : ∀ f, f < 40 → q_rk 8 f ≠ 0 → q_kd X204 (([0, 0, 0, q22, q60, q101, q145, q192] : List Nat).getD f 0) = q_rk 8 f := fun f h40 hf => match f, h40, hf with | 0, _, hf => absurd rfl hf | 1, _, hf => absurd rfl hf | 2, _, hf => absurd rfl hf | 3, _, _ => k221 | 4, _, _ => k222 | 5, _, _ => k223 | 6, _, _ => k224 | 7, _, _ => k208 | 8, _, hf => absurd rfl hf | 9, _, hf => absurd rfl hf | 10, _, hf => absurd rfl hf | 11, _, hf => absurd rfl hf | 12, _, hf => absurd rfl hf | 13, _, hf => absurd rfl hf | 14, _, hf => absurd rfl hf | 15, _, hf => absurd rfl hf | 16, _, hf => absurd rfl hf | 17, _, hf => absurd rfl hf | 18, _, hf => absurd rfl hf | 19, _, hf => absurd rfl hf | 20, _, hf => absurd rfl hf | 21, _, hf => absurd rfl hf | 22, _, hf => absurd rfl hf | 23, _, hf => absurd rfl hf | 24, _, hf => absurd rfl hf | 25, _, hf => absurd rfl hf | 26, _, hf => absurd rfl hf | 27, _, hf => absurd rfl hf | 28, _, hf => absurd rfl hf | 29, _, hf => absurd rfl hf | 30, _, hf => absurd rfl hf | 31, _, hf => absurd rfl hf | 32, _, hf => absurd rfl hf | 33, _, hf => absurd rfl hf | 34, _, hf => absurd rfl hf | 35, _, hf => absurd rfl hf | 36, _, hf => absurd rfl hf | 37, _, hf => absurd rfl hf | 38, _, hf => absurd rfl hf | 39, _, hf => absurd rfl hf | (n + 40), h40, _ => absurd h40 (Nat.not_lt_of_ge (Nat.le_add_left 40 n))
  have hB : ∀ f, f < 40 → (q_bn 8 f).1 ≤ ((([0, 0, 0, 0, 0, 0, 0, 0] : List Int32).getD f 0).toInt) ∧ (([0, 0, 0, 0, 0, 0, 0, 0] : List Int32).getD f 0).toInt ≤ (q_bn 8 f).2 := by decide +kernel
  have y246 : ∀ f, q_rk 8 f ≠ 0 → h < ([0, 0, 0, q22, q60, q101, q145, q192] : List Nat).getD f 0 := by
    intro f hf
    rcases y_fs8 hf with rfl | rfl | rfl | rfl | rfl
    · exact (hq22)
    · exact (hq60)
    · exact (hq101)
    · exact (hq145)
    · exact (hq192)
  have y247 : ∀ f, q_rk 8 f ≠ 0 → y_root X204 (([0, 0, 0, q22, q60, q101, q145, q192] : List Nat).getD f 0) := by
    intro f hf
    rcases y_fs8 hf with rfl | rfl | rfl | rfl | rfl
    · exact y225
    · exact y226
    · exact y227
    · exact y228
    · exact y233
  try clear y233; try clear y228; try clear y227; try clear y226; try clear y225
  have y248 : ∀ f, q_rk 8 f = 5 → q_ln X204 (q_rf X204 (([0, 0, 0, q22, q60, q101, q145, q192] : List Nat).getD f 0) 0) = y_rl 8 f := by
    intro f hf
    rcases y_fs8 (show q_rk 8 f ≠ 0 by rw [hf]; decide) with rfl | rfl | rfl | rfl | rfl
    · exact y229
    · exact y230
    · exact y231
    · exact y232
    · exact y234
  have y249 : ∀ f, q_rk 8 f ≠ 0 → ([0, 0, 0, q22, q60, q101, q145, q192] : List Nat).getD f 0 ≠ h := by
    intro f hf
    rcases y_fs8 hf with rfl | rfl | rfl | rfl | rfl
    · exact ((Nat.ne_of_gt hq22))
    · exact ((Nat.ne_of_gt hq60))
    · exact ((Nat.ne_of_gt hq101))
    · exact ((Nat.ne_of_gt hq145))
    · exact ((Nat.ne_of_gt hq192))
  have y250 : ∀ f, q_rk 8 f ≠ 0 → q_kd X (([0, 0, 0, q22, q60, q101, q145, q192] : List Nat).getD f 0) = 0 := by
    intro f hf
    rcases y_fs8 hf with rfl | rfl | rfl | rfl | rfl
    · exact hw0.fresh (gg_q22)
    · exact hw0.fresh (gg_q60)
    · exact hw0.fresh (gg_q101)
    · exact hw0.fresh (gg_q145)
    · exact hw0.fresh (gg_q192)
  have hIV : ∀ f, f < 60 → ([0, 0, 0, 0, 0, 0, 0, 0] : List Int32).getD f 0 = y_iv 8 f ∧ ([0, 0, 0, 0, 0, 0, 0, 0] : List Int64).getD f 0 = y_il 8 f := by decide +kernel
  have w245 : q_w X242 σ243 H235 := by
    rw [dX242, dσ243]
    exact w240.add k216 (q_hrk hrk) (fun q => absurd rfl q) (by decide) (fun q => absurd q (by decide)) (q_hB hB (by decide)) (fun q => by rcases q with q | q <;> exact absurd q (by decide)) (q_cfO D215 ⟨rfl, by decide⟩ (show vwCl[7]? = some (RX8, TX8, 8) from rfl) b238 (fun f hf => match f, hf with | 0, _ => rfl | 1, _ => rfl | 2, _ => rfl | 3, _ => rfl | 4, _ => rfl | 5, _ => rfl | 6, _ => rfl | 7, _ => rfl | (n + 8), hf => absurd hf (Nat.not_lt_of_ge (Nat.le_add_left 8 n)))) y246 (y_in8 (rf := (fun f => ([0, 0, 0, q22, q60, q101, q145, q192] : List Nat).getD f 0)) (show q22 < q60 from cc_q60) (show q60 < q101 from cc_q101) (show q101 < q145 from cc_q145) (show q145 < q192 from cc_q192)) y247 y248 (fun _ f hf => hIV f (hf.resolve_left (by decide)))
  try clear y248; try clear y247; try clear y246; try clear b238; try clear D215
  have y251 : y_root X242 h := by
    rw [dX242]
    exact (y_root.out w240.1 k216).add y_xg y249
  try clear y249; try clear k216
  have y252 : y_rt X X242 := by
    rw [dX242]
    exact y219.add y_xg y250
  try clear y250; try clear y219
  have k253 : q_kd X242 h = 8 := by rw [dX242]; exact q_xg_h
  have x254 := x220.tr x244 (fun a e => Or.inl e)
  try clear x220
  have y255 := y_rlx x244 w240.1 k221 y229
  try clear y255; try clear y229
  have y256 := y_rlx x244 w240.1 k222 y230
  try clear y256; try clear y230
  have y257 := y_rlx x244 w240.1 k223 y231
  try clear y257; try clear y231
  have y258 := y_rlx x244 w240.1 k224 y232
  try clear y258; try clear y232
  have y259 := y_rlx x244 w240.1 k208 y234
  try clear y259; try clear w240; try clear y234
  have k260 := x244.kd k221 (by decide)
  try clear k260; try clear k221
  have k261 := x244.kd k222 (by decide)
  try clear k261; try clear k222
  have k262 := x244.kd k223 (by decide)
  try clear k262; try clear k223
  have k263 := x244.kd k224 (by decide)
  try clear k263; try clear k224
  have k264 := x244.kd k208 (by decide)
  try clear k264; try clear x244; try clear k208
  exact b_ret E hr hlk S239 x254 k253 ⟨⟨y252, y251⟩, trivial⟩ w245 dX8_init_84

set_option maxRecDepth 100000 in
set_option maxHeartbeats 4000000 in
theorem n_X7 (l : Launch) (D : DW) (X : XW) (σ : ST) (h sz : Nat) : Met l yX7_init (q_ws yX7_init cX7_init 1 none) { frames := 2, cells := 2, slots := 61, locals := 45 } (q_PN D X σ h sz 6 8 (fun k => defaultValue (tyX7 k)) [.ref h]) (q_QN X σ h sz 7 (fun X' _ => (y_rt X X' ∧ y_root X' h) ∧ True)) 2 61 (q_nw h sz) := by
  refine b_met  (by first | exact rfl | decide +kernel) rfl rfl (Nat.le_of_ble_eq_true rfl) (fun p e s m below meth c E hml hr hlk hnm hsz hD hw0 h00 hob ls hl => ?_)
  subst hsz
  have hxx := E.1
  have hb := E.2.1
  have hl : lv_has ls 1 [(0, .ref h)] := hl
  have hS : va_S (q_nw h s.heap.size) s.heap s.heap [] := va_S.rf
  have hx0 : q_ext (q_nw h s.heap.size) X X σ σ := q_ext.rf
  have hAh : q_nw h s.heap.size h := Or.inl rfl
  have yr0 : y_rt X X := y_rt.rf
  have hlt := t_lt hob
  refine lv_aload_n hxx hb dX7_init_0 rfl (lv_at hl 0 rfl) ?_
  refine W.objInit hxx hb E.2.2.1 (E.2.2.2.1 _ bw_391) (E.2.2.2.1 _ bw_26) (E.2.2.2.1 _ bw_27) rfl (by rw [hml]; exact hl.1) rfl dX7_init_1 (Nat.le_of_ble_eq_true rfl) (Nat.le_of_ble_eq_true rfl) ?_
  refine W.eq (g2 := F0 m 4 ls []) rfl ?_
  refine lv_aload_n hxx hb dX7_init_4 rfl (lv_at hl 0 rfl) ?_
  refine lv_iconst (v := 0) hxx hb dX7_init_5 (by decide) ?_
  refine b_put E hS hAh hnm (f := 0) hob (show vwCl[6]? = some (RX7, TX7, 8) from rfl) q_inX7 tyX7_ok nmX7 (by decide) bw_394 rfl (fun _ => rfl) (tyX7_ok 0 (by decide)) rfl rfl dX7_init_6 (fun H1 locs1 z2 o3 b4 S5 => ?_)
  have w6 : q_w X σ H1 := hw0.kept (fun a ha => o3 a (fun e => ha (by rw [e]; exact h00)))
  try clear o3
  have t7 := t_lt b4
  refine lv_aload_n hxx hb dX7_init_9 rfl (lv_at hl 0 rfl) ?_
  refine lv_iconst (v := 0) hxx hb dX7_init_10 (by decide) ?_
  refine b_put E S5 hAh hnm (f := 1) b4 (show vwCl[6]? = some (RX7, TX7, 8) from rfl) q_inX7 tyX7_ok nmX7 (by decide) bw_396 rfl (fun _ => rfl) (tyX7_ok 1 (by decide)) rfl rfl dX7_init_11 (fun H8 locs1 z9 o10 b11 S12 => ?_)
  try clear S5; try clear b4
  have w13 : q_w X σ H8 := w6.kept (fun a ha => o10 a (fun e => ha (by rw [e]; exact h00)))
  try clear o10; try clear w6
  have t14 := t_lt b11
  try clear t7
  refine lv_aload_n hxx hb dX7_init_14 rfl (lv_at hl 0 rfl) ?_
  refine lv_iconst (v := 0) hxx hb dX7_init_15 (by decide) ?_
  refine b_put E S12 hAh hnm (f := 2) b11 (show vwCl[6]? = some (RX7, TX7, 8) from rfl) q_inX7 tyX7_ok nmX7 (by decide) bw_398 rfl (fun _ => rfl) (tyX7_ok 2 (by decide)) rfl rfl dX7_init_16 (fun H15 locs1 z16 o17 b18 S19 => ?_)
  try clear S12; try clear b11
  have w20 : q_w X σ H15 := w13.kept (fun a ha => o17 a (fun e => ha (by rw [e]; exact h00)))
  try clear o17; try clear w13
  have t21 := t_lt b18
  try clear t14
  refine lv_aload_n hxx hb dX7_init_19 rfl (lv_at hl 0 rfl) ?_
  refine lv_iconst (v := 0) hxx hb dX7_init_20 (by decide) ?_
  refine b_put E S19 hAh hnm (f := 3) b18 (show vwCl[6]? = some (RX7, TX7, 8) from rfl) q_inX7 tyX7_ok nmX7 (by decide) bw_400 rfl (fun _ => rfl) (tyX7_ok 3 (by decide)) rfl rfl dX7_init_21 (fun H22 locs1 z23 o24 b25 S26 => ?_)
  try clear S19; try clear b18
  have w27 : q_w X σ H22 := w20.kept (fun a ha => o24 a (fun e => ha (by rw [e]; exact h00)))
  try clear o24; try clear w20
  have t28 := t_lt b25
  try clear t21
  refine lv_aload_n hxx hb dX7_init_24 rfl (lv_at hl 0 rfl) ?_
  refine lv_iconst (v := 0) hxx hb dX7_init_25 (by decide) ?_
  refine b_put E S26 hAh hnm (f := 4) b25 (show vwCl[6]? = some (RX7, TX7, 8) from rfl) q_inX7 tyX7_ok nmX7 (by decide) bw_402 rfl (fun _ => rfl) (tyX7_ok 4 (by decide)) rfl rfl dX7_init_26 (fun H29 locs1 z30 o31 b32 S33 => ?_)
  try clear S26; try clear b25
  have w34 : q_w X σ H29 := w27.kept (fun a ha => o31 a (fun e => ha (by rw [e]; exact h00)))
  try clear o31; try clear w27
  have t35 := t_lt b32
  try clear t28
  refine lv_aload_n hxx hb dX7_init_29 rfl (lv_at hl 0 rfl) ?_
  refine lv_iconst (v := 0) hxx hb dX7_init_30 (by decide) ?_
  refine b_put E S33 hAh hnm (f := 5) b32 (show vwCl[6]? = some (RX7, TX7, 8) from rfl) q_inX7 tyX7_ok nmX7 (by decide) bw_404 rfl (fun _ => rfl) (tyX7_ok 5 (by decide)) rfl rfl dX7_init_31 (fun H36 locs1 z37 o38 b39 S40 => ?_)
  try clear S33; try clear b32
  have w41 : q_w X σ H36 := w34.kept (fun a ha => o38 a (fun e => ha (by rw [e]; exact h00)))
  try clear o38; try clear w34
  have t42 := t_lt b39
  try clear t35
  refine lv_aload_n hxx hb dX7_init_34 rfl (lv_at hl 0 rfl) ?_
  refine lv_iconst (v := 0) hxx hb dX7_init_35 (by decide) ?_
  refine b_put E S40 hAh hnm (f := 6) b39 (show vwCl[6]? = some (RX7, TX7, 8) from rfl) q_inX7 tyX7_ok nmX7 (by decide) bw_406 rfl (fun _ => rfl) (tyX7_ok 6 (by decide)) rfl rfl dX7_init_36 (fun H43 locs1 z44 o45 b46 S47 => ?_)
  try clear S40; try clear b39
  have w48 : q_w X σ H43 := w41.kept (fun a ha => o45 a (fun e => ha (by rw [e]; exact h00)))
  try clear o45; try clear w41
  have t49 := t_lt b46
  try clear t42
  refine lv_aload_n hxx hb dX7_init_39 rfl (lv_at hl 0 rfl) ?_
  refine b_new E S47 bw_392 bw_43 bw_4 (show vwCl[4]? = some (RX5, TX5, 1) from rfl) q_inX5 tyX5 tyX5_ok (Nat.le_of_ble_eq_true rfl) (Nat.le_of_ble_eq_true rfl) dX7_init_40 (fun q50 H51 e52 z53 o54 b55 S56 => ?_)
  have hq50 : h < q50 := by first | exact Nat.lt_of_lt_of_eq t49 e52.symm | omega
  have gg_q50 : s.heap.size ≤ q50 := Nat.le_trans S47.1 (Nat.le_of_eq e52.symm)
  have mm_q50 : q50 < H51.size := by rw [z53, e52]; exact Nat.lt_succ_self _
  try clear S47
  have w57 : q_w X σ H51 := w48.kept (fun a ha => o54 a (w48.lt ha))
  have b58 := b46.kept (o54 h t49)
  try clear o54; try clear b46
  have t59 := t_lt b58
  try clear t49
  have k60 : q_kd X q50 = 0 := w48.fresh (Nat.le_of_eq e52.symm)
  try clear w48
  have g61 := S56.1
  refine lv_dup hxx hb dX7_init_43 rfl ?_
  refine lv_bipush (v := 60) hxx hb dX7_init_44 (by decide) ?_
  have a72 : ∀ a, q_nw q50 H51.size a → q_nw h s.heap.size a := nw_in gg_q50 (Nat.le_trans gg_q50 (Nat.le_of_lt mm_q50))
  refine b_cv (b_runI (As := [.int 60]) (rest := [.ref q50, .ref h]) E (hml.trans hl.1.symm) hD w57 k60 b55 rfl (n_X5 l D X σ q50 H51.size 60 60 (by decide) (by decide) (by decide)) bi_X7_38 rfl ⟨Nat.le_of_ble_eq_true rfl, Nat.le_of_ble_eq_true rfl⟩ ⟨Nat.le_of_ble_eq_true rfl, Nat.le_of_ble_eq_true rfl⟩ rfl (Nat.le_of_ble_eq_true rfl) dX7_init_46) S56 rfl a72 (fun X62 σ63 H64 locs1 x65 k66 p67 w68 z69 o70 S71 => ?_)
  try clear k60; try clear w57; try clear S56; try clear b55
  have D73 : X62.1 = D := x65.1.trans hD
  have k74 : q_kd X62 h = 0 := x65.k0 h00 (by first | exact (nw_no hq50 (Nat.lt_trans hq50 mm_q50)) | (rintro (e | e) <;> omega))
  have b75 := b58.kept (o70 h t59 (by first | exact (Nat.ne_of_lt hq50) | omega))
  try clear o70; try clear b58
  have t76 := t_lt b75
  try clear t59
  have y77 := yr0.tr p67.1.1 (fun c hc => by rw [(hx0.2.2.2.1 c hc).1]; exact hc)
  have x78 := hx0.tr x65 a72
  try clear x65
  have y79 := p67.1.2
  have y80 := p67.2
  try clear p67
  refine b_put E S71 hAh hnm (f := 7) b75 (show vwCl[6]? = some (RX7, TX7, 8) from rfl) q_inX7 tyX7_ok nmX7 (by decide) bw_407 rfl (fun _ => rfl) (tyX7_ok 7 (by decide)) rfl rfl dX7_init_49 (fun H81 locs1 z82 o83 b84 S85 => ?_)
  try clear b75; try clear S71
  have w86 : q_w X62 σ63 H81 := w68.kept (fun a ha => o83 a (fun e => ha (by rw [e]; exact k74)))
  try clear o83; try clear w68
  have t87 := t_lt b84
  try clear t76
  obtain ⟨X88, dX88⟩ : ∃ Y, Y = q_xg X62 h 7 0 (fun f => ([0, 0, 0, 0, 0, 0, 0, q50] : List Nat).getD f 0) := ⟨_, rfl⟩
  obtain ⟨σ89, dσ89⟩ : ∃ τ, τ = q_sg σ63 h (fun f => ([0, 0, 0, 0, 0, 0, 0, 0] : List Int32).getD f 0) (fun f => ([0, 0, 0, 0, 0, 0, 0, 0] : List Int64).getD f 0) 0 := ⟨_, rfl⟩
  have x90 : q_ext (fun a => a = h) X62 X88 σ63 σ89 := by rw [dX88, dσ89]; exact q_ext.add k74
  have hrk : ∀ f, f < 40 → q_rk 7 f ≠ 0 → q_kd X62 (([0, 0, 0, 0, 0, 0, 0, q50] : List Nat).getD f 0) = q_rk 7 f := fun f h40 hf => match f, h40, hf with | 0, _, hf => absurd rfl hf | 1, _, hf => absurd rfl hf | 2, _, hf => absurd rfl hf | 3, _, hf => absurd rfl hf | 4, _, hf => absurd rfl hf | 5, _, hf => absurd rfl hf | 6, _, hf => absurd rfl hf | 7, _, _ => k66 | 8, _, hf => absurd rfl hf | 9, _, hf => absurd rfl hf | 10, _, hf => absurd rfl hf | 11, _, hf => absurd rfl hf | 12, _, hf => absurd rfl hf | 13, _, hf => absurd rfl hf | 14, _, hf => absurd rfl hf | 15, _, hf => absurd rfl hf | 16, _, hf => absurd rfl hf | 17, _, hf => absurd rfl hf | 18, _, hf => absurd rfl hf | 19, _, hf => absurd rfl hf | 20, _, hf => absurd rfl hf | 21, _, hf => absurd rfl hf | 22, _, hf => absurd rfl hf | 23, _, hf => absurd rfl hf | 24, _, hf => absurd rfl hf | 25, _, hf => absurd rfl hf | 26, _, hf => absurd rfl hf | 27, _, hf => absurd rfl hf | 28, _, hf => absurd rfl hf | 29, _, hf => absurd rfl hf | 30, _, hf => absurd rfl hf | 31, _, hf => absurd rfl hf | 32, _, hf => absurd rfl hf | 33, _, hf => absurd rfl hf | 34, _, hf => absurd rfl hf | 35, _, hf => absurd rfl hf | 36, _, hf => absurd rfl hf | 37, _, hf => absurd rfl hf | 38, _, hf => absurd rfl hf | 39, _, hf => absurd rfl hf | (n + 40), h40, _ => absurd h40 (Nat.not_lt_of_ge (Nat.le_add_left 40 n))
  have hB : ∀ f, f < 40 → (q_bn 7 f).1 ≤ ((([0, 0, 0, 0, 0, 0, 0, 0] : List Int32).getD f 0).toInt) ∧ (([0, 0, 0, 0, 0, 0, 0, 0] : List Int32).getD f 0).toInt ≤ (q_bn 7 f).2 := by decide +kernel
  have y92 : ∀ f, q_rk 7 f ≠ 0 → h < ([0, 0, 0, 0, 0, 0, 0, q50] : List Nat).getD f 0 := by
    intro f hf
    rcases y_fs7 hf with rfl
    · exact (hq50)
  have y93 : ∀ f, q_rk 7 f ≠ 0 → y_root X62 (([0, 0, 0, 0, 0, 0, 0, q50] : List Nat).getD f 0) := by
    intro f hf
    rcases y_fs7 hf with rfl
    · exact y79
  try clear y79
  have y94 : ∀ f, q_rk 7 f = 5 → q_ln X62 (q_rf X62 (([0, 0, 0, 0, 0, 0, 0, q50] : List Nat).getD f 0) 0) = y_rl 7 f := by
    intro f hf
    rcases y_fs7 (show q_rk 7 f ≠ 0 by rw [hf]; decide) with rfl
    · exact y80
  have y95 : ∀ f, q_rk 7 f ≠ 0 → ([0, 0, 0, 0, 0, 0, 0, q50] : List Nat).getD f 0 ≠ h := by
    intro f hf
    rcases y_fs7 hf with rfl
    · exact ((Nat.ne_of_gt hq50))
  have y96 : ∀ f, q_rk 7 f ≠ 0 → q_kd X (([0, 0, 0, 0, 0, 0, 0, q50] : List Nat).getD f 0) = 0 := by
    intro f hf
    rcases y_fs7 hf with rfl
    · exact hw0.fresh (gg_q50)
  have hIV : ∀ f, f < 60 → ([0, 0, 0, 0, 0, 0, 0, 0] : List Int32).getD f 0 = y_iv 7 f ∧ ([0, 0, 0, 0, 0, 0, 0, 0] : List Int64).getD f 0 = y_il 7 f := by decide +kernel
  have w91 : q_w X88 σ89 H81 := by
    rw [dX88, dσ89]
    exact w86.add k74 (q_hrk hrk) (fun q => absurd rfl q) (by decide) (fun q => absurd q (by decide)) (q_hB hB (by decide)) (fun q => by rcases q with q | q <;> exact absurd q (by decide)) (q_cfO D73 ⟨rfl, by decide⟩ (show vwCl[6]? = some (RX7, TX7, 8) from rfl) b84 (fun f hf => match f, hf with | 0, _ => rfl | 1, _ => rfl | 2, _ => rfl | 3, _ => rfl | 4, _ => rfl | 5, _ => rfl | 6, _ => rfl | 7, _ => rfl | (n + 8), hf => absurd hf (Nat.not_lt_of_ge (Nat.le_add_left 8 n)))) y92 (y_in7 (rf := (fun f => ([0, 0, 0, 0, 0, 0, 0, q50] : List Nat).getD f 0))) y93 y94 (fun _ f hf => hIV f (hf.resolve_left (by decide)))
  try clear y94; try clear y93; try clear y92; try clear b84; try clear D73
  have y97 : y_root X88 h := by
    rw [dX88]
    exact (y_root.out w86.1 k74).add y_xg y95
  try clear y95; try clear k74
  have y98 : y_rt X X88 := by
    rw [dX88]
    exact y77.add y_xg y96
  try clear y96; try clear y77
  have k99 : q_kd X88 h = 7 := by rw [dX88]; exact q_xg_h
  have x100 := x78.tr x90 (fun a e => Or.inl e)
  try clear x78
  have y101 := y_rlx x90 w86.1 k66 y80
  try clear y101; try clear w86; try clear y80
  have k102 := x90.kd k66 (by decide)
  try clear k102; try clear x90; try clear k66
  exact b_ret E hr hlk S85 x100 k99 ⟨⟨y98, y97⟩, trivial⟩ w91 dX7_init_52

set_option maxRecDepth 100000 in
set_option maxHeartbeats 4000000 in
theorem n_X0 (l : Launch) (D : DW) (X : XW) (σ : ST) (h sz : Nat) : Met l yX0_init (q_ws yX0_init cX0_init 1 none) { frames := 3, cells := 46, slots := 1144, locals := 65 } (q_PN D X σ h sz 0 15 (fun k => defaultValue (tyX0 k)) [.ref h]) (q_QN X σ h sz 1 (fun X' _ => (y_rt X X' ∧ y_root X' h) ∧ True)) 46 1144 (q_nw h sz) := by
  refine b_met  (by first | exact rfl | decide +kernel) rfl rfl (Nat.le_of_ble_eq_true rfl) (fun p e s m below meth c E hml hr hlk hnm hsz hD hw0 h00 hob ls hl => ?_)
  subst hsz
  have hxx := E.1
  have hb := E.2.1
  have hl : lv_has ls 1 [(0, .ref h)] := hl
  have hS : va_S (q_nw h s.heap.size) s.heap s.heap [] := va_S.rf
  have hx0 : q_ext (q_nw h s.heap.size) X X σ σ := q_ext.rf
  have hAh : q_nw h s.heap.size h := Or.inl rfl
  have yr0 : y_rt X X := y_rt.rf
  have hlt := t_lt hob
  refine lv_aload_n hxx hb dX0_init_0 rfl (lv_at hl 0 rfl) ?_
  refine W.objInit hxx hb E.2.2.1 (E.2.2.2.1 _ bw_35) (E.2.2.2.1 _ bw_26) (E.2.2.2.1 _ bw_27) rfl (by rw [hml]; exact hl.1) rfl dX0_init_1 (Nat.le_of_ble_eq_true rfl) (Nat.le_of_ble_eq_true rfl) ?_
  refine W.eq (g2 := F0 m 4 ls []) rfl ?_
  refine lv_aload_n hxx hb dX0_init_4 rfl (lv_at hl 0 rfl) ?_
  refine b_new E hS bw_36 bw_37 bw_3 (show vwCl[5]? = some (RX6, TX6, 8) from rfl) q_inX6 tyX6 tyX6_ok (Nat.le_of_ble_eq_true rfl) (Nat.le_of_ble_eq_true rfl) dX0_init_5 (fun q1 H2 e3 z4 o5 b6 S7 => ?_)
  have hq1 : h < q1 := by first | exact Nat.lt_of_lt_of_eq hlt e3.symm | omega
  have gg_q1 : s.heap.size ≤ q1 := Nat.le_trans hS.1 (Nat.le_of_eq e3.symm)
  have mm_q1 : q1 < H2.size := by rw [z4, e3]; exact Nat.lt_succ_self _
  have w8 : q_w X σ H2 := hw0.kept (fun a ha => o5 a (hw0.lt ha))
  have b9 := hob.kept (o5 h hlt)
  try clear o5
  have t10 := t_lt b9
  have k11 : q_kd X q1 = 0 := hw0.fresh (Nat.le_of_eq e3.symm)
  have g12 := S7.1
  refine lv_dup hxx hb dX0_init_8 rfl ?_
  have a23 : ∀ a, q_nw q1 H2.size a → q_nw h s.heap.size a := nw_in gg_q1 (Nat.le_trans gg_q1 (Nat.le_of_lt mm_q1))
  refine b_cv (b_runN (As := []) (rest := [.ref q1, .ref h]) E (hml.trans hl.1.symm) hD w8 k11 b6 rfl (n_X6 l D X σ q1 H2.size) bi_X0_11 rfl ⟨Nat.le_of_ble_eq_true rfl, Nat.le_of_ble_eq_true rfl⟩ ⟨Nat.le_of_ble_eq_true rfl, Nat.le_of_ble_eq_true rfl⟩ rfl (Nat.le_of_ble_eq_true rfl) dX0_init_9) S7 rfl a23 (fun X13 σ14 H15 locs1 x16 k17 p18 w19 z20 o21 S22 => ?_)
  try clear k11; try clear w8; try clear S7; try clear b6
  have D24 : X13.1 = D := x16.1.trans hD
  have k25 : q_kd X13 h = 0 := x16.k0 h00 (by first | exact (nw_no hq1 (Nat.lt_trans hq1 mm_q1)) | (rintro (e | e) <;> omega))
  have b26 := b9.kept (o21 h t10 (by first | exact (Nat.ne_of_lt hq1) | omega))
  try clear o21; try clear b9
  have t27 := t_lt b26
  try clear t10
  have y28 := yr0.tr p18.1.1 (fun c hc => by rw [(hx0.2.2.2.1 c hc).1]; exact hc)
  have x29 := hx0.tr x16 a23
  try clear x16
  have y30 := p18.1.2
  try clear p18
  refine b_put E S22 hAh hnm (f := 0) b26 (show vwCl[0]? = some (RX0, TX0, 15) from rfl) q_inX0 tyX0_ok nmX0 (by decide) bw_228 rfl (fun _ => rfl) (tyX0_ok 0 (by decide)) rfl rfl dX0_init_12 (fun H31 locs1 z32 o33 b34 S35 => ?_)
  try clear b26; try clear S22
  have w36 : q_w X13 σ14 H31 := w19.kept (fun a ha => o33 a (fun e => ha (by rw [e]; exact k25)))
  try clear o33; try clear w19
  have t37 := t_lt b34
  try clear t27
  refine lv_aload_n hxx hb dX0_init_15 rfl (lv_at hl 0 rfl) ?_
  refine b_new E S35 bw_101 bw_102 bw_6 (show vwCl[1]? = some (RX1, TX1, 7) from rfl) q_inX1 tyX1 tyX1_ok (Nat.le_of_ble_eq_true rfl) (Nat.le_of_ble_eq_true rfl) dX0_init_16 (fun q38 H39 e40 z41 o42 b43 S44 => ?_)
  have hq38 : h < q38 := by first | exact Nat.lt_of_lt_of_eq t37 e40.symm | omega
  have gg_q38 : s.heap.size ≤ q38 := Nat.le_trans S35.1 (Nat.le_of_eq e40.symm)
  have mm_q38 : q38 < H39.size := by rw [z41, e40]; exact Nat.lt_succ_self _
  have cc_q38 : q1 < q38 := by first | exact Nat.lt_of_lt_of_eq (Nat.lt_of_lt_of_le (Nat.lt_of_lt_of_le mm_q1 z20) (Nat.le_of_eq z32.symm)) e40.symm | omega
  try clear S35
  have w45 : q_w X13 σ14 H39 := w36.kept (fun a ha => o42 a (w36.lt ha))
  have b46 := b34.kept (o42 h t37)
  try clear o42; try clear b34
  have t47 := t_lt b46
  try clear t37
  have k48 : q_kd X13 q38 = 0 := w36.fresh (Nat.le_of_eq e40.symm)
  try clear w36
  have g49 := S44.1
  refine lv_dup hxx hb dX0_init_19 rfl ?_
  have a60 : ∀ a, q_nw q38 H39.size a → q_nw h s.heap.size a := nw_in gg_q38 (Nat.le_trans gg_q38 (Nat.le_of_lt mm_q38))
  refine b_cv (b_runN (As := []) (rest := [.ref q38, .ref h]) E (hml.trans hl.1.symm) D24 w45 k48 b43 rfl (n_X1 l D X13 σ14 q38 H39.size) bi_X0_20 rfl ⟨Nat.le_of_ble_eq_true rfl, Nat.le_of_ble_eq_true rfl⟩ ⟨Nat.le_of_ble_eq_true rfl, Nat.le_of_ble_eq_true rfl⟩ rfl (Nat.le_of_ble_eq_true rfl) dX0_init_20) S44 rfl a60 (fun X50 σ51 H52 locs1 x53 k54 p55 w56 z57 o58 S59 => ?_)
  try clear k48; try clear w45; try clear S44; try clear b43
  have D61 : X50.1 = D := x53.1.trans D24
  try clear D24
  have k62 : q_kd X50 h = 0 := x53.k0 k25 (by first | exact (nw_no hq38 (Nat.lt_trans hq38 mm_q38)) | (rintro (e | e) <;> omega))
  try clear k25
  have b63 := b46.kept (o58 h t47 (by first | exact (Nat.ne_of_lt hq38) | omega))
  try clear o58; try clear b46
  have t64 := t_lt b63
  try clear t47
  have y65 := y28.tr p55.1.1 (fun c hc => by rw [(x29.2.2.2.1 c hc).1]; exact hc)
  try clear y28
  have x66 := x29.tr x53 a60
  try clear x29
  have k67 := x53.kd k17 (by decide)
  try clear x53
  have y68 := p55.1.1 q1 (by rw [k17]; decide) y30
  try clear y30; try clear k17
  have y69 := p55.1.2
  try clear p55
  refine b_put E S59 hAh hnm (f := 1) b63 (show vwCl[0]? = some (RX0, TX0, 15) from rfl) q_inX0 tyX0_ok nmX0 (by decide) bw_232 rfl (fun _ => rfl) (tyX0_ok 1 (by decide)) rfl rfl dX0_init_23 (fun H70 locs1 z71 o72 b73 S74 => ?_)
  try clear b63; try clear S59
  have w75 : q_w X50 σ51 H70 := w56.kept (fun a ha => o72 a (fun e => ha (by rw [e]; exact k62)))
  try clear o72; try clear w56
  have t76 := t_lt b73
  try clear t64
  refine lv_aload_n hxx hb dX0_init_26 rfl (lv_at hl 0 rfl) ?_
  refine b_new E S74 bw_145 bw_146 bw_7 (show vwCl[2]? = some (RX2, TX2, 6) from rfl) q_inX2 tyX2 tyX2_ok (Nat.le_of_ble_eq_true rfl) (Nat.le_of_ble_eq_true rfl) dX0_init_27 (fun q77 H78 e79 z80 o81 b82 S83 => ?_)
  have hq77 : h < q77 := by first | exact Nat.lt_of_lt_of_eq t76 e79.symm | omega
  have gg_q77 : s.heap.size ≤ q77 := Nat.le_trans S74.1 (Nat.le_of_eq e79.symm)
  have mm_q77 : q77 < H78.size := by rw [z80, e79]; exact Nat.lt_succ_self _
  have cc_q77 : q38 < q77 := by first | exact Nat.lt_of_lt_of_eq (Nat.lt_of_lt_of_le (Nat.lt_of_lt_of_le mm_q38 z57) (Nat.le_of_eq z71.symm)) e79.symm | omega
  try clear S74
  have w84 : q_w X50 σ51 H78 := w75.kept (fun a ha => o81 a (w75.lt ha))
  have b85 := b73.kept (o81 h t76)
  try clear o81; try clear b73
  have t86 := t_lt b85
  try clear t76
  have k87 : q_kd X50 q77 = 0 := w75.fresh (Nat.le_of_eq e79.symm)
  try clear w75
  have g88 := S83.1
  refine lv_dup hxx hb dX0_init_30 rfl ?_
  have a99 : ∀ a, q_nw q77 H78.size a → q_nw h s.heap.size a := nw_in gg_q77 (Nat.le_trans gg_q77 (Nat.le_of_lt mm_q77))
  refine b_cv (b_runN (As := []) (rest := [.ref q77, .ref h]) E (hml.trans hl.1.symm) D61 w84 k87 b82 rfl (n_X2 l D X50 σ51 q77 H78.size) bi_X0_27 rfl ⟨Nat.le_of_ble_eq_true rfl, Nat.le_of_ble_eq_true rfl⟩ ⟨Nat.le_of_ble_eq_true rfl, Nat.le_of_ble_eq_true rfl⟩ rfl (Nat.le_of_ble_eq_true rfl) dX0_init_31) S83 rfl a99 (fun X89 σ90 H91 locs1 x92 k93 p94 w95 z96 o97 S98 => ?_)
  try clear k87; try clear w84; try clear S83; try clear b82
  have D100 : X89.1 = D := x92.1.trans D61
  try clear D61
  have k101 : q_kd X89 h = 0 := x92.k0 k62 (by first | exact (nw_no hq77 (Nat.lt_trans hq77 mm_q77)) | (rintro (e | e) <;> omega))
  try clear k62
  have b102 := b85.kept (o97 h t86 (by first | exact (Nat.ne_of_lt hq77) | omega))
  try clear o97; try clear b85
  have t103 := t_lt b102
  try clear t86
  have y104 := y65.tr p94.1.1 (fun c hc => by rw [(x66.2.2.2.1 c hc).1]; exact hc)
  try clear y65
  have x105 := x66.tr x92 a99
  try clear x66
  have k106 := x92.kd k67 (by decide)
  have k107 := x92.kd k54 (by decide)
  try clear x92
  have y108 := p94.1.1 q1 (by rw [k67]; decide) y68
  try clear y68; try clear k67
  have y109 := p94.1.1 q38 (by rw [k54]; decide) y69
  try clear y69; try clear k54
  have y110 := p94.1.2
  try clear p94
  refine b_put E S98 hAh hnm (f := 2) b102 (show vwCl[0]? = some (RX0, TX0, 15) from rfl) q_inX0 tyX0_ok nmX0 (by decide) bw_236 rfl (fun _ => rfl) (tyX0_ok 2 (by decide)) rfl rfl dX0_init_34 (fun H111 locs1 z112 o113 b114 S115 => ?_)
  try clear b102; try clear S98
  have w116 : q_w X89 σ90 H111 := w95.kept (fun a ha => o113 a (fun e => ha (by rw [e]; exact k101)))
  try clear o113; try clear w95
  have t117 := t_lt b114
  try clear t103
  refine lv_aload_n hxx hb dX0_init_37 rfl (lv_at hl 0 rfl) ?_
  refine b_new E S115 bw_179 bw_180 bw_8 (show vwCl[7]? = some (RX8, TX8, 8) from rfl) q_inX8 tyX8 tyX8_ok (Nat.le_of_ble_eq_true rfl) (Nat.le_of_ble_eq_true rfl) dX0_init_38 (fun q118 H119 e120 z121 o122 b123 S124 => ?_)
  have hq118 : h < q118 := by first | exact Nat.lt_of_lt_of_eq t117 e120.symm | omega
  have gg_q118 : s.heap.size ≤ q118 := Nat.le_trans S115.1 (Nat.le_of_eq e120.symm)
  have mm_q118 : q118 < H119.size := by rw [z121, e120]; exact Nat.lt_succ_self _
  have cc_q118 : q77 < q118 := by first | exact Nat.lt_of_lt_of_eq (Nat.lt_of_lt_of_le (Nat.lt_of_lt_of_le mm_q77 z96) (Nat.le_of_eq z112.symm)) e120.symm | omega
  try clear S115
  have w125 : q_w X89 σ90 H119 := w116.kept (fun a ha => o122 a (w116.lt ha))
  have b126 := b114.kept (o122 h t117)
  try clear o122; try clear b114
  have t127 := t_lt b126
  try clear t117
  have k128 : q_kd X89 q118 = 0 := w116.fresh (Nat.le_of_eq e120.symm)
  try clear w116
  have g129 := S124.1
  refine lv_dup hxx hb dX0_init_41 rfl ?_
  have a140 : ∀ a, q_nw q118 H119.size a → q_nw h s.heap.size a := nw_in gg_q118 (Nat.le_trans gg_q118 (Nat.le_of_lt mm_q118))
  refine b_cv (b_runN (As := []) (rest := [.ref q118, .ref h]) E (hml.trans hl.1.symm) D100 w125 k128 b123 rfl (n_X8 l D X89 σ90 q118 H119.size) bi_X0_34 rfl ⟨Nat.le_of_ble_eq_true rfl, Nat.le_of_ble_eq_true rfl⟩ ⟨Nat.le_of_ble_eq_true rfl, Nat.le_of_ble_eq_true rfl⟩ rfl (Nat.le_of_ble_eq_true rfl) dX0_init_42) S124 rfl a140 (fun X130 σ131 H132 locs1 x133 k134 p135 w136 z137 o138 S139 => ?_)
  try clear k128; try clear w125; try clear S124; try clear b123
  have D141 : X130.1 = D := x133.1.trans D100
  try clear D100
  have k142 : q_kd X130 h = 0 := x133.k0 k101 (by first | exact (nw_no hq118 (Nat.lt_trans hq118 mm_q118)) | (rintro (e | e) <;> omega))
  try clear k101
  have b143 := b126.kept (o138 h t127 (by first | exact (Nat.ne_of_lt hq118) | omega))
  try clear o138; try clear b126
  have t144 := t_lt b143
  try clear t127
  have y145 := y104.tr p135.1.1 (fun c hc => by rw [(x105.2.2.2.1 c hc).1]; exact hc)
  try clear y104
  have x146 := x105.tr x133 a140
  try clear x105
  have k147 := x133.kd k106 (by decide)
  have k148 := x133.kd k107 (by decide)
  have k149 := x133.kd k93 (by decide)
  try clear x133
  have y150 := p135.1.1 q1 (by rw [k106]; decide) y108
  try clear y108; try clear k106
  have y151 := p135.1.1 q38 (by rw [k107]; decide) y109
  try clear y109; try clear k107
  have y152 := p135.1.1 q77 (by rw [k93]; decide) y110
  try clear y110; try clear k93
  have y153 := p135.1.2
  try clear p135
  refine b_put E S139 hAh hnm (f := 3) b143 (show vwCl[0]? = some (RX0, TX0, 15) from rfl) q_inX0 tyX0_ok nmX0 (by decide) bw_239 rfl (fun _ => rfl) (tyX0_ok 3 (by decide)) rfl rfl dX0_init_45 (fun H154 locs1 z155 o156 b157 S158 => ?_)
  try clear b143; try clear S139
  have w159 : q_w X130 σ131 H154 := w136.kept (fun a ha => o156 a (fun e => ha (by rw [e]; exact k142)))
  try clear o156; try clear w136
  have t160 := t_lt b157
  try clear t144
  refine lv_aload_n hxx hb dX0_init_48 rfl (lv_at hl 0 rfl) ?_
  refine lv_iconst (v := 0) hxx hb dX0_init_49 (by decide) ?_
  refine b_put E S158 hAh hnm (f := 4) b157 (show vwCl[0]? = some (RX0, TX0, 15) from rfl) q_inX0 tyX0_ok nmX0 (by decide) bw_242 rfl (fun _ => rfl) (tyX0_ok 4 (by decide)) rfl rfl dX0_init_50 (fun H161 locs1 z162 o163 b164 S165 => ?_)
  try clear S158; try clear b157
  have w166 : q_w X130 σ131 H161 := w159.kept (fun a ha => o163 a (fun e => ha (by rw [e]; exact k142)))
  try clear o163; try clear w159
  have t167 := t_lt b164
  try clear t160
  refine lv_aload_n hxx hb dX0_init_53 rfl (lv_at hl 0 rfl) ?_
  refine lv_iconst (v := 0) hxx hb dX0_init_54 (by decide) ?_
  refine b_put E S165 hAh hnm (f := 5) b164 (show vwCl[0]? = some (RX0, TX0, 15) from rfl) q_inX0 tyX0_ok nmX0 (by decide) bw_245 rfl (fun _ => rfl) (tyX0_ok 5 (by decide)) rfl rfl dX0_init_55 (fun H168 locs1 z169 o170 b171 S172 => ?_)
  try clear S165; try clear b164
  have w173 : q_w X130 σ131 H168 := w166.kept (fun a ha => o170 a (fun e => ha (by rw [e]; exact k142)))
  try clear o170; try clear w166
  have t174 := t_lt b171
  try clear t167
  refine lv_aload_n hxx hb dX0_init_58 rfl (lv_at hl 0 rfl) ?_
  refine lv_iconst (v := (-1)) hxx hb dX0_init_59 (by decide) ?_
  refine b_put E S172 hAh hnm (f := 6) b171 (show vwCl[0]? = some (RX0, TX0, 15) from rfl) q_inX0 tyX0_ok nmX0 (by decide) bw_248 rfl (fun _ => rfl) (tyX0_ok 6 (by decide)) rfl rfl dX0_init_60 (fun H175 locs1 z176 o177 b178 S179 => ?_)
  try clear S172; try clear b171
  have w180 : q_w X130 σ131 H175 := w173.kept (fun a ha => o177 a (fun e => ha (by rw [e]; exact k142)))
  try clear o177; try clear w173
  have t181 := t_lt b178
  try clear t174
  refine lv_aload_n hxx hb dX0_init_63 rfl (lv_at hl 0 rfl) ?_
  refine lv_iconst (v := 0) hxx hb dX0_init_64 (by decide) ?_
  refine b_put E S179 hAh hnm (f := 7) b178 (show vwCl[0]? = some (RX0, TX0, 15) from rfl) q_inX0 tyX0_ok nmX0 (by decide) bw_251 rfl (fun _ => rfl) (tyX0_ok 7 (by decide)) rfl rfl dX0_init_65 (fun H182 locs1 z183 o184 b185 S186 => ?_)
  try clear S179; try clear b178
  have w187 : q_w X130 σ131 H182 := w180.kept (fun a ha => o184 a (fun e => ha (by rw [e]; exact k142)))
  try clear o184; try clear w180
  have t188 := t_lt b185
  try clear t181
  refine lv_aload_n hxx hb dX0_init_68 rfl (lv_at hl 0 rfl) ?_
  refine b_new E S186 bw_226 bw_43 bw_4 (show vwCl[4]? = some (RX5, TX5, 1) from rfl) q_inX5 tyX5 tyX5_ok (Nat.le_of_ble_eq_true rfl) (Nat.le_of_ble_eq_true rfl) dX0_init_69 (fun q189 H190 e191 z192 o193 b194 S195 => ?_)
  have hq189 : h < q189 := by first | exact Nat.lt_of_lt_of_eq t188 e191.symm | omega
  have gg_q189 : s.heap.size ≤ q189 := Nat.le_trans S186.1 (Nat.le_of_eq e191.symm)
  have mm_q189 : q189 < H190.size := by rw [z192, e191]; exact Nat.lt_succ_self _
  have cc_q189 : q118 < q189 := by first | exact Nat.lt_of_lt_of_eq (Nat.lt_of_lt_of_le (Nat.lt_of_lt_of_le (Nat.lt_of_lt_of_le (Nat.lt_of_lt_of_le (Nat.lt_of_lt_of_le (Nat.lt_of_lt_of_le mm_q118 z137) (Nat.le_of_eq z155.symm)) (Nat.le_of_eq z162.symm)) (Nat.le_of_eq z169.symm)) (Nat.le_of_eq z176.symm)) (Nat.le_of_eq z183.symm)) e191.symm | omega
  try clear S186
  have w196 : q_w X130 σ131 H190 := w187.kept (fun a ha => o193 a (w187.lt ha))
  have b197 := b185.kept (o193 h t188)
  try clear o193; try clear b185
  have t198 := t_lt b197
  try clear t188
  have k199 : q_kd X130 q189 = 0 := w187.fresh (Nat.le_of_eq e191.symm)
  try clear w187
  have g200 := S195.1
  refine lv_dup hxx hb dX0_init_72 rfl ?_
  refine lv_bipush (v := 10) hxx hb dX0_init_73 (by decide) ?_
  have a211 : ∀ a, q_nw q189 H190.size a → q_nw h s.heap.size a := nw_in gg_q189 (Nat.le_trans gg_q189 (Nat.le_of_lt mm_q189))
  refine b_cv (b_runI (As := [.int 10]) (rest := [.ref q189, .ref h]) E (hml.trans hl.1.symm) D141 w196 k199 b194 rfl (n_X5 l D X130 σ131 q189 H190.size 10 10 (by decide) (by decide) (by decide)) bi_X0_55 rfl ⟨Nat.le_of_ble_eq_true rfl, Nat.le_of_ble_eq_true rfl⟩ ⟨Nat.le_of_ble_eq_true rfl, Nat.le_of_ble_eq_true rfl⟩ rfl (Nat.le_of_ble_eq_true rfl) dX0_init_75) S195 rfl a211 (fun X201 σ202 H203 locs1 x204 k205 p206 w207 z208 o209 S210 => ?_)
  try clear k199; try clear w196; try clear S195; try clear b194
  have D212 : X201.1 = D := x204.1.trans D141
  try clear D141
  have k213 : q_kd X201 h = 0 := x204.k0 k142 (by first | exact (nw_no hq189 (Nat.lt_trans hq189 mm_q189)) | (rintro (e | e) <;> omega))
  try clear k142
  have b214 := b197.kept (o209 h t198 (by first | exact (Nat.ne_of_lt hq189) | omega))
  try clear o209; try clear b197
  have t215 := t_lt b214
  try clear t198
  have y216 := y145.tr p206.1.1 (fun c hc => by rw [(x146.2.2.2.1 c hc).1]; exact hc)
  try clear y145
  have x217 := x146.tr x204 a211
  try clear x146
  have k218 := x204.kd k147 (by decide)
  have k219 := x204.kd k148 (by decide)
  have k220 := x204.kd k149 (by decide)
  have k221 := x204.kd k134 (by decide)
  try clear x204
  have y222 := p206.1.1 q1 (by rw [k147]; decide) y150
  try clear y150; try clear k147
  have y223 := p206.1.1 q38 (by rw [k148]; decide) y151
  try clear y151; try clear k148
  have y224 := p206.1.1 q77 (by rw [k149]; decide) y152
  try clear y152; try clear k149
  have y225 := p206.1.1 q118 (by rw [k134]; decide) y153
  try clear y153; try clear k134
  have y226 := p206.1.2
  have y227 := p206.2
  try clear p206
  refine b_put E S210 hAh hnm (f := 8) b214 (show vwCl[0]? = some (RX0, TX0, 15) from rfl) q_inX0 tyX0_ok nmX0 (by decide) bw_254 rfl (fun _ => rfl) (tyX0_ok 8 (by decide)) rfl rfl dX0_init_78 (fun H228 locs1 z229 o230 b231 S232 => ?_)
  try clear b214; try clear S210
  have w233 : q_w X201 σ202 H228 := w207.kept (fun a ha => o230 a (fun e => ha (by rw [e]; exact k213)))
  try clear o230; try clear w207
  have t234 := t_lt b231
  try clear t215
  refine lv_aload_n hxx hb dX0_init_81 rfl (lv_at hl 0 rfl) ?_
  refine lv_iconst (v := 0) hxx hb dX0_init_82 (by decide) ?_
  refine b_put E S232 hAh hnm (f := 9) b231 (show vwCl[0]? = some (RX0, TX0, 15) from rfl) q_inX0 tyX0_ok nmX0 (by decide) bw_255 rfl (fun _ => rfl) (tyX0_ok 9 (by decide)) rfl rfl dX0_init_83 (fun H235 locs1 z236 o237 b238 S239 => ?_)
  try clear S232; try clear b231
  have w240 : q_w X201 σ202 H235 := w233.kept (fun a ha => o237 a (fun e => ha (by rw [e]; exact k213)))
  try clear o237; try clear w233
  have t241 := t_lt b238
  try clear t234
  refine lv_aload_n hxx hb dX0_init_86 rfl (lv_at hl 0 rfl) ?_
  refine b_new E S239 bw_226 bw_43 bw_4 (show vwCl[4]? = some (RX5, TX5, 1) from rfl) q_inX5 tyX5 tyX5_ok (Nat.le_of_ble_eq_true rfl) (Nat.le_of_ble_eq_true rfl) dX0_init_87 (fun q242 H243 e244 z245 o246 b247 S248 => ?_)
  have hq242 : h < q242 := by first | exact Nat.lt_of_lt_of_eq t241 e244.symm | omega
  have gg_q242 : s.heap.size ≤ q242 := Nat.le_trans S239.1 (Nat.le_of_eq e244.symm)
  have mm_q242 : q242 < H243.size := by rw [z245, e244]; exact Nat.lt_succ_self _
  have cc_q242 : q189 < q242 := by first | exact Nat.lt_of_lt_of_eq (Nat.lt_of_lt_of_le (Nat.lt_of_lt_of_le (Nat.lt_of_lt_of_le mm_q189 z208) (Nat.le_of_eq z229.symm)) (Nat.le_of_eq z236.symm)) e244.symm | omega
  try clear S239
  have w249 : q_w X201 σ202 H243 := w240.kept (fun a ha => o246 a (w240.lt ha))
  have b250 := b238.kept (o246 h t241)
  try clear o246; try clear b238
  have t251 := t_lt b250
  try clear t241
  have k252 : q_kd X201 q242 = 0 := w240.fresh (Nat.le_of_eq e244.symm)
  try clear w240
  have g253 := S248.1
  refine lv_dup hxx hb dX0_init_90 rfl ?_
  refine lv_bipush (v := 10) hxx hb dX0_init_91 (by decide) ?_
  have a264 : ∀ a, q_nw q242 H243.size a → q_nw h s.heap.size a := nw_in gg_q242 (Nat.le_trans gg_q242 (Nat.le_of_lt mm_q242))
  refine b_cv (b_runI (As := [.int 10]) (rest := [.ref q242, .ref h]) E (hml.trans hl.1.symm) D212 w249 k252 b247 rfl (n_X5 l D X201 σ202 q242 H243.size 10 10 (by decide) (by decide) (by decide)) bi_X0_55 rfl ⟨Nat.le_of_ble_eq_true rfl, Nat.le_of_ble_eq_true rfl⟩ ⟨Nat.le_of_ble_eq_true rfl, Nat.le_of_ble_eq_true rfl⟩ rfl (Nat.le_of_ble_eq_true rfl) dX0_init_93) S248 rfl a264 (fun X254 σ255 H256 locs1 x257 k258 p259 w260 z261 o262 S263 => ?_)
  try clear k252; try clear S248; try clear b247
  have D265 : X254.1 = D := x257.1.trans D212
  try clear D212
  have k266 : q_kd X254 h = 0 := x257.k0 k213 (by first | exact (nw_no hq242 (Nat.lt_trans hq242 mm_q242)) | (rintro (e | e) <;> omega))
  try clear k213
  have b267 := b250.kept (o262 h t251 (by first | exact (Nat.ne_of_lt hq242) | omega))
  try clear o262; try clear b250
  have t268 := t_lt b267
  try clear t251
  have y269 := y216.tr p259.1.1 (fun c hc => by rw [(x217.2.2.2.1 c hc).1]; exact hc)
  try clear y216
  have x270 := x217.tr x257 a264
  try clear x217
  have k271 := x257.kd k218 (by decide)
  have k272 := x257.kd k219 (by decide)
  have k273 := x257.kd k220 (by decide)
  have k274 := x257.kd k221 (by decide)
  have k275 := x257.kd k205 (by decide)
  have y276 := p259.1.1 q1 (by rw [k218]; decide) y222
  try clear y222; try clear k218
  have y277 := p259.1.1 q38 (by rw [k219]; decide) y223
  try clear y223; try clear k219
  have y278 := p259.1.1 q77 (by rw [k220]; decide) y224
  try clear y224; try clear k220
  have y279 := p259.1.1 q118 (by rw [k221]; decide) y225
  try clear y225; try clear k221
  have y280 := p259.1.1 q189 (by rw [k205]; decide) y226
  try clear y226
  have y281 := y_rlx x257 w249.1 k205 y227
  try clear x257; try clear w249; try clear y227; try clear k205
  have y282 := p259.1.2
  have y283 := p259.2
  try clear p259
  refine b_put E S263 hAh hnm (f := 10) b267 (show vwCl[0]? = some (RX0, TX0, 15) from rfl) q_inX0 tyX0_ok nmX0 (by decide) bw_257 rfl (fun _ => rfl) (tyX0_ok 10 (by decide)) rfl rfl dX0_init_96 (fun H284 locs1 z285 o286 b287 S288 => ?_)
  try clear b267; try clear S263
  have w289 : q_w X254 σ255 H284 := w260.kept (fun a ha => o286 a (fun e => ha (by rw [e]; exact k266)))
  try clear o286; try clear w260
  have t290 := t_lt b287
  try clear t268
  refine lv_aload_n hxx hb dX0_init_99 rfl (lv_at hl 0 rfl) ?_
  refine lv_iconst (v := 0) hxx hb dX0_init_100 (by decide) ?_
  refine b_put E S288 hAh hnm (f := 11) b287 (show vwCl[0]? = some (RX0, TX0, 15) from rfl) q_inX0 tyX0_ok nmX0 (by decide) bw_258 rfl (fun _ => rfl) (tyX0_ok 11 (by decide)) rfl rfl dX0_init_101 (fun H291 locs1 z292 o293 b294 S295 => ?_)
  try clear S288; try clear b287
  have w296 : q_w X254 σ255 H291 := w289.kept (fun a ha => o293 a (fun e => ha (by rw [e]; exact k266)))
  try clear o293; try clear w289
  have t297 := t_lt b294
  try clear t290
  refine lv_aload_n hxx hb dX0_init_104 rfl (lv_at hl 0 rfl) ?_
  refine lv_iconst (v := (-1)) hxx hb dX0_init_105 (by decide) ?_
  refine b_put E S295 hAh hnm (f := 12) b294 (show vwCl[0]? = some (RX0, TX0, 15) from rfl) q_inX0 tyX0_ok nmX0 (by decide) bw_260 rfl (fun _ => rfl) (tyX0_ok 12 (by decide)) rfl rfl dX0_init_106 (fun H298 locs1 z299 o300 b301 S302 => ?_)
  try clear S295; try clear b294
  have w303 : q_w X254 σ255 H298 := w296.kept (fun a ha => o300 a (fun e => ha (by rw [e]; exact k266)))
  try clear o300; try clear w296
  have t304 := t_lt b301
  try clear t297
  refine lv_aload_n hxx hb dX0_init_109 rfl (lv_at hl 0 rfl) ?_
  refine lv_iconst (v := (-1)) hxx hb dX0_init_110 (by decide) ?_
  refine b_put E S302 hAh hnm (f := 13) b301 (show vwCl[0]? = some (RX0, TX0, 15) from rfl) q_inX0 tyX0_ok nmX0 (by decide) bw_262 rfl (fun _ => rfl) (tyX0_ok 13 (by decide)) rfl rfl dX0_init_111 (fun H305 locs1 z306 o307 b308 S309 => ?_)
  try clear S302; try clear b301
  have w310 : q_w X254 σ255 H305 := w303.kept (fun a ha => o307 a (fun e => ha (by rw [e]; exact k266)))
  try clear o307; try clear w303
  have t311 := t_lt b308
  try clear t304
  refine lv_aload_n hxx hb dX0_init_114 rfl (lv_at hl 0 rfl) ?_
  refine lv_iconst (v := (-1)) hxx hb dX0_init_115 (by decide) ?_
  refine b_put E S309 hAh hnm (f := 14) b308 (show vwCl[0]? = some (RX0, TX0, 15) from rfl) q_inX0 tyX0_ok nmX0 (by decide) bw_264 rfl (fun _ => rfl) (tyX0_ok 14 (by decide)) rfl rfl dX0_init_116 (fun H312 locs1 z313 o314 b315 S316 => ?_)
  try clear S309; try clear b308
  have w317 : q_w X254 σ255 H312 := w310.kept (fun a ha => o314 a (fun e => ha (by rw [e]; exact k266)))
  try clear o314; try clear w310
  have t318 := t_lt b315
  try clear t311
  obtain ⟨X319, dX319⟩ : ∃ Y, Y = q_xg X254 h 1 0 (fun f => ([q1, q38, q77, q118, 0, 0, 0, 0, q189, 0, q242, 0, 0, 0, 0] : List Nat).getD f 0) := ⟨_, rfl⟩
  obtain ⟨σ320, dσ320⟩ : ∃ τ, τ = q_sg σ255 h (fun f => ([0, 0, 0, 0, 0, 0, (-1), 0, 0, 0, 0, 0, (-1), (-1), (-1)] : List Int32).getD f 0) (fun f => ([0, 0, 0, 0, 0, 0, 0, 0, 0, 0, 0, 0, 0, 0, 0] : List Int64).getD f 0) 0 := ⟨_, rfl⟩
  have x321 : q_ext (fun a => a = h) X254 X319 σ255 σ320 := by rw [dX319, dσ320]; exact q_ext.add k266
  have hrk : ∀ f, f < 40 → q_rk 1 f ≠ 0 → q_kd X254 (([q1, q38, q77, q118, 0, 0, 0, 0, q189, 0, q242, 0, 0, 0, 0] : List Nat).getD f 0) = q_rk 1 f := fun f h40 hf => match f, h40, hf with | 0, _, _ => k271 | 1, _, _ => k272 | 2, _, _ => k273 | 3, _, _ => k274 | 4, _, hf => absurd rfl hf | 5, _, hf => absurd rfl hf | 6, _, hf => absurd rfl hf | 7, _, hf => absurd rfl hf | 8, _, _ => k275 | 9, _, hf => absurd rfl hf | 10, _, _ => k258 | 11, _, hf => absurd rfl hf | 12, _, hf => absurd rfl hf | 13, _, hf => absurd rfl hf | 14, _, hf => absurd rfl hf | 15, _, hf => absurd rfl hf | 16, _, hf => absurd rfl hf | 17, _, hf => absurd rfl hf | 18, _, hf => absurd rfl hf | 19, _, hf => absurd rfl hf | 20, _, hf => absurd rfl hf | 21, _, hf => absurd rfl hf | 22, _, hf => absurd rfl hf | 23, _, hf => absurd rfl hf | 24, _, hf => absurd rfl hf | 25, _, hf => absurd rfl hf | 26, _, hf => absurd rfl hf | 27, _, hf => absurd rfl hf | 28, _, hf => absurd rfl hf | 29, _, hf => absurd rfl hf | 30, _, hf => absurd rfl hf | 31, _, hf => absurd rfl hf | 32, _, hf => absurd rfl hf | 33, _, hf => absurd rfl hf | 34, _, hf => absurd rfl hf | 35, _, hf => absurd rfl hf | 36, _, hf => absurd rfl hf | 37, _, hf => absurd rfl hf | 38, _, hf => absurd rfl hf | 39, _, hf => absurd rfl hf | (n + 40), h40, _ => absurd h40 (Nat.not_lt_of_ge (Nat.le_add_left 40 n))
  have hB : ∀ f, f < 40 → (q_bn 1 f).1 ≤ ((([0, 0, 0, 0, 0, 0, (-1), 0, 0, 0, 0, 0, (-1), (-1), (-1)] : List Int32).getD f 0).toInt) ∧ (([0, 0, 0, 0, 0, 0, (-1), 0, 0, 0, 0, 0, (-1), (-1), (-1)] : List Int32).getD f 0).toInt ≤ (q_bn 1 f).2 := by decide +kernel
  have y323 : ∀ f, q_rk 1 f ≠ 0 → h < ([q1, q38, q77, q118, 0, 0, 0, 0, q189, 0, q242, 0, 0, 0, 0] : List Nat).getD f 0 := by
    intro f hf
    rcases y_fs1 hf with rfl | rfl | rfl | rfl | rfl | rfl
    · exact (hq1)
    · exact (hq38)
    · exact (hq77)
    · exact (hq118)
    · exact (hq189)
    · exact (hq242)
  have y324 : ∀ f, q_rk 1 f ≠ 0 → y_root X254 (([q1, q38, q77, q118, 0, 0, 0, 0, q189, 0, q242, 0, 0, 0, 0] : List Nat).getD f 0) := by
    intro f hf
    rcases y_fs1 hf with rfl | rfl | rfl | rfl | rfl | rfl
    · exact y276
    · exact y277
    · exact y278
    · exact y279
    · exact y280
    · exact y282
  try clear y282; try clear y280; try clear y279; try clear y278; try clear y277; try clear y276
  have y325 : ∀ f, q_rk 1 f = 5 → q_ln X254 (q_rf X254 (([q1, q38, q77, q118, 0, 0, 0, 0, q189, 0, q242, 0, 0, 0, 0] : List Nat).getD f 0) 0) = y_rl 1 f := by
    intro f hf
    rcases y_fs1 (show q_rk 1 f ≠ 0 by rw [hf]; decide) with rfl | rfl | rfl | rfl | rfl | rfl
    · exact absurd hf (by decide)
    · exact absurd hf (by decide)
    · exact absurd hf (by decide)
    · exact absurd hf (by decide)
    · exact y281
    · exact y283
  have y326 : ∀ f, q_rk 1 f ≠ 0 → ([q1, q38, q77, q118, 0, 0, 0, 0, q189, 0, q242, 0, 0, 0, 0] : List Nat).getD f 0 ≠ h := by
    intro f hf
    rcases y_fs1 hf with rfl | rfl | rfl | rfl | rfl | rfl
    · exact ((Nat.ne_of_gt hq1))
    · exact ((Nat.ne_of_gt hq38))
    · exact ((Nat.ne_of_gt hq77))
    · exact ((Nat.ne_of_gt hq118))
    · exact ((Nat.ne_of_gt hq189))
    · exact ((Nat.ne_of_gt hq242))
  have y327 : ∀ f, q_rk 1 f ≠ 0 → q_kd X (([q1, q38, q77, q118, 0, 0, 0, 0, q189, 0, q242, 0, 0, 0, 0] : List Nat).getD f 0) = 0 := by
    intro f hf
    rcases y_fs1 hf with rfl | rfl | rfl | rfl | rfl | rfl
    · exact hw0.fresh (gg_q1)
    · exact hw0.fresh (gg_q38)
    · exact hw0.fresh (gg_q77)
    · exact hw0.fresh (gg_q118)
    · exact hw0.fresh (gg_q189)
    · exact hw0.fresh (gg_q242)
  have hIV : ∀ f, f < 60 → ([0, 0, 0, 0, 0, 0, (-1), 0, 0, 0, 0, 0, (-1), (-1), (-1)] : List Int32).getD f 0 = y_iv 1 f ∧ ([0, 0, 0, 0, 0, 0, 0, 0, 0, 0, 0, 0, 0, 0, 0] : List Int64).getD f 0 = y_il 1 f := by decide +kernel
  have w322 : q_w X319 σ320 H312 := by
    rw [dX319, dσ320]
    exact w317.add k266 (q_hrk hrk) (fun q => absurd rfl q) (by decide) (fun q => absurd q (by decide)) (q_hB hB (by decide)) (fun q => by rcases q with q | q <;> exact absurd q (by decide)) (q_cfO D265 ⟨rfl, by decide⟩ (show vwCl[0]? = some (RX0, TX0, 15) from rfl) b315 (fun f hf => match f, hf with | 0, _ => rfl | 1, _ => rfl | 2, _ => rfl | 3, _ => rfl | 4, _ => rfl | 5, _ => rfl | 6, _ => rfl | 7, _ => rfl | 8, _ => rfl | 9, _ => rfl | 10, _ => rfl | 11, _ => rfl | 12, _ => rfl | 13, _ => rfl | 14, _ => rfl | (n + 15), hf => absurd hf (Nat.not_lt_of_ge (Nat.le_add_left 15 n)))) y323 (y_in1 (rf := (fun f => ([q1, q38, q77, q118, 0, 0, 0, 0, q189, 0, q242, 0, 0, 0, 0] : List Nat).getD f 0)) (show q1 < q38 from cc_q38) (show q38 < q77 from cc_q77) (show q77 < q118 from cc_q118) (show q118 < q189 from cc_q189) (show q189 < q242 from cc_q242)) y324 y325 (fun _ f hf => hIV f (hf.resolve_left (by decide)))
  try clear y325; try clear y324; try clear y323; try clear b315; try clear D265
  have y328 : y_root X319 h := by
    rw [dX319]
    exact (y_root.out w317.1 k266).add y_xg y326
  try clear y326; try clear k266
  have y329 : y_rt X X319 := by
    rw [dX319]
    exact y269.add y_xg y327
  try clear y327; try clear y269
  have k330 : q_kd X319 h = 1 := by rw [dX319]; exact q_xg_h
  have x331 := x270.tr x321 (fun a e => Or.inl e)
  try clear x270
  have y332 := y_rlx x321 w317.1 k275 y281
  try clear y332; try clear y281
  have y333 := y_rlx x321 w317.1 k258 y283
  try clear y333; try clear w317; try clear y283
  have k334 := x321.kd k271 (by decide)
  try clear k334; try clear k271
  have k335 := x321.kd k272 (by decide)
  try clear k335; try clear k272
  have k336 := x321.kd k273 (by decide)
  try clear k336; try clear k273
  have k337 := x321.kd k274 (by decide)
  try clear k337; try clear k274
  have k338 := x321.kd k275 (by decide)
  try clear k338; try clear k275
  have k339 := x321.kd k258 (by decide)
  try clear k339; try clear x321; try clear k258
  exact b_ret E hr hlk S316 x331 k330 ⟨⟨y329, y328⟩, trivial⟩ w322 dX0_init_119
end
/-! FROM 53.born.lean.txt -/
section
set_option maxRecDepth 100000 in
set_option maxHeartbeats 4000000 in
theorem n_X3_k9 (l : Launch) (D : DW) (X : XW) (σ : ST) (h sz : Nat) : Met l yX3_init (q_ws yX3_init cX3_init 1 none) { frames := 1, cells := 1, slots := 0, locals := 12 } (q_PN D X σ h sz 8 12 (fun k => defaultValue (tyX9 k)) [.ref h]) (va_Qv (S := XW × ST × Nat) (fun u => q_ext (q_nw h sz) X u.1 σ u.2.1 ∧ q_kd u.1 h = 0 ∧ q_kd u.1 u.2.2 = 22 ∧ y_rt X u.1) (fun u t => q_w u.1 u.2.1 t.heap ∧ t_OB h (D.1.1 8) 12 (D.1.2 8) t.heap (updV (updV (updV (updV (updV (updV (updV (updV (fun k => defaultValue (tyX9 k)) 0 (.ref u.2.2)) 1 (.int 0)) 2 (.int 0)) 3 (.int 0)) 4 (.int 0)) 5 (.int 0)) 6 (.int 0)) 7 (.int (-1)))) (q_nw h sz)) 1 0 (q_nw h sz) := by
  refine b_met  (by first | exact rfl | decide +kernel) rfl rfl (Nat.le_of_ble_eq_true rfl) (fun p e s m below meth c E hml hr hlk hnm hsz hD hw0 h00 hob ls hl => ?_)
  subst hsz
  have hxx := E.1
  have hb := E.2.1
  have hl : lv_has ls 1 [(0, .ref h)] := hl
  have hS : va_S (q_nw h s.heap.size) s.heap s.heap [] := va_S.rf
  have hx0 : q_ext (q_nw h s.heap.size) X X σ σ := q_ext.rf
  have hAh : q_nw h s.heap.size h := Or.inl rfl
  have yr0 : y_rt X X := y_rt.rf
  have hlt := t_lt hob
  refine lv_aload_n hxx hb dX3_init_0 rfl (lv_at hl 0 rfl) ?_
  refine W.objInit hxx hb E.2.2.1 (E.2.2.2.1 _ bw_306) (E.2.2.2.1 _ bw_26) (E.2.2.2.1 _ bw_27) rfl (by rw [hml]; exact hl.1) rfl dX3_init_1 (Nat.le_of_ble_eq_true rfl) (Nat.le_of_ble_eq_true rfl) ?_
  refine W.eq (g2 := F0 m 4 ls []) rfl ?_
  refine lv_aload_n hxx hb dX3_init_4 rfl (lv_at hl 0 rfl) ?_
  refine lv_iconst (v := 0) hxx hb dX3_init_5 (by decide) ?_
  refine b_newa E hS bw_55 (t := 0) rfl (fun _ _ => rfl) (N' := 0) (by decide) (by decide) (by decide) (Nat.le_of_ble_eq_true rfl) (Nat.le_of_ble_eq_true rfl) dX3_init_6 (fun q1 H2 e3 z4 o5 r6 S7 => ?_)
  have hq1 : h < q1 := by first | exact Nat.lt_of_lt_of_eq hlt e3.symm | omega
  have gg_q1 : s.heap.size ≤ q1 := Nat.le_trans hS.1 (Nat.le_of_eq e3.symm)
  have mm_q1 : q1 < H2.size := by rw [z4, e3]; exact Nat.lt_succ_self _
  have w8 : q_w X σ H2 := hw0.kept (fun a ha => o5 a (hw0.lt ha))
  have b9 := hob.kept (o5 h hlt)
  try clear o5
  have t10 := t_lt b9
  have k11 : q_kd X q1 = 0 := hw0.fresh (Nat.le_of_eq e3.symm)
  have g12 := S7.1
  refine b_put E S7 hAh hnm (f := 0) b9 (show vwCl[8]? = some (RX9, TX9, 12) from rfl) q_inX9 tyX9_ok nmX9 (by decide) bw_316 rfl (fun _ => rfl) (tyX9_ok 0 (by decide)) rfl rfl dX3_init_8 (fun H13 locs1 z14 o15 b16 S17 => ?_)
  try clear b9; try clear S7
  have w18 : q_w X σ H13 := w8.kept (fun a ha => o15 a (fun e => ha (by rw [e]; exact h00)))
  try clear w8
  have t19 := t_lt b16
  try clear t10
  have r20 := (o15 q1 (by first | exact (Nat.ne_of_gt hq1) | omega)).trans r6
  try clear o15; try clear r6
  refine lv_aload_n hxx hb dX3_init_11 rfl (lv_at hl 0 rfl) ?_
  refine lv_iconst (v := 0) hxx hb dX3_init_12 (by decide) ?_
  refine b_put E S17 hAh hnm (f := 1) b16 (show vwCl[8]? = some (RX9, TX9, 12) from rfl) q_inX9 tyX9_ok nmX9 (by decide) bw_317 rfl (fun _ => rfl) (tyX9_ok 1 (by decide)) rfl rfl dX3_init_13 (fun H21 locs1 z22 o23 b24 S25 => ?_)
  try clear S17; try clear b16
  have w26 : q_w X σ H21 := w18.kept (fun a ha => o23 a (fun e => ha (by rw [e]; exact h00)))
  try clear w18
  have t27 := t_lt b24
  try clear t19
  have r28 := (o23 q1 (by first | exact (Nat.ne_of_gt hq1) | omega)).trans r20
  try clear o23; try clear r20
  refine lv_aload_n hxx hb dX3_init_16 rfl (lv_at hl 0 rfl) ?_
  refine lv_iconst (v := 0) hxx hb dX3_init_17 (by decide) ?_
  refine b_put E S25 hAh hnm (f := 2) b24 (show vwCl[8]? = some (RX9, TX9, 12) from rfl) q_inX9 tyX9_ok nmX9 (by decide) bw_318 rfl (fun _ => rfl) (tyX9_ok 2 (by decide)) rfl rfl dX3_init_18 (fun H29 locs1 z30 o31 b32 S33 => ?_)
  try clear S25; try clear b24
  have w34 : q_w X σ H29 := w26.kept (fun a ha => o31 a (fun e => ha (by rw [e]; exact h00)))
  try clear w26
  have t35 := t_lt b32
  try clear t27
  have r36 := (o31 q1 (by first | exact (Nat.ne_of_gt hq1) | omega)).trans r28
  try clear o31; try clear r28
  refine lv_aload_n hxx hb dX3_init_21 rfl (lv_at hl 0 rfl) ?_
  refine lv_iconst (v := 0) hxx hb dX3_init_22 (by decide) ?_
  refine b_put E S33 hAh hnm (f := 3) b32 (show vwCl[8]? = some (RX9, TX9, 12) from rfl) q_inX9 tyX9_ok nmX9 (by decide) bw_319 rfl (fun _ => rfl) (tyX9_ok 3 (by decide)) rfl rfl dX3_init_23 (fun H37 locs1 z38 o39 b40 S41 => ?_)
  try clear S33; try clear b32
  have w42 : q_w X σ H37 := w34.kept (fun a ha => o39 a (fun e => ha (by rw [e]; exact h00)))
  try clear w34
  have t43 := t_lt b40
  try clear t35
  have r44 := (o39 q1 (by first | exact (Nat.ne_of_gt hq1) | omega)).trans r36
  try clear o39; try clear r36
  refine lv_aload_n hxx hb dX3_init_26 rfl (lv_at hl 0 rfl) ?_
  refine lv_iconst (v := 0) hxx hb dX3_init_27 (by decide) ?_
  refine b_put E S41 hAh hnm (f := 4) b40 (show vwCl[8]? = some (RX9, TX9, 12) from rfl) q_inX9 tyX9_ok nmX9 (by decide) bw_320 rfl (fun _ => rfl) (tyX9_ok 4 (by decide)) rfl rfl dX3_init_28 (fun H45 locs1 z46 o47 b48 S49 => ?_)
  try clear S41; try clear b40
  have w50 : q_w X σ H45 := w42.kept (fun a ha => o47 a (fun e => ha (by rw [e]; exact h00)))
  try clear w42
  have t51 := t_lt b48
  try clear t43
  have r52 := (o47 q1 (by first | exact (Nat.ne_of_gt hq1) | omega)).trans r44
  try clear o47; try clear r44
  refine lv_aload_n hxx hb dX3_init_31 rfl (lv_at hl 0 rfl) ?_
  refine lv_iconst (v := 0) hxx hb dX3_init_32 (by decide) ?_
  refine b_put E S49 hAh hnm (f := 5) b48 (show vwCl[8]? = some (RX9, TX9, 12) from rfl) q_inX9 tyX9_ok nmX9 (by decide) bw_325 rfl (fun _ => rfl) (tyX9_ok 5 (by decide)) rfl rfl dX3_init_33 (fun H53 locs1 z54 o55 b56 S57 => ?_)
  try clear S49; try clear b48
  have w58 : q_w X σ H53 := w50.kept (fun a ha => o55 a (fun e => ha (by rw [e]; exact h00)))
  try clear w50
  have t59 := t_lt b56
  try clear t51
  have r60 := (o55 q1 (by first | exact (Nat.ne_of_gt hq1) | omega)).trans r52
  try clear o55; try clear r52
  refine lv_aload_n hxx hb dX3_init_36 rfl (lv_at hl 0 rfl) ?_
  refine lv_iconst (v := 0) hxx hb dX3_init_37 (by decide) ?_
  refine b_put E S57 hAh hnm (f := 6) b56 (show vwCl[8]? = some (RX9, TX9, 12) from rfl) q_inX9 tyX9_ok nmX9 (by decide) bw_328 rfl (fun _ => rfl) (tyX9_ok 6 (by decide)) rfl rfl dX3_init_38 (fun H61 locs1 z62 o63 b64 S65 => ?_)
  try clear S57; try clear b56
  have w66 : q_w X σ H61 := w58.kept (fun a ha => o63 a (fun e => ha (by rw [e]; exact h00)))
  try clear w58
  have t67 := t_lt b64
  try clear t59
  have r68 := (o63 q1 (by first | exact (Nat.ne_of_gt hq1) | omega)).trans r60
  try clear o63; try clear r60
  refine lv_aload_n hxx hb dX3_init_41 rfl (lv_at hl 0 rfl) ?_
  refine lv_iconst (v := (-1)) hxx hb dX3_init_42 (by decide) ?_
  refine b_put E S65 hAh hnm (f := 7) b64 (show vwCl[8]? = some (RX9, TX9, 12) from rfl) q_inX9 tyX9_ok nmX9 (by decide) bw_330 rfl (fun _ => rfl) (tyX9_ok 7 (by decide)) rfl rfl dX3_init_43 (fun H69 locs1 z70 o71 b72 S73 => ?_)
  try clear S65; try clear b64
  have w74 : q_w X σ H69 := w66.kept (fun a ha => o71 a (fun e => ha (by rw [e]; exact h00)))
  try clear w66
  have t75 := t_lt b72
  try clear t67
  have r76 := (o71 q1 (by first | exact (Nat.ne_of_gt hq1) | omega)).trans r68
  try clear o71; try clear r68
  have y81 := raw_lt r76
  try clear y81
  obtain ⟨X77, dX77⟩ : ∃ Y, Y = q_xg X q1 22 0 (fun _ => 0) := ⟨_, rfl⟩
  obtain ⟨σ78, dσ78⟩ : ∃ τ, τ = q_sg σ q1 (fun _ => 0 : Nat → Int32) (fun _ => 0) 0 := ⟨_, rfl⟩
  have x79 : q_ext (fun a => a = q1) X X77 σ σ78 := by rw [dX77, dσ78]; exact q_ext.add k11
  have y82 : y_root X77 q1 := by rw [dX77]; exact (y_root.out w74.1 k11).add y_xg (fun f hf => absurd rfl hf)
  try clear y82
  have y83 : y_rt X X77 := by rw [dX77]; exact yr0.add y_xg (fun f hf => absurd rfl hf)
  have w80 : q_w X77 σ78 H69 := by
    rw [dX77, dσ78]
    exact w74.add k11 (fun f hf => absurd rfl hf) (fun q => absurd rfl q) (by decide) (fun q => absurd q (by decide)) (fun f => q_inU rfl) (fun q => by rcases q with q | q <;> exact absurd q (by decide)) (q_cfA hD (by decide) (t0 := 0) rfl r76 (fun j => rfl)) (fun f hf => absurd rfl hf) (fun f g hf _ _ => absurd rfl hf) (fun f hf => absurd rfl hf) (fun f hf => absurd (show (0 : Nat) = 5 from hf) (by decide)) (fun q => absurd q (by decide))
  try clear r76; try clear w74; try clear k11; try clear t0
  have D84 : X77.1 = D := x79.1.trans hD
  try clear D84
  have k85 : q_kd X77 q1 = 22 := by rw [dX77]; exact q_xg_h
  have n86 : q_ln X77 q1 = 0 := by rw [dX77]; exact if_pos rfl
  have x87 := hx0.tr x79 (fun a e => Or.inr (by rw [e]; exact gg_q1))
  have k88 : q_kd X77 h = 0 := x79.k0 h00 (by first | exact (Nat.ne_of_lt hq1) | (omega))
  try clear x79
  exact W.vret E.1 E.2.1 hr (fun t ht _ => ⟨⟨(X77, σ78, q1), rfl, ⟨x87, k88, k85, y83⟩, by show q_w X77 σ78 t.heap ∧ _; rw [ht]; exact ⟨w80, b72⟩⟩, S73.F ht⟩) S73.2.2 dX3_init_46 hlk

set_option maxRecDepth 100000 in
set_option maxHeartbeats 4000000 in
theorem n_X9 (l : Launch) (D : DW) (X : XW) (σ : ST) (h sz : Nat) : Met l yX9_init (q_ws yX9_init cX9_init 1 none) { frames := 4, cells := 50, slots := 1166, locals := 85 } (q_PN D X σ h sz 8 12 (fun k => defaultValue (tyX9 k)) [.ref h]) (q_QN X σ h sz 9 (fun X' _ => (y_rt X X' ∧ y_root X' h) ∧ True)) 50 1166 (q_nw h sz) := by
  refine b_met  (by first | exact rfl | decide +kernel) rfl rfl (Nat.le_of_ble_eq_true rfl) (fun p e s m below meth c E hml hr hlk hnm hsz hD hw0 h00 hob ls hl => ?_)
  subst hsz
  have hxx := E.1
  have hb := E.2.1
  have hl : lv_has ls 1 [(0, .ref h)] := hl
  have hS : va_S (q_nw h s.heap.size) s.heap s.heap [] := va_S.rf
  have hx0 : q_ext (q_nw h s.heap.size) X X σ σ := q_ext.rf
  have hAh : q_nw h s.heap.size h := Or.inl rfl
  have yr0 : y_rt X X := y_rt.rf
  have hlt := t_lt hob
  refine lv_aload_n hxx hb dX9_init_0 rfl (lv_at hl 0 rfl) ?_
  refine va_callv (b_runN (rest := []) E (hml.trans hl.1.symm) hD hw0 h00 hob rfl (n_X3_k9 l D X σ h s.heap.size) bi_X9_3 rfl ⟨Nat.le_of_ble_eq_true rfl, Nat.le_of_ble_eq_true rfl⟩ ⟨Nat.le_of_ble_eq_true rfl, Nat.le_of_ble_eq_true rfl⟩ rfl (Nat.le_of_ble_eq_true rfl) dX9_init_1) hS (fun a _ qa => qa) (fun a qa => qa) (fun u3 t H4 locs1 e1 _ hp hbb hz2 hk2 S2 => ?_)
  obtain ⟨X1, σ2, rt⟩ := u3
  obtain ⟨x5, hkh, hkt, hyr⟩ := hp
  obtain ⟨w2, b2⟩ := hbb
  rw [e1] at w2 b2
  have hD2 : X1.1 = D := x5.1.trans hD
  have yr2 := yr0.tr hyr (fun c hc => by rw [(hx0.2.2.2.1 c hc).1]; exact hc)
  have x2 := hx0.tr x5 (fun a qa => qa)
  try clear x5
  have lt2 := t_lt b2
  refine lv_aload_n hxx hb dX9_init_4 rfl (lv_at hl 0 rfl) ?_
  refine b_new E S2 bw_307 bw_31 bw_2 (show vwCl[0]? = some (RX0, TX0, 15) from rfl) q_inX0 tyX0 tyX0_ok (Nat.le_of_ble_eq_true rfl) (Nat.le_of_ble_eq_true rfl) dX9_init_5 (fun q6 H7 e8 z9 o10 b11 S12 => ?_)
  have hq6 : h < q6 := by first | exact Nat.lt_of_lt_of_eq lt2 e8.symm | omega
  have gg_q6 : s.heap.size ≤ q6 := Nat.le_trans S2.1 (Nat.le_of_eq e8.symm)
  have mm_q6 : q6 < H7.size := by rw [z9, e8]; exact Nat.lt_succ_self _
  try clear S2
  have w13 : q_w X1 σ2 H7 := w2.kept (fun a ha => o10 a (w2.lt ha))
  have b14 := b2.kept (o10 h lt2)
  try clear o10; try clear b2
  have t15 := t_lt b14
  have k16 : q_kd X1 q6 = 0 := w2.fresh (Nat.le_of_eq e8.symm)
  try clear w2
  have g17 := S12.1
  refine lv_dup hxx hb dX9_init_8 rfl ?_
  have a28 : ∀ a, q_nw q6 H7.size a → q_nw h s.heap.size a := nw_in gg_q6 (Nat.le_trans gg_q6 (Nat.le_of_lt mm_q6))
  refine b_cv (b_runN (As := []) (rest := [.ref q6, .ref h]) E (hml.trans hl.1.symm) hD2 w13 k16 b11 rfl (n_X0 l D X1 σ2 q6 H7.size) bi_X9_11 rfl ⟨Nat.le_of_ble_eq_true rfl, Nat.le_of_ble_eq_true rfl⟩ ⟨Nat.le_of_ble_eq_true rfl, Nat.le_of_ble_eq_true rfl⟩ rfl (Nat.le_of_ble_eq_true rfl) dX9_init_9) S12 rfl a28 (fun X18 σ19 H20 locs1 x21 k22 p23 w24 z25 o26 S27 => ?_)
  try clear k16; try clear w13; try clear S12; try clear b11
  have D29 : X18.1 = D := x21.1.trans hD2
  have k30 : q_kd X18 h = 0 := x21.k0 hkh (by first | exact (nw_no hq6 (Nat.lt_trans hq6 mm_q6)) | (rintro (e | e) <;> omega))
  have b31 := b14.kept (o26 h t15 (by first | exact (Nat.ne_of_lt hq6) | omega))
  try clear o26; try clear b14
  have t32 := t_lt b31
  try clear t15
  have y33 := yr2.tr p23.1.1 (fun c hc => by rw [(x2.2.2.2.1 c hc).1]; exact hc)
  have x34 := x2.tr x21 a28
  try clear x2
  have k35 := x21.kd hkt (by decide)
  try clear x21
  have y36 := p23.1.2
  try clear p23
  refine b_put E S27 hAh hnm (f := 8) b31 (show vwCl[8]? = some (RX9, TX9, 12) from rfl) q_inX9 tyX9_ok nmX9 (by decide) bw_311 rfl (fun _ => rfl) (tyX9_ok 8 (by decide)) rfl rfl dX9_init_12 (fun H37 locs1 z38 o39 b40 S41 => ?_)
  try clear b31; try clear S27
  have w42 : q_w X18 σ19 H37 := w24.kept (fun a ha => o39 a (fun e => ha (by rw [e]; exact k30)))
  try clear o39; try clear w24
  have t43 := t_lt b40
  try clear t32
  refine lv_aload_n hxx hb dX9_init_15 rfl (lv_at hl 0 rfl) ?_
  refine lv_iconst (v := 0) hxx hb dX9_init_16 (by decide) ?_
  refine b_put E S41 hAh hnm (f := 9) b40 (show vwCl[8]? = some (RX9, TX9, 12) from rfl) q_inX9 tyX9_ok nmX9 (by decide) bw_313 rfl (fun _ => rfl) (tyX9_ok 9 (by decide)) rfl rfl dX9_init_17 (fun H44 locs1 z45 o46 b47 S48 => ?_)
  try clear S41; try clear b40
  have w49 : q_w X18 σ19 H44 := w42.kept (fun a ha => o46 a (fun e => ha (by rw [e]; exact k30)))
  try clear o46; try clear w42
  have t50 := t_lt b47
  try clear t43
  refine lv_aload_n hxx hb dX9_init_20 rfl (lv_at hl 0 rfl) ?_
  refine lv_iconst (v := 0) hxx hb dX9_init_21 (by decide) ?_
  refine b_put E S48 hAh hnm (f := 10) b47 (show vwCl[8]? = some (RX9, TX9, 12) from rfl) q_inX9 tyX9_ok nmX9 (by decide) bw_314 rfl (fun _ => rfl) (tyX9_ok 10 (by decide)) rfl rfl dX9_init_22 (fun H51 locs1 z52 o53 b54 S55 => ?_)
  try clear S48; try clear b47
  have w56 : q_w X18 σ19 H51 := w49.kept (fun a ha => o53 a (fun e => ha (by rw [e]; exact k30)))
  try clear o53; try clear w49
  have t57 := t_lt b54
  try clear t50
  refine lv_aload_n hxx hb dX9_init_25 rfl (lv_at hl 0 rfl) ?_
  refine b_new E S55 bw_309 bw_43 bw_4 (show vwCl[4]? = some (RX5, TX5, 1) from rfl) q_inX5 tyX5 tyX5_ok (Nat.le_of_ble_eq_true rfl) (Nat.le_of_ble_eq_true rfl) dX9_init_26 (fun q58 H59 e60 z61 o62 b63 S64 => ?_)
  have hq58 : h < q58 := by first | exact Nat.lt_of_lt_of_eq t57 e60.symm | omega
  have gg_q58 : s.heap.size ≤ q58 := Nat.le_trans S55.1 (Nat.le_of_eq e60.symm)
  have mm_q58 : q58 < H59.size := by rw [z61, e60]; exact Nat.lt_succ_self _
  have cc_q58 : q6 < q58 := by first | exact Nat.lt_of_lt_of_eq (Nat.lt_of_lt_of_le (Nat.lt_of_lt_of_le (Nat.lt_of_lt_of_le (Nat.lt_of_lt_of_le mm_q6 z25) (Nat.le_of_eq z38.symm)) (Nat.le_of_eq z45.symm)) (Nat.le_of_eq z52.symm)) e60.symm | omega
  try clear S55
  have w65 : q_w X18 σ19 H59 := w56.kept (fun a ha => o62 a (w56.lt ha))
  have b66 := b54.kept (o62 h t57)
  try clear o62; try clear b54
  have t67 := t_lt b66
  try clear t57
  have k68 : q_kd X18 q58 = 0 := w56.fresh (Nat.le_of_eq e60.symm)
  try clear w56
  have g69 := S64.1
  refine lv_dup hxx hb dX9_init_29 rfl ?_
  refine lv_bipush (v := 6) hxx hb dX9_init_30 (by decide) ?_
  have a80 : ∀ a, q_nw q58 H59.size a → q_nw h s.heap.size a := nw_in gg_q58 (Nat.le_trans gg_q58 (Nat.le_of_lt mm_q58))
  refine b_cv (b_runI (As := [.int 6]) (rest := [.ref q58, .ref h]) E (hml.trans hl.1.symm) D29 w65 k68 b63 rfl (n_X5 l D X18 σ19 q58 H59.size 6 6 (by decide) (by decide) (by decide)) bi_X9_27 rfl ⟨Nat.le_of_ble_eq_true rfl, Nat.le_of_ble_eq_true rfl⟩ ⟨Nat.le_of_ble_eq_true rfl, Nat.le_of_ble_eq_true rfl⟩ rfl (Nat.le_of_ble_eq_true rfl) dX9_init_32) S64 rfl a80 (fun X70 σ71 H72 locs1 x73 k74 p75 w76 z77 o78 S79 => ?_)
  try clear k68; try clear w65; try clear S64; try clear b63
  have D81 : X70.1 = D := x73.1.trans D29
  try clear D29
  have k82 : q_kd X70 h = 0 := x73.k0 k30 (by first | exact (nw_no hq58 (Nat.lt_trans hq58 mm_q58)) | (rintro (e | e) <;> omega))
  try clear k30
  have b83 := b66.kept (o78 h t67 (by first | exact (Nat.ne_of_lt hq58) | omega))
  try clear o78; try clear b66
  have t84 := t_lt b83
  try clear t67
  have y85 := y33.tr p75.1.1 (fun c hc => by rw [(x34.2.2.2.1 c hc).1]; exact hc)
  try clear y33
  have x86 := x34.tr x73 a80
  try clear x34
  have k87 := x73.kd k35 (by decide)
  try clear k35
  have k88 := x73.kd k22 (by decide)
  try clear x73
  have y89 := p75.1.1 q6 (by rw [k22]; decide) y36
  try clear y36; try clear k22
  have y90 := p75.1.2
  have y91 := p75.2
  try clear p75
  refine b_put E S79 hAh hnm (f := 11) b83 (show vwCl[8]? = some (RX9, TX9, 12) from rfl) q_inX9 tyX9_ok nmX9 (by decide) bw_315 rfl (fun _ => rfl) (tyX9_ok 11 (by decide)) rfl rfl dX9_init_35 (fun H92 locs1 z93 o94 b95 S96 => ?_)
  try clear b83; try clear S79
  have w97 : q_w X70 σ71 H92 := w76.kept (fun a ha => o94 a (fun e => ha (by rw [e]; exact k82)))
  try clear o94; try clear w76
  have t98 := t_lt b95
  try clear t84
  obtain ⟨X99, dX99⟩ : ∃ Y, Y = q_xg X70 h 9 0 (fun f => ([0, 0, 0, 0, 0, 0, 0, 0, q6, 0, 0, q58] : List Nat).getD f 0) := ⟨_, rfl⟩
  obtain ⟨σ100, dσ100⟩ : ∃ τ, τ = q_sg σ71 h (fun f => ([0, 0, 0, 0, 0, 0, 0, (-1), 0, 0, 0, 0] : List Int32).getD f 0) (fun f => ([0, 0, 0, 0, 0, 0, 0, 0, 0, 0, 0, 0] : List Int64).getD f 0) rt := ⟨_, rfl⟩
  have x101 : q_ext (fun a => a = h) X70 X99 σ71 σ100 := by rw [dX99, dσ100]; exact q_ext.add k82
  have hrk : ∀ f, f < 40 → q_rk 9 f ≠ 0 → q_kd X70 (([0, 0, 0, 0, 0, 0, 0, 0, q6, 0, 0, q58] : List Nat).getD f 0) = q_rk 9 f := fun f h40 hf => match f, h40, hf with | 0, _, hf => absurd rfl hf | 1, _, hf => absurd rfl hf | 2, _, hf => absurd rfl hf | 3, _, hf => absurd rfl hf | 4, _, hf => absurd rfl hf | 5, _, hf => absurd rfl hf | 6, _, hf => absurd rfl hf | 7, _, hf => absurd rfl hf | 8, _, _ => k88 | 9, _, hf => absurd rfl hf | 10, _, hf => absurd rfl hf | 11, _, _ => k74 | 12, _, hf => absurd rfl hf | 13, _, hf => absurd rfl hf | 14, _, hf => absurd rfl hf | 15, _, hf => absurd rfl hf | 16, _, hf => absurd rfl hf | 17, _, hf => absurd rfl hf | 18, _, hf => absurd rfl hf | 19, _, hf => absurd rfl hf | 20, _, hf => absurd rfl hf | 21, _, hf => absurd rfl hf | 22, _, hf => absurd rfl hf | 23, _, hf => absurd rfl hf | 24, _, hf => absurd rfl hf | 25, _, hf => absurd rfl hf | 26, _, hf => absurd rfl hf | 27, _, hf => absurd rfl hf | 28, _, hf => absurd rfl hf | 29, _, hf => absurd rfl hf | 30, _, hf => absurd rfl hf | 31, _, hf => absurd rfl hf | 32, _, hf => absurd rfl hf | 33, _, hf => absurd rfl hf | 34, _, hf => absurd rfl hf | 35, _, hf => absurd rfl hf | 36, _, hf => absurd rfl hf | 37, _, hf => absurd rfl hf | 38, _, hf => absurd rfl hf | 39, _, hf => absurd rfl hf | (n + 40), h40, _ => absurd h40 (Nat.not_lt_of_ge (Nat.le_add_left 40 n))
  have hB : ∀ f, f < 40 → (q_bn 9 f).1 ≤ ((([0, 0, 0, 0, 0, 0, 0, (-1), 0, 0, 0, 0] : List Int32).getD f 0).toInt) ∧ (([0, 0, 0, 0, 0, 0, 0, (-1), 0, 0, 0, 0] : List Int32).getD f 0).toInt ≤ (q_bn 9 f).2 := by decide +kernel
  have y103 : ∀ f, q_rk 9 f ≠ 0 → h < ([0, 0, 0, 0, 0, 0, 0, 0, q6, 0, 0, q58] : List Nat).getD f 0 := by
    intro f hf
    rcases y_fs9 hf with rfl | rfl
    · exact (hq6)
    · exact (hq58)
  have y104 : ∀ f, q_rk 9 f ≠ 0 → y_root X70 (([0, 0, 0, 0, 0, 0, 0, 0, q6, 0, 0, q58] : List Nat).getD f 0) := by
    intro f hf
    rcases y_fs9 hf with rfl | rfl
    · exact y89
    · exact y90
  try clear y90; try clear y89
  have y105 : ∀ f, q_rk 9 f = 5 → q_ln X70 (q_rf X70 (([0, 0, 0, 0, 0, 0, 0, 0, q6, 0, 0, q58] : List Nat).getD f 0) 0) = y_rl 9 f := by
    intro f hf
    rcases y_fs9 (show q_rk 9 f ≠ 0 by rw [hf]; decide) with rfl | rfl
    · exact absurd hf (by decide)
    · exact y91
  have y106 : ∀ f, q_rk 9 f ≠ 0 → ([0, 0, 0, 0, 0, 0, 0, 0, q6, 0, 0, q58] : List Nat).getD f 0 ≠ h := by
    intro f hf
    rcases y_fs9 hf with rfl | rfl
    · exact ((Nat.ne_of_gt hq6))
    · exact ((Nat.ne_of_gt hq58))
  have y107 : ∀ f, q_rk 9 f ≠ 0 → q_kd X (([0, 0, 0, 0, 0, 0, 0, 0, q6, 0, 0, q58] : List Nat).getD f 0) = 0 := by
    intro f hf
    rcases y_fs9 hf with rfl | rfl
    · exact hw0.fresh (gg_q6)
    · exact hw0.fresh (gg_q58)
  have w102 : q_w X99 σ100 H92 := by
    rw [dX99, dσ100]
    exact w97.add k82 (q_hrk hrk) (fun q => absurd rfl q) (by decide) (fun q => absurd q (by decide)) (q_hB hB (by decide)) (fun _ => k87) (q_cfO D81 ⟨rfl, by decide⟩ (show vwCl[8]? = some (RX9, TX9, 12) from rfl) b95 (fun f hf => match f, hf with | 0, _ => rfl | 1, _ => rfl | 2, _ => rfl | 3, _ => rfl | 4, _ => rfl | 5, _ => rfl | 6, _ => rfl | 7, _ => rfl | 8, _ => rfl | 9, _ => rfl | 10, _ => rfl | 11, _ => rfl | (n + 12), hf => absurd hf (Nat.not_lt_of_ge (Nat.le_add_left 12 n)))) y103 (y_in9 (rf := (fun f => ([0, 0, 0, 0, 0, 0, 0, 0, q6, 0, 0, q58] : List Nat).getD f 0)) (show q6 < q58 from cc_q58)) y104 y105 (fun q => absurd q (by decide))
  try clear y105; try clear y104; try clear y103; try clear b95; try clear D81
  have y108 : y_root X99 h := by
    rw [dX99]
    exact (y_root.out w97.1 k82).add y_xg y106
  try clear y106; try clear k82
  have y109 : y_rt X X99 := by
    rw [dX99]
    exact y85.add y_xg y107
  try clear y107; try clear y85
  have k110 : q_kd X99 h = 9 := by rw [dX99]; exact q_xg_h
  have x111 := x86.tr x101 (fun a e => Or.inl e)
  try clear x86
  have y112 := y_rlx x101 w97.1 k74 y91
  try clear y112; try clear w97; try clear y91
  have k113 := x101.kd k87 (by decide)
  try clear k113; try clear k87
  have k114 := x101.kd k88 (by decide)
  try clear k114; try clear k88
  have k115 := x101.kd k74 (by decide)
  try clear k115; try clear x101; try clear k74
  exact b_ret E hr hlk S96 x111 k110 ⟨⟨y109, y108⟩, trivial⟩ w102 dX9_init_38

set_option maxRecDepth 100000 in
set_option maxHeartbeats 4000000 in
theorem n_X3_k4 (l : Launch) (D : DW) (X : XW) (σ : ST) (h sz : Nat) : Met l yX3_init (q_ws yX3_init cX3_init 1 none) { frames := 1, cells := 1, slots := 0, locals := 12 } (q_PN D X σ h sz 3 11 (fun k => defaultValue (tyX4 k)) [.ref h]) (va_Qv (S := XW × ST × Nat) (fun u => q_ext (q_nw h sz) X u.1 σ u.2.1 ∧ q_kd u.1 h = 0 ∧ q_kd u.1 u.2.2 = 22 ∧ y_rt X u.1) (fun u t => q_w u.1 u.2.1 t.heap ∧ t_OB h (D.1.1 3) 11 (D.1.2 3) t.heap (updV (updV (updV (updV (updV (updV (updV (updV (fun k => defaultValue (tyX4 k)) 0 (.ref u.2.2)) 1 (.int 0)) 2 (.int 0)) 3 (.int 0)) 4 (.int 0)) 5 (.int 0)) 6 (.int 0)) 7 (.int (-1)))) (q_nw h sz)) 1 0 (q_nw h sz) := by
  refine b_met  (by first | exact rfl | decide +kernel) rfl rfl (Nat.le_of_ble_eq_true rfl) (fun p e s m below meth c E hml hr hlk hnm hsz hD hw0 h00 hob ls hl => ?_)
  subst hsz
  have hxx := E.1
  have hb := E.2.1
  have hl : lv_has ls 1 [(0, .ref h)] := hl
  have hS : va_S (q_nw h s.heap.size) s.heap s.heap [] := va_S.rf
  have hx0 : q_ext (q_nw h s.heap.size) X X σ σ := q_ext.rf
  have hAh : q_nw h s.heap.size h := Or.inl rfl
  have yr0 : y_rt X X := y_rt.rf
  have hlt := t_lt hob
  refine lv_aload_n hxx hb dX3_init_0 rfl (lv_at hl 0 rfl) ?_
  refine W.objInit hxx hb E.2.2.1 (E.2.2.2.1 _ bw_306) (E.2.2.2.1 _ bw_26) (E.2.2.2.1 _ bw_27) rfl (by rw [hml]; exact hl.1) rfl dX3_init_1 (Nat.le_of_ble_eq_true rfl) (Nat.le_of_ble_eq_true rfl) ?_
  refine W.eq (g2 := F0 m 4 ls []) rfl ?_
  refine lv_aload_n hxx hb dX3_init_4 rfl (lv_at hl 0 rfl) ?_
  refine lv_iconst (v := 0) hxx hb dX3_init_5 (by decide) ?_
  refine b_newa E hS bw_55 (t := 0) rfl (fun _ _ => rfl) (N' := 0) (by decide) (by decide) (by decide) (Nat.le_of_ble_eq_true rfl) (Nat.le_of_ble_eq_true rfl) dX3_init_6 (fun q1 H2 e3 z4 o5 r6 S7 => ?_)
  have hq1 : h < q1 := by first | exact Nat.lt_of_lt_of_eq hlt e3.symm | omega
  have gg_q1 : s.heap.size ≤ q1 := Nat.le_trans hS.1 (Nat.le_of_eq e3.symm)
  have mm_q1 : q1 < H2.size := by rw [z4, e3]; exact Nat.lt_succ_self _
  have w8 : q_w X σ H2 := hw0.kept (fun a ha => o5 a (hw0.lt ha))
  have b9 := hob.kept (o5 h hlt)
  try clear o5
  have t10 := t_lt b9
  have k11 : q_kd X q1 = 0 := hw0.fresh (Nat.le_of_eq e3.symm)
  have g12 := S7.1
  refine b_put E S7 hAh hnm (f := 0) b9 (show vwCl[3]? = some (RX4, TX4, 11) from rfl) q_inX4 tyX4_ok nmX4 (by decide) bw_316 rfl (fun _ => rfl) (tyX4_ok 0 (by decide)) rfl rfl dX3_init_8 (fun H13 locs1 z14 o15 b16 S17 => ?_)
  try clear b9; try clear S7
  have w18 : q_w X σ H13 := w8.kept (fun a ha => o15 a (fun e => ha (by rw [e]; exact h00)))
  try clear w8
  have t19 := t_lt b16
  try clear t10
  have r20 := (o15 q1 (by first | exact (Nat.ne_of_gt hq1) | omega)).trans r6
  try clear o15; try clear r6
  refine lv_aload_n hxx hb dX3_init_11 rfl (lv_at hl 0 rfl) ?_
  refine lv_iconst (v := 0) hxx hb dX3_init_12 (by decide) ?_
  refine b_put E S17 hAh hnm (f := 1) b16 (show vwCl[3]? = some (RX4, TX4, 11) from rfl) q_inX4 tyX4_ok nmX4 (by decide) bw_317 rfl (fun _ => rfl) (tyX4_ok 1 (by decide)) rfl rfl dX3_init_13 (fun H21 locs1 z22 o23 b24 S25 => ?_)
  try clear S17; try clear b16
  have w26 : q_w X σ H21 := w18.kept (fun a ha => o23 a (fun e => ha (by rw [e]; exact h00)))
  try clear w18
  have t27 := t_lt b24
  try clear t19
  have r28 := (o23 q1 (by first | exact (Nat.ne_of_gt hq1) | omega)).trans r20
  try clear o23; try clear r20
  refine lv_aload_n hxx hb dX3_init_16 rfl (lv_at hl 0 rfl) ?_
  refine lv_iconst (v := 0) hxx hb dX3_init_17 (by decide) ?_
  refine b_put E S25 hAh hnm (f := 2) b24 (show vwCl[3]? = some (RX4, TX4, 11) from rfl) q_inX4 tyX4_ok nmX4 (by decide) bw_318 rfl (fun _ => rfl) (tyX4_ok 2 (by decide)) rfl rfl dX3_init_18 (fun H29 locs1 z30 o31 b32 S33 => ?_)
  try clear S25; try clear b24
  have w34 : q_w X σ H29 := w26.kept (fun a ha => o31 a (fun e => ha (by rw [e]; exact h00)))
  try clear w26
  have t35 := t_lt b32
  try clear t27
  have r36 := (o31 q1 (by first | exact (Nat.ne_of_gt hq1) | omega)).trans r28
  try clear o31; try clear r28
  refine lv_aload_n hxx hb dX3_init_21 rfl (lv_at hl 0 rfl) ?_
  refine lv_iconst (v := 0) hxx hb dX3_init_22 (by decide) ?_
  refine b_put E S33 hAh hnm (f := 3) b32 (show vwCl[3]? = some (RX4, TX4, 11) from rfl) q_inX4 tyX4_ok nmX4 (by decide) bw_319 rfl (fun _ => rfl) (tyX4_ok 3 (by decide)) rfl rfl dX3_init_23 (fun H37 locs1 z38 o39 b40 S41 => ?_)
  try clear S33; try clear b32
  have w42 : q_w X σ H37 := w34.kept (fun a ha => o39 a (fun e => ha (by rw [e]; exact h00)))
  try clear w34
  have t43 := t_lt b40
  try clear t35
  have r44 := (o39 q1 (by first | exact (Nat.ne_of_gt hq1) | omega)).trans r36
  try clear o39; try clear r36
  refine lv_aload_n hxx hb dX3_init_26 rfl (lv_at hl 0 rfl) ?_
  refine lv_iconst (v := 0) hxx hb dX3_init_27 (by decide) ?_
  refine b_put E S41 hAh hnm (f := 4) b40 (show vwCl[3]? = some (RX4, TX4, 11) from rfl) q_inX4 tyX4_ok nmX4 (by decide) bw_320 rfl (fun _ => rfl) (tyX4_ok 4 (by decide)) rfl rfl dX3_init_28 (fun H45 locs1 z46 o47 b48 S49 => ?_)
  try clear S41; try clear b40
  have w50 : q_w X σ H45 := w42.kept (fun a ha => o47 a (fun e => ha (by rw [e]; exact h00)))
  try clear w42
  have t51 := t_lt b48
  try clear t43
  have r52 := (o47 q1 (by first | exact (Nat.ne_of_gt hq1) | omega)).trans r44
  try clear o47; try clear r44
  refine lv_aload_n hxx hb dX3_init_31 rfl (lv_at hl 0 rfl) ?_
  refine lv_iconst (v := 0) hxx hb dX3_init_32 (by decide) ?_
  refine b_put E S49 hAh hnm (f := 5) b48 (show vwCl[3]? = some (RX4, TX4, 11) from rfl) q_inX4 tyX4_ok nmX4 (by decide) bw_325 rfl (fun _ => rfl) (tyX4_ok 5 (by decide)) rfl rfl dX3_init_33 (fun H53 locs1 z54 o55 b56 S57 => ?_)
  try clear S49; try clear b48
  have w58 : q_w X σ H53 := w50.kept (fun a ha => o55 a (fun e => ha (by rw [e]; exact h00)))
  try clear w50
  have t59 := t_lt b56
  try clear t51
  have r60 := (o55 q1 (by first | exact (Nat.ne_of_gt hq1) | omega)).trans r52
  try clear o55; try clear r52
  refine lv_aload_n hxx hb dX3_init_36 rfl (lv_at hl 0 rfl) ?_
  refine lv_iconst (v := 0) hxx hb dX3_init_37 (by decide) ?_
  refine b_put E S57 hAh hnm (f := 6) b56 (show vwCl[3]? = some (RX4, TX4, 11) from rfl) q_inX4 tyX4_ok nmX4 (by decide) bw_328 rfl (fun _ => rfl) (tyX4_ok 6 (by decide)) rfl rfl dX3_init_38 (fun H61 locs1 z62 o63 b64 S65 => ?_)
  try clear S57; try clear b56
  have w66 : q_w X σ H61 := w58.kept (fun a ha => o63 a (fun e => ha (by rw [e]; exact h00)))
  try clear w58
  have t67 := t_lt b64
  try clear t59
  have r68 := (o63 q1 (by first | exact (Nat.ne_of_gt hq1) | omega)).trans r60
  try clear o63; try clear r60
  refine lv_aload_n hxx hb dX3_init_41 rfl (lv_at hl 0 rfl) ?_
  refine lv_iconst (v := (-1)) hxx hb dX3_init_42 (by decide) ?_
  refine b_put E S65 hAh hnm (f := 7) b64 (show vwCl[3]? = some (RX4, TX4, 11) from rfl) q_inX4 tyX4_ok nmX4 (by decide) bw_330 rfl (fun _ => rfl) (tyX4_ok 7 (by decide)) rfl rfl dX3_init_43 (fun H69 locs1 z70 o71 b72 S73 => ?_)
  try clear S65; try clear b64
  have w74 : q_w X σ H69 := w66.kept (fun a ha => o71 a (fun e => ha (by rw [e]; exact h00)))
  try clear w66
  have t75 := t_lt b72
  try clear t67
  have r76 := (o71 q1 (by first | exact (Nat.ne_of_gt hq1) | omega)).trans r68
  try clear o71; try clear r68
  have y81 := raw_lt r76
  try clear y81
  obtain ⟨X77, dX77⟩ : ∃ Y, Y = q_xg X q1 22 0 (fun _ => 0) := ⟨_, rfl⟩
  obtain ⟨σ78, dσ78⟩ : ∃ τ, τ = q_sg σ q1 (fun _ => 0 : Nat → Int32) (fun _ => 0) 0 := ⟨_, rfl⟩
  have x79 : q_ext (fun a => a = q1) X X77 σ σ78 := by rw [dX77, dσ78]; exact q_ext.add k11
  have y82 : y_root X77 q1 := by rw [dX77]; exact (y_root.out w74.1 k11).add y_xg (fun f hf => absurd rfl hf)
  try clear y82
  have y83 : y_rt X X77 := by rw [dX77]; exact yr0.add y_xg (fun f hf => absurd rfl hf)
  have w80 : q_w X77 σ78 H69 := by
    rw [dX77, dσ78]
    exact w74.add k11 (fun f hf => absurd rfl hf) (fun q => absurd rfl q) (by decide) (fun q => absurd q (by decide)) (fun f => q_inU rfl) (fun q => by rcases q with q | q <;> exact absurd q (by decide)) (q_cfA hD (by decide) (t0 := 0) rfl r76 (fun j => rfl)) (fun f hf => absurd rfl hf) (fun f g hf _ _ => absurd rfl hf) (fun f hf => absurd rfl hf) (fun f hf => absurd (show (0 : Nat) = 5 from hf) (by decide)) (fun q => absurd q (by decide))
  try clear r76; try clear w74; try clear k11; try clear t0
  have D84 : X77.1 = D := x79.1.trans hD
  try clear D84
  have k85 : q_kd X77 q1 = 22 := by rw [dX77]; exact q_xg_h
  have n86 : q_ln X77 q1 = 0 := by rw [dX77]; exact if_pos rfl
  have x87 := hx0.tr x79 (fun a e => Or.inr (by rw [e]; exact gg_q1))
  have k88 : q_kd X77 h = 0 := x79.k0 h00 (by first | exact (Nat.ne_of_lt hq1) | (omega))
  try clear x79
  exact W.vret E.1 E.2.1 hr (fun t ht _ => ⟨⟨(X77, σ78, q1), rfl, ⟨x87, k88, k85, y83⟩, by show q_w X77 σ78 t.heap ∧ _; rw [ht]; exact ⟨w80, b72⟩⟩, S73.F ht⟩) S73.2.2 dX3_init_46 hlk

set_option maxRecDepth 100000 in
set_option maxHeartbeats 4000000 in
theorem n_X4 (l : Launch) (D : DW) (X : XW) (σ : ST) (h sz : Nat) : Met l yX4_init (q_ws yX4_init cX4_init 1 none) { frames := 3, cells := 14, slots := 317, locals := 65 } (q_PN D X σ h sz 3 11 (fun k => defaultValue (tyX4 k)) [.ref h]) (q_QN X σ h sz 4 (fun X' _ => (y_rt X X' ∧ y_root X' h) ∧ True)) 14 317 (q_nw h sz) := by
  refine b_met  (by first | exact rfl | decide +kernel) rfl rfl (Nat.le_of_ble_eq_true rfl) (fun p e s m below meth c E hml hr hlk hnm hsz hD hw0 h00 hob ls hl => ?_)
  subst hsz
  have hxx := E.1
  have hb := E.2.1
  have hl : lv_has ls 1 [(0, .ref h)] := hl
  have hS : va_S (q_nw h s.heap.size) s.heap s.heap [] := va_S.rf
  have hx0 : q_ext (q_nw h s.heap.size) X X σ σ := q_ext.rf
  have hAh : q_nw h s.heap.size h := Or.inl rfl
  have yr0 : y_rt X X := y_rt.rf
  have hlt := t_lt hob
  refine lv_aload_n hxx hb dX4_init_0 rfl (lv_at hl 0 rfl) ?_
  refine va_callv (b_runN (rest := []) E (hml.trans hl.1.symm) hD hw0 h00 hob rfl (n_X3_k4 l D X σ h s.heap.size) bi_X4_3 rfl ⟨Nat.le_of_ble_eq_true rfl, Nat.le_of_ble_eq_true rfl⟩ ⟨Nat.le_of_ble_eq_true rfl, Nat.le_of_ble_eq_true rfl⟩ rfl (Nat.le_of_ble_eq_true rfl) dX4_init_1) hS (fun a _ qa => qa) (fun a qa => qa) (fun u3 t H4 locs1 e1 _ hp hbb hz2 hk2 S2 => ?_)
  obtain ⟨X1, σ2, rt⟩ := u3
  obtain ⟨x5, hkh, hkt, hyr⟩ := hp
  obtain ⟨w2, b2⟩ := hbb
  rw [e1] at w2 b2
  have hD2 : X1.1 = D := x5.1.trans hD
  have yr2 := yr0.tr hyr (fun c hc => by rw [(hx0.2.2.2.1 c hc).1]; exact hc)
  have x2 := hx0.tr x5 (fun a qa => qa)
  try clear x5
  have lt2 := t_lt b2
  refine lv_aload_n hxx hb dX4_init_4 rfl (lv_at hl 0 rfl) ?_
  refine b_new E S2 bw_363 bw_180 bw_8 (show vwCl[7]? = some (RX8, TX8, 8) from rfl) q_inX8 tyX8 tyX8_ok (Nat.le_of_ble_eq_true rfl) (Nat.le_of_ble_eq_true rfl) dX4_init_5 (fun q6 H7 e8 z9 o10 b11 S12 => ?_)
  have hq6 : h < q6 := by first | exact Nat.lt_of_lt_of_eq lt2 e8.symm | omega
  have gg_q6 : s.heap.size ≤ q6 := Nat.le_trans S2.1 (Nat.le_of_eq e8.symm)
  have mm_q6 : q6 < H7.size := by rw [z9, e8]; exact Nat.lt_succ_self _
  try clear S2
  have w13 : q_w X1 σ2 H7 := w2.kept (fun a ha => o10 a (w2.lt ha))
  have b14 := b2.kept (o10 h lt2)
  try clear o10; try clear b2
  have t15 := t_lt b14
  have k16 : q_kd X1 q6 = 0 := w2.fresh (Nat.le_of_eq e8.symm)
  try clear w2
  have g17 := S12.1
  refine lv_dup hxx hb dX4_init_8 rfl ?_
  have a28 : ∀ a, q_nw q6 H7.size a → q_nw h s.heap.size a := nw_in gg_q6 (Nat.le_trans gg_q6 (Nat.le_of_lt mm_q6))
  refine b_cv (b_runN (As := []) (rest := [.ref q6, .ref h]) E (hml.trans hl.1.symm) hD2 w13 k16 b11 rfl (n_X8 l D X1 σ2 q6 H7.size) bi_X4_11 rfl ⟨Nat.le_of_ble_eq_true rfl, Nat.le_of_ble_eq_true rfl⟩ ⟨Nat.le_of_ble_eq_true rfl, Nat.le_of_ble_eq_true rfl⟩ rfl (Nat.le_of_ble_eq_true rfl) dX4_init_9) S12 rfl a28 (fun X18 σ19 H20 locs1 x21 k22 p23 w24 z25 o26 S27 => ?_)
  try clear k16; try clear w13; try clear S12; try clear b11
  have D29 : X18.1 = D := x21.1.trans hD2
  have k30 : q_kd X18 h = 0 := x21.k0 hkh (by first | exact (nw_no hq6 (Nat.lt_trans hq6 mm_q6)) | (rintro (e | e) <;> omega))
  have b31 := b14.kept (o26 h t15 (by first | exact (Nat.ne_of_lt hq6) | omega))
  try clear o26; try clear b14
  have t32 := t_lt b31
  try clear t15
  have y33 := yr2.tr p23.1.1 (fun c hc => by rw [(x2.2.2.2.1 c hc).1]; exact hc)
  have x34 := x2.tr x21 a28
  try clear x2
  have k35 := x21.kd hkt (by decide)
  try clear x21
  have y36 := p23.1.2
  try clear p23
  refine b_put E S27 hAh hnm (f := 8) b31 (show vwCl[3]? = some (RX4, TX4, 11) from rfl) q_inX4 tyX4_ok nmX4 (by decide) bw_367 rfl (fun _ => rfl) (tyX4_ok 8 (by decide)) rfl rfl dX4_init_12 (fun H37 locs1 z38 o39 b40 S41 => ?_)
  try clear b31; try clear S27
  have w42 : q_w X18 σ19 H37 := w24.kept (fun a ha => o39 a (fun e => ha (by rw [e]; exact k30)))
  try clear o39; try clear w24
  have t43 := t_lt b40
  try clear t32
  refine lv_aload_n hxx hb dX4_init_15 rfl (lv_at hl 0 rfl) ?_
  refine b_new E S41 bw_365 bw_43 bw_4 (show vwCl[4]? = some (RX5, TX5, 1) from rfl) q_inX5 tyX5 tyX5_ok (Nat.le_of_ble_eq_true rfl) (Nat.le_of_ble_eq_true rfl) dX4_init_16 (fun q44 H45 e46 z47 o48 b49 S50 => ?_)
  have hq44 : h < q44 := by first | exact Nat.lt_of_lt_of_eq t43 e46.symm | omega
  have gg_q44 : s.heap.size ≤ q44 := Nat.le_trans S41.1 (Nat.le_of_eq e46.symm)
  have mm_q44 : q44 < H45.size := by rw [z47, e46]; exact Nat.lt_succ_self _
  have cc_q44 : q6 < q44 := by first | exact Nat.lt_of_lt_of_eq (Nat.lt_of_lt_of_le (Nat.lt_of_lt_of_le mm_q6 z25) (Nat.le_of_eq z38.symm)) e46.symm | omega
  try clear S41
  have w51 : q_w X18 σ19 H45 := w42.kept (fun a ha => o48 a (w42.lt ha))
  have b52 := b40.kept (o48 h t43)
  try clear o48; try clear b40
  have t53 := t_lt b52
  try clear t43
  have k54 : q_kd X18 q44 = 0 := w42.fresh (Nat.le_of_eq e46.symm)
  try clear w42
  have g55 := S50.1
  refine lv_dup hxx hb dX4_init_19 rfl ?_
  refine lv_iconst (v := 3) hxx hb dX4_init_20 (by decide) ?_
  have a66 : ∀ a, q_nw q44 H45.size a → q_nw h s.heap.size a := nw_in gg_q44 (Nat.le_trans gg_q44 (Nat.le_of_lt mm_q44))
  refine b_cv (b_runI (As := [.int 3]) (rest := [.ref q44, .ref h]) E (hml.trans hl.1.symm) D29 w51 k54 b49 rfl (n_X5 l D X18 σ19 q44 H45.size 3 3 (by decide) (by decide) (by decide)) bi_X4_20 rfl ⟨Nat.le_of_ble_eq_true rfl, Nat.le_of_ble_eq_true rfl⟩ ⟨Nat.le_of_ble_eq_true rfl, Nat.le_of_ble_eq_true rfl⟩ rfl (Nat.le_of_ble_eq_true rfl) dX4_init_21) S50 rfl a66 (fun X56 σ57 H58 locs1 x59 k60 p61 w62 z63 o64 S65 => ?_)
  try clear k54; try clear w51; try clear S50; try clear b49
  have D67 : X56.1 = D := x59.1.trans D29
  try clear D29
  have k68 : q_kd X56 h = 0 := x59.k0 k30 (by first | exact (nw_no hq44 (Nat.lt_trans hq44 mm_q44)) | (rintro (e | e) <;> omega))
  try clear k30
  have b69 := b52.kept (o64 h t53 (by first | exact (Nat.ne_of_lt hq44) | omega))
  try clear o64; try clear b52
  have t70 := t_lt b69
  try clear t53
  have y71 := y33.tr p61.1.1 (fun c hc => by rw [(x34.2.2.2.1 c hc).1]; exact hc)
  try clear y33
  have x72 := x34.tr x59 a66
  try clear x34
  have k73 := x59.kd k35 (by decide)
  try clear k35
  have k74 := x59.kd k22 (by decide)
  try clear x59
  have y75 := p61.1.1 q6 (by rw [k22]; decide) y36
  try clear y36; try clear k22
  have y76 := p61.1.2
  have y77 := p61.2
  try clear p61
  refine b_put E S65 hAh hnm (f := 9) b69 (show vwCl[3]? = some (RX4, TX4, 11) from rfl) q_inX4 tyX4_ok nmX4 (by decide) bw_369 rfl (fun _ => rfl) (tyX4_ok 9 (by decide)) rfl rfl dX4_init_24 (fun H78 locs1 z79 o80 b81 S82 => ?_)
  try clear b69; try clear S65
  have w83 : q_w X56 σ57 H78 := w62.kept (fun a ha => o80 a (fun e => ha (by rw [e]; exact k68)))
  try clear o80; try clear w62
  have t84 := t_lt b81
  try clear t70
  refine lv_aload_n hxx hb dX4_init_27 rfl (lv_at hl 0 rfl) ?_
  refine lv_iconst (v := 0) hxx hb dX4_init_28 (by decide) ?_
  refine b_put E S82 hAh hnm (f := 10) b81 (show vwCl[3]? = some (RX4, TX4, 11) from rfl) q_inX4 tyX4_ok nmX4 (by decide) bw_370 rfl (fun _ => rfl) (tyX4_ok 10 (by decide)) rfl rfl dX4_init_29 (fun H85 locs1 z86 o87 b88 S89 => ?_)
  try clear S82; try clear b81
  have w90 : q_w X56 σ57 H85 := w83.kept (fun a ha => o87 a (fun e => ha (by rw [e]; exact k68)))
  try clear o87; try clear w83
  have t91 := t_lt b88
  try clear t84
  obtain ⟨X92, dX92⟩ : ∃ Y, Y = q_xg X56 h 4 0 (fun f => ([0, 0, 0, 0, 0, 0, 0, 0, q6, q44, 0] : List Nat).getD f 0) := ⟨_, rfl⟩
  obtain ⟨σ93, dσ93⟩ : ∃ τ, τ = q_sg σ57 h (fun f => ([0, 0, 0, 0, 0, 0, 0, (-1), 0, 0, 0] : List Int32).getD f 0) (fun f => ([0, 0, 0, 0, 0, 0, 0, 0, 0, 0, 0] : List Int64).getD f 0) rt := ⟨_, rfl⟩
  have x94 : q_ext (fun a => a = h) X56 X92 σ57 σ93 := by rw [dX92, dσ93]; exact q_ext.add k68
  have hrk : ∀ f, f < 40 → q_rk 4 f ≠ 0 → q_kd X56 (([0, 0, 0, 0, 0, 0, 0, 0, q6, q44, 0] : List Nat).getD f 0) = q_rk 4 f := fun f h40 hf => match f, h40, hf with | 0, _, hf => absurd rfl hf | 1, _, hf => absurd rfl hf | 2, _, hf => absurd rfl hf | 3, _, hf => absurd rfl hf | 4, _, hf => absurd rfl hf | 5, _, hf => absurd rfl hf | 6, _, hf => absurd rfl hf | 7, _, hf => absurd rfl hf | 8, _, _ => k74 | 9, _, _ => k60 | 10, _, hf => absurd rfl hf | 11, _, hf => absurd rfl hf | 12, _, hf => absurd rfl hf | 13, _, hf => absurd rfl hf | 14, _, hf => absurd rfl hf | 15, _, hf => absurd rfl hf | 16, _, hf => absurd rfl hf | 17, _, hf => absurd rfl hf | 18, _, hf => absurd rfl hf | 19, _, hf => absurd rfl hf | 20, _, hf => absurd rfl hf | 21, _, hf => absurd rfl hf | 22, _, hf => absurd rfl hf | 23, _, hf => absurd rfl hf | 24, _, hf => absurd rfl hf | 25, _, hf => absurd rfl hf | 26, _, hf => absurd rfl hf | 27, _, hf => absurd rfl hf | 28, _, hf => absurd rfl hf | 29, _, hf => absurd rfl hf | 30, _, hf => absurd rfl hf | 31, _, hf => absurd rfl hf | 32, _, hf => absurd rfl hf | 33, _, hf => absurd rfl hf | 34, _, hf => absurd rfl hf | 35, _, hf => absurd rfl hf | 36, _, hf => absurd rfl hf | 37, _, hf => absurd rfl hf | 38, _, hf => absurd rfl hf | 39, _, hf => absurd rfl hf | (n + 40), h40, _ => absurd h40 (Nat.not_lt_of_ge (Nat.le_add_left 40 n))
  have hB : ∀ f, f < 40 → (q_bn 4 f).1 ≤ ((([0, 0, 0, 0, 0, 0, 0, (-1), 0, 0, 0] : List Int32).getD f 0).toInt) ∧ (([0, 0, 0, 0, 0, 0, 0, (-1), 0, 0, 0] : List Int32).getD f 0).toInt ≤ (q_bn 4 f).2 := by decide +kernel
  have y96 : ∀ f, q_rk 4 f ≠ 0 → h < ([0, 0, 0, 0, 0, 0, 0, 0, q6, q44, 0] : List Nat).getD f 0 := by
    intro f hf
    rcases y_fs4 hf with rfl | rfl
    · exact (hq6)
    · exact (hq44)
  have y97 : ∀ f, q_rk 4 f ≠ 0 → y_root X56 (([0, 0, 0, 0, 0, 0, 0, 0, q6, q44, 0] : List Nat).getD f 0) := by
    intro f hf
    rcases y_fs4 hf with rfl | rfl
    · exact y75
    · exact y76
  try clear y76; try clear y75
  have y98 : ∀ f, q_rk 4 f = 5 → q_ln X56 (q_rf X56 (([0, 0, 0, 0, 0, 0, 0, 0, q6, q44, 0] : List Nat).getD f 0) 0) = y_rl 4 f := by
    intro f hf
    rcases y_fs4 (show q_rk 4 f ≠ 0 by rw [hf]; decide) with rfl | rfl
    · exact absurd hf (by decide)
    · exact y77
  have y99 : ∀ f, q_rk 4 f ≠ 0 → ([0, 0, 0, 0, 0, 0, 0, 0, q6, q44, 0] : List Nat).getD f 0 ≠ h := by
    intro f hf
    rcases y_fs4 hf with rfl | rfl
    · exact ((Nat.ne_of_gt hq6))
    · exact ((Nat.ne_of_gt hq44))
  have y100 : ∀ f, q_rk 4 f ≠ 0 → q_kd X (([0, 0, 0, 0, 0, 0, 0, 0, q6, q44, 0] : List Nat).getD f 0) = 0 := by
    intro f hf
    rcases y_fs4 hf with rfl | rfl
    · exact hw0.fresh (gg_q6)
    · exact hw0.fresh (gg_q44)
  have w95 : q_w X92 σ93 H85 := by
    rw [dX92, dσ93]
    exact w90.add k68 (q_hrk hrk) (fun q => absurd rfl q) (by decide) (fun q => absurd q (by decide)) (q_hB hB (by decide)) (fun _ => k73) (q_cfO D67 ⟨rfl, by decide⟩ (show vwCl[3]? = some (RX4, TX4, 11) from rfl) b88 (fun f hf => match f, hf with | 0, _ => rfl | 1, _ => rfl | 2, _ => rfl | 3, _ => rfl | 4, _ => rfl | 5, _ => rfl | 6, _ => rfl | 7, _ => rfl | 8, _ => rfl | 9, _ => rfl | 10, _ => rfl | (n + 11), hf => absurd hf (Nat.not_lt_of_ge (Nat.le_add_left 11 n)))) y96 (y_in4 (rf := (fun f => ([0, 0, 0, 0, 0, 0, 0, 0, q6, q44, 0] : List Nat).getD f 0)) (show q6 < q44 from cc_q44)) y97 y98 (fun q => absurd q (by decide))
  try clear y98; try clear y97; try clear y96; try clear b88; try clear D67
  have y101 : y_root X92 h := by
    rw [dX92]
    exact (y_root.out w90.1 k68).add y_xg y99
  try clear y99; try clear k68
  have y102 : y_rt X X92 := by
    rw [dX92]
    exact y71.add y_xg y100
  try clear y100; try clear y71
  have k103 : q_kd X92 h = 4 := by rw [dX92]; exact q_xg_h
  have x104 := x72.tr x94 (fun a e => Or.inl e)
  try clear x72
  have y105 := y_rlx x94 w90.1 k60 y77
  try clear y105; try clear w90; try clear y77
  have k106 := x94.kd k73 (by decide)
  try clear k106; try clear k73
  have k107 := x94.kd k74 (by decide)
  try clear k107; try clear k74
  have k108 := x94.kd k60 (by decide)
  try clear k108; try clear x94; try clear k60
  exact b_ret E hr hlk S89 x104 k103 ⟨⟨y102, y101⟩, trivial⟩ w95 dX4_init_32
end
/-! FROM 54.born.lean.txt -/
section
set_option maxRecDepth 100000 in
set_option maxHeartbeats 4000000 in
theorem n_X11 (l : Launch) (D : DW) (X : XW) (σ : ST) (h sz : Nat) : Met l yX11_init (q_ws yX11_init cX11_init 2 none) { frames := 5, cells := 318, slots := 8598, locals := 105 } (q_PN D X σ h sz 10 17 (fun k => defaultValue (tyX11 k)) [.ref h]) (q_QN X σ h sz 11 (fun X' σ' => (y_rt X X' ∧ y_root X' h) ∧ (σ'.1 h 5 = 0 ∧ σ'.1 h 11 = 0) ∧ ∀ i, i < 4 → σ'.1 (q_rf X' (q_rf X' h 3) i) 0 = 0 ∧ σ'.1 (q_rf X' (q_rf X' h 3) i) 1 = -1)) 318 8598 (q_nw h sz) := by
  refine b_met  (by first | exact rfl | decide +kernel) rfl rfl (Nat.le_of_ble_eq_true rfl) (fun p e s m below meth c E hml hr hlk hnm hsz hD hw0 h00 hob ls hl => ?_)
  subst hsz
  have hxx := E.1
  have hb := E.2.1
  have hl : lv_has ls 2 [(0, .ref h)] := hl
  have hS : va_S (q_nw h s.heap.size) s.heap s.heap [] := va_S.rf
  have hx0 : q_ext (q_nw h s.heap.size) X X σ σ := q_ext.rf
  have hAh : q_nw h s.heap.size h := Or.inl rfl
  have yr0 : y_rt X X := y_rt.rf
  have hlt := t_lt hob
  refine lv_aload_n hxx hb dX11_init_0 rfl (lv_at hl 0 rfl) ?_
  refine W.objInit hxx hb E.2.2.1 (E.2.2.2.1 _ bw_25) (E.2.2.2.1 _ bw_26) (E.2.2.2.1 _ bw_27) rfl (by rw [hml]; exact hl.1) rfl dX11_init_1 (Nat.le_of_ble_eq_true rfl) (Nat.le_of_ble_eq_true rfl) ?_
  refine W.eq (g2 := F0 m 4 ls []) rfl ?_
  refine lv_aload_n hxx hb dX11_init_4 rfl (lv_at hl 0 rfl) ?_
  refine lv_iconst (v := 0) hxx hb dX11_init_5 (by decide) ?_
  refine b_put E hS hAh hnm (f := 0) hob (show vwCl[10]? = some (RX11, TX11, 17) from rfl) q_inX11 tyX11_ok nmX11 (by decide) bw_442 rfl (fun _ => rfl) (tyX11_ok 0 (by decide)) rfl rfl dX11_init_6 (fun H1 locs1 z2 o3 b4 S5 => ?_)
  have w6 : q_w X σ H1 := hw0.kept (fun a ha => o3 a (fun e => ha (by rw [e]; exact h00)))
  try clear o3
  have t7 := t_lt b4
  refine lv_aload_n hxx hb dX11_init_9 rfl (lv_at hl 0 rfl) ?_
  refine lv_lconst (v := 0) hxx hb dX11_init_10 (by decide) ?_
  refine b_put E S5 hAh hnm (f := 1) b4 (show vwCl[10]? = some (RX11, TX11, 17) from rfl) q_inX11 tyX11_ok nmX11 (by decide) bw_443 rfl (fun _ => rfl) (tyX11_ok 1 (by decide)) rfl rfl dX11_init_11 (fun H8 locs1 z9 o10 b11 S12 => ?_)
  try clear S5; try clear b4
  have w13 : q_w X σ H8 := w6.kept (fun a ha => o10 a (fun e => ha (by rw [e]; exact h00)))
  try clear o10; try clear w6
  have t14 := t_lt b11
  try clear t7
  refine lv_aload_n hxx hb dX11_init_14 rfl (lv_at hl 0 rfl) ?_
  refine lv_lconst (v := 1) hxx hb dX11_init_15 (by decide) ?_
  refine b_put E S12 hAh hnm (f := 2) b11 (show vwCl[10]? = some (RX11, TX11, 17) from rfl) q_inX11 tyX11_ok nmX11 (by decide) bw_444 rfl (fun _ => rfl) (tyX11_ok 2 (by decide)) rfl rfl dX11_init_16 (fun H15 locs1 z16 o17 b18 S19 => ?_)
  try clear S12; try clear b11
  have w20 : q_w X σ H15 := w13.kept (fun a ha => o17 a (fun e => ha (by rw [e]; exact h00)))
  try clear o17; try clear w13
  have t21 := t_lt b18
  try clear t14
  refine lv_aload_n hxx hb dX11_init_19 rfl (lv_at hl 0 rfl) ?_
  refine lv_iconst (v := 4) hxx hb dX11_init_20 (by decide) ?_
  refine b_newq E S19 bw_28 E.2.2.2.2.2.2.1 (t := 3) rfl (N' := 4) (by decide) (by decide) (by decide) (Nat.le_of_ble_eq_true rfl) (Nat.le_of_ble_eq_true rfl) dX11_init_21 (fun q22 H23 e24 z25 o26 r27 S28 => ?_)
  have hq22 : h < q22 := by first | exact Nat.lt_of_lt_of_eq t21 e24.symm | omega
  have gg_q22 : s.heap.size ≤ q22 := Nat.le_trans S19.1 (Nat.le_of_eq e24.symm)
  have mm_q22 : q22 < H23.size := by rw [z25, e24]; exact Nat.lt_succ_self _
  try clear S19
  have w29 : q_w X σ H23 := w20.kept (fun a ha => o26 a (w20.lt ha))
  have b30 := b18.kept (o26 h t21)
  try clear o26; try clear b18
  have t31 := t_lt b30
  try clear t21
  have k32 : q_kd X q22 = 0 := w20.fresh (Nat.le_of_eq e24.symm)
  try clear w20
  have g33 := S28.1
  refine b_put E S28 hAh hnm (f := 3) b30 (show vwCl[10]? = some (RX11, TX11, 17) from rfl) q_inX11 tyX11_ok nmX11 (by decide) bw_445 rfl (fun _ => rfl) (tyX11_ok 3 (by decide)) rfl rfl dX11_init_24 (fun H34 locs1 z35 o36 b37 S38 => ?_)
  try clear b30; try clear S28
  have w39 : q_w X σ H34 := w29.kept (fun a ha => o36 a (fun e => ha (by rw [e]; exact h00)))
  try clear w29
  have t40 := t_lt b37
  try clear t31
  have r41 := (o36 q22 (by first | exact (Nat.ne_of_gt hq22) | omega)).trans r27
  try clear o36; try clear r27
  refine lv_aload_n hxx hb dX11_init_27 rfl (lv_at hl 0 rfl) ?_
  refine lv_sipush (v := 900) hxx hb dX11_init_28 (by decide) ?_
  refine b_newa E S38 bw_55 (t := 0) rfl (fun _ _ => rfl) (N' := 900) (by decide) (by decide) (by decide) (Nat.le_of_ble_eq_true rfl) (Nat.le_of_ble_eq_true rfl) dX11_init_31 (fun q42 H43 e44 z45 o46 r47 S48 => ?_)
  have hq42 : h < q42 := by first | exact Nat.lt_of_lt_of_eq t40 e44.symm | omega
  have gg_q42 : s.heap.size ≤ q42 := Nat.le_trans S38.1 (Nat.le_of_eq e44.symm)
  have mm_q42 : q42 < H43.size := by rw [z45, e44]; exact Nat.lt_succ_self _
  have cc_q42 : q22 < q42 := by first | exact Nat.lt_of_lt_of_eq (Nat.lt_of_lt_of_le mm_q22 (Nat.le_of_eq z35.symm)) e44.symm | omega
  try clear S38
  have w49 : q_w X σ H43 := w39.kept (fun a ha => o46 a (w39.lt ha))
  have b50 := b37.kept (o46 h t40)
  try clear b37
  have t51 := t_lt b50
  try clear t40
  have r52 := (o46 q22 (raw_lt r41)).trans r41
  try clear o46; try clear r41
  have k53 : q_kd X q42 = 0 := w39.fresh (Nat.le_of_eq e44.symm)
  try clear w39
  have g54 := S48.1
  refine b_put E S48 hAh hnm (f := 4) b50 (show vwCl[10]? = some (RX11, TX11, 17) from rfl) q_inX11 tyX11_ok nmX11 (by decide) bw_446 rfl (fun _ => rfl) (tyX11_ok 4 (by decide)) rfl rfl dX11_init_33 (fun H55 locs1 z56 o57 b58 S59 => ?_)
  try clear b50; try clear S48
  have w60 : q_w X σ H55 := w49.kept (fun a ha => o57 a (fun e => ha (by rw [e]; exact h00)))
  try clear w49
  have t61 := t_lt b58
  try clear t51
  have r62 := (o57 q22 (by first | exact (Nat.ne_of_gt hq22) | omega)).trans r52
  try clear r52
  have r63 := (o57 q42 (by first | exact (Nat.ne_of_gt hq42) | omega)).trans r47
  try clear o57; try clear r47
  refine lv_aload_n hxx hb dX11_init_36 rfl (lv_at hl 0 rfl) ?_
  refine lv_iconst (v := 0) hxx hb dX11_init_37 (by decide) ?_
  refine b_put E S59 hAh hnm (f := 5) b58 (show vwCl[10]? = some (RX11, TX11, 17) from rfl) q_inX11 tyX11_ok nmX11 (by decide) bw_447 rfl (fun _ => rfl) (tyX11_ok 5 (by decide)) rfl rfl dX11_init_38 (fun H64 locs1 z65 o66 b67 S68 => ?_)
  try clear S59; try clear b58
  have w69 : q_w X σ H64 := w60.kept (fun a ha => o66 a (fun e => ha (by rw [e]; exact h00)))
  try clear w60
  have t70 := t_lt b67
  try clear t61
  have r71 := (o66 q22 (by first | exact (Nat.ne_of_gt hq22) | omega)).trans r62
  try clear r62
  have r72 := (o66 q42 (by first | exact (Nat.ne_of_gt hq42) | omega)).trans r63
  try clear o66; try clear r63
  refine lv_aload_n hxx hb dX11_init_41 rfl (lv_at hl 0 rfl) ?_
  refine lv_iconst (v := (-1)) hxx hb dX11_init_42 (by decide) ?_
  refine b_put E S68 hAh hnm (f := 6) b67 (show vwCl[10]? = some (RX11, TX11, 17) from rfl) q_inX11 tyX11_ok nmX11 (by decide) bw_448 rfl (fun _ => rfl) (tyX11_ok 6 (by decide)) rfl rfl dX11_init_43 (fun H73 locs1 z74 o75 b76 S77 => ?_)
  try clear S68; try clear b67
  have w78 : q_w X σ H73 := w69.kept (fun a ha => o75 a (fun e => ha (by rw [e]; exact h00)))
  try clear w69
  have t79 := t_lt b76
  try clear t70
  have r80 := (o75 q22 (by first | exact (Nat.ne_of_gt hq22) | omega)).trans r71
  try clear r71
  have r81 := (o75 q42 (by first | exact (Nat.ne_of_gt hq42) | omega)).trans r72
  try clear o75; try clear r72
  refine lv_aload_n hxx hb dX11_init_46 rfl (lv_at hl 0 rfl) ?_
  refine lv_iconst (v := (-1)) hxx hb dX11_init_47 (by decide) ?_
  refine b_put E S77 hAh hnm (f := 7) b76 (show vwCl[10]? = some (RX11, TX11, 17) from rfl) q_inX11 tyX11_ok nmX11 (by decide) bw_449 rfl (fun _ => rfl) (tyX11_ok 7 (by decide)) rfl rfl dX11_init_48 (fun H82 locs1 z83 o84 b85 S86 => ?_)
  try clear S77; try clear b76
  have w87 : q_w X σ H82 := w78.kept (fun a ha => o84 a (fun e => ha (by rw [e]; exact h00)))
  try clear w78
  have t88 := t_lt b85
  try clear t79
  have r89 := (o84 q22 (by first | exact (Nat.ne_of_gt hq22) | omega)).trans r80
  try clear r80
  have r90 := (o84 q42 (by first | exact (Nat.ne_of_gt hq42) | omega)).trans r81
  try clear o84; try clear r81
  refine lv_aload_n hxx hb dX11_init_51 rfl (lv_at hl 0 rfl) ?_
  refine b_new E S86 bw_30 bw_31 bw_2 (show vwCl[0]? = some (RX0, TX0, 15) from rfl) q_inX0 tyX0 tyX0_ok (Nat.le_of_ble_eq_true rfl) (Nat.le_of_ble_eq_true rfl) dX11_init_52 (fun q91 H92 e93 z94 o95 b96 S97 => ?_)
  have hq91 : h < q91 := by first | exact Nat.lt_of_lt_of_eq t88 e93.symm | omega
  have gg_q91 : s.heap.size ≤ q91 := Nat.le_trans S86.1 (Nat.le_of_eq e93.symm)
  have mm_q91 : q91 < H92.size := by rw [z94, e93]; exact Nat.lt_succ_self _
  have cc_q91 : q42 < q91 := by first | exact Nat.lt_of_lt_of_eq (Nat.lt_of_lt_of_le (Nat.lt_of_lt_of_le (Nat.lt_of_lt_of_le (Nat.lt_of_lt_of_le mm_q42 (Nat.le_of_eq z56.symm)) (Nat.le_of_eq z65.symm)) (Nat.le_of_eq z74.symm)) (Nat.le_of_eq z83.symm)) e93.symm | omega
  try clear S86
  have w98 : q_w X σ H92 := w87.kept (fun a ha => o95 a (w87.lt ha))
  have b99 := b85.kept (o95 h t88)
  try clear b85
  have t100 := t_lt b99
  try clear t88
  have r101 := (o95 q22 (raw_lt r89)).trans r89
  try clear r89
  have r102 := (o95 q42 (raw_lt r90)).trans r90
  try clear o95; try clear r90
  have k103 : q_kd X q91 = 0 := w87.fresh (Nat.le_of_eq e93.symm)
  try clear w87
  have g104 := S97.1
  refine lv_dup hxx hb dX11_init_55 rfl ?_
  have a115 : ∀ a, q_nw q91 H92.size a → q_nw h s.heap.size a := nw_in gg_q91 (Nat.le_trans gg_q91 (Nat.le_of_lt mm_q91))
  refine b_cv (b_runN (As := []) (rest := [.ref q91, .ref h]) E (hml.trans hl.1.symm) hD w98 k103 b96 rfl (n_X0 l D X σ q91 H92.size) bi_X11_41 rfl ⟨Nat.le_of_ble_eq_true rfl, Nat.le_of_ble_eq_true rfl⟩ ⟨Nat.le_of_ble_eq_true rfl, Nat.le_of_ble_eq_true rfl⟩ rfl (Nat.le_of_ble_eq_true rfl) dX11_init_56) S97 rfl a115 (fun X105 σ106 H107 locs1 x108 k109 p110 w111 z112 o113 S114 => ?_)
  try clear k103; try clear w98; try clear S97; try clear b96
  have D116 : X105.1 = D := x108.1.trans hD
  have k117 : q_kd X105 h = 0 := x108.k0 h00 (by first | exact (nw_no hq91 (Nat.lt_trans hq91 mm_q91)) | (rintro (e | e) <;> omega))
  have b118 := b99.kept (o113 h t100 (by first | exact (Nat.ne_of_lt hq91) | omega))
  try clear b99
  have t119 := t_lt b118
  try clear t100
  have y120 := yr0.tr p110.1.1 (fun c hc => by rw [(hx0.2.2.2.1 c hc).1]; exact hc)
  have x121 := hx0.tr x108 a115
  have r122 := (o113 q22 (raw_lt r101) (by first | exact (Nat.ne_of_lt (Nat.lt_trans cc_q42 cc_q91)) | omega)).trans r101
  have k123 : q_kd X105 q22 = 0 := x108.k0 k32 (by first | exact (nw_no (Nat.lt_trans cc_q42 cc_q91) (Nat.lt_trans (Nat.lt_trans cc_q42 cc_q91) mm_q91)) | (have := raw_lt r101; rintro (e | e) <;> omega))
  try clear r101; try clear k32
  have r124 := (o113 q42 (raw_lt r102) (by first | exact (Nat.ne_of_lt cc_q91) | omega)).trans r102
  try clear o113
  have k125 : q_kd X105 q42 = 0 := x108.k0 k53 (by first | exact (nw_no cc_q91 (Nat.lt_trans cc_q91 mm_q91)) | (have := raw_lt r102; rintro (e | e) <;> omega))
  try clear x108; try clear r102; try clear k53
  have y126 := p110.1.2
  try clear p110
  refine b_put E S114 hAh hnm (f := 8) b118 (show vwCl[10]? = some (RX11, TX11, 17) from rfl) q_inX11 tyX11_ok nmX11 (by decide) bw_450 rfl (fun _ => rfl) (tyX11_ok 8 (by decide)) rfl rfl dX11_init_59 (fun H127 locs1 z128 o129 b130 S131 => ?_)
  try clear b118; try clear S114
  have w132 : q_w X105 σ106 H127 := w111.kept (fun a ha => o129 a (fun e => ha (by rw [e]; exact k117)))
  try clear w111
  have t133 := t_lt b130
  try clear t119
  have r134 := (o129 q22 (by first | exact (Nat.ne_of_gt hq22) | omega)).trans r122
  try clear r122
  have r135 := (o129 q42 (by first | exact (Nat.ne_of_gt hq42) | omega)).trans r124
  try clear o129; try clear r124
  refine lv_aload_n hxx hb dX11_init_62 rfl (lv_at hl 0 rfl) ?_
  refine b_new E S131 bw_30 bw_31 bw_2 (show vwCl[0]? = some (RX0, TX0, 15) from rfl) q_inX0 tyX0 tyX0_ok (Nat.le_of_ble_eq_true rfl) (Nat.le_of_ble_eq_true rfl) dX11_init_63 (fun q136 H137 e138 z139 o140 b141 S142 => ?_)
  have hq136 : h < q136 := by first | exact Nat.lt_of_lt_of_eq t133 e138.symm | omega
  have gg_q136 : s.heap.size ≤ q136 := Nat.le_trans S131.1 (Nat.le_of_eq e138.symm)
  have mm_q136 : q136 < H137.size := by rw [z139, e138]; exact Nat.lt_succ_self _
  have cc_q136 : q91 < q136 := by first | exact Nat.lt_of_lt_of_eq (Nat.lt_of_lt_of_le (Nat.lt_of_lt_of_le mm_q91 z112) (Nat.le_of_eq z128.symm)) e138.symm | omega
  try clear S131
  have w143 : q_w X105 σ106 H137 := w132.kept (fun a ha => o140 a (w132.lt ha))
  have b144 := b130.kept (o140 h t133)
  try clear b130
  have t145 := t_lt b144
  try clear t133
  have r146 := (o140 q22 (raw_lt r134)).trans r134
  try clear r134
  have r147 := (o140 q42 (raw_lt r135)).trans r135
  try clear o140; try clear r135
  have k148 : q_kd X105 q136 = 0 := w132.fresh (Nat.le_of_eq e138.symm)
  try clear w132
  have g149 := S142.1
  refine lv_dup hxx hb dX11_init_66 rfl ?_
  have a160 : ∀ a, q_nw q136 H137.size a → q_nw h s.heap.size a := nw_in gg_q136 (Nat.le_trans gg_q136 (Nat.le_of_lt mm_q136))
  refine b_cv (b_runN (As := []) (rest := [.ref q136, .ref h]) E (hml.trans hl.1.symm) D116 w143 k148 b141 rfl (n_X0 l D X105 σ106 q136 H137.size) bi_X11_41 rfl ⟨Nat.le_of_ble_eq_true rfl, Nat.le_of_ble_eq_true rfl⟩ ⟨Nat.le_of_ble_eq_true rfl, Nat.le_of_ble_eq_true rfl⟩ rfl (Nat.le_of_ble_eq_true rfl) dX11_init_67) S142 rfl a160 (fun X150 σ151 H152 locs1 x153 k154 p155 w156 z157 o158 S159 => ?_)
  try clear k148; try clear w143; try clear S142; try clear b141
  have D161 : X150.1 = D := x153.1.trans D116
  try clear D116
  have k162 : q_kd X150 h = 0 := x153.k0 k117 (by first | exact (nw_no hq136 (Nat.lt_trans hq136 mm_q136)) | (rintro (e | e) <;> omega))
  try clear k117
  have b163 := b144.kept (o158 h t145 (by first | exact (Nat.ne_of_lt hq136) | omega))
  try clear b144
  have t164 := t_lt b163
  try clear t145
  have y165 := y120.tr p155.1.1 (fun c hc => by rw [(x121.2.2.2.1 c hc).1]; exact hc)
  try clear y120
  have x166 := x121.tr x153 a160
  try clear x121
  have r167 := (o158 q22 (raw_lt r146) (by first | exact (Nat.ne_of_lt (Nat.lt_trans (Nat.lt_trans cc_q42 cc_q91) cc_q136)) | omega)).trans r146
  have k168 : q_kd X150 q22 = 0 := x153.k0 k123 (by first | exact (nw_no (Nat.lt_trans (Nat.lt_trans cc_q42 cc_q91) cc_q136) (Nat.lt_trans (Nat.lt_trans (Nat.lt_trans cc_q42 cc_q91) cc_q136) mm_q136)) | (have := raw_lt r146; rintro (e | e) <;> omega))
  try clear r146; try clear k123
  have r169 := (o158 q42 (raw_lt r147) (by first | exact (Nat.ne_of_lt (Nat.lt_trans cc_q91 cc_q136)) | omega)).trans r147
  try clear o158
  have k170 : q_kd X150 q42 = 0 := x153.k0 k125 (by first | exact (nw_no (Nat.lt_trans cc_q91 cc_q136) (Nat.lt_trans (Nat.lt_trans cc_q91 cc_q136) mm_q136)) | (have := raw_lt r147; rintro (e | e) <;> omega))
  try clear r147; try clear k125
  have k171 := x153.kd k109 (by decide)
  try clear x153
  have y172 := p155.1.1 q91 (by rw [k109]; decide) y126
  try clear y126; try clear k109
  have y173 := p155.1.2
  try clear p155
  refine b_put E S159 hAh hnm (f := 9) b163 (show vwCl[10]? = some (RX11, TX11, 17) from rfl) q_inX11 tyX11_ok nmX11 (by decide) bw_451 rfl (fun _ => rfl) (tyX11_ok 9 (by decide)) rfl rfl dX11_init_70 (fun H174 locs1 z175 o176 b177 S178 => ?_)
  try clear b163; try clear S159
  have w179 : q_w X150 σ151 H174 := w156.kept (fun a ha => o176 a (fun e => ha (by rw [e]; exact k162)))
  try clear w156
  have t180 := t_lt b177
  try clear t164
  have r181 := (o176 q22 (by first | exact (Nat.ne_of_gt hq22) | omega)).trans r167
  try clear r167
  have r182 := (o176 q42 (by first | exact (Nat.ne_of_gt hq42) | omega)).trans r169
  try clear o176; try clear r169
  refine lv_aload_n hxx hb dX11_init_73 rfl (lv_at hl 0 rfl) ?_
  refine lv_iconst (v := 3) hxx hb dX11_init_74 (by decide) ?_
  refine b_newq E S178 bw_30 E.2.2.2.2.2.2.2 (t := 4) rfl (N' := 3) (by decide) (by decide) (by decide) (Nat.le_of_ble_eq_true rfl) (Nat.le_of_ble_eq_true rfl) dX11_init_75 (fun q183 H184 e185 z186 o187 r188 S189 => ?_)
  have hq183 : h < q183 := by first | exact Nat.lt_of_lt_of_eq t180 e185.symm | omega
  have gg_q183 : s.heap.size ≤ q183 := Nat.le_trans S178.1 (Nat.le_of_eq e185.symm)
  have mm_q183 : q183 < H184.size := by rw [z186, e185]; exact Nat.lt_succ_self _
  have cc_q183 : q136 < q183 := by first | exact Nat.lt_of_lt_of_eq (Nat.lt_of_lt_of_le (Nat.lt_of_lt_of_le mm_q136 z157) (Nat.le_of_eq z175.symm)) e185.symm | omega
  try clear S178
  have w190 : q_w X150 σ151 H184 := w179.kept (fun a ha => o187 a (w179.lt ha))
  have b191 := b177.kept (o187 h t180)
  try clear b177
  have t192 := t_lt b191
  try clear t180
  have r193 := (o187 q22 (raw_lt r181)).trans r181
  try clear r181
  have r194 := (o187 q42 (raw_lt r182)).trans r182
  try clear o187; try clear r182
  have k195 : q_kd X150 q183 = 0 := w179.fresh (Nat.le_of_eq e185.symm)
  try clear w179
  have g196 := S189.1
  refine b_put E S189 hAh hnm (f := 10) b191 (show vwCl[10]? = some (RX11, TX11, 17) from rfl) q_inX11 tyX11_ok nmX11 (by decide) bw_452 rfl (fun _ => rfl) (tyX11_ok 10 (by decide)) rfl rfl dX11_init_78 (fun H197 locs1 z198 o199 b200 S201 => ?_)
  try clear b191; try clear S189
  have w202 : q_w X150 σ151 H197 := w190.kept (fun a ha => o199 a (fun e => ha (by rw [e]; exact k162)))
  try clear w190
  have t203 := t_lt b200
  try clear t192
  have r204 := (o199 q22 (by first | exact (Nat.ne_of_gt hq22) | omega)).trans r193
  try clear r193
  have r205 := (o199 q42 (by first | exact (Nat.ne_of_gt hq42) | omega)).trans r194
  try clear r194
  have r206 := (o199 q183 (by first | exact (Nat.ne_of_gt hq183) | omega)).trans r188
  try clear o199; try clear r188
  refine lv_aload_n hxx hb dX11_init_81 rfl (lv_at hl 0 rfl) ?_
  refine lv_iconst (v := 0) hxx hb dX11_init_82 (by decide) ?_
  refine b_put E S201 hAh hnm (f := 11) b200 (show vwCl[10]? = some (RX11, TX11, 17) from rfl) q_inX11 tyX11_ok nmX11 (by decide) bw_453 rfl (fun _ => rfl) (tyX11_ok 11 (by decide)) rfl rfl dX11_init_83 (fun H207 locs1 z208 o209 b210 S211 => ?_)
  try clear S201; try clear b200
  have w212 : q_w X150 σ151 H207 := w202.kept (fun a ha => o209 a (fun e => ha (by rw [e]; exact k162)))
  try clear w202
  have t213 := t_lt b210
  try clear t203
  have r214 := (o209 q22 (by first | exact (Nat.ne_of_gt hq22) | omega)).trans r204
  try clear r204
  have r215 := (o209 q42 (by first | exact (Nat.ne_of_gt hq42) | omega)).trans r205
  try clear r205
  have r216 := (o209 q183 (by first | exact (Nat.ne_of_gt hq183) | omega)).trans r206
  try clear o209; try clear r206
  refine lv_aload_n hxx hb dX11_init_86 rfl (lv_at hl 0 rfl) ?_
  refine b_new E S211 bw_298 bw_299 bw_10 (show vwCl[8]? = some (RX9, TX9, 12) from rfl) q_inX9 tyX9 tyX9_ok (Nat.le_of_ble_eq_true rfl) (Nat.le_of_ble_eq_true rfl) dX11_init_87 (fun q217 H218 e219 z220 o221 b222 S223 => ?_)
  have hq217 : h < q217 := by first | exact Nat.lt_of_lt_of_eq t213 e219.symm | omega
  have gg_q217 : s.heap.size ≤ q217 := Nat.le_trans S211.1 (Nat.le_of_eq e219.symm)
  have mm_q217 : q217 < H218.size := by rw [z220, e219]; exact Nat.lt_succ_self _
  have cc_q217 : q183 < q217 := by first | exact Nat.lt_of_lt_of_eq (Nat.lt_of_lt_of_le (Nat.lt_of_lt_of_le mm_q183 (Nat.le_of_eq z198.symm)) (Nat.le_of_eq z208.symm)) e219.symm | omega
  try clear S211
  have w224 : q_w X150 σ151 H218 := w212.kept (fun a ha => o221 a (w212.lt ha))
  have b225 := b210.kept (o221 h t213)
  try clear b210
  have t226 := t_lt b225
  try clear t213
  have r227 := (o221 q22 (raw_lt r214)).trans r214
  try clear r214
  have r228 := (o221 q42 (raw_lt r215)).trans r215
  try clear r215
  have r229 := (o221 q183 (raw_lt r216)).trans r216
  try clear o221; try clear r216
  have k230 : q_kd X150 q217 = 0 := w212.fresh (Nat.le_of_eq e219.symm)
  try clear w212
  have g231 := S223.1
  refine lv_dup hxx hb dX11_init_90 rfl ?_
  have a242 : ∀ a, q_nw q217 H218.size a → q_nw h s.heap.size a := nw_in gg_q217 (Nat.le_trans gg_q217 (Nat.le_of_lt mm_q217))
  refine b_cv (b_runN (As := []) (rest := [.ref q217, .ref h]) E (hml.trans hl.1.symm) D161 w224 k230 b222 rfl (n_X9 l D X150 σ151 q217 H218.size) bi_X11_58 rfl ⟨Nat.le_of_ble_eq_true rfl, Nat.le_of_ble_eq_true rfl⟩ ⟨Nat.le_of_ble_eq_true rfl, Nat.le_of_ble_eq_true rfl⟩ rfl (Nat.le_of_ble_eq_true rfl) dX11_init_91) S223 rfl a242 (fun X232 σ233 H234 locs1 x235 k236 p237 w238 z239 o240 S241 => ?_)
  try clear k230; try clear w224; try clear S223; try clear b222
  have D243 : X232.1 = D := x235.1.trans D161
  try clear D161
  have k244 : q_kd X232 h = 0 := x235.k0 k162 (by first | exact (nw_no hq217 (Nat.lt_trans hq217 mm_q217)) | (rintro (e | e) <;> omega))
  try clear k162
  have b245 := b225.kept (o240 h t226 (by first | exact (Nat.ne_of_lt hq217) | omega))
  try clear b225
  have t246 := t_lt b245
  try clear t226
  have y247 := y165.tr p237.1.1 (fun c hc => by rw [(x166.2.2.2.1 c hc).1]; exact hc)
  try clear y165
  have x248 := x166.tr x235 a242
  try clear x166
  have r249 := (o240 q22 (raw_lt r227) (by first | exact (Nat.ne_of_lt (Nat.lt_trans (Nat.lt_trans (Nat.lt_trans (Nat.lt_trans cc_q42 cc_q91) cc_q136) cc_q183) cc_q217)) | omega)).trans r227
  have k250 : q_kd X232 q22 = 0 := x235.k0 k168 (by first | exact (nw_no (Nat.lt_trans (Nat.lt_trans (Nat.lt_trans (Nat.lt_trans cc_q42 cc_q91) cc_q136) cc_q183) cc_q217) (Nat.lt_trans (Nat.lt_trans (Nat.lt_trans (Nat.lt_trans (Nat.lt_trans cc_q42 cc_q91) cc_q136) cc_q183) cc_q217) mm_q217)) | (have := raw_lt r227; rintro (e | e) <;> omega))
  try clear r227; try clear k168
  have r251 := (o240 q42 (raw_lt r228) (by first | exact (Nat.ne_of_lt (Nat.lt_trans (Nat.lt_trans (Nat.lt_trans cc_q91 cc_q136) cc_q183) cc_q217)) | omega)).trans r228
  have k252 : q_kd X232 q42 = 0 := x235.k0 k170 (by first | exact (nw_no (Nat.lt_trans (Nat.lt_trans (Nat.lt_trans cc_q91 cc_q136) cc_q183) cc_q217) (Nat.lt_trans (Nat.lt_trans (Nat.lt_trans (Nat.lt_trans cc_q91 cc_q136) cc_q183) cc_q217) mm_q217)) | (have := raw_lt r228; rintro (e | e) <;> omega))
  try clear r228; try clear k170
  have r253 := (o240 q183 (raw_lt r229) (by first | exact (Nat.ne_of_lt cc_q217) | omega)).trans r229
  try clear o240
  have k254 : q_kd X232 q183 = 0 := x235.k0 k195 (by first | exact (nw_no cc_q217 (Nat.lt_trans cc_q217 mm_q217)) | (have := raw_lt r229; rintro (e | e) <;> omega))
  try clear r229; try clear k195
  have k255 := x235.kd k171 (by decide)
  have k256 := x235.kd k154 (by decide)
  try clear x235
  have y257 := p237.1.1 q91 (by rw [k171]; decide) y172
  try clear y172; try clear k171
  have y258 := p237.1.1 q136 (by rw [k154]; decide) y173
  try clear y173; try clear k154
  have y259 := p237.1.2
  try clear p237
  refine b_put E S241 hAh hnm (f := 12) b245 (show vwCl[10]? = some (RX11, TX11, 17) from rfl) q_inX11 tyX11_ok nmX11 (by decide) bw_454 rfl (fun _ => rfl) (tyX11_ok 12 (by decide)) rfl rfl dX11_init_94 (fun H260 locs1 z261 o262 b263 S264 => ?_)
  try clear b245; try clear S241
  have w265 : q_w X232 σ233 H260 := w238.kept (fun a ha => o262 a (fun e => ha (by rw [e]; exact k244)))
  try clear w238
  have t266 := t_lt b263
  try clear t246
  have r267 := (o262 q22 (by first | exact (Nat.ne_of_gt hq22) | omega)).trans r249
  try clear r249
  have r268 := (o262 q42 (by first | exact (Nat.ne_of_gt hq42) | omega)).trans r251
  try clear r251
  have r269 := (o262 q183 (by first | exact (Nat.ne_of_gt hq183) | omega)).trans r253
  try clear o262; try clear r253
  refine lv_aload_n hxx hb dX11_init_97 rfl (lv_at hl 0 rfl) ?_
  refine b_new E S264 bw_357 bw_358 bw_11 (show vwCl[3]? = some (RX4, TX4, 11) from rfl) q_inX4 tyX4 tyX4_ok (Nat.le_of_ble_eq_true rfl) (Nat.le_of_ble_eq_true rfl) dX11_init_98 (fun q270 H271 e272 z273 o274 b275 S276 => ?_)
  have hq270 : h < q270 := by first | exact Nat.lt_of_lt_of_eq t266 e272.symm | omega
  have gg_q270 : s.heap.size ≤ q270 := Nat.le_trans S264.1 (Nat.le_of_eq e272.symm)
  have mm_q270 : q270 < H271.size := by rw [z273, e272]; exact Nat.lt_succ_self _
  have cc_q270 : q217 < q270 := by first | exact Nat.lt_of_lt_of_eq (Nat.lt_of_lt_of_le (Nat.lt_of_lt_of_le mm_q217 z239) (Nat.le_of_eq z261.symm)) e272.symm | omega
  try clear S264
  have w277 : q_w X232 σ233 H271 := w265.kept (fun a ha => o274 a (w265.lt ha))
  have b278 := b263.kept (o274 h t266)
  try clear b263
  have t279 := t_lt b278
  try clear t266
  have r280 := (o274 q22 (raw_lt r267)).trans r267
  try clear r267
  have r281 := (o274 q42 (raw_lt r268)).trans r268
  try clear r268
  have r282 := (o274 q183 (raw_lt r269)).trans r269
  try clear o274; try clear r269
  have k283 : q_kd X232 q270 = 0 := w265.fresh (Nat.le_of_eq e272.symm)
  try clear w265
  have g284 := S276.1
  refine lv_dup hxx hb dX11_init_101 rfl ?_
  have a295 : ∀ a, q_nw q270 H271.size a → q_nw h s.heap.size a := nw_in gg_q270 (Nat.le_trans gg_q270 (Nat.le_of_lt mm_q270))
  refine b_cv (b_runN (As := []) (rest := [.ref q270, .ref h]) E (hml.trans hl.1.symm) D243 w277 k283 b275 rfl (n_X4 l D X232 σ233 q270 H271.size) bi_X11_65 rfl ⟨Nat.le_of_ble_eq_true rfl, Nat.le_of_ble_eq_true rfl⟩ ⟨Nat.le_of_ble_eq_true rfl, Nat.le_of_ble_eq_true rfl⟩ rfl (Nat.le_of_ble_eq_true rfl) dX11_init_102) S276 rfl a295 (fun X285 σ286 H287 locs1 x288 k289 p290 w291 z292 o293 S294 => ?_)
  try clear k283; try clear w277; try clear S276; try clear b275
  have D296 : X285.1 = D := x288.1.trans D243
  try clear D243
  have k297 : q_kd X285 h = 0 := x288.k0 k244 (by first | exact (nw_no hq270 (Nat.lt_trans hq270 mm_q270)) | (rintro (e | e) <;> omega))
  try clear k244
  have b298 := b278.kept (o293 h t279 (by first | exact (Nat.ne_of_lt hq270) | omega))
  try clear b278
  have t299 := t_lt b298
  try clear t279
  have y300 := y247.tr p290.1.1 (fun c hc => by rw [(x248.2.2.2.1 c hc).1]; exact hc)
  try clear y247
  have x301 := x248.tr x288 a295
  try clear x248
  have r302 := (o293 q22 (raw_lt r280) (by first | exact (Nat.ne_of_lt (Nat.lt_trans (Nat.lt_trans (Nat.lt_trans (Nat.lt_trans (Nat.lt_trans cc_q42 cc_q91) cc_q136) cc_q183) cc_q217) cc_q270)) | omega)).trans r280
  have k303 : q_kd X285 q22 = 0 := x288.k0 k250 (by first | exact (nw_no (Nat.lt_trans (Nat.lt_trans (Nat.lt_trans (Nat.lt_trans (Nat.lt_trans cc_q42 cc_q91) cc_q136) cc_q183) cc_q217) cc_q270) (Nat.lt_trans (Nat.lt_trans (Nat.lt_trans (Nat.lt_trans (Nat.lt_trans (Nat.lt_trans cc_q42 cc_q91) cc_q136) cc_q183) cc_q217) cc_q270) mm_q270)) | (have := raw_lt r280; rintro (e | e) <;> omega))
  try clear r280; try clear k250
  have r304 := (o293 q42 (raw_lt r281) (by first | exact (Nat.ne_of_lt (Nat.lt_trans (Nat.lt_trans (Nat.lt_trans (Nat.lt_trans cc_q91 cc_q136) cc_q183) cc_q217) cc_q270)) | omega)).trans r281
  have k305 : q_kd X285 q42 = 0 := x288.k0 k252 (by first | exact (nw_no (Nat.lt_trans (Nat.lt_trans (Nat.lt_trans (Nat.lt_trans cc_q91 cc_q136) cc_q183) cc_q217) cc_q270) (Nat.lt_trans (Nat.lt_trans (Nat.lt_trans (Nat.lt_trans (Nat.lt_trans cc_q91 cc_q136) cc_q183) cc_q217) cc_q270) mm_q270)) | (have := raw_lt r281; rintro (e | e) <;> omega))
  try clear r281; try clear k252
  have r306 := (o293 q183 (raw_lt r282) (by first | exact (Nat.ne_of_lt (Nat.lt_trans cc_q217 cc_q270)) | omega)).trans r282
  try clear o293
  have k307 : q_kd X285 q183 = 0 := x288.k0 k254 (by first | exact (nw_no (Nat.lt_trans cc_q217 cc_q270) (Nat.lt_trans (Nat.lt_trans cc_q217 cc_q270) mm_q270)) | (have := raw_lt r282; rintro (e | e) <;> omega))
  try clear r282; try clear k254
  have k308 := x288.kd k255 (by decide)
  have k309 := x288.kd k256 (by decide)
  have k310 := x288.kd k236 (by decide)
  try clear x288
  have y311 := p290.1.1 q91 (by rw [k255]; decide) y257
  try clear y257; try clear k255
  have y312 := p290.1.1 q136 (by rw [k256]; decide) y258
  try clear y258; try clear k256
  have y313 := p290.1.1 q217 (by rw [k236]; decide) y259
  try clear y259; try clear k236
  have y314 := p290.1.2
  try clear p290
  refine b_put E S294 hAh hnm (f := 13) b298 (show vwCl[10]? = some (RX11, TX11, 17) from rfl) q_inX11 tyX11_ok nmX11 (by decide) bw_455 rfl (fun _ => rfl) (tyX11_ok 13 (by decide)) rfl rfl dX11_init_105 (fun H315 locs1 z316 o317 b318 S319 => ?_)
  try clear b298; try clear S294
  have w320 : q_w X285 σ286 H315 := w291.kept (fun a ha => o317 a (fun e => ha (by rw [e]; exact k297)))
  try clear w291
  have t321 := t_lt b318
  try clear t299
  have r322 := (o317 q22 (by first | exact (Nat.ne_of_gt hq22) | omega)).trans r302
  try clear r302
  have r323 := (o317 q42 (by first | exact (Nat.ne_of_gt hq42) | omega)).trans r304
  try clear r304
  have r324 := (o317 q183 (by first | exact (Nat.ne_of_gt hq183) | omega)).trans r306
  try clear o317; try clear r306
  refine lv_aload_n hxx hb dX11_init_108 rfl (lv_at hl 0 rfl) ?_
  refine b_new E S319 bw_386 bw_387 bw_12 (show vwCl[6]? = some (RX7, TX7, 8) from rfl) q_inX7 tyX7 tyX7_ok (Nat.le_of_ble_eq_true rfl) (Nat.le_of_ble_eq_true rfl) dX11_init_109 (fun q325 H326 e327 z328 o329 b330 S331 => ?_)
  have hq325 : h < q325 := by first | exact Nat.lt_of_lt_of_eq t321 e327.symm | omega
  have gg_q325 : s.heap.size ≤ q325 := Nat.le_trans S319.1 (Nat.le_of_eq e327.symm)
  have mm_q325 : q325 < H326.size := by rw [z328, e327]; exact Nat.lt_succ_self _
  have cc_q325 : q270 < q325 := by first | exact Nat.lt_of_lt_of_eq (Nat.lt_of_lt_of_le (Nat.lt_of_lt_of_le mm_q270 z292) (Nat.le_of_eq z316.symm)) e327.symm | omega
  try clear S319
  have w332 : q_w X285 σ286 H326 := w320.kept (fun a ha => o329 a (w320.lt ha))
  have b333 := b318.kept (o329 h t321)
  try clear b318
  have t334 := t_lt b333
  try clear t321
  have r335 := (o329 q22 (raw_lt r322)).trans r322
  try clear r322
  have r336 := (o329 q42 (raw_lt r323)).trans r323
  try clear r323
  have r337 := (o329 q183 (raw_lt r324)).trans r324
  try clear o329; try clear r324
  have k338 : q_kd X285 q325 = 0 := w320.fresh (Nat.le_of_eq e327.symm)
  try clear w320
  have g339 := S331.1
  refine lv_dup hxx hb dX11_init_112 rfl ?_
  have a350 : ∀ a, q_nw q325 H326.size a → q_nw h s.heap.size a := nw_in gg_q325 (Nat.le_trans gg_q325 (Nat.le_of_lt mm_q325))
  refine b_cv (b_runN (As := []) (rest := [.ref q325, .ref h]) E (hml.trans hl.1.symm) D296 w332 k338 b330 rfl (n_X7 l D X285 σ286 q325 H326.size) bi_X11_72 rfl ⟨Nat.le_of_ble_eq_true rfl, Nat.le_of_ble_eq_true rfl⟩ ⟨Nat.le_of_ble_eq_true rfl, Nat.le_of_ble_eq_true rfl⟩ rfl (Nat.le_of_ble_eq_true rfl) dX11_init_113) S331 rfl a350 (fun X340 σ341 H342 locs1 x343 k344 p345 w346 z347 o348 S349 => ?_)
  try clear k338; try clear w332; try clear S331; try clear b330
  have D351 : X340.1 = D := x343.1.trans D296
  try clear D296
  have k352 : q_kd X340 h = 0 := x343.k0 k297 (by first | exact (nw_no hq325 (Nat.lt_trans hq325 mm_q325)) | (rintro (e | e) <;> omega))
  try clear k297
  have b353 := b333.kept (o348 h t334 (by first | exact (Nat.ne_of_lt hq325) | omega))
  try clear b333
  have t354 := t_lt b353
  try clear t334
  have y355 := y300.tr p345.1.1 (fun c hc => by rw [(x301.2.2.2.1 c hc).1]; exact hc)
  try clear y300
  have x356 := x301.tr x343 a350
  try clear x301
  have r357 := (o348 q22 (raw_lt r335) (by first | exact (Nat.ne_of_lt (Nat.lt_trans (Nat.lt_trans (Nat.lt_trans (Nat.lt_trans (Nat.lt_trans (Nat.lt_trans cc_q42 cc_q91) cc_q136) cc_q183) cc_q217) cc_q270) cc_q325)) | omega)).trans r335
  have k358 : q_kd X340 q22 = 0 := x343.k0 k303 (by first | exact (nw_no (Nat.lt_trans (Nat.lt_trans (Nat.lt_trans (Nat.lt_trans (Nat.lt_trans (Nat.lt_trans cc_q42 cc_q91) cc_q136) cc_q183) cc_q217) cc_q270) cc_q325) (Nat.lt_trans (Nat.lt_trans (Nat.lt_trans (Nat.lt_trans (Nat.lt_trans (Nat.lt_trans (Nat.lt_trans cc_q42 cc_q91) cc_q136) cc_q183) cc_q217) cc_q270) cc_q325) mm_q325)) | (have := raw_lt r335; rintro (e | e) <;> omega))
  try clear r335; try clear k303
  have r359 := (o348 q42 (raw_lt r336) (by first | exact (Nat.ne_of_lt (Nat.lt_trans (Nat.lt_trans (Nat.lt_trans (Nat.lt_trans (Nat.lt_trans cc_q91 cc_q136) cc_q183) cc_q217) cc_q270) cc_q325)) | omega)).trans r336
  have k360 : q_kd X340 q42 = 0 := x343.k0 k305 (by first | exact (nw_no (Nat.lt_trans (Nat.lt_trans (Nat.lt_trans (Nat.lt_trans (Nat.lt_trans cc_q91 cc_q136) cc_q183) cc_q217) cc_q270) cc_q325) (Nat.lt_trans (Nat.lt_trans (Nat.lt_trans (Nat.lt_trans (Nat.lt_trans (Nat.lt_trans cc_q91 cc_q136) cc_q183) cc_q217) cc_q270) cc_q325) mm_q325)) | (have := raw_lt r336; rintro (e | e) <;> omega))
  try clear r336; try clear k305
  have r361 := (o348 q183 (raw_lt r337) (by first | exact (Nat.ne_of_lt (Nat.lt_trans (Nat.lt_trans cc_q217 cc_q270) cc_q325)) | omega)).trans r337
  try clear o348
  have k362 : q_kd X340 q183 = 0 := x343.k0 k307 (by first | exact (nw_no (Nat.lt_trans (Nat.lt_trans cc_q217 cc_q270) cc_q325) (Nat.lt_trans (Nat.lt_trans (Nat.lt_trans cc_q217 cc_q270) cc_q325) mm_q325)) | (have := raw_lt r337; rintro (e | e) <;> omega))
  try clear r337; try clear k307
  have k363 := x343.kd k308 (by decide)
  have k364 := x343.kd k309 (by decide)
  have k365 := x343.kd k310 (by decide)
  have k366 := x343.kd k289 (by decide)
  try clear x343
  have y367 := p345.1.1 q91 (by rw [k308]; decide) y311
  try clear y311; try clear k308
  have y368 := p345.1.1 q136 (by rw [k309]; decide) y312
  try clear y312; try clear k309
  have y369 := p345.1.1 q217 (by rw [k310]; decide) y313
  try clear y313; try clear k310
  have y370 := p345.1.1 q270 (by rw [k289]; decide) y314
  try clear y314; try clear k289
  have y371 := p345.1.2
  try clear p345
  refine b_put E S349 hAh hnm (f := 14) b353 (show vwCl[10]? = some (RX11, TX11, 17) from rfl) q_inX11 tyX11_ok nmX11 (by decide) bw_456 rfl (fun _ => rfl) (tyX11_ok 14 (by decide)) rfl rfl dX11_init_116 (fun H372 locs1 z373 o374 b375 S376 => ?_)
  try clear b353; try clear S349
  have w377 : q_w X340 σ341 H372 := w346.kept (fun a ha => o374 a (fun e => ha (by rw [e]; exact k352)))
  try clear w346
  have t378 := t_lt b375
  try clear t354
  have r379 := (o374 q22 (by first | exact (Nat.ne_of_gt hq22) | omega)).trans r357
  try clear r357
  have r380 := (o374 q42 (by first | exact (Nat.ne_of_gt hq42) | omega)).trans r359
  try clear r359
  have r381 := (o374 q183 (by first | exact (Nat.ne_of_gt hq183) | omega)).trans r361
  try clear o374; try clear r361
  refine lv_aload_n hxx hb dX11_init_119 rfl (lv_at hl 0 rfl) ?_
  refine b_new E S376 bw_386 bw_387 bw_12 (show vwCl[6]? = some (RX7, TX7, 8) from rfl) q_inX7 tyX7 tyX7_ok (Nat.le_of_ble_eq_true rfl) (Nat.le_of_ble_eq_true rfl) dX11_init_120 (fun q382 H383 e384 z385 o386 b387 S388 => ?_)
  have hq382 : h < q382 := by first | exact Nat.lt_of_lt_of_eq t378 e384.symm | omega
  have gg_q382 : s.heap.size ≤ q382 := Nat.le_trans S376.1 (Nat.le_of_eq e384.symm)
  have mm_q382 : q382 < H383.size := by rw [z385, e384]; exact Nat.lt_succ_self _
  have cc_q382 : q325 < q382 := by first | exact Nat.lt_of_lt_of_eq (Nat.lt_of_lt_of_le (Nat.lt_of_lt_of_le mm_q325 z347) (Nat.le_of_eq z373.symm)) e384.symm | omega
  try clear S376
  have w389 : q_w X340 σ341 H383 := w377.kept (fun a ha => o386 a (w377.lt ha))
  have b390 := b375.kept (o386 h t378)
  try clear b375
  have t391 := t_lt b390
  try clear t378
  have r392 := (o386 q22 (raw_lt r379)).trans r379
  try clear r379
  have r393 := (o386 q42 (raw_lt r380)).trans r380
  try clear r380
  have r394 := (o386 q183 (raw_lt r381)).trans r381
  try clear o386; try clear r381
  have k395 : q_kd X340 q382 = 0 := w377.fresh (Nat.le_of_eq e384.symm)
  try clear w377
  have g396 := S388.1
  refine lv_dup hxx hb dX11_init_123 rfl ?_
  have a407 : ∀ a, q_nw q382 H383.size a → q_nw h s.heap.size a := nw_in gg_q382 (Nat.le_trans gg_q382 (Nat.le_of_lt mm_q382))
  refine b_cv (b_runN (As := []) (rest := [.ref q382, .ref h]) E (hml.trans hl.1.symm) D351 w389 k395 b387 rfl (n_X7 l D X340 σ341 q382 H383.size) bi_X11_72 rfl ⟨Nat.le_of_ble_eq_true rfl, Nat.le_of_ble_eq_true rfl⟩ ⟨Nat.le_of_ble_eq_true rfl, Nat.le_of_ble_eq_true rfl⟩ rfl (Nat.le_of_ble_eq_true rfl) dX11_init_124) S388 rfl a407 (fun X397 σ398 H399 locs1 x400 k401 p402 w403 z404 o405 S406 => ?_)
  try clear k395; try clear w389; try clear S388; try clear b387
  have D408 : X397.1 = D := x400.1.trans D351
  try clear D351
  have k409 : q_kd X397 h = 0 := x400.k0 k352 (by first | exact (nw_no hq382 (Nat.lt_trans hq382 mm_q382)) | (rintro (e | e) <;> omega))
  try clear k352
  have b410 := b390.kept (o405 h t391 (by first | exact (Nat.ne_of_lt hq382) | omega))
  try clear b390
  have t411 := t_lt b410
  try clear t391
  have y412 := y355.tr p402.1.1 (fun c hc => by rw [(x356.2.2.2.1 c hc).1]; exact hc)
  try clear y355
  have x413 := x356.tr x400 a407
  try clear x356
  have r414 := (o405 q22 (raw_lt r392) (by first | exact (Nat.ne_of_lt (Nat.lt_trans (Nat.lt_trans (Nat.lt_trans (Nat.lt_trans (Nat.lt_trans (Nat.lt_trans (Nat.lt_trans cc_q42 cc_q91) cc_q136) cc_q183) cc_q217) cc_q270) cc_q325) cc_q382)) | omega)).trans r392
  have k415 : q_kd X397 q22 = 0 := x400.k0 k358 (by first | exact (nw_no (Nat.lt_trans (Nat.lt_trans (Nat.lt_trans (Nat.lt_trans (Nat.lt_trans (Nat.lt_trans (Nat.lt_trans cc_q42 cc_q91) cc_q136) cc_q183) cc_q217) cc_q270) cc_q325) cc_q382) (Nat.lt_trans (Nat.lt_trans (Nat.lt_trans (Nat.lt_trans (Nat.lt_trans (Nat.lt_trans (Nat.lt_trans (Nat.lt_trans cc_q42 cc_q91) cc_q136) cc_q183) cc_q217) cc_q270) cc_q325) cc_q382) mm_q382)) | (have := raw_lt r392; rintro (e | e) <;> omega))
  try clear r392; try clear k358
  have r416 := (o405 q42 (raw_lt r393) (by first | exact (Nat.ne_of_lt (Nat.lt_trans (Nat.lt_trans (Nat.lt_trans (Nat.lt_trans (Nat.lt_trans (Nat.lt_trans cc_q91 cc_q136) cc_q183) cc_q217) cc_q270) cc_q325) cc_q382)) | omega)).trans r393
  have k417 : q_kd X397 q42 = 0 := x400.k0 k360 (by first | exact (nw_no (Nat.lt_trans (Nat.lt_trans (Nat.lt_trans (Nat.lt_trans (Nat.lt_trans (Nat.lt_trans cc_q91 cc_q136) cc_q183) cc_q217) cc_q270) cc_q325) cc_q382) (Nat.lt_trans (Nat.lt_trans (Nat.lt_trans (Nat.lt_trans (Nat.lt_trans (Nat.lt_trans (Nat.lt_trans cc_q91 cc_q136) cc_q183) cc_q217) cc_q270) cc_q325) cc_q382) mm_q382)) | (have := raw_lt r393; rintro (e | e) <;> omega))
  try clear r393; try clear k360
  have r418 := (o405 q183 (raw_lt r394) (by first | exact (Nat.ne_of_lt (Nat.lt_trans (Nat.lt_trans (Nat.lt_trans cc_q217 cc_q270) cc_q325) cc_q382)) | omega)).trans r394
  try clear o405
  have k419 : q_kd X397 q183 = 0 := x400.k0 k362 (by first | exact (nw_no (Nat.lt_trans (Nat.lt_trans (Nat.lt_trans cc_q217 cc_q270) cc_q325) cc_q382) (Nat.lt_trans (Nat.lt_trans (Nat.lt_trans (Nat.lt_trans cc_q217 cc_q270) cc_q325) cc_q382) mm_q382)) | (have := raw_lt r394; rintro (e | e) <;> omega))
  try clear r394; try clear k362
  have k420 := x400.kd k363 (by decide)
  have k421 := x400.kd k364 (by decide)
  have k422 := x400.kd k365 (by decide)
  have k423 := x400.kd k366 (by decide)
  have k424 := x400.kd k344 (by decide)
  try clear x400
  have y425 := p402.1.1 q91 (by rw [k363]; decide) y367
  try clear y367; try clear k363
  have y426 := p402.1.1 q136 (by rw [k364]; decide) y368
  try clear y368; try clear k364
  have y427 := p402.1.1 q217 (by rw [k365]; decide) y369
  try clear y369; try clear k365
  have y428 := p402.1.1 q270 (by rw [k366]; decide) y370
  try clear y370; try clear k366
  have y429 := p402.1.1 q325 (by rw [k344]; decide) y371
  try clear y371; try clear k344
  have y430 := p402.1.2
  try clear p402
  refine b_put E S406 hAh hnm (f := 15) b410 (show vwCl[10]? = some (RX11, TX11, 17) from rfl) q_inX11 tyX11_ok nmX11 (by decide) bw_457 rfl (fun _ => rfl) (tyX11_ok 15 (by decide)) rfl rfl dX11_init_127 (fun H431 locs1 z432 o433 b434 S435 => ?_)
  try clear b410; try clear S406
  have w436 : q_w X397 σ398 H431 := w403.kept (fun a ha => o433 a (fun e => ha (by rw [e]; exact k409)))
  try clear w403
  have t437 := t_lt b434
  try clear t411
  have r438 := (o433 q22 (by first | exact (Nat.ne_of_gt hq22) | omega)).trans r414
  try clear r414
  have r439 := (o433 q42 (by first | exact (Nat.ne_of_gt hq42) | omega)).trans r416
  try clear r416
  have r440 := (o433 q183 (by first | exact (Nat.ne_of_gt hq183) | omega)).trans r418
  try clear o433; try clear r418
  refine lv_aload_n hxx hb dX11_init_130 rfl (lv_at hl 0 rfl) ?_
  refine lv_iconst (v := 0) hxx hb dX11_init_131 (by decide) ?_
  refine b_put E S435 hAh hnm (f := 16) b434 (show vwCl[10]? = some (RX11, TX11, 17) from rfl) q_inX11 tyX11_ok nmX11 (by decide) bw_458 rfl (fun _ => rfl) (tyX11_ok 16 (by decide)) rfl rfl dX11_init_132 (fun H441 locs1 z442 o443 b444 S445 => ?_)
  try clear S435; try clear b434
  have w446 : q_w X397 σ398 H441 := w436.kept (fun a ha => o443 a (fun e => ha (by rw [e]; exact k409)))
  try clear w436
  have t447 := t_lt b444
  try clear t437
  have r448 := (o443 q22 (by first | exact (Nat.ne_of_gt hq22) | omega)).trans r438
  try clear r438
  have r449 := (o443 q42 (by first | exact (Nat.ne_of_gt hq42) | omega)).trans r439
  try clear r439
  have r450 := (o443 q183 (by first | exact (Nat.ne_of_gt hq183) | omega)).trans r440
  try clear o443; try clear r440
  refine lv_iconst (v := 0) hxx hb dX11_init_135 (by decide) ?_
  refine lv_istore_n (lv' := [(1, .int 0), (0, .ref h)]) hxx hb dX11_init_136 rfl hl (by decide) rfl (fun ls hl => ?_)
  refine lv_iload_n hxx hb dX11_init_137 rfl (lv_at hl 0 rfl) ?_
  refine lv_iconst (v := 4) hxx hb dX11_init_138 (by decide) ?_
  refine lv_icmp_ge hxx hb dX11_init_139 (tgt := 161) (by decide) (fun q => absurd q (by decide)) (fun _ => ?_)
  refine lv_aload_n hxx hb dX11_init_142 rfl (lv_at hl 1 rfl) ?_
  refine b_get E (f := 3) b444 (show vwCl[10]? = some (RX11, TX11, 17) from rfl) q_inX11 (by decide) bw_445 rfl (v := .ref q22) rfl dX11_init_143 ?_
  refine lv_iload_n hxx hb dX11_init_146 rfl (lv_at hl 0 rfl) ?_
  refine b_new E S445 bw_28 bw_425 bw_13 (show vwCl[9]? = some (RX10, TX10, 3) from rfl) q_inX10 tyX10 tyX10_ok (Nat.le_of_ble_eq_true rfl) (Nat.le_of_ble_eq_true rfl) dX11_init_147 (fun q451 H452 e453 z454 o455 b456 S457 => ?_)
  have hq451 : h < q451 := by first | exact Nat.lt_of_lt_of_eq t447 e453.symm | omega
  have gg_q451 : s.heap.size ≤ q451 := Nat.le_trans S445.1 (Nat.le_of_eq e453.symm)
  have mm_q451 : q451 < H452.size := by rw [z454, e453]; exact Nat.lt_succ_self _
  have cc_q451 : q382 < q451 := by first | exact Nat.lt_of_lt_of_eq (Nat.lt_of_lt_of_le (Nat.lt_of_lt_of_le (Nat.lt_of_lt_of_le mm_q382 z404) (Nat.le_of_eq z432.symm)) (Nat.le_of_eq z442.symm)) e453.symm | omega
  try clear S445
  have w458 : q_w X397 σ398 H452 := w446.kept (fun a ha => o455 a (w446.lt ha))
  have b459 := b444.kept (o455 h t447)
  try clear b444
  have t460 := t_lt b459
  try clear t447
  have r461 := (o455 q22 (raw_lt r448)).trans r448
  try clear r448
  have r462 := (o455 q42 (raw_lt r449)).trans r449
  try clear r449
  have r463 := (o455 q183 (raw_lt r450)).trans r450
  try clear o455; try clear r450
  have k464 : q_kd X397 q451 = 0 := w446.fresh (Nat.le_of_eq e453.symm)
  try clear w446
  have g465 := S457.1
  refine lv_dup hxx hb dX11_init_150 rfl ?_
  have a476 : ∀ a, q_nw q451 H452.size a → q_nw h s.heap.size a := nw_in gg_q451 (Nat.le_trans gg_q451 (Nat.le_of_lt mm_q451))
  refine b_cv (b_runN (As := []) (rest := [.ref q451, .int 0, .ref q22]) E (hml.trans hl.1.symm) D408 w458 k464 b456 rfl (n_X10 l D X397 σ398 q451 H452.size) bi_X11_84 rfl ⟨Nat.le_of_ble_eq_true rfl, Nat.le_of_ble_eq_true rfl⟩ ⟨Nat.le_of_ble_eq_true rfl, Nat.le_of_ble_eq_true rfl⟩ rfl (Nat.le_of_ble_eq_true rfl) dX11_init_151) S457 rfl a476 (fun X466 σ467 H468 locs1 x469 k470 p471 w472 z473 o474 S475 => ?_)
  try clear k464; try clear w458; try clear S457; try clear b456
  have D477 : X466.1 = D := x469.1.trans D408
  try clear D408
  have k478 : q_kd X466 h = 0 := x469.k0 k409 (by first | exact (nw_no hq451 (Nat.lt_trans hq451 mm_q451)) | (rintro (e | e) <;> omega))
  try clear k409
  have b479 := b459.kept (o474 h t460 (by first | exact (Nat.ne_of_lt hq451) | omega))
  try clear b459
  have t480 := t_lt b479
  try clear t460
  have y481 := y412.tr p471.1.1 (fun c hc => by rw [(x413.2.2.2.1 c hc).1]; exact hc)
  try clear y412
  have x482 := x413.tr x469 a476
  try clear x413
  have r483 := (o474 q22 (raw_lt r461) (by first | exact (Nat.ne_of_lt (Nat.lt_trans (Nat.lt_trans (Nat.lt_trans (Nat.lt_trans (Nat.lt_trans (Nat.lt_trans (Nat.lt_trans (Nat.lt_trans cc_q42 cc_q91) cc_q136) cc_q183) cc_q217) cc_q270) cc_q325) cc_q382) cc_q451)) | omega)).trans r461
  have k484 : q_kd X466 q22 = 0 := x469.k0 k415 (by first | exact (nw_no (Nat.lt_trans (Nat.lt_trans (Nat.lt_trans (Nat.lt_trans (Nat.lt_trans (Nat.lt_trans (Nat.lt_trans (Nat.lt_trans cc_q42 cc_q91) cc_q136) cc_q183) cc_q217) cc_q270) cc_q325) cc_q382) cc_q451) (Nat.lt_trans (Nat.lt_trans (Nat.lt_trans (Nat.lt_trans (Nat.lt_trans (Nat.lt_trans (Nat.lt_trans (Nat.lt_trans (Nat.lt_trans cc_q42 cc_q91) cc_q136) cc_q183) cc_q217) cc_q270) cc_q325) cc_q382) cc_q451) mm_q451)) | (have := raw_lt r461; rintro (e | e) <;> omega))
  try clear r461; try clear k415
  have r485 := (o474 q42 (raw_lt r462) (by first | exact (Nat.ne_of_lt (Nat.lt_trans (Nat.lt_trans (Nat.lt_trans (Nat.lt_trans (Nat.lt_trans (Nat.lt_trans (Nat.lt_trans cc_q91 cc_q136) cc_q183) cc_q217) cc_q270) cc_q325) cc_q382) cc_q451)) | omega)).trans r462
  have k486 : q_kd X466 q42 = 0 := x469.k0 k417 (by first | exact (nw_no (Nat.lt_trans (Nat.lt_trans (Nat.lt_trans (Nat.lt_trans (Nat.lt_trans (Nat.lt_trans (Nat.lt_trans cc_q91 cc_q136) cc_q183) cc_q217) cc_q270) cc_q325) cc_q382) cc_q451) (Nat.lt_trans (Nat.lt_trans (Nat.lt_trans (Nat.lt_trans (Nat.lt_trans (Nat.lt_trans (Nat.lt_trans (Nat.lt_trans cc_q91 cc_q136) cc_q183) cc_q217) cc_q270) cc_q325) cc_q382) cc_q451) mm_q451)) | (have := raw_lt r462; rintro (e | e) <;> omega))
  try clear r462; try clear k417
  have r487 := (o474 q183 (raw_lt r463) (by first | exact (Nat.ne_of_lt (Nat.lt_trans (Nat.lt_trans (Nat.lt_trans (Nat.lt_trans cc_q217 cc_q270) cc_q325) cc_q382) cc_q451)) | omega)).trans r463
  try clear o474
  have k488 : q_kd X466 q183 = 0 := x469.k0 k419 (by first | exact (nw_no (Nat.lt_trans (Nat.lt_trans (Nat.lt_trans (Nat.lt_trans cc_q217 cc_q270) cc_q325) cc_q382) cc_q451) (Nat.lt_trans (Nat.lt_trans (Nat.lt_trans (Nat.lt_trans (Nat.lt_trans cc_q217 cc_q270) cc_q325) cc_q382) cc_q451) mm_q451)) | (have := raw_lt r463; rintro (e | e) <;> omega))
  try clear r463; try clear k419
  have k489 := x469.kd k420 (by decide)
  have k490 := x469.kd k421 (by decide)
  have k491 := x469.kd k422 (by decide)
  have k492 := x469.kd k423 (by decide)
  have k493 := x469.kd k424 (by decide)
  have k494 := x469.kd k401 (by decide)
  try clear x469
  have y495 := p471.1.1 q91 (by rw [k420]; decide) y425
  try clear y425; try clear k420
  have y496 := p471.1.1 q136 (by rw [k421]; decide) y426
  try clear y426; try clear k421
  have y497 := p471.1.1 q217 (by rw [k422]; decide) y427
  try clear y427; try clear k422
  have y498 := p471.1.1 q270 (by rw [k423]; decide) y428
  try clear y428; try clear k423
  have y499 := p471.1.1 q325 (by rw [k424]; decide) y429
  try clear y429; try clear k424
  have y500 := p471.1.1 q382 (by rw [k401]; decide) y430
  try clear y430; try clear k401
  have y501 := p471.1.2
  have i502 : σ467.1 q451 0 = 0 := p471.2.1
  have i503 : σ467.1 q451 1 = -1 := p471.2.2
  try clear p471
  refine b_aast E S475 (t := 3) (Or.inr gg_q22) rfl (show vwCl[9]? = some (RX10, TX10, 3) from rfl) r483 (q_wcell D477 w472 k470 ⟨rfl, by decide⟩ (show vwCl[9]? = some (RX10, TX10, 3) from rfl)) (by decide) (by decide) dX11_init_154 (fun H504 locs1 z505 o506 r507 S508 => ?_)
  try clear r483; try clear S475
  have w509 : q_w X466 σ467 H504 := w472.kept (fun a ha => o506 a (fun e => ha (by rw [e]; exact k484)))
  try clear w472
  have b510 := b479.kept (o506 h (by first | exact (Nat.ne_of_lt hq22) | omega))
  try clear b479
  have t511 := t_lt b510
  try clear t480
  have r512 := (o506 q42 (by first | exact (Nat.ne_of_gt cc_q42) | omega)).trans r485
  try clear r485
  have r513 := (o506 q183 (by first | exact (Nat.ne_of_gt (Nat.lt_trans (Nat.lt_trans (Nat.lt_trans cc_q42 cc_q91) cc_q136) cc_q183)) | omega)).trans r487
  try clear o506; try clear r487
  refine lv_iinc (v := 1) (lv' := [(1, .int 1), (0, .ref h)]) hxx hb dX11_init_155 hl (k := 0) rfl (by decide) (by decide) rfl (fun ls hl => ?_)
  refine lv_goto (tgt := 137) hxx hb dX11_init_158 (by decide) ?_
  refine lv_iload_n hxx hb dX11_init_137 rfl (lv_at hl 0 rfl) ?_
  refine lv_iconst (v := 4) hxx hb dX11_init_138 (by decide) ?_
  refine lv_icmp_ge hxx hb dX11_init_139 (tgt := 161) (by decide) (fun q => absurd q (by decide)) (fun _ => ?_)
  refine lv_aload_n hxx hb dX11_init_142 rfl (lv_at hl 1 rfl) ?_
  refine b_get E (f := 3) b510 (show vwCl[10]? = some (RX11, TX11, 17) from rfl) q_inX11 (by decide) bw_445 rfl (v := .ref q22) rfl dX11_init_143 ?_
  refine lv_iload_n hxx hb dX11_init_146 rfl (lv_at hl 0 rfl) ?_
  refine b_new E S508 bw_28 bw_425 bw_13 (show vwCl[9]? = some (RX10, TX10, 3) from rfl) q_inX10 tyX10 tyX10_ok (Nat.le_of_ble_eq_true rfl) (Nat.le_of_ble_eq_true rfl) dX11_init_147 (fun q514 H515 e516 z517 o518 b519 S520 => ?_)
  have hq514 : h < q514 := by first | exact Nat.lt_of_lt_of_eq t511 e516.symm | omega
  have gg_q514 : s.heap.size ≤ q514 := Nat.le_trans S508.1 (Nat.le_of_eq e516.symm)
  have mm_q514 : q514 < H515.size := by rw [z517, e516]; exact Nat.lt_succ_self _
  have cc_q514 : q451 < q514 := by first | exact Nat.lt_of_lt_of_eq (Nat.lt_of_lt_of_le (Nat.lt_of_lt_of_le mm_q451 z473) (Nat.le_of_eq z505.symm)) e516.symm | omega
  try clear S508
  have w521 : q_w X466 σ467 H515 := w509.kept (fun a ha => o518 a (w509.lt ha))
  have b522 := b510.kept (o518 h t511)
  try clear b510
  have t523 := t_lt b522
  try clear t511
  have r524 := (o518 q22 (raw_lt r507)).trans r507
  try clear r507
  have r525 := (o518 q42 (raw_lt r512)).trans r512
  try clear r512
  have r526 := (o518 q183 (raw_lt r513)).trans r513
  try clear o518; try clear r513
  have k527 : q_kd X466 q514 = 0 := w509.fresh (Nat.le_of_eq e516.symm)
  try clear w509
  have g528 := S520.1
  refine lv_dup hxx hb dX11_init_150 rfl ?_
  have a539 : ∀ a, q_nw q514 H515.size a → q_nw h s.heap.size a := nw_in gg_q514 (Nat.le_trans gg_q514 (Nat.le_of_lt mm_q514))
  refine b_cv (b_runN (As := []) (rest := [.ref q514, .int 1, .ref q22]) E (hml.trans hl.1.symm) D477 w521 k527 b519 rfl (n_X10 l D X466 σ467 q514 H515.size) bi_X11_84 rfl ⟨Nat.le_of_ble_eq_true rfl, Nat.le_of_ble_eq_true rfl⟩ ⟨Nat.le_of_ble_eq_true rfl, Nat.le_of_ble_eq_true rfl⟩ rfl (Nat.le_of_ble_eq_true rfl) dX11_init_151) S520 rfl a539 (fun X529 σ530 H531 locs1 x532 k533 p534 w535 z536 o537 S538 => ?_)
  try clear k527; try clear w521; try clear S520; try clear b519
  have D540 : X529.1 = D := x532.1.trans D477
  try clear D477
  have k541 : q_kd X529 h = 0 := x532.k0 k478 (by first | exact (nw_no hq514 (Nat.lt_trans hq514 mm_q514)) | (rintro (e | e) <;> omega))
  try clear k478
  have b542 := b522.kept (o537 h t523 (by first | exact (Nat.ne_of_lt hq514) | omega))
  try clear b522
  have t543 := t_lt b542
  try clear t523
  have y544 := y481.tr p534.1.1 (fun c hc => by rw [(x482.2.2.2.1 c hc).1]; exact hc)
  try clear y481
  have x545 := x482.tr x532 a539
  try clear x482
  have r546 := (o537 q22 (raw_lt r524) (by first | exact (Nat.ne_of_lt (Nat.lt_trans (Nat.lt_trans (Nat.lt_trans (Nat.lt_trans (Nat.lt_trans (Nat.lt_trans (Nat.lt_trans (Nat.lt_trans (Nat.lt_trans cc_q42 cc_q91) cc_q136) cc_q183) cc_q217) cc_q270) cc_q325) cc_q382) cc_q451) cc_q514)) | omega)).trans r524
  have k547 : q_kd X529 q22 = 0 := x532.k0 k484 (by first | exact (nw_no (Nat.lt_trans (Nat.lt_trans (Nat.lt_trans (Nat.lt_trans (Nat.lt_trans (Nat.lt_trans (Nat.lt_trans (Nat.lt_trans (Nat.lt_trans cc_q42 cc_q91) cc_q136) cc_q183) cc_q217) cc_q270) cc_q325) cc_q382) cc_q451) cc_q514) (Nat.lt_trans (Nat.lt_trans (Nat.lt_trans (Nat.lt_trans (Nat.lt_trans (Nat.lt_trans (Nat.lt_trans (Nat.lt_trans (Nat.lt_trans (Nat.lt_trans cc_q42 cc_q91) cc_q136) cc_q183) cc_q217) cc_q270) cc_q325) cc_q382) cc_q451) cc_q514) mm_q514)) | (have := raw_lt r524; rintro (e | e) <;> omega))
  try clear r524; try clear k484
  have r548 := (o537 q42 (raw_lt r525) (by first | exact (Nat.ne_of_lt (Nat.lt_trans (Nat.lt_trans (Nat.lt_trans (Nat.lt_trans (Nat.lt_trans (Nat.lt_trans (Nat.lt_trans (Nat.lt_trans cc_q91 cc_q136) cc_q183) cc_q217) cc_q270) cc_q325) cc_q382) cc_q451) cc_q514)) | omega)).trans r525
  have k549 : q_kd X529 q42 = 0 := x532.k0 k486 (by first | exact (nw_no (Nat.lt_trans (Nat.lt_trans (Nat.lt_trans (Nat.lt_trans (Nat.lt_trans (Nat.lt_trans (Nat.lt_trans (Nat.lt_trans cc_q91 cc_q136) cc_q183) cc_q217) cc_q270) cc_q325) cc_q382) cc_q451) cc_q514) (Nat.lt_trans (Nat.lt_trans (Nat.lt_trans (Nat.lt_trans (Nat.lt_trans (Nat.lt_trans (Nat.lt_trans (Nat.lt_trans (Nat.lt_trans cc_q91 cc_q136) cc_q183) cc_q217) cc_q270) cc_q325) cc_q382) cc_q451) cc_q514) mm_q514)) | (have := raw_lt r525; rintro (e | e) <;> omega))
  try clear r525; try clear k486
  have r550 := (o537 q183 (raw_lt r526) (by first | exact (Nat.ne_of_lt (Nat.lt_trans (Nat.lt_trans (Nat.lt_trans (Nat.lt_trans (Nat.lt_trans cc_q217 cc_q270) cc_q325) cc_q382) cc_q451) cc_q514)) | omega)).trans r526
  try clear o537
  have k551 : q_kd X529 q183 = 0 := x532.k0 k488 (by first | exact (nw_no (Nat.lt_trans (Nat.lt_trans (Nat.lt_trans (Nat.lt_trans (Nat.lt_trans cc_q217 cc_q270) cc_q325) cc_q382) cc_q451) cc_q514) (Nat.lt_trans (Nat.lt_trans (Nat.lt_trans (Nat.lt_trans (Nat.lt_trans (Nat.lt_trans cc_q217 cc_q270) cc_q325) cc_q382) cc_q451) cc_q514) mm_q514)) | (have := raw_lt r526; rintro (e | e) <;> omega))
  try clear r526; try clear k488
  have k552 := x532.kd k489 (by decide)
  have k553 := x532.kd k490 (by decide)
  have k554 := x532.kd k491 (by decide)
  have k555 := x532.kd k492 (by decide)
  have k556 := x532.kd k493 (by decide)
  have k557 := x532.kd k494 (by decide)
  have k558 := x532.kd k470 (by decide)
  have y559 := p534.1.1 q91 (by rw [k489]; decide) y495
  try clear y495; try clear k489
  have y560 := p534.1.1 q136 (by rw [k490]; decide) y496
  try clear y496; try clear k490
  have y561 := p534.1.1 q217 (by rw [k491]; decide) y497
  try clear y497; try clear k491
  have y562 := p534.1.1 q270 (by rw [k492]; decide) y498
  try clear y498; try clear k492
  have y563 := p534.1.1 q325 (by rw [k493]; decide) y499
  try clear y499; try clear k493
  have y564 := p534.1.1 q382 (by rw [k494]; decide) y500
  try clear y500; try clear k494
  have y565 := p534.1.1 q451 (by rw [k470]; decide) y501
  try clear y501
  have y566 := p534.1.2
  have i567 : σ530.1 q451 0 = 0 := (q_exi x532 (by rw [k470]; decide)).trans i502
  try clear i502
  have i568 : σ530.1 q451 1 = -1 := (q_exi x532 (by rw [k470]; decide)).trans i503
  try clear x532; try clear i503; try clear k470
  have i569 : σ530.1 q514 0 = 0 := p534.2.1
  have i570 : σ530.1 q514 1 = -1 := p534.2.2
  try clear p534
  refine b_aast E S538 (t := 3) (Or.inr gg_q22) rfl (show vwCl[9]? = some (RX10, TX10, 3) from rfl) r546 (q_wcell D540 w535 k533 ⟨rfl, by decide⟩ (show vwCl[9]? = some (RX10, TX10, 3) from rfl)) (by decide) (by decide) dX11_init_154 (fun H571 locs1 z572 o573 r574 S575 => ?_)
  try clear r546; try clear S538
  have w576 : q_w X529 σ530 H571 := w535.kept (fun a ha => o573 a (fun e => ha (by rw [e]; exact k547)))
  try clear w535
  have b577 := b542.kept (o573 h (by first | exact (Nat.ne_of_lt hq22) | omega))
  try clear b542
  have t578 := t_lt b577
  try clear t543
  have r579 := (o573 q42 (by first | exact (Nat.ne_of_gt cc_q42) | omega)).trans r548
  try clear r548
  have r580 := (o573 q183 (by first | exact (Nat.ne_of_gt (Nat.lt_trans (Nat.lt_trans (Nat.lt_trans cc_q42 cc_q91) cc_q136) cc_q183)) | omega)).trans r550
  try clear o573; try clear r550
  refine lv_iinc (v := 2) (lv' := [(1, .int 2), (0, .ref h)]) hxx hb dX11_init_155 hl (k := 0) rfl (by decide) (by decide) rfl (fun ls hl => ?_)
  refine lv_goto (tgt := 137) hxx hb dX11_init_158 (by decide) ?_
  refine lv_iload_n hxx hb dX11_init_137 rfl (lv_at hl 0 rfl) ?_
  refine lv_iconst (v := 4) hxx hb dX11_init_138 (by decide) ?_
  refine lv_icmp_ge hxx hb dX11_init_139 (tgt := 161) (by decide) (fun q => absurd q (by decide)) (fun _ => ?_)
  refine lv_aload_n hxx hb dX11_init_142 rfl (lv_at hl 1 rfl) ?_
  refine b_get E (f := 3) b577 (show vwCl[10]? = some (RX11, TX11, 17) from rfl) q_inX11 (by decide) bw_445 rfl (v := .ref q22) rfl dX11_init_143 ?_
  refine lv_iload_n hxx hb dX11_init_146 rfl (lv_at hl 0 rfl) ?_
  refine b_new E S575 bw_28 bw_425 bw_13 (show vwCl[9]? = some (RX10, TX10, 3) from rfl) q_inX10 tyX10 tyX10_ok (Nat.le_of_ble_eq_true rfl) (Nat.le_of_ble_eq_true rfl) dX11_init_147 (fun q581 H582 e583 z584 o585 b586 S587 => ?_)
  have hq581 : h < q581 := by first | exact Nat.lt_of_lt_of_eq t578 e583.symm | omega
  have gg_q581 : s.heap.size ≤ q581 := Nat.le_trans S575.1 (Nat.le_of_eq e583.symm)
  have mm_q581 : q581 < H582.size := by rw [z584, e583]; exact Nat.lt_succ_self _
  have cc_q581 : q514 < q581 := by first | exact Nat.lt_of_lt_of_eq (Nat.lt_of_lt_of_le (Nat.lt_of_lt_of_le mm_q514 z536) (Nat.le_of_eq z572.symm)) e583.symm | omega
  try clear S575
  have w588 : q_w X529 σ530 H582 := w576.kept (fun a ha => o585 a (w576.lt ha))
  have b589 := b577.kept (o585 h t578)
  try clear b577
  have t590 := t_lt b589
  try clear t578
  have r591 := (o585 q22 (raw_lt r574)).trans r574
  try clear r574
  have r592 := (o585 q42 (raw_lt r579)).trans r579
  try clear r579
  have r593 := (o585 q183 (raw_lt r580)).trans r580
  try clear o585; try clear r580
  have k594 : q_kd X529 q581 = 0 := w576.fresh (Nat.le_of_eq e583.symm)
  try clear w576
  have g595 := S587.1
  refine lv_dup hxx hb dX11_init_150 rfl ?_
  have a606 : ∀ a, q_nw q581 H582.size a → q_nw h s.heap.size a := nw_in gg_q581 (Nat.le_trans gg_q581 (Nat.le_of_lt mm_q581))
  refine b_cv (b_runN (As := []) (rest := [.ref q581, .int 2, .ref q22]) E (hml.trans hl.1.symm) D540 w588 k594 b586 rfl (n_X10 l D X529 σ530 q581 H582.size) bi_X11_84 rfl ⟨Nat.le_of_ble_eq_true rfl, Nat.le_of_ble_eq_true rfl⟩ ⟨Nat.le_of_ble_eq_true rfl, Nat.le_of_ble_eq_true rfl⟩ rfl (Nat.le_of_ble_eq_true rfl) dX11_init_151) S587 rfl a606 (fun X596 σ597 H598 locs1 x599 k600 p601 w602 z603 o604 S605 => ?_)
  try clear k594; try clear w588; try clear S587; try clear b586
  have D607 : X596.1 = D := x599.1.trans D540
  try clear D540
  have k608 : q_kd X596 h = 0 := x599.k0 k541 (by first | exact (nw_no hq581 (Nat.lt_trans hq581 mm_q581)) | (rintro (e | e) <;> omega))
  try clear k541
  have b609 := b589.kept (o604 h t590 (by first | exact (Nat.ne_of_lt hq581) | omega))
  try clear b589
  have t610 := t_lt b609
  try clear t590
  have y611 := y544.tr p601.1.1 (fun c hc => by rw [(x545.2.2.2.1 c hc).1]; exact hc)
  try clear y544
  have x612 := x545.tr x599 a606
  try clear x545
  have r613 := (o604 q22 (raw_lt r591) (by first | exact (Nat.ne_of_lt (Nat.lt_trans (Nat.lt_trans (Nat.lt_trans (Nat.lt_trans (Nat.lt_trans (Nat.lt_trans (Nat.lt_trans (Nat.lt_trans (Nat.lt_trans (Nat.lt_trans cc_q42 cc_q91) cc_q136) cc_q183) cc_q217) cc_q270) cc_q325) cc_q382) cc_q451) cc_q514) cc_q581)) | omega)).trans r591
  have k614 : q_kd X596 q22 = 0 := x599.k0 k547 (by first | exact (nw_no (Nat.lt_trans (Nat.lt_trans (Nat.lt_trans (Nat.lt_trans (Nat.lt_trans (Nat.lt_trans (Nat.lt_trans (Nat.lt_trans (Nat.lt_trans (Nat.lt_trans cc_q42 cc_q91) cc_q136) cc_q183) cc_q217) cc_q270) cc_q325) cc_q382) cc_q451) cc_q514) cc_q581) (Nat.lt_trans (Nat.lt_trans (Nat.lt_trans (Nat.lt_trans (Nat.lt_trans (Nat.lt_trans (Nat.lt_trans (Nat.lt_trans (Nat.lt_trans (Nat.lt_trans (Nat.lt_trans cc_q42 cc_q91) cc_q136) cc_q183) cc_q217) cc_q270) cc_q325) cc_q382) cc_q451) cc_q514) cc_q581) mm_q581)) | (have := raw_lt r591; rintro (e | e) <;> omega))
  try clear r591; try clear k547
  have r615 := (o604 q42 (raw_lt r592) (by first | exact (Nat.ne_of_lt (Nat.lt_trans (Nat.lt_trans (Nat.lt_trans (Nat.lt_trans (Nat.lt_trans (Nat.lt_trans (Nat.lt_trans (Nat.lt_trans (Nat.lt_trans cc_q91 cc_q136) cc_q183) cc_q217) cc_q270) cc_q325) cc_q382) cc_q451) cc_q514) cc_q581)) | omega)).trans r592
  have k616 : q_kd X596 q42 = 0 := x599.k0 k549 (by first | exact (nw_no (Nat.lt_trans (Nat.lt_trans (Nat.lt_trans (Nat.lt_trans (Nat.lt_trans (Nat.lt_trans (Nat.lt_trans (Nat.lt_trans (Nat.lt_trans cc_q91 cc_q136) cc_q183) cc_q217) cc_q270) cc_q325) cc_q382) cc_q451) cc_q514) cc_q581) (Nat.lt_trans (Nat.lt_trans (Nat.lt_trans (Nat.lt_trans (Nat.lt_trans (Nat.lt_trans (Nat.lt_trans (Nat.lt_trans (Nat.lt_trans (Nat.lt_trans cc_q91 cc_q136) cc_q183) cc_q217) cc_q270) cc_q325) cc_q382) cc_q451) cc_q514) cc_q581) mm_q581)) | (have := raw_lt r592; rintro (e | e) <;> omega))
  try clear r592; try clear k549
  have r617 := (o604 q183 (raw_lt r593) (by first | exact (Nat.ne_of_lt (Nat.lt_trans (Nat.lt_trans (Nat.lt_trans (Nat.lt_trans (Nat.lt_trans (Nat.lt_trans cc_q217 cc_q270) cc_q325) cc_q382) cc_q451) cc_q514) cc_q581)) | omega)).trans r593
  try clear o604
  have k618 : q_kd X596 q183 = 0 := x599.k0 k551 (by first | exact (nw_no (Nat.lt_trans (Nat.lt_trans (Nat.lt_trans (Nat.lt_trans (Nat.lt_trans (Nat.lt_trans cc_q217 cc_q270) cc_q325) cc_q382) cc_q451) cc_q514) cc_q581) (Nat.lt_trans (Nat.lt_trans (Nat.lt_trans (Nat.lt_trans (Nat.lt_trans (Nat.lt_trans (Nat.lt_trans cc_q217 cc_q270) cc_q325) cc_q382) cc_q451) cc_q514) cc_q581) mm_q581)) | (have := raw_lt r593; rintro (e | e) <;> omega))
  try clear r593; try clear k551
  have k619 := x599.kd k552 (by decide)
  have k620 := x599.kd k553 (by decide)
  have k621 := x599.kd k554 (by decide)
  have k622 := x599.kd k555 (by decide)
  have k623 := x599.kd k556 (by decide)
  have k624 := x599.kd k557 (by decide)
  have k625 := x599.kd k558 (by decide)
  have k626 := x599.kd k533 (by decide)
  have y627 := p601.1.1 q91 (by rw [k552]; decide) y559
  try clear y559; try clear k552
  have y628 := p601.1.1 q136 (by rw [k553]; decide) y560
  try clear y560; try clear k553
  have y629 := p601.1.1 q217 (by rw [k554]; decide) y561
  try clear y561; try clear k554
  have y630 := p601.1.1 q270 (by rw [k555]; decide) y562
  try clear y562; try clear k555
  have y631 := p601.1.1 q325 (by rw [k556]; decide) y563
  try clear y563; try clear k556
  have y632 := p601.1.1 q382 (by rw [k557]; decide) y564
  try clear y564; try clear k557
  have y633 := p601.1.1 q451 (by rw [k558]; decide) y565
  try clear y565
  have y634 := p601.1.1 q514 (by rw [k533]; decide) y566
  try clear y566
  have y635 := p601.1.2
  have i636 : σ597.1 q451 0 = 0 := (q_exi x599 (by rw [k558]; decide)).trans i567
  try clear i567
  have i637 : σ597.1 q451 1 = -1 := (q_exi x599 (by rw [k558]; decide)).trans i568
  try clear i568; try clear k558
  have i638 : σ597.1 q514 0 = 0 := (q_exi x599 (by rw [k533]; decide)).trans i569
  try clear i569
  have i639 : σ597.1 q514 1 = -1 := (q_exi x599 (by rw [k533]; decide)).trans i570
  try clear x599; try clear i570; try clear k533
  have i640 : σ597.1 q581 0 = 0 := p601.2.1
  have i641 : σ597.1 q581 1 = -1 := p601.2.2
  try clear p601
  refine b_aast E S605 (t := 3) (Or.inr gg_q22) rfl (show vwCl[9]? = some (RX10, TX10, 3) from rfl) r613 (q_wcell D607 w602 k600 ⟨rfl, by decide⟩ (show vwCl[9]? = some (RX10, TX10, 3) from rfl)) (by decide) (by decide) dX11_init_154 (fun H642 locs1 z643 o644 r645 S646 => ?_)
  try clear r613; try clear S605
  have w647 : q_w X596 σ597 H642 := w602.kept (fun a ha => o644 a (fun e => ha (by rw [e]; exact k614)))
  try clear w602
  have b648 := b609.kept (o644 h (by first | exact (Nat.ne_of_lt hq22) | omega))
  try clear b609
  have t649 := t_lt b648
  try clear t610
  have r650 := (o644 q42 (by first | exact (Nat.ne_of_gt cc_q42) | omega)).trans r615
  try clear r615
  have r651 := (o644 q183 (by first | exact (Nat.ne_of_gt (Nat.lt_trans (Nat.lt_trans (Nat.lt_trans cc_q42 cc_q91) cc_q136) cc_q183)) | omega)).trans r617
  try clear o644; try clear r617
  refine lv_iinc (v := 3) (lv' := [(1, .int 3), (0, .ref h)]) hxx hb dX11_init_155 hl (k := 0) rfl (by decide) (by decide) rfl (fun ls hl => ?_)
  refine lv_goto (tgt := 137) hxx hb dX11_init_158 (by decide) ?_
  refine lv_iload_n hxx hb dX11_init_137 rfl (lv_at hl 0 rfl) ?_
  refine lv_iconst (v := 4) hxx hb dX11_init_138 (by decide) ?_
  refine lv_icmp_ge hxx hb dX11_init_139 (tgt := 161) (by decide) (fun q => absurd q (by decide)) (fun _ => ?_)
  refine lv_aload_n hxx hb dX11_init_142 rfl (lv_at hl 1 rfl) ?_
  refine b_get E (f := 3) b648 (show vwCl[10]? = some (RX11, TX11, 17) from rfl) q_inX11 (by decide) bw_445 rfl (v := .ref q22) rfl dX11_init_143 ?_
  refine lv_iload_n hxx hb dX11_init_146 rfl (lv_at hl 0 rfl) ?_
  refine b_new E S646 bw_28 bw_425 bw_13 (show vwCl[9]? = some (RX10, TX10, 3) from rfl) q_inX10 tyX10 tyX10_ok (Nat.le_of_ble_eq_true rfl) (Nat.le_of_ble_eq_true rfl) dX11_init_147 (fun q652 H653 e654 z655 o656 b657 S658 => ?_)
  have hq652 : h < q652 := by first | exact Nat.lt_of_lt_of_eq t649 e654.symm | omega
  have gg_q652 : s.heap.size ≤ q652 := Nat.le_trans S646.1 (Nat.le_of_eq e654.symm)
  have mm_q652 : q652 < H653.size := by rw [z655, e654]; exact Nat.lt_succ_self _
  have cc_q652 : q581 < q652 := by first | exact Nat.lt_of_lt_of_eq (Nat.lt_of_lt_of_le (Nat.lt_of_lt_of_le mm_q581 z603) (Nat.le_of_eq z643.symm)) e654.symm | omega
  try clear S646
  have w659 : q_w X596 σ597 H653 := w647.kept (fun a ha => o656 a (w647.lt ha))
  have b660 := b648.kept (o656 h t649)
  try clear b648
  have t661 := t_lt b660
  try clear t649
  have r662 := (o656 q22 (raw_lt r645)).trans r645
  try clear r645
  have r663 := (o656 q42 (raw_lt r650)).trans r650
  try clear r650
  have r664 := (o656 q183 (raw_lt r651)).trans r651
  try clear o656; try clear r651
  have k665 : q_kd X596 q652 = 0 := w647.fresh (Nat.le_of_eq e654.symm)
  try clear w647
  have g666 := S658.1
  refine lv_dup hxx hb dX11_init_150 rfl ?_
  have a677 : ∀ a, q_nw q652 H653.size a → q_nw h s.heap.size a := nw_in gg_q652 (Nat.le_trans gg_q652 (Nat.le_of_lt mm_q652))
  refine b_cv (b_runN (As := []) (rest := [.ref q652, .int 3, .ref q22]) E (hml.trans hl.1.symm) D607 w659 k665 b657 rfl (n_X10 l D X596 σ597 q652 H653.size) bi_X11_84 rfl ⟨Nat.le_of_ble_eq_true rfl, Nat.le_of_ble_eq_true rfl⟩ ⟨Nat.le_of_ble_eq_true rfl, Nat.le_of_ble_eq_true rfl⟩ rfl (Nat.le_of_ble_eq_true rfl) dX11_init_151) S658 rfl a677 (fun X667 σ668 H669 locs1 x670 k671 p672 w673 z674 o675 S676 => ?_)
  try clear k665; try clear w659; try clear S658; try clear b657
  have D678 : X667.1 = D := x670.1.trans D607
  try clear D607
  have k679 : q_kd X667 h = 0 := x670.k0 k608 (by first | exact (nw_no hq652 (Nat.lt_trans hq652 mm_q652)) | (rintro (e | e) <;> omega))
  try clear k608
  have b680 := b660.kept (o675 h t661 (by first | exact (Nat.ne_of_lt hq652) | omega))
  try clear b660
  have t681 := t_lt b680
  try clear t661
  have y682 := y611.tr p672.1.1 (fun c hc => by rw [(x612.2.2.2.1 c hc).1]; exact hc)
  try clear y611
  have x683 := x612.tr x670 a677
  try clear x612
  have r684 := (o675 q22 (raw_lt r662) (by first | exact (Nat.ne_of_lt (Nat.lt_trans (Nat.lt_trans (Nat.lt_trans (Nat.lt_trans (Nat.lt_trans (Nat.lt_trans (Nat.lt_trans (Nat.lt_trans (Nat.lt_trans (Nat.lt_trans (Nat.lt_trans cc_q42 cc_q91) cc_q136) cc_q183) cc_q217) cc_q270) cc_q325) cc_q382) cc_q451) cc_q514) cc_q581) cc_q652)) | omega)).trans r662
  have k685 : q_kd X667 q22 = 0 := x670.k0 k614 (by first | exact (nw_no (Nat.lt_trans (Nat.lt_trans (Nat.lt_trans (Nat.lt_trans (Nat.lt_trans (Nat.lt_trans (Nat.lt_trans (Nat.lt_trans (Nat.lt_trans (Nat.lt_trans (Nat.lt_trans cc_q42 cc_q91) cc_q136) cc_q183) cc_q217) cc_q270) cc_q325) cc_q382) cc_q451) cc_q514) cc_q581) cc_q652) (Nat.lt_trans (Nat.lt_trans (Nat.lt_trans (Nat.lt_trans (Nat.lt_trans (Nat.lt_trans (Nat.lt_trans (Nat.lt_trans (Nat.lt_trans (Nat.lt_trans (Nat.lt_trans (Nat.lt_trans cc_q42 cc_q91) cc_q136) cc_q183) cc_q217) cc_q270) cc_q325) cc_q382) cc_q451) cc_q514) cc_q581) cc_q652) mm_q652)) | (have := raw_lt r662; rintro (e | e) <;> omega))
  try clear r662; try clear k614
  have r686 := (o675 q42 (raw_lt r663) (by first | exact (Nat.ne_of_lt (Nat.lt_trans (Nat.lt_trans (Nat.lt_trans (Nat.lt_trans (Nat.lt_trans (Nat.lt_trans (Nat.lt_trans (Nat.lt_trans (Nat.lt_trans (Nat.lt_trans cc_q91 cc_q136) cc_q183) cc_q217) cc_q270) cc_q325) cc_q382) cc_q451) cc_q514) cc_q581) cc_q652)) | omega)).trans r663
  have k687 : q_kd X667 q42 = 0 := x670.k0 k616 (by first | exact (nw_no (Nat.lt_trans (Nat.lt_trans (Nat.lt_trans (Nat.lt_trans (Nat.lt_trans (Nat.lt_trans (Nat.lt_trans (Nat.lt_trans (Nat.lt_trans (Nat.lt_trans cc_q91 cc_q136) cc_q183) cc_q217) cc_q270) cc_q325) cc_q382) cc_q451) cc_q514) cc_q581) cc_q652) (Nat.lt_trans (Nat.lt_trans (Nat.lt_trans (Nat.lt_trans (Nat.lt_trans (Nat.lt_trans (Nat.lt_trans (Nat.lt_trans (Nat.lt_trans (Nat.lt_trans (Nat.lt_trans cc_q91 cc_q136) cc_q183) cc_q217) cc_q270) cc_q325) cc_q382) cc_q451) cc_q514) cc_q581) cc_q652) mm_q652)) | (have := raw_lt r663; rintro (e | e) <;> omega))
  try clear r663; try clear k616
  have r688 := (o675 q183 (raw_lt r664) (by first | exact (Nat.ne_of_lt (Nat.lt_trans (Nat.lt_trans (Nat.lt_trans (Nat.lt_trans (Nat.lt_trans (Nat.lt_trans (Nat.lt_trans cc_q217 cc_q270) cc_q325) cc_q382) cc_q451) cc_q514) cc_q581) cc_q652)) | omega)).trans r664
  try clear o675
  have k689 : q_kd X667 q183 = 0 := x670.k0 k618 (by first | exact (nw_no (Nat.lt_trans (Nat.lt_trans (Nat.lt_trans (Nat.lt_trans (Nat.lt_trans (Nat.lt_trans (Nat.lt_trans cc_q217 cc_q270) cc_q325) cc_q382) cc_q451) cc_q514) cc_q581) cc_q652) (Nat.lt_trans (Nat.lt_trans (Nat.lt_trans (Nat.lt_trans (Nat.lt_trans (Nat.lt_trans (Nat.lt_trans (Nat.lt_trans cc_q217 cc_q270) cc_q325) cc_q382) cc_q451) cc_q514) cc_q581) cc_q652) mm_q652)) | (have := raw_lt r664; rintro (e | e) <;> omega))
  try clear r664; try clear k618
  have k690 := x670.kd k619 (by decide)
  have k691 := x670.kd k620 (by decide)
  have k692 := x670.kd k621 (by decide)
  have k693 := x670.kd k622 (by decide)
  have k694 := x670.kd k623 (by decide)
  have k695 := x670.kd k624 (by decide)
  have k696 := x670.kd k625 (by decide)
  have k697 := x670.kd k626 (by decide)
  have k698 := x670.kd k600 (by decide)
  have y699 := p672.1.1 q91 (by rw [k619]; decide) y627
  try clear y627; try clear k619
  have y700 := p672.1.1 q136 (by rw [k620]; decide) y628
  try clear y628; try clear k620
  have y701 := p672.1.1 q217 (by rw [k621]; decide) y629
  try clear y629; try clear k621
  have y702 := p672.1.1 q270 (by rw [k622]; decide) y630
  try clear y630; try clear k622
  have y703 := p672.1.1 q325 (by rw [k623]; decide) y631
  try clear y631; try clear k623
  have y704 := p672.1.1 q382 (by rw [k624]; decide) y632
  try clear y632; try clear k624
  have y705 := p672.1.1 q451 (by rw [k625]; decide) y633
  try clear y633
  have y706 := p672.1.1 q514 (by rw [k626]; decide) y634
  try clear y634
  have y707 := p672.1.1 q581 (by rw [k600]; decide) y635
  try clear y635
  have y708 := p672.1.2
  have i709 : σ668.1 q451 0 = 0 := (q_exi x670 (by rw [k625]; decide)).trans i636
  try clear i636
  have i710 : σ668.1 q451 1 = -1 := (q_exi x670 (by rw [k625]; decide)).trans i637
  try clear i637; try clear k625
  have i711 : σ668.1 q514 0 = 0 := (q_exi x670 (by rw [k626]; decide)).trans i638
  try clear i638
  have i712 : σ668.1 q514 1 = -1 := (q_exi x670 (by rw [k626]; decide)).trans i639
  try clear i639; try clear k626
  have i713 : σ668.1 q581 0 = 0 := (q_exi x670 (by rw [k600]; decide)).trans i640
  try clear i640
  have i714 : σ668.1 q581 1 = -1 := (q_exi x670 (by rw [k600]; decide)).trans i641
  try clear x670; try clear i641; try clear k600
  have i715 : σ668.1 q652 0 = 0 := p672.2.1
  have i716 : σ668.1 q652 1 = -1 := p672.2.2
  try clear p672
  refine b_aast E S676 (t := 3) (Or.inr gg_q22) rfl (show vwCl[9]? = some (RX10, TX10, 3) from rfl) r684 (q_wcell D678 w673 k671 ⟨rfl, by decide⟩ (show vwCl[9]? = some (RX10, TX10, 3) from rfl)) (by decide) (by decide) dX11_init_154 (fun H717 locs1 z718 o719 r720 S721 => ?_)
  try clear r684; try clear S676
  have w722 : q_w X667 σ668 H717 := w673.kept (fun a ha => o719 a (fun e => ha (by rw [e]; exact k685)))
  try clear w673
  have b723 := b680.kept (o719 h (by first | exact (Nat.ne_of_lt hq22) | omega))
  try clear b680
  have t724 := t_lt b723
  try clear t681
  have r725 := (o719 q42 (by first | exact (Nat.ne_of_gt cc_q42) | omega)).trans r686
  try clear r686
  have r726 := (o719 q183 (by first | exact (Nat.ne_of_gt (Nat.lt_trans (Nat.lt_trans (Nat.lt_trans cc_q42 cc_q91) cc_q136) cc_q183)) | omega)).trans r688
  try clear o719; try clear r688
  refine lv_iinc (v := 4) (lv' := [(1, .int 4), (0, .ref h)]) hxx hb dX11_init_155 hl (k := 0) rfl (by decide) (by decide) rfl (fun ls hl => ?_)
  refine lv_goto (tgt := 137) hxx hb dX11_init_158 (by decide) ?_
  refine lv_iload_n hxx hb dX11_init_137 rfl (lv_at hl 0 rfl) ?_
  refine lv_iconst (v := 4) hxx hb dX11_init_138 (by decide) ?_
  refine lv_icmp_ge hxx hb dX11_init_139 (tgt := 161) (by decide) (fun _ => ?_) (fun q => absurd (by decide) q)
  refine lv_iconst (v := 0) hxx hb dX11_init_161 (by decide) ?_
  refine lv_istore_n (lv' := [(1, .int 0), (0, .ref h)]) hxx hb dX11_init_162 rfl hl (by decide) rfl (fun ls hl => ?_)
  refine lv_iload_n hxx hb dX11_init_163 rfl (lv_at hl 0 rfl) ?_
  refine lv_iconst (v := 3) hxx hb dX11_init_164 (by decide) ?_
  refine lv_icmp_ge hxx hb dX11_init_165 (tgt := 187) (by decide) (fun q => absurd q (by decide)) (fun _ => ?_)
  refine lv_aload_n hxx hb dX11_init_168 rfl (lv_at hl 1 rfl) ?_
  refine b_get E (f := 10) b723 (show vwCl[10]? = some (RX11, TX11, 17) from rfl) q_inX11 (by decide) bw_452 rfl (v := .ref q183) rfl dX11_init_169 ?_
  refine lv_iload_n hxx hb dX11_init_172 rfl (lv_at hl 0 rfl) ?_
  refine b_new E S721 bw_30 bw_31 bw_2 (show vwCl[0]? = some (RX0, TX0, 15) from rfl) q_inX0 tyX0 tyX0_ok (Nat.le_of_ble_eq_true rfl) (Nat.le_of_ble_eq_true rfl) dX11_init_173 (fun q727 H728 e729 z730 o731 b732 S733 => ?_)
  have hq727 : h < q727 := by first | exact Nat.lt_of_lt_of_eq t724 e729.symm | omega
  have gg_q727 : s.heap.size ≤ q727 := Nat.le_trans S721.1 (Nat.le_of_eq e729.symm)
  have mm_q727 : q727 < H728.size := by rw [z730, e729]; exact Nat.lt_succ_self _
  have cc_q727 : q652 < q727 := by first | exact Nat.lt_of_lt_of_eq (Nat.lt_of_lt_of_le (Nat.lt_of_lt_of_le mm_q652 z674) (Nat.le_of_eq z718.symm)) e729.symm | omega
  try clear S721
  have w734 : q_w X667 σ668 H728 := w722.kept (fun a ha => o731 a (w722.lt ha))
  have b735 := b723.kept (o731 h t724)
  try clear b723
  have t736 := t_lt b735
  try clear t724
  have r737 := (o731 q22 (raw_lt r720)).trans r720
  try clear r720
  have r738 := (o731 q42 (raw_lt r725)).trans r725
  try clear r725
  have r739 := (o731 q183 (raw_lt r726)).trans r726
  try clear o731; try clear r726
  have k740 : q_kd X667 q727 = 0 := w722.fresh (Nat.le_of_eq e729.symm)
  try clear w722
  have g741 := S733.1
  refine lv_dup hxx hb dX11_init_176 rfl ?_
  have a752 : ∀ a, q_nw q727 H728.size a → q_nw h s.heap.size a := nw_in gg_q727 (Nat.le_trans gg_q727 (Nat.le_of_lt mm_q727))
  refine b_cv (b_runN (As := []) (rest := [.ref q727, .int 0, .ref q183]) E (hml.trans hl.1.symm) D678 w734 k740 b732 rfl (n_X0 l D X667 σ668 q727 H728.size) bi_X11_41 rfl ⟨Nat.le_of_ble_eq_true rfl, Nat.le_of_ble_eq_true rfl⟩ ⟨Nat.le_of_ble_eq_true rfl, Nat.le_of_ble_eq_true rfl⟩ rfl (Nat.le_of_ble_eq_true rfl) dX11_init_177) S733 rfl a752 (fun X742 σ743 H744 locs1 x745 k746 p747 w748 z749 o750 S751 => ?_)
  try clear k740; try clear w734; try clear S733; try clear b732
  have D753 : X742.1 = D := x745.1.trans D678
  try clear D678
  have k754 : q_kd X742 h = 0 := x745.k0 k679 (by first | exact (nw_no hq727 (Nat.lt_trans hq727 mm_q727)) | (rintro (e | e) <;> omega))
  try clear k679
  have b755 := b735.kept (o750 h t736 (by first | exact (Nat.ne_of_lt hq727) | omega))
  try clear b735
  have t756 := t_lt b755
  try clear t736
  have y757 := y682.tr p747.1.1 (fun c hc => by rw [(x683.2.2.2.1 c hc).1]; exact hc)
  try clear y682
  have x758 := x683.tr x745 a752
  try clear x683
  have r759 := (o750 q22 (raw_lt r737) (by first | exact (Nat.ne_of_lt (Nat.lt_trans (Nat.lt_trans (Nat.lt_trans (Nat.lt_trans (Nat.lt_trans (Nat.lt_trans (Nat.lt_trans (Nat.lt_trans (Nat.lt_trans (Nat.lt_trans (Nat.lt_trans (Nat.lt_trans cc_q42 cc_q91) cc_q136) cc_q183) cc_q217) cc_q270) cc_q325) cc_q382) cc_q451) cc_q514) cc_q581) cc_q652) cc_q727)) | omega)).trans r737
  have k760 : q_kd X742 q22 = 0 := x745.k0 k685 (by first | exact (nw_no (Nat.lt_trans (Nat.lt_trans (Nat.lt_trans (Nat.lt_trans (Nat.lt_trans (Nat.lt_trans (Nat.lt_trans (Nat.lt_trans (Nat.lt_trans (Nat.lt_trans (Nat.lt_trans (Nat.lt_trans cc_q42 cc_q91) cc_q136) cc_q183) cc_q217) cc_q270) cc_q325) cc_q382) cc_q451) cc_q514) cc_q581) cc_q652) cc_q727) (Nat.lt_trans (Nat.lt_trans (Nat.lt_trans (Nat.lt_trans (Nat.lt_trans (Nat.lt_trans (Nat.lt_trans (Nat.lt_trans (Nat.lt_trans (Nat.lt_trans (Nat.lt_trans (Nat.lt_trans (Nat.lt_trans cc_q42 cc_q91) cc_q136) cc_q183) cc_q217) cc_q270) cc_q325) cc_q382) cc_q451) cc_q514) cc_q581) cc_q652) cc_q727) mm_q727)) | (have := raw_lt r737; rintro (e | e) <;> omega))
  try clear r737; try clear k685
  have r761 := (o750 q42 (raw_lt r738) (by first | exact (Nat.ne_of_lt (Nat.lt_trans (Nat.lt_trans (Nat.lt_trans (Nat.lt_trans (Nat.lt_trans (Nat.lt_trans (Nat.lt_trans (Nat.lt_trans (Nat.lt_trans (Nat.lt_trans (Nat.lt_trans cc_q91 cc_q136) cc_q183) cc_q217) cc_q270) cc_q325) cc_q382) cc_q451) cc_q514) cc_q581) cc_q652) cc_q727)) | omega)).trans r738
  have k762 : q_kd X742 q42 = 0 := x745.k0 k687 (by first | exact (nw_no (Nat.lt_trans (Nat.lt_trans (Nat.lt_trans (Nat.lt_trans (Nat.lt_trans (Nat.lt_trans (Nat.lt_trans (Nat.lt_trans (Nat.lt_trans (Nat.lt_trans (Nat.lt_trans cc_q91 cc_q136) cc_q183) cc_q217) cc_q270) cc_q325) cc_q382) cc_q451) cc_q514) cc_q581) cc_q652) cc_q727) (Nat.lt_trans (Nat.lt_trans (Nat.lt_trans (Nat.lt_trans (Nat.lt_trans (Nat.lt_trans (Nat.lt_trans (Nat.lt_trans (Nat.lt_trans (Nat.lt_trans (Nat.lt_trans (Nat.lt_trans cc_q91 cc_q136) cc_q183) cc_q217) cc_q270) cc_q325) cc_q382) cc_q451) cc_q514) cc_q581) cc_q652) cc_q727) mm_q727)) | (have := raw_lt r738; rintro (e | e) <;> omega))
  try clear r738; try clear k687
  have r763 := (o750 q183 (raw_lt r739) (by first | exact (Nat.ne_of_lt (Nat.lt_trans (Nat.lt_trans (Nat.lt_trans (Nat.lt_trans (Nat.lt_trans (Nat.lt_trans (Nat.lt_trans (Nat.lt_trans cc_q217 cc_q270) cc_q325) cc_q382) cc_q451) cc_q514) cc_q581) cc_q652) cc_q727)) | omega)).trans r739
  try clear o750
  have k764 : q_kd X742 q183 = 0 := x745.k0 k689 (by first | exact (nw_no (Nat.lt_trans (Nat.lt_trans (Nat.lt_trans (Nat.lt_trans (Nat.lt_trans (Nat.lt_trans (Nat.lt_trans (Nat.lt_trans cc_q217 cc_q270) cc_q325) cc_q382) cc_q451) cc_q514) cc_q581) cc_q652) cc_q727) (Nat.lt_trans (Nat.lt_trans (Nat.lt_trans (Nat.lt_trans (Nat.lt_trans (Nat.lt_trans (Nat.lt_trans (Nat.lt_trans (Nat.lt_trans cc_q217 cc_q270) cc_q325) cc_q382) cc_q451) cc_q514) cc_q581) cc_q652) cc_q727) mm_q727)) | (have := raw_lt r739; rintro (e | e) <;> omega))
  try clear r739; try clear k689
  have k765 := x745.kd k690 (by decide)
  have k766 := x745.kd k691 (by decide)
  have k767 := x745.kd k692 (by decide)
  have k768 := x745.kd k693 (by decide)
  have k769 := x745.kd k694 (by decide)
  have k770 := x745.kd k695 (by decide)
  have k771 := x745.kd k696 (by decide)
  have k772 := x745.kd k697 (by decide)
  have k773 := x745.kd k698 (by decide)
  have k774 := x745.kd k671 (by decide)
  have y775 := p747.1.1 q91 (by rw [k690]; decide) y699
  try clear y699; try clear k690
  have y776 := p747.1.1 q136 (by rw [k691]; decide) y700
  try clear y700; try clear k691
  have y777 := p747.1.1 q217 (by rw [k692]; decide) y701
  try clear y701; try clear k692
  have y778 := p747.1.1 q270 (by rw [k693]; decide) y702
  try clear y702; try clear k693
  have y779 := p747.1.1 q325 (by rw [k694]; decide) y703
  try clear y703; try clear k694
  have y780 := p747.1.1 q382 (by rw [k695]; decide) y704
  try clear y704; try clear k695
  have y781 := p747.1.1 q451 (by rw [k696]; decide) y705
  try clear y705
  have y782 := p747.1.1 q514 (by rw [k697]; decide) y706
  try clear y706
  have y783 := p747.1.1 q581 (by rw [k698]; decide) y707
  try clear y707
  have y784 := p747.1.1 q652 (by rw [k671]; decide) y708
  try clear y708
  have y785 := p747.1.2
  try clear p747
  have i786 : σ743.1 q451 0 = 0 := (q_exi x745 (by rw [k696]; decide)).trans i709
  try clear i709
  have i787 : σ743.1 q451 1 = -1 := (q_exi x745 (by rw [k696]; decide)).trans i710
  try clear i710; try clear k696
  have i788 : σ743.1 q514 0 = 0 := (q_exi x745 (by rw [k697]; decide)).trans i711
  try clear i711
  have i789 : σ743.1 q514 1 = -1 := (q_exi x745 (by rw [k697]; decide)).trans i712
  try clear i712; try clear k697
  have i790 : σ743.1 q581 0 = 0 := (q_exi x745 (by rw [k698]; decide)).trans i713
  try clear i713
  have i791 : σ743.1 q581 1 = -1 := (q_exi x745 (by rw [k698]; decide)).trans i714
  try clear i714; try clear k698
  have i792 : σ743.1 q652 0 = 0 := (q_exi x745 (by rw [k671]; decide)).trans i715
  try clear i715
  have i793 : σ743.1 q652 1 = -1 := (q_exi x745 (by rw [k671]; decide)).trans i716
  try clear x745; try clear i716; try clear k671
  refine b_aast E S751 (t := 4) (Or.inr gg_q183) rfl (show vwCl[0]? = some (RX0, TX0, 15) from rfl) r763 (q_wcell D753 w748 k746 ⟨rfl, by decide⟩ (show vwCl[0]? = some (RX0, TX0, 15) from rfl)) (by decide) (by decide) dX11_init_180 (fun H794 locs1 z795 o796 r797 S798 => ?_)
  try clear r763; try clear S751
  have w799 : q_w X742 σ743 H794 := w748.kept (fun a ha => o796 a (fun e => ha (by rw [e]; exact k764)))
  try clear w748
  have b800 := b755.kept (o796 h (by first | exact (Nat.ne_of_lt hq183) | omega))
  try clear b755
  have t801 := t_lt b800
  try clear t756
  have r802 := (o796 q22 (by first | exact (Nat.ne_of_lt (Nat.lt_trans (Nat.lt_trans (Nat.lt_trans cc_q42 cc_q91) cc_q136) cc_q183)) | omega)).trans r759
  try clear r759
  have r803 := (o796 q42 (by first | exact (Nat.ne_of_lt (Nat.lt_trans (Nat.lt_trans cc_q91 cc_q136) cc_q183)) | omega)).trans r761
  try clear o796; try clear r761
  refine lv_iinc (v := 1) (lv' := [(1, .int 1), (0, .ref h)]) hxx hb dX11_init_181 hl (k := 0) rfl (by decide) (by decide) rfl (fun ls hl => ?_)
  refine lv_goto (tgt := 163) hxx hb dX11_init_184 (by decide) ?_
  refine lv_iload_n hxx hb dX11_init_163 rfl (lv_at hl 0 rfl) ?_
  refine lv_iconst (v := 3) hxx hb dX11_init_164 (by decide) ?_
  refine lv_icmp_ge hxx hb dX11_init_165 (tgt := 187) (by decide) (fun q => absurd q (by decide)) (fun _ => ?_)
  refine lv_aload_n hxx hb dX11_init_168 rfl (lv_at hl 1 rfl) ?_
  refine b_get E (f := 10) b800 (show vwCl[10]? = some (RX11, TX11, 17) from rfl) q_inX11 (by decide) bw_452 rfl (v := .ref q183) rfl dX11_init_169 ?_
  refine lv_iload_n hxx hb dX11_init_172 rfl (lv_at hl 0 rfl) ?_
  refine b_new E S798 bw_30 bw_31 bw_2 (show vwCl[0]? = some (RX0, TX0, 15) from rfl) q_inX0 tyX0 tyX0_ok (Nat.le_of_ble_eq_true rfl) (Nat.le_of_ble_eq_true rfl) dX11_init_173 (fun q804 H805 e806 z807 o808 b809 S810 => ?_)
  have hq804 : h < q804 := by first | exact Nat.lt_of_lt_of_eq t801 e806.symm | omega
  have gg_q804 : s.heap.size ≤ q804 := Nat.le_trans S798.1 (Nat.le_of_eq e806.symm)
  have mm_q804 : q804 < H805.size := by rw [z807, e806]; exact Nat.lt_succ_self _
  have cc_q804 : q727 < q804 := by first | exact Nat.lt_of_lt_of_eq (Nat.lt_of_lt_of_le (Nat.lt_of_lt_of_le mm_q727 z749) (Nat.le_of_eq z795.symm)) e806.symm | omega
  try clear S798
  have w811 : q_w X742 σ743 H805 := w799.kept (fun a ha => o808 a (w799.lt ha))
  have b812 := b800.kept (o808 h t801)
  try clear b800
  have t813 := t_lt b812
  try clear t801
  have r814 := (o808 q22 (raw_lt r802)).trans r802
  try clear r802
  have r815 := (o808 q42 (raw_lt r803)).trans r803
  try clear r803
  have r816 := (o808 q183 (raw_lt r797)).trans r797
  try clear o808; try clear r797
  have k817 : q_kd X742 q804 = 0 := w799.fresh (Nat.le_of_eq e806.symm)
  try clear w799
  have g818 := S810.1
  refine lv_dup hxx hb dX11_init_176 rfl ?_
  have a829 : ∀ a, q_nw q804 H805.size a → q_nw h s.heap.size a := nw_in gg_q804 (Nat.le_trans gg_q804 (Nat.le_of_lt mm_q804))
  refine b_cv (b_runN (As := []) (rest := [.ref q804, .int 1, .ref q183]) E (hml.trans hl.1.symm) D753 w811 k817 b809 rfl (n_X0 l D X742 σ743 q804 H805.size) bi_X11_41 rfl ⟨Nat.le_of_ble_eq_true rfl, Nat.le_of_ble_eq_true rfl⟩ ⟨Nat.le_of_ble_eq_true rfl, Nat.le_of_ble_eq_true rfl⟩ rfl (Nat.le_of_ble_eq_true rfl) dX11_init_177) S810 rfl a829 (fun X819 σ820 H821 locs1 x822 k823 p824 w825 z826 o827 S828 => ?_)
  try clear k817; try clear w811; try clear S810; try clear b809
  have D830 : X819.1 = D := x822.1.trans D753
  try clear D753
  have k831 : q_kd X819 h = 0 := x822.k0 k754 (by first | exact (nw_no hq804 (Nat.lt_trans hq804 mm_q804)) | (rintro (e | e) <;> omega))
  try clear k754
  have b832 := b812.kept (o827 h t813 (by first | exact (Nat.ne_of_lt hq804) | omega))
  try clear b812
  have t833 := t_lt b832
  try clear t813
  have y834 := y757.tr p824.1.1 (fun c hc => by rw [(x758.2.2.2.1 c hc).1]; exact hc)
  try clear y757
  have x835 := x758.tr x822 a829
  try clear x758
  have r836 := (o827 q22 (raw_lt r814) (by first | exact (Nat.ne_of_lt (Nat.lt_trans (Nat.lt_trans (Nat.lt_trans (Nat.lt_trans (Nat.lt_trans (Nat.lt_trans (Nat.lt_trans (Nat.lt_trans (Nat.lt_trans (Nat.lt_trans (Nat.lt_trans (Nat.lt_trans (Nat.lt_trans cc_q42 cc_q91) cc_q136) cc_q183) cc_q217) cc_q270) cc_q325) cc_q382) cc_q451) cc_q514) cc_q581) cc_q652) cc_q727) cc_q804)) | omega)).trans r814
  have k837 : q_kd X819 q22 = 0 := x822.k0 k760 (by first | exact (nw_no (Nat.lt_trans (Nat.lt_trans (Nat.lt_trans (Nat.lt_trans (Nat.lt_trans (Nat.lt_trans (Nat.lt_trans (Nat.lt_trans (Nat.lt_trans (Nat.lt_trans (Nat.lt_trans (Nat.lt_trans (Nat.lt_trans cc_q42 cc_q91) cc_q136) cc_q183) cc_q217) cc_q270) cc_q325) cc_q382) cc_q451) cc_q514) cc_q581) cc_q652) cc_q727) cc_q804) (Nat.lt_trans (Nat.lt_trans (Nat.lt_trans (Nat.lt_trans (Nat.lt_trans (Nat.lt_trans (Nat.lt_trans (Nat.lt_trans (Nat.lt_trans (Nat.lt_trans (Nat.lt_trans (Nat.lt_trans (Nat.lt_trans (Nat.lt_trans cc_q42 cc_q91) cc_q136) cc_q183) cc_q217) cc_q270) cc_q325) cc_q382) cc_q451) cc_q514) cc_q581) cc_q652) cc_q727) cc_q804) mm_q804)) | (have := raw_lt r814; rintro (e | e) <;> omega))
  try clear r814; try clear k760
  have r838 := (o827 q42 (raw_lt r815) (by first | exact (Nat.ne_of_lt (Nat.lt_trans (Nat.lt_trans (Nat.lt_trans (Nat.lt_trans (Nat.lt_trans (Nat.lt_trans (Nat.lt_trans (Nat.lt_trans (Nat.lt_trans (Nat.lt_trans (Nat.lt_trans (Nat.lt_trans cc_q91 cc_q136) cc_q183) cc_q217) cc_q270) cc_q325) cc_q382) cc_q451) cc_q514) cc_q581) cc_q652) cc_q727) cc_q804)) | omega)).trans r815
  have k839 : q_kd X819 q42 = 0 := x822.k0 k762 (by first | exact (nw_no (Nat.lt_trans (Nat.lt_trans (Nat.lt_trans (Nat.lt_trans (Nat.lt_trans (Nat.lt_trans (Nat.lt_trans (Nat.lt_trans (Nat.lt_trans (Nat.lt_trans (Nat.lt_trans (Nat.lt_trans cc_q91 cc_q136) cc_q183) cc_q217) cc_q270) cc_q325) cc_q382) cc_q451) cc_q514) cc_q581) cc_q652) cc_q727) cc_q804) (Nat.lt_trans (Nat.lt_trans (Nat.lt_trans (Nat.lt_trans (Nat.lt_trans (Nat.lt_trans (Nat.lt_trans (Nat.lt_trans (Nat.lt_trans (Nat.lt_trans (Nat.lt_trans (Nat.lt_trans (Nat.lt_trans cc_q91 cc_q136) cc_q183) cc_q217) cc_q270) cc_q325) cc_q382) cc_q451) cc_q514) cc_q581) cc_q652) cc_q727) cc_q804) mm_q804)) | (have := raw_lt r815; rintro (e | e) <;> omega))
  try clear r815; try clear k762
  have r840 := (o827 q183 (raw_lt r816) (by first | exact (Nat.ne_of_lt (Nat.lt_trans (Nat.lt_trans (Nat.lt_trans (Nat.lt_trans (Nat.lt_trans (Nat.lt_trans (Nat.lt_trans (Nat.lt_trans (Nat.lt_trans cc_q217 cc_q270) cc_q325) cc_q382) cc_q451) cc_q514) cc_q581) cc_q652) cc_q727) cc_q804)) | omega)).trans r816
  try clear o827
  have k841 : q_kd X819 q183 = 0 := x822.k0 k764 (by first | exact (nw_no (Nat.lt_trans (Nat.lt_trans (Nat.lt_trans (Nat.lt_trans (Nat.lt_trans (Nat.lt_trans (Nat.lt_trans (Nat.lt_trans (Nat.lt_trans cc_q217 cc_q270) cc_q325) cc_q382) cc_q451) cc_q514) cc_q581) cc_q652) cc_q727) cc_q804) (Nat.lt_trans (Nat.lt_trans (Nat.lt_trans (Nat.lt_trans (Nat.lt_trans (Nat.lt_trans (Nat.lt_trans (Nat.lt_trans (Nat.lt_trans (Nat.lt_trans cc_q217 cc_q270) cc_q325) cc_q382) cc_q451) cc_q514) cc_q581) cc_q652) cc_q727) cc_q804) mm_q804)) | (have := raw_lt r816; rintro (e | e) <;> omega))
  try clear r816; try clear k764
  have k842 := x822.kd k765 (by decide)
  have k843 := x822.kd k766 (by decide)
  have k844 := x822.kd k767 (by decide)
  have k845 := x822.kd k768 (by decide)
  have k846 := x822.kd k769 (by decide)
  have k847 := x822.kd k770 (by decide)
  have k848 := x822.kd k771 (by decide)
  have k849 := x822.kd k772 (by decide)
  have k850 := x822.kd k773 (by decide)
  have k851 := x822.kd k774 (by decide)
  have k852 := x822.kd k746 (by decide)
  have y853 := p824.1.1 q91 (by rw [k765]; decide) y775
  try clear y775; try clear k765
  have y854 := p824.1.1 q136 (by rw [k766]; decide) y776
  try clear y776; try clear k766
  have y855 := p824.1.1 q217 (by rw [k767]; decide) y777
  try clear y777; try clear k767
  have y856 := p824.1.1 q270 (by rw [k768]; decide) y778
  try clear y778; try clear k768
  have y857 := p824.1.1 q325 (by rw [k769]; decide) y779
  try clear y779; try clear k769
  have y858 := p824.1.1 q382 (by rw [k770]; decide) y780
  try clear y780; try clear k770
  have y859 := p824.1.1 q451 (by rw [k771]; decide) y781
  try clear y781
  have y860 := p824.1.1 q514 (by rw [k772]; decide) y782
  try clear y782
  have y861 := p824.1.1 q581 (by rw [k773]; decide) y783
  try clear y783
  have y862 := p824.1.1 q652 (by rw [k774]; decide) y784
  try clear y784
  have y863 := p824.1.1 q727 (by rw [k746]; decide) y785
  try clear y785; try clear k746
  have y864 := p824.1.2
  try clear p824
  have i865 : σ820.1 q451 0 = 0 := (q_exi x822 (by rw [k771]; decide)).trans i786
  try clear i786
  have i866 : σ820.1 q451 1 = -1 := (q_exi x822 (by rw [k771]; decide)).trans i787
  try clear i787; try clear k771
  have i867 : σ820.1 q514 0 = 0 := (q_exi x822 (by rw [k772]; decide)).trans i788
  try clear i788
  have i868 : σ820.1 q514 1 = -1 := (q_exi x822 (by rw [k772]; decide)).trans i789
  try clear i789; try clear k772
  have i869 : σ820.1 q581 0 = 0 := (q_exi x822 (by rw [k773]; decide)).trans i790
  try clear i790
  have i870 : σ820.1 q581 1 = -1 := (q_exi x822 (by rw [k773]; decide)).trans i791
  try clear i791; try clear k773
  have i871 : σ820.1 q652 0 = 0 := (q_exi x822 (by rw [k774]; decide)).trans i792
  try clear i792
  have i872 : σ820.1 q652 1 = -1 := (q_exi x822 (by rw [k774]; decide)).trans i793
  try clear x822; try clear i793; try clear k774
  refine b_aast E S828 (t := 4) (Or.inr gg_q183) rfl (show vwCl[0]? = some (RX0, TX0, 15) from rfl) r840 (q_wcell D830 w825 k823 ⟨rfl, by decide⟩ (show vwCl[0]? = some (RX0, TX0, 15) from rfl)) (by decide) (by decide) dX11_init_180 (fun H873 locs1 z874 o875 r876 S877 => ?_)
  try clear r840; try clear S828
  have w878 : q_w X819 σ820 H873 := w825.kept (fun a ha => o875 a (fun e => ha (by rw [e]; exact k841)))
  try clear w825
  have b879 := b832.kept (o875 h (by first | exact (Nat.ne_of_lt hq183) | omega))
  try clear b832
  have t880 := t_lt b879
  try clear t833
  have r881 := (o875 q22 (by first | exact (Nat.ne_of_lt (Nat.lt_trans (Nat.lt_trans (Nat.lt_trans cc_q42 cc_q91) cc_q136) cc_q183)) | omega)).trans r836
  try clear r836
  have r882 := (o875 q42 (by first | exact (Nat.ne_of_lt (Nat.lt_trans (Nat.lt_trans cc_q91 cc_q136) cc_q183)) | omega)).trans r838
  try clear o875; try clear r838
  refine lv_iinc (v := 2) (lv' := [(1, .int 2), (0, .ref h)]) hxx hb dX11_init_181 hl (k := 0) rfl (by decide) (by decide) rfl (fun ls hl => ?_)
  refine lv_goto (tgt := 163) hxx hb dX11_init_184 (by decide) ?_
  refine lv_iload_n hxx hb dX11_init_163 rfl (lv_at hl 0 rfl) ?_
  refine lv_iconst (v := 3) hxx hb dX11_init_164 (by decide) ?_
  refine lv_icmp_ge hxx hb dX11_init_165 (tgt := 187) (by decide) (fun q => absurd q (by decide)) (fun _ => ?_)
  refine lv_aload_n hxx hb dX11_init_168 rfl (lv_at hl 1 rfl) ?_
  refine b_get E (f := 10) b879 (show vwCl[10]? = some (RX11, TX11, 17) from rfl) q_inX11 (by decide) bw_452 rfl (v := .ref q183) rfl dX11_init_169 ?_
  refine lv_iload_n hxx hb dX11_init_172 rfl (lv_at hl 0 rfl) ?_
  refine b_new E S877 bw_30 bw_31 bw_2 (show vwCl[0]? = some (RX0, TX0, 15) from rfl) q_inX0 tyX0 tyX0_ok (Nat.le_of_ble_eq_true rfl) (Nat.le_of_ble_eq_true rfl) dX11_init_173 (fun q883 H884 e885 z886 o887 b888 S889 => ?_)
  have hq883 : h < q883 := by first | exact Nat.lt_of_lt_of_eq t880 e885.symm | omega
  have gg_q883 : s.heap.size ≤ q883 := Nat.le_trans S877.1 (Nat.le_of_eq e885.symm)
  have mm_q883 : q883 < H884.size := by rw [z886, e885]; exact Nat.lt_succ_self _
  have cc_q883 : q804 < q883 := by first | exact Nat.lt_of_lt_of_eq (Nat.lt_of_lt_of_le (Nat.lt_of_lt_of_le mm_q804 z826) (Nat.le_of_eq z874.symm)) e885.symm | omega
  try clear S877
  have w890 : q_w X819 σ820 H884 := w878.kept (fun a ha => o887 a (w878.lt ha))
  have b891 := b879.kept (o887 h t880)
  try clear b879
  have t892 := t_lt b891
  try clear t880
  have r893 := (o887 q22 (raw_lt r881)).trans r881
  try clear r881
  have r894 := (o887 q42 (raw_lt r882)).trans r882
  try clear r882
  have r895 := (o887 q183 (raw_lt r876)).trans r876
  try clear o887; try clear r876
  have k896 : q_kd X819 q883 = 0 := w878.fresh (Nat.le_of_eq e885.symm)
  try clear w878
  have g897 := S889.1
  refine lv_dup hxx hb dX11_init_176 rfl ?_
  have a908 : ∀ a, q_nw q883 H884.size a → q_nw h s.heap.size a := nw_in gg_q883 (Nat.le_trans gg_q883 (Nat.le_of_lt mm_q883))
  refine b_cv (b_runN (As := []) (rest := [.ref q883, .int 2, .ref q183]) E (hml.trans hl.1.symm) D830 w890 k896 b888 rfl (n_X0 l D X819 σ820 q883 H884.size) bi_X11_41 rfl ⟨Nat.le_of_ble_eq_true rfl, Nat.le_of_ble_eq_true rfl⟩ ⟨Nat.le_of_ble_eq_true rfl, Nat.le_of_ble_eq_true rfl⟩ rfl (Nat.le_of_ble_eq_true rfl) dX11_init_177) S889 rfl a908 (fun X898 σ899 H900 locs1 x901 k902 p903 w904 z905 o906 S907 => ?_)
  try clear k896; try clear w890; try clear S889; try clear b888
  have D909 : X898.1 = D := x901.1.trans D830
  try clear D830
  have k910 : q_kd X898 h = 0 := x901.k0 k831 (by first | exact (nw_no hq883 (Nat.lt_trans hq883 mm_q883)) | (rintro (e | e) <;> omega))
  try clear k831
  have b911 := b891.kept (o906 h t892 (by first | exact (Nat.ne_of_lt hq883) | omega))
  try clear b891
  have t912 := t_lt b911
  try clear t892
  have y913 := y834.tr p903.1.1 (fun c hc => by rw [(x835.2.2.2.1 c hc).1]; exact hc)
  try clear y834
  have x914 := x835.tr x901 a908
  try clear x835
  have r915 := (o906 q22 (raw_lt r893) (by first | exact (Nat.ne_of_lt (Nat.lt_trans (Nat.lt_trans (Nat.lt_trans (Nat.lt_trans (Nat.lt_trans (Nat.lt_trans (Nat.lt_trans (Nat.lt_trans (Nat.lt_trans (Nat.lt_trans (Nat.lt_trans (Nat.lt_trans (Nat.lt_trans (Nat.lt_trans cc_q42 cc_q91) cc_q136) cc_q183) cc_q217) cc_q270) cc_q325) cc_q382) cc_q451) cc_q514) cc_q581) cc_q652) cc_q727) cc_q804) cc_q883)) | omega)).trans r893
  have k916 : q_kd X898 q22 = 0 := x901.k0 k837 (by first | exact (nw_no (Nat.lt_trans (Nat.lt_trans (Nat.lt_trans (Nat.lt_trans (Nat.lt_trans (Nat.lt_trans (Nat.lt_trans (Nat.lt_trans (Nat.lt_trans (Nat.lt_trans (Nat.lt_trans (Nat.lt_trans (Nat.lt_trans (Nat.lt_trans cc_q42 cc_q91) cc_q136) cc_q183) cc_q217) cc_q270) cc_q325) cc_q382) cc_q451) cc_q514) cc_q581) cc_q652) cc_q727) cc_q804) cc_q883) (Nat.lt_trans (Nat.lt_trans (Nat.lt_trans (Nat.lt_trans (Nat.lt_trans (Nat.lt_trans (Nat.lt_trans (Nat.lt_trans (Nat.lt_trans (Nat.lt_trans (Nat.lt_trans (Nat.lt_trans (Nat.lt_trans (Nat.lt_trans (Nat.lt_trans cc_q42 cc_q91) cc_q136) cc_q183) cc_q217) cc_q270) cc_q325) cc_q382) cc_q451) cc_q514) cc_q581) cc_q652) cc_q727) cc_q804) cc_q883) mm_q883)) | (have := raw_lt r893; rintro (e | e) <;> omega))
  try clear r893; try clear k837
  have r917 := (o906 q42 (raw_lt r894) (by first | exact (Nat.ne_of_lt (Nat.lt_trans (Nat.lt_trans (Nat.lt_trans (Nat.lt_trans (Nat.lt_trans (Nat.lt_trans (Nat.lt_trans (Nat.lt_trans (Nat.lt_trans (Nat.lt_trans (Nat.lt_trans (Nat.lt_trans (Nat.lt_trans cc_q91 cc_q136) cc_q183) cc_q217) cc_q270) cc_q325) cc_q382) cc_q451) cc_q514) cc_q581) cc_q652) cc_q727) cc_q804) cc_q883)) | omega)).trans r894
  have k918 : q_kd X898 q42 = 0 := x901.k0 k839 (by first | exact (nw_no (Nat.lt_trans (Nat.lt_trans (Nat.lt_trans (Nat.lt_trans (Nat.lt_trans (Nat.lt_trans (Nat.lt_trans (Nat.lt_trans (Nat.lt_trans (Nat.lt_trans (Nat.lt_trans (Nat.lt_trans (Nat.lt_trans cc_q91 cc_q136) cc_q183) cc_q217) cc_q270) cc_q325) cc_q382) cc_q451) cc_q514) cc_q581) cc_q652) cc_q727) cc_q804) cc_q883) (Nat.lt_trans (Nat.lt_trans (Nat.lt_trans (Nat.lt_trans (Nat.lt_trans (Nat.lt_trans (Nat.lt_trans (Nat.lt_trans (Nat.lt_trans (Nat.lt_trans (Nat.lt_trans (Nat.lt_trans (Nat.lt_trans (Nat.lt_trans cc_q91 cc_q136) cc_q183) cc_q217) cc_q270) cc_q325) cc_q382) cc_q451) cc_q514) cc_q581) cc_q652) cc_q727) cc_q804) cc_q883) mm_q883)) | (have := raw_lt r894; rintro (e | e) <;> omega))
  try clear r894; try clear k839
  have r919 := (o906 q183 (raw_lt r895) (by first | exact (Nat.ne_of_lt (Nat.lt_trans (Nat.lt_trans (Nat.lt_trans (Nat.lt_trans (Nat.lt_trans (Nat.lt_trans (Nat.lt_trans (Nat.lt_trans (Nat.lt_trans (Nat.lt_trans cc_q217 cc_q270) cc_q325) cc_q382) cc_q451) cc_q514) cc_q581) cc_q652) cc_q727) cc_q804) cc_q883)) | omega)).trans r895
  try clear o906
  have k920 : q_kd X898 q183 = 0 := x901.k0 k841 (by first | exact (nw_no (Nat.lt_trans (Nat.lt_trans (Nat.lt_trans (Nat.lt_trans (Nat.lt_trans (Nat.lt_trans (Nat.lt_trans (Nat.lt_trans (Nat.lt_trans (Nat.lt_trans cc_q217 cc_q270) cc_q325) cc_q382) cc_q451) cc_q514) cc_q581) cc_q652) cc_q727) cc_q804) cc_q883) (Nat.lt_trans (Nat.lt_trans (Nat.lt_trans (Nat.lt_trans (Nat.lt_trans (Nat.lt_trans (Nat.lt_trans (Nat.lt_trans (Nat.lt_trans (Nat.lt_trans (Nat.lt_trans cc_q217 cc_q270) cc_q325) cc_q382) cc_q451) cc_q514) cc_q581) cc_q652) cc_q727) cc_q804) cc_q883) mm_q883)) | (have := raw_lt r895; rintro (e | e) <;> omega))
  try clear r895; try clear k841
  have k921 := x901.kd k842 (by decide)
  have k922 := x901.kd k843 (by decide)
  have k923 := x901.kd k844 (by decide)
  have k924 := x901.kd k845 (by decide)
  have k925 := x901.kd k846 (by decide)
  have k926 := x901.kd k847 (by decide)
  have k927 := x901.kd k848 (by decide)
  have k928 := x901.kd k849 (by decide)
  have k929 := x901.kd k850 (by decide)
  have k930 := x901.kd k851 (by decide)
  have k931 := x901.kd k852 (by decide)
  have k932 := x901.kd k823 (by decide)
  have y933 := p903.1.1 q91 (by rw [k842]; decide) y853
  try clear y853; try clear k842
  have y934 := p903.1.1 q136 (by rw [k843]; decide) y854
  try clear y854; try clear k843
  have y935 := p903.1.1 q217 (by rw [k844]; decide) y855
  try clear y855; try clear k844
  have y936 := p903.1.1 q270 (by rw [k845]; decide) y856
  try clear y856; try clear k845
  have y937 := p903.1.1 q325 (by rw [k846]; decide) y857
  try clear y857; try clear k846
  have y938 := p903.1.1 q382 (by rw [k847]; decide) y858
  try clear y858; try clear k847
  have y939 := p903.1.1 q451 (by rw [k848]; decide) y859
  try clear y859
  have y940 := p903.1.1 q514 (by rw [k849]; decide) y860
  try clear y860
  have y941 := p903.1.1 q581 (by rw [k850]; decide) y861
  try clear y861
  have y942 := p903.1.1 q652 (by rw [k851]; decide) y862
  try clear y862
  have y943 := p903.1.1 q727 (by rw [k852]; decide) y863
  try clear y863; try clear k852
  have y944 := p903.1.1 q804 (by rw [k823]; decide) y864
  try clear y864; try clear k823
  have y945 := p903.1.2
  try clear p903
  have i946 : σ899.1 q451 0 = 0 := (q_exi x901 (by rw [k848]; decide)).trans i865
  try clear i865
  have i947 : σ899.1 q451 1 = -1 := (q_exi x901 (by rw [k848]; decide)).trans i866
  try clear i866; try clear k848
  have i948 : σ899.1 q514 0 = 0 := (q_exi x901 (by rw [k849]; decide)).trans i867
  try clear i867
  have i949 : σ899.1 q514 1 = -1 := (q_exi x901 (by rw [k849]; decide)).trans i868
  try clear i868; try clear k849
  have i950 : σ899.1 q581 0 = 0 := (q_exi x901 (by rw [k850]; decide)).trans i869
  try clear i869
  have i951 : σ899.1 q581 1 = -1 := (q_exi x901 (by rw [k850]; decide)).trans i870
  try clear i870; try clear k850
  have i952 : σ899.1 q652 0 = 0 := (q_exi x901 (by rw [k851]; decide)).trans i871
  try clear i871
  have i953 : σ899.1 q652 1 = -1 := (q_exi x901 (by rw [k851]; decide)).trans i872
  try clear x901; try clear i872; try clear k851
  refine b_aast E S907 (t := 4) (Or.inr gg_q183) rfl (show vwCl[0]? = some (RX0, TX0, 15) from rfl) r919 (q_wcell D909 w904 k902 ⟨rfl, by decide⟩ (show vwCl[0]? = some (RX0, TX0, 15) from rfl)) (by decide) (by decide) dX11_init_180 (fun H954 locs1 z955 o956 r957 S958 => ?_)
  try clear r919; try clear S907
  have w959 : q_w X898 σ899 H954 := w904.kept (fun a ha => o956 a (fun e => ha (by rw [e]; exact k920)))
  try clear w904
  have b960 := b911.kept (o956 h (by first | exact (Nat.ne_of_lt hq183) | omega))
  try clear b911
  have t961 := t_lt b960
  try clear t912
  have r962 := (o956 q22 (by first | exact (Nat.ne_of_lt (Nat.lt_trans (Nat.lt_trans (Nat.lt_trans cc_q42 cc_q91) cc_q136) cc_q183)) | omega)).trans r915
  try clear r915
  have r963 := (o956 q42 (by first | exact (Nat.ne_of_lt (Nat.lt_trans (Nat.lt_trans cc_q91 cc_q136) cc_q183)) | omega)).trans r917
  try clear o956; try clear r917
  refine lv_iinc (v := 3) (lv' := [(1, .int 3), (0, .ref h)]) hxx hb dX11_init_181 hl (k := 0) rfl (by decide) (by decide) rfl (fun ls hl => ?_)
  refine lv_goto (tgt := 163) hxx hb dX11_init_184 (by decide) ?_
  refine lv_iload_n hxx hb dX11_init_163 rfl (lv_at hl 0 rfl) ?_
  refine lv_iconst (v := 3) hxx hb dX11_init_164 (by decide) ?_
  refine lv_icmp_ge hxx hb dX11_init_165 (tgt := 187) (by decide) (fun _ => ?_) (fun q => absurd (by decide) q)
  have y968 := raw_lt r962
  try clear y968
  obtain ⟨X964, dX964⟩ : ∃ Y, Y = q_xg X898 q22 23 4 (fun j => ([q451, q514, q581, q652] : List Nat).getD j 0) := ⟨_, rfl⟩
  obtain ⟨σ965, dσ965⟩ : ∃ τ, τ = q_sg σ899 q22 (fun _ => 0) (fun _ => 0) 0 := ⟨_, rfl⟩
  have x966 : q_ext (fun a => a = q22) X898 X964 σ899 σ965 := by rw [dX964, dσ965]; exact q_ext.add k916
  have r969 : H954[q22]? = some (arrV (D.2 3) 4 (fun j => .ref (([q451, q514, q581, q652] : List Nat).getD j 0))) := by
    rw [r962]
    exact congrArg some (q_arr_eq (fun j hj => match j, hj with | 0, _ => rfl | 1, _ => rfl | 2, _ => rfl | 3, _ => rfl | (n + 4), hj => absurd hj (Nat.not_lt_of_ge (Nat.le_add_left 4 n))))
  try clear r962
  have y970 : y_root X964 q91 := by rw [dX964]; exact y933.add y_xg (fun f hf => match f, hf with | 0, _ => (show q451 ≠ q91 from (Nat.ne_of_gt (Nat.lt_trans (Nat.lt_trans (Nat.lt_trans (Nat.lt_trans (Nat.lt_trans (Nat.lt_trans cc_q136 cc_q183) cc_q217) cc_q270) cc_q325) cc_q382) cc_q451))) | 1, _ => (show q514 ≠ q91 from (Nat.ne_of_gt (Nat.lt_trans (Nat.lt_trans (Nat.lt_trans (Nat.lt_trans (Nat.lt_trans (Nat.lt_trans (Nat.lt_trans cc_q136 cc_q183) cc_q217) cc_q270) cc_q325) cc_q382) cc_q451) cc_q514))) | 2, _ => (show q581 ≠ q91 from (Nat.ne_of_gt (Nat.lt_trans (Nat.lt_trans (Nat.lt_trans (Nat.lt_trans (Nat.lt_trans (Nat.lt_trans (Nat.lt_trans (Nat.lt_trans cc_q136 cc_q183) cc_q217) cc_q270) cc_q325) cc_q382) cc_q451) cc_q514) cc_q581))) | 3, _ => (show q652 ≠ q91 from (Nat.ne_of_gt (Nat.lt_trans (Nat.lt_trans (Nat.lt_trans (Nat.lt_trans (Nat.lt_trans (Nat.lt_trans (Nat.lt_trans (Nat.lt_trans (Nat.lt_trans cc_q136 cc_q183) cc_q217) cc_q270) cc_q325) cc_q382) cc_q451) cc_q514) cc_q581) cc_q652))) | (n + 4), hf => absurd (by unfold q_rk; rfl) hf)
  try clear y933
  have y971 : y_root X964 q136 := by rw [dX964]; exact y934.add y_xg (fun f hf => match f, hf with | 0, _ => (show q451 ≠ q136 from (Nat.ne_of_gt (Nat.lt_trans (Nat.lt_trans (Nat.lt_trans (Nat.lt_trans (Nat.lt_trans cc_q183 cc_q217) cc_q270) cc_q325) cc_q382) cc_q451))) | 1, _ => (show q514 ≠ q136 from (Nat.ne_of_gt (Nat.lt_trans (Nat.lt_trans (Nat.lt_trans (Nat.lt_trans (Nat.lt_trans (Nat.lt_trans cc_q183 cc_q217) cc_q270) cc_q325) cc_q382) cc_q451) cc_q514))) | 2, _ => (show q581 ≠ q136 from (Nat.ne_of_gt (Nat.lt_trans (Nat.lt_trans (Nat.lt_trans (Nat.lt_trans (Nat.lt_trans (Nat.lt_trans (Nat.lt_trans cc_q183 cc_q217) cc_q270) cc_q325) cc_q382) cc_q451) cc_q514) cc_q581))) | 3, _ => (show q652 ≠ q136 from (Nat.ne_of_gt (Nat.lt_trans (Nat.lt_trans (Nat.lt_trans (Nat.lt_trans (Nat.lt_trans (Nat.lt_trans (Nat.lt_trans (Nat.lt_trans cc_q183 cc_q217) cc_q270) cc_q325) cc_q382) cc_q451) cc_q514) cc_q581) cc_q652))) | (n + 4), hf => absurd (by unfold q_rk; rfl) hf)
  try clear y934
  have y972 : y_root X964 q217 := by rw [dX964]; exact y935.add y_xg (fun f hf => match f, hf with | 0, _ => (show q451 ≠ q217 from (Nat.ne_of_gt (Nat.lt_trans (Nat.lt_trans (Nat.lt_trans cc_q270 cc_q325) cc_q382) cc_q451))) | 1, _ => (show q514 ≠ q217 from (Nat.ne_of_gt (Nat.lt_trans (Nat.lt_trans (Nat.lt_trans (Nat.lt_trans cc_q270 cc_q325) cc_q382) cc_q451) cc_q514))) | 2, _ => (show q581 ≠ q217 from (Nat.ne_of_gt (Nat.lt_trans (Nat.lt_trans (Nat.lt_trans (Nat.lt_trans (Nat.lt_trans cc_q270 cc_q325) cc_q382) cc_q451) cc_q514) cc_q581))) | 3, _ => (show q652 ≠ q217 from (Nat.ne_of_gt (Nat.lt_trans (Nat.lt_trans (Nat.lt_trans (Nat.lt_trans (Nat.lt_trans (Nat.lt_trans cc_q270 cc_q325) cc_q382) cc_q451) cc_q514) cc_q581) cc_q652))) | (n + 4), hf => absurd (by unfold q_rk; rfl) hf)
  try clear y935
  have y973 : y_root X964 q270 := by rw [dX964]; exact y936.add y_xg (fun f hf => match f, hf with | 0, _ => (show q451 ≠ q270 from (Nat.ne_of_gt (Nat.lt_trans (Nat.lt_trans cc_q325 cc_q382) cc_q451))) | 1, _ => (show q514 ≠ q270 from (Nat.ne_of_gt (Nat.lt_trans (Nat.lt_trans (Nat.lt_trans cc_q325 cc_q382) cc_q451) cc_q514))) | 2, _ => (show q581 ≠ q270 from (Nat.ne_of_gt (Nat.lt_trans (Nat.lt_trans (Nat.lt_trans (Nat.lt_trans cc_q325 cc_q382) cc_q451) cc_q514) cc_q581))) | 3, _ => (show q652 ≠ q270 from (Nat.ne_of_gt (Nat.lt_trans (Nat.lt_trans (Nat.lt_trans (Nat.lt_trans (Nat.lt_trans cc_q325 cc_q382) cc_q451) cc_q514) cc_q581) cc_q652))) | (n + 4), hf => absurd (by unfold q_rk; rfl) hf)
  try clear y936
  have y974 : y_root X964 q325 := by rw [dX964]; exact y937.add y_xg (fun f hf => match f, hf with | 0, _ => (show q451 ≠ q325 from (Nat.ne_of_gt (Nat.lt_trans cc_q382 cc_q451))) | 1, _ => (show q514 ≠ q325 from (Nat.ne_of_gt (Nat.lt_trans (Nat.lt_trans cc_q382 cc_q451) cc_q514))) | 2, _ => (show q581 ≠ q325 from (Nat.ne_of_gt (Nat.lt_trans (Nat.lt_trans (Nat.lt_trans cc_q382 cc_q451) cc_q514) cc_q581))) | 3, _ => (show q652 ≠ q325 from (Nat.ne_of_gt (Nat.lt_trans (Nat.lt_trans (Nat.lt_trans (Nat.lt_trans cc_q382 cc_q451) cc_q514) cc_q581) cc_q652))) | (n + 4), hf => absurd (by unfold q_rk; rfl) hf)
  try clear y937
  have y975 : y_root X964 q382 := by rw [dX964]; exact y938.add y_xg (fun f hf => match f, hf with | 0, _ => (show q451 ≠ q382 from (Nat.ne_of_gt cc_q451)) | 1, _ => (show q514 ≠ q382 from (Nat.ne_of_gt (Nat.lt_trans cc_q451 cc_q514))) | 2, _ => (show q581 ≠ q382 from (Nat.ne_of_gt (Nat.lt_trans (Nat.lt_trans cc_q451 cc_q514) cc_q581))) | 3, _ => (show q652 ≠ q382 from (Nat.ne_of_gt (Nat.lt_trans (Nat.lt_trans (Nat.lt_trans cc_q451 cc_q514) cc_q581) cc_q652))) | (n + 4), hf => absurd (by unfold q_rk; rfl) hf)
  try clear y938
  have y976 : y_root X964 q727 := by rw [dX964]; exact y943.add y_xg (fun f hf => match f, hf with | 0, _ => (show q451 ≠ q727 from (Nat.ne_of_lt (Nat.lt_trans (Nat.lt_trans (Nat.lt_trans cc_q514 cc_q581) cc_q652) cc_q727))) | 1, _ => (show q514 ≠ q727 from (Nat.ne_of_lt (Nat.lt_trans (Nat.lt_trans cc_q581 cc_q652) cc_q727))) | 2, _ => (show q581 ≠ q727 from (Nat.ne_of_lt (Nat.lt_trans cc_q652 cc_q727))) | 3, _ => (show q652 ≠ q727 from (Nat.ne_of_lt cc_q727)) | (n + 4), hf => absurd (by unfold q_rk; rfl) hf)
  try clear y943
  have y977 : y_root X964 q804 := by rw [dX964]; exact y944.add y_xg (fun f hf => match f, hf with | 0, _ => (show q451 ≠ q804 from (Nat.ne_of_lt (Nat.lt_trans (Nat.lt_trans (Nat.lt_trans (Nat.lt_trans cc_q514 cc_q581) cc_q652) cc_q727) cc_q804))) | 1, _ => (show q514 ≠ q804 from (Nat.ne_of_lt (Nat.lt_trans (Nat.lt_trans (Nat.lt_trans cc_q581 cc_q652) cc_q727) cc_q804))) | 2, _ => (show q581 ≠ q804 from (Nat.ne_of_lt (Nat.lt_trans (Nat.lt_trans cc_q652 cc_q727) cc_q804))) | 3, _ => (show q652 ≠ q804 from (Nat.ne_of_lt (Nat.lt_trans cc_q727 cc_q804))) | (n + 4), hf => absurd (by unfold q_rk; rfl) hf)
  try clear y944
  have y978 : y_root X964 q883 := by rw [dX964]; exact y945.add y_xg (fun f hf => match f, hf with | 0, _ => (show q451 ≠ q883 from (Nat.ne_of_lt (Nat.lt_trans (Nat.lt_trans (Nat.lt_trans (Nat.lt_trans (Nat.lt_trans cc_q514 cc_q581) cc_q652) cc_q727) cc_q804) cc_q883))) | 1, _ => (show q514 ≠ q883 from (Nat.ne_of_lt (Nat.lt_trans (Nat.lt_trans (Nat.lt_trans (Nat.lt_trans cc_q581 cc_q652) cc_q727) cc_q804) cc_q883))) | 2, _ => (show q581 ≠ q883 from (Nat.ne_of_lt (Nat.lt_trans (Nat.lt_trans (Nat.lt_trans cc_q652 cc_q727) cc_q804) cc_q883))) | 3, _ => (show q652 ≠ q883 from (Nat.ne_of_lt (Nat.lt_trans (Nat.lt_trans cc_q727 cc_q804) cc_q883))) | (n + 4), hf => absurd (by unfold q_rk; rfl) hf)
  try clear y945
  have y979 : y_root X964 q22 := by rw [dX964]; exact (y_root.out w959.1 k916).add y_xg (fun f hf => match f, hf with | 0, _ => (show q451 ≠ q22 from (Nat.ne_of_gt (Nat.lt_trans (Nat.lt_trans (Nat.lt_trans (Nat.lt_trans (Nat.lt_trans (Nat.lt_trans (Nat.lt_trans (Nat.lt_trans cc_q42 cc_q91) cc_q136) cc_q183) cc_q217) cc_q270) cc_q325) cc_q382) cc_q451))) | 1, _ => (show q514 ≠ q22 from (Nat.ne_of_gt (Nat.lt_trans (Nat.lt_trans (Nat.lt_trans (Nat.lt_trans (Nat.lt_trans (Nat.lt_trans (Nat.lt_trans (Nat.lt_trans (Nat.lt_trans cc_q42 cc_q91) cc_q136) cc_q183) cc_q217) cc_q270) cc_q325) cc_q382) cc_q451) cc_q514))) | 2, _ => (show q581 ≠ q22 from (Nat.ne_of_gt (Nat.lt_trans (Nat.lt_trans (Nat.lt_trans (Nat.lt_trans (Nat.lt_trans (Nat.lt_trans (Nat.lt_trans (Nat.lt_trans (Nat.lt_trans (Nat.lt_trans cc_q42 cc_q91) cc_q136) cc_q183) cc_q217) cc_q270) cc_q325) cc_q382) cc_q451) cc_q514) cc_q581))) | 3, _ => (show q652 ≠ q22 from (Nat.ne_of_gt (Nat.lt_trans (Nat.lt_trans (Nat.lt_trans (Nat.lt_trans (Nat.lt_trans (Nat.lt_trans (Nat.lt_trans (Nat.lt_trans (Nat.lt_trans (Nat.lt_trans (Nat.lt_trans cc_q42 cc_q91) cc_q136) cc_q183) cc_q217) cc_q270) cc_q325) cc_q382) cc_q451) cc_q514) cc_q581) cc_q652))) | (n + 4), hf => absurd (by unfold q_rk; rfl) hf)
  have y980 : y_rt X X964 := by rw [dX964]; exact y913.add y_xg (fun f hf => match f, hf with | 0, _ => (show q_kd X q451 = 0 from hw0.fresh gg_q451) | 1, _ => (show q_kd X q514 = 0 from hw0.fresh gg_q514) | 2, _ => (show q_kd X q581 = 0 from hw0.fresh gg_q581) | 3, _ => (show q_kd X q652 = 0 from hw0.fresh gg_q652) | (n + 4), hf => absurd (by unfold q_rk; rfl) hf)
  try clear y913
  have w967 : q_w X964 σ965 H954 := by
    rw [dX964, dσ965]
    exact w959.add k916 (q_hrk (fun f _ hf => match f, hf with | 0, _ => k927 | 1, _ => k928 | 2, _ => k929 | 3, _ => k930 | (n + 4), hf => absurd (by unfold q_rk; rfl) hf)) (fun _ => rfl) (by decide) (fun q => absurd q (by decide)) (fun f => q_inU rfl) (fun q => by rcases q with q | q <;> exact absurd q (by decide)) (q_cfA D909 (by decide) (t0 := 3) rfl r969 (fun j => rfl)) (fun f hf => match f, hf with | 0, _ => (show q22 < q451 from (Nat.lt_trans (Nat.lt_trans (Nat.lt_trans (Nat.lt_trans (Nat.lt_trans (Nat.lt_trans (Nat.lt_trans (Nat.lt_trans cc_q42 cc_q91) cc_q136) cc_q183) cc_q217) cc_q270) cc_q325) cc_q382) cc_q451)) | 1, _ => (show q22 < q514 from (Nat.lt_trans (Nat.lt_trans (Nat.lt_trans (Nat.lt_trans (Nat.lt_trans (Nat.lt_trans (Nat.lt_trans (Nat.lt_trans (Nat.lt_trans cc_q42 cc_q91) cc_q136) cc_q183) cc_q217) cc_q270) cc_q325) cc_q382) cc_q451) cc_q514)) | 2, _ => (show q22 < q581 from (Nat.lt_trans (Nat.lt_trans (Nat.lt_trans (Nat.lt_trans (Nat.lt_trans (Nat.lt_trans (Nat.lt_trans (Nat.lt_trans (Nat.lt_trans (Nat.lt_trans cc_q42 cc_q91) cc_q136) cc_q183) cc_q217) cc_q270) cc_q325) cc_q382) cc_q451) cc_q514) cc_q581)) | 3, _ => (show q22 < q652 from (Nat.lt_trans (Nat.lt_trans (Nat.lt_trans (Nat.lt_trans (Nat.lt_trans (Nat.lt_trans (Nat.lt_trans (Nat.lt_trans (Nat.lt_trans (Nat.lt_trans (Nat.lt_trans cc_q42 cc_q91) cc_q136) cc_q183) cc_q217) cc_q270) cc_q325) cc_q382) cc_q451) cc_q514) cc_q581) cc_q652)) | (n + 4), hf => absurd (by unfold q_rk; rfl) hf) (y_in23 (rf := (fun j => ([q451, q514, q581, q652] : List Nat).getD j 0)) (show q451 < q514 from cc_q514) (show q514 < q581 from cc_q581) (show q581 < q652 from cc_q652)) (fun f hf => match f, hf with | 0, _ => y939 | 1, _ => y940 | 2, _ => y941 | 3, _ => y942 | (n + 4), hf => absurd (by unfold q_rk; rfl) hf) (fun f hf => by rcases y_fs23 (show q_rk 23 f ≠ 0 by rw [hf]; decide) with rfl | rfl | rfl | rfl <;> exact absurd hf (by decide)) (fun q => absurd q (by decide))
  try clear r969; try clear w959; try clear y942; try clear y941; try clear y940; try clear y939; try clear k916
  have D981 : X964.1 = D := x966.1.trans D909
  try clear D909
  have k982 : q_kd X964 q22 = 23 := by rw [dX964]; exact q_xg_h
  have n983 : q_ln X964 q22 = 4 := by rw [dX964]; exact if_pos rfl
  have x984 := x914.tr x966 (fun a e => Or.inr (by rw [e]; exact gg_q22))
  try clear x914
  have k985 := x966.kd k921 (by decide)
  try clear k921
  have k986 := x966.kd k922 (by decide)
  try clear k922
  have k987 := x966.kd k923 (by decide)
  try clear k923
  have k988 := x966.kd k924 (by decide)
  try clear k924
  have k989 := x966.kd k925 (by decide)
  try clear k925
  have k990 := x966.kd k926 (by decide)
  try clear k926
  have k991 := x966.kd k927 (by decide)
  have k992 := x966.kd k928 (by decide)
  have k993 := x966.kd k929 (by decide)
  have k994 := x966.kd k930 (by decide)
  have k995 := x966.kd k931 (by decide)
  try clear k931
  have k996 := x966.kd k932 (by decide)
  try clear k932
  have k997 := x966.kd k902 (by decide)
  try clear k902
  have k998 : q_kd X964 q42 = 0 := x966.k0 k918 (by first | exact (Nat.ne_of_gt cc_q42) | (omega))
  try clear k918
  have k999 : q_kd X964 q183 = 0 := x966.k0 k920 (by first | exact (Nat.ne_of_gt (Nat.lt_trans (Nat.lt_trans (Nat.lt_trans cc_q42 cc_q91) cc_q136) cc_q183)) | (omega))
  try clear k920
  have k1000 : q_kd X964 h = 0 := x966.k0 k910 (by first | exact (Nat.ne_of_lt hq22) | (omega))
  try clear k910
  have i1001 : σ965.1 q451 0 = 0 := (q_exi x966 (by rw [k927]; decide)).trans i946
  try clear i946
  have i1002 : σ965.1 q451 1 = -1 := (q_exi x966 (by rw [k927]; decide)).trans i947
  try clear i947; try clear k927
  have i1003 : σ965.1 q514 0 = 0 := (q_exi x966 (by rw [k928]; decide)).trans i948
  try clear i948
  have i1004 : σ965.1 q514 1 = -1 := (q_exi x966 (by rw [k928]; decide)).trans i949
  try clear i949; try clear k928
  have i1005 : σ965.1 q581 0 = 0 := (q_exi x966 (by rw [k929]; decide)).trans i950
  try clear i950
  have i1006 : σ965.1 q581 1 = -1 := (q_exi x966 (by rw [k929]; decide)).trans i951
  try clear i951; try clear k929
  have i1007 : σ965.1 q652 0 = 0 := (q_exi x966 (by rw [k930]; decide)).trans i952
  try clear i952
  have i1008 : σ965.1 q652 1 = -1 := (q_exi x966 (by rw [k930]; decide)).trans i953
  try clear x966; try clear i953; try clear k930
  have j1009 : ∀ j, q_rf X964 q22 j = ([q451, q514, q581, q652] : List Nat).getD j 0 := fun j => by rw [dX964]; exact if_pos rfl
  have y1014 := raw_lt r963
  try clear y1014
  obtain ⟨X1010, dX1010⟩ : ∃ Y, Y = q_xg X964 q42 22 900 (fun _ => 0) := ⟨_, rfl⟩
  obtain ⟨σ1011, dσ1011⟩ : ∃ τ, τ = q_sg σ965 q42 (fun _ => 0 : Nat → Int32) (fun _ => 0) 0 := ⟨_, rfl⟩
  have x1012 : q_ext (fun a => a = q42) X964 X1010 σ965 σ1011 := by rw [dX1010, dσ1011]; exact q_ext.add k998
  have y1015 : y_root X1010 q91 := by rw [dX1010]; exact y970.add y_xg (fun f hf => absurd rfl hf)
  try clear y970
  have y1016 : y_root X1010 q136 := by rw [dX1010]; exact y971.add y_xg (fun f hf => absurd rfl hf)
  try clear y971
  have y1017 : y_root X1010 q217 := by rw [dX1010]; exact y972.add y_xg (fun f hf => absurd rfl hf)
  try clear y972
  have y1018 : y_root X1010 q270 := by rw [dX1010]; exact y973.add y_xg (fun f hf => absurd rfl hf)
  try clear y973
  have y1019 : y_root X1010 q325 := by rw [dX1010]; exact y974.add y_xg (fun f hf => absurd rfl hf)
  try clear y974
  have y1020 : y_root X1010 q382 := by rw [dX1010]; exact y975.add y_xg (fun f hf => absurd rfl hf)
  try clear y975
  have y1021 : y_root X1010 q727 := by rw [dX1010]; exact y976.add y_xg (fun f hf => absurd rfl hf)
  try clear y976
  have y1022 : y_root X1010 q804 := by rw [dX1010]; exact y977.add y_xg (fun f hf => absurd rfl hf)
  try clear y977
  have y1023 : y_root X1010 q883 := by rw [dX1010]; exact y978.add y_xg (fun f hf => absurd rfl hf)
  try clear y978
  have y1024 : y_root X1010 q22 := by rw [dX1010]; exact y979.add y_xg (fun f hf => absurd rfl hf)
  try clear y979
  have y1025 : y_root X1010 q42 := by rw [dX1010]; exact (y_root.out w967.1 k998).add y_xg (fun f hf => absurd rfl hf)
  have y1026 : y_rt X X1010 := by rw [dX1010]; exact y980.add y_xg (fun f hf => absurd rfl hf)
  try clear y980
  have w1013 : q_w X1010 σ1011 H954 := by
    rw [dX1010, dσ1011]
    exact w967.add k998 (fun f hf => absurd rfl hf) (fun q => absurd rfl q) (by decide) (fun q => absurd q (by decide)) (fun f => q_inU rfl) (fun q => by rcases q with q | q <;> exact absurd q (by decide)) (q_cfA D981 (by decide) (t0 := 0) rfl r963 (fun j => rfl)) (fun f hf => absurd rfl hf) (fun f g hf _ _ => absurd rfl hf) (fun f hf => absurd rfl hf) (fun f hf => absurd (show (0 : Nat) = 5 from hf) (by decide)) (fun q => absurd q (by decide))
  try clear k998; try clear w967; try clear r963
  have D1027 : X1010.1 = D := x1012.1.trans D981
  try clear D981
  have k1028 : q_kd X1010 q42 = 22 := by rw [dX1010]; exact q_xg_h
  have n1029 : q_ln X1010 q42 = 900 := by rw [dX1010]; exact if_pos rfl
  have x1030 := x984.tr x1012 (fun a e => Or.inr (by rw [e]; exact gg_q42))
  try clear x984
  have k1031 := x1012.kd k985 (by decide)
  try clear k985
  have k1032 := x1012.kd k986 (by decide)
  try clear k986
  have k1033 := x1012.kd k987 (by decide)
  try clear k987
  have k1034 := x1012.kd k988 (by decide)
  try clear k988
  have k1035 := x1012.kd k989 (by decide)
  try clear k989
  have k1036 := x1012.kd k990 (by decide)
  try clear k990
  have k1037 := x1012.kd k991 (by decide)
  have k1038 := x1012.kd k992 (by decide)
  have k1039 := x1012.kd k993 (by decide)
  have k1040 := x1012.kd k994 (by decide)
  have k1041 := x1012.kd k995 (by decide)
  try clear k995
  have k1042 := x1012.kd k996 (by decide)
  try clear k996
  have k1043 := x1012.kd k997 (by decide)
  try clear k997
  have k1044 := x1012.kd k982 (by decide)
  have k1045 : q_kd X1010 q183 = 0 := x1012.k0 k999 (by first | exact (Nat.ne_of_gt (Nat.lt_trans (Nat.lt_trans cc_q91 cc_q136) cc_q183)) | (omega))
  try clear k999
  have k1046 : q_kd X1010 h = 0 := x1012.k0 k1000 (by first | exact (Nat.ne_of_lt hq42) | (omega))
  try clear k1000
  have i1047 : σ1011.1 q451 0 = 0 := (q_exi x1012 (by rw [k991]; decide)).trans i1001
  try clear i1001
  have i1048 : σ1011.1 q451 1 = -1 := (q_exi x1012 (by rw [k991]; decide)).trans i1002
  try clear i1002; try clear k991
  have i1049 : σ1011.1 q514 0 = 0 := (q_exi x1012 (by rw [k992]; decide)).trans i1003
  try clear i1003
  have i1050 : σ1011.1 q514 1 = -1 := (q_exi x1012 (by rw [k992]; decide)).trans i1004
  try clear i1004; try clear k992
  have i1051 : σ1011.1 q581 0 = 0 := (q_exi x1012 (by rw [k993]; decide)).trans i1005
  try clear i1005
  have i1052 : σ1011.1 q581 1 = -1 := (q_exi x1012 (by rw [k993]; decide)).trans i1006
  try clear i1006; try clear k993
  have i1053 : σ1011.1 q652 0 = 0 := (q_exi x1012 (by rw [k994]; decide)).trans i1007
  try clear i1007
  have i1054 : σ1011.1 q652 1 = -1 := (q_exi x1012 (by rw [k994]; decide)).trans i1008
  try clear i1008; try clear k994
  have n1055 : q_ln X1010 q22 = 4 := (x1012.2.2.2.1 q22 (by rw [k982]; decide)).2.1.trans n983
  have j1056 : ∀ j, q_rf X1010 q22 j = ([q451, q514, q581, q652] : List Nat).getD j 0 := fun j => ((x1012.2.2.2.1 q22 (by rw [k982]; decide)).2.2.1 j).trans (j1009 j)
  try clear x1012; try clear k982
  have y1061 := raw_lt r957
  try clear y1061
  obtain ⟨X1057, dX1057⟩ : ∃ Y, Y = q_xg X1010 q183 24 3 (fun j => ([q727, q804, q883] : List Nat).getD j 0) := ⟨_, rfl⟩
  obtain ⟨σ1058, dσ1058⟩ : ∃ τ, τ = q_sg σ1011 q183 (fun _ => 0) (fun _ => 0) 0 := ⟨_, rfl⟩
  have x1059 : q_ext (fun a => a = q183) X1010 X1057 σ1011 σ1058 := by rw [dX1057, dσ1058]; exact q_ext.add k1045
  have r1062 : H954[q183]? = some (arrV (D.2 4) 3 (fun j => .ref (([q727, q804, q883] : List Nat).getD j 0))) := by
    rw [r957]
    exact congrArg some (q_arr_eq (fun j hj => match j, hj with | 0, _ => rfl | 1, _ => rfl | 2, _ => rfl | (n + 3), hj => absurd hj (Nat.not_lt_of_ge (Nat.le_add_left 3 n))))
  try clear r957
  have y1063 : y_root X1057 q91 := by rw [dX1057]; exact y1015.add y_xg (fun f hf => match f, hf with | 0, _ => (show q727 ≠ q91 from (Nat.ne_of_gt (Nat.lt_trans (Nat.lt_trans (Nat.lt_trans (Nat.lt_trans (Nat.lt_trans (Nat.lt_trans (Nat.lt_trans (Nat.lt_trans (Nat.lt_trans (Nat.lt_trans cc_q136 cc_q183) cc_q217) cc_q270) cc_q325) cc_q382) cc_q451) cc_q514) cc_q581) cc_q652) cc_q727))) | 1, _ => (show q804 ≠ q91 from (Nat.ne_of_gt (Nat.lt_trans (Nat.lt_trans (Nat.lt_trans (Nat.lt_trans (Nat.lt_trans (Nat.lt_trans (Nat.lt_trans (Nat.lt_trans (Nat.lt_trans (Nat.lt_trans (Nat.lt_trans cc_q136 cc_q183) cc_q217) cc_q270) cc_q325) cc_q382) cc_q451) cc_q514) cc_q581) cc_q652) cc_q727) cc_q804))) | 2, _ => (show q883 ≠ q91 from (Nat.ne_of_gt (Nat.lt_trans (Nat.lt_trans (Nat.lt_trans (Nat.lt_trans (Nat.lt_trans (Nat.lt_trans (Nat.lt_trans (Nat.lt_trans (Nat.lt_trans (Nat.lt_trans (Nat.lt_trans (Nat.lt_trans cc_q136 cc_q183) cc_q217) cc_q270) cc_q325) cc_q382) cc_q451) cc_q514) cc_q581) cc_q652) cc_q727) cc_q804) cc_q883))) | (n + 3), hf => absurd (by unfold q_rk; rfl) hf)
  try clear y1015
  have y1064 : y_root X1057 q136 := by rw [dX1057]; exact y1016.add y_xg (fun f hf => match f, hf with | 0, _ => (show q727 ≠ q136 from (Nat.ne_of_gt (Nat.lt_trans (Nat.lt_trans (Nat.lt_trans (Nat.lt_trans (Nat.lt_trans (Nat.lt_trans (Nat.lt_trans (Nat.lt_trans (Nat.lt_trans cc_q183 cc_q217) cc_q270) cc_q325) cc_q382) cc_q451) cc_q514) cc_q581) cc_q652) cc_q727))) | 1, _ => (show q804 ≠ q136 from (Nat.ne_of_gt (Nat.lt_trans (Nat.lt_trans (Nat.lt_trans (Nat.lt_trans (Nat.lt_trans (Nat.lt_trans (Nat.lt_trans (Nat.lt_trans (Nat.lt_trans (Nat.lt_trans cc_q183 cc_q217) cc_q270) cc_q325) cc_q382) cc_q451) cc_q514) cc_q581) cc_q652) cc_q727) cc_q804))) | 2, _ => (show q883 ≠ q136 from (Nat.ne_of_gt (Nat.lt_trans (Nat.lt_trans (Nat.lt_trans (Nat.lt_trans (Nat.lt_trans (Nat.lt_trans (Nat.lt_trans (Nat.lt_trans (Nat.lt_trans (Nat.lt_trans (Nat.lt_trans cc_q183 cc_q217) cc_q270) cc_q325) cc_q382) cc_q451) cc_q514) cc_q581) cc_q652) cc_q727) cc_q804) cc_q883))) | (n + 3), hf => absurd (by unfold q_rk; rfl) hf)
  try clear y1016
  have y1065 : y_root X1057 q217 := by rw [dX1057]; exact y1017.add y_xg (fun f hf => match f, hf with | 0, _ => (show q727 ≠ q217 from (Nat.ne_of_gt (Nat.lt_trans (Nat.lt_trans (Nat.lt_trans (Nat.lt_trans (Nat.lt_trans (Nat.lt_trans (Nat.lt_trans cc_q270 cc_q325) cc_q382) cc_q451) cc_q514) cc_q581) cc_q652) cc_q727))) | 1, _ => (show q804 ≠ q217 from (Nat.ne_of_gt (Nat.lt_trans (Nat.lt_trans (Nat.lt_trans (Nat.lt_trans (Nat.lt_trans (Nat.lt_trans (Nat.lt_trans (Nat.lt_trans cc_q270 cc_q325) cc_q382) cc_q451) cc_q514) cc_q581) cc_q652) cc_q727) cc_q804))) | 2, _ => (show q883 ≠ q217 from (Nat.ne_of_gt (Nat.lt_trans (Nat.lt_trans (Nat.lt_trans (Nat.lt_trans (Nat.lt_trans (Nat.lt_trans (Nat.lt_trans (Nat.lt_trans (Nat.lt_trans cc_q270 cc_q325) cc_q382) cc_q451) cc_q514) cc_q581) cc_q652) cc_q727) cc_q804) cc_q883))) | (n + 3), hf => absurd (by unfold q_rk; rfl) hf)
  try clear y1017
  have y1066 : y_root X1057 q270 := by rw [dX1057]; exact y1018.add y_xg (fun f hf => match f, hf with | 0, _ => (show q727 ≠ q270 from (Nat.ne_of_gt (Nat.lt_trans (Nat.lt_trans (Nat.lt_trans (Nat.lt_trans (Nat.lt_trans (Nat.lt_trans cc_q325 cc_q382) cc_q451) cc_q514) cc_q581) cc_q652) cc_q727))) | 1, _ => (show q804 ≠ q270 from (Nat.ne_of_gt (Nat.lt_trans (Nat.lt_trans (Nat.lt_trans (Nat.lt_trans (Nat.lt_trans (Nat.lt_trans (Nat.lt_trans cc_q325 cc_q382) cc_q451) cc_q514) cc_q581) cc_q652) cc_q727) cc_q804))) | 2, _ => (show q883 ≠ q270 from (Nat.ne_of_gt (Nat.lt_trans (Nat.lt_trans (Nat.lt_trans (Nat.lt_trans (Nat.lt_trans (Nat.lt_trans (Nat.lt_trans (Nat.lt_trans cc_q325 cc_q382) cc_q451) cc_q514) cc_q581) cc_q652) cc_q727) cc_q804) cc_q883))) | (n + 3), hf => absurd (by unfold q_rk; rfl) hf)
  try clear y1018
  have y1067 : y_root X1057 q325 := by rw [dX1057]; exact y1019.add y_xg (fun f hf => match f, hf with | 0, _ => (show q727 ≠ q325 from (Nat.ne_of_gt (Nat.lt_trans (Nat.lt_trans (Nat.lt_trans (Nat.lt_trans (Nat.lt_trans cc_q382 cc_q451) cc_q514) cc_q581) cc_q652) cc_q727))) | 1, _ => (show q804 ≠ q325 from (Nat.ne_of_gt (Nat.lt_trans (Nat.lt_trans (Nat.lt_trans (Nat.lt_trans (Nat.lt_trans (Nat.lt_trans cc_q382 cc_q451) cc_q514) cc_q581) cc_q652) cc_q727) cc_q804))) | 2, _ => (show q883 ≠ q325 from (Nat.ne_of_gt (Nat.lt_trans (Nat.lt_trans (Nat.lt_trans (Nat.lt_trans (Nat.lt_trans (Nat.lt_trans (Nat.lt_trans cc_q382 cc_q451) cc_q514) cc_q581) cc_q652) cc_q727) cc_q804) cc_q883))) | (n + 3), hf => absurd (by unfold q_rk; rfl) hf)
  try clear y1019
  have y1068 : y_root X1057 q382 := by rw [dX1057]; exact y1020.add y_xg (fun f hf => match f, hf with | 0, _ => (show q727 ≠ q382 from (Nat.ne_of_gt (Nat.lt_trans (Nat.lt_trans (Nat.lt_trans (Nat.lt_trans cc_q451 cc_q514) cc_q581) cc_q652) cc_q727))) | 1, _ => (show q804 ≠ q382 from (Nat.ne_of_gt (Nat.lt_trans (Nat.lt_trans (Nat.lt_trans (Nat.lt_trans (Nat.lt_trans cc_q451 cc_q514) cc_q581) cc_q652) cc_q727) cc_q804))) | 2, _ => (show q883 ≠ q382 from (Nat.ne_of_gt (Nat.lt_trans (Nat.lt_trans (Nat.lt_trans (Nat.lt_trans (Nat.lt_trans (Nat.lt_trans cc_q451 cc_q514) cc_q581) cc_q652) cc_q727) cc_q804) cc_q883))) | (n + 3), hf => absurd (by unfold q_rk; rfl) hf)
  try clear y1020
  have y1069 : y_root X1057 q22 := by rw [dX1057]; exact y1024.add y_xg (fun f hf => match f, hf with | 0, _ => (show q727 ≠ q22 from (Nat.ne_of_gt (Nat.lt_trans (Nat.lt_trans (Nat.lt_trans (Nat.lt_trans (Nat.lt_trans (Nat.lt_trans (Nat.lt_trans (Nat.lt_trans (Nat.lt_trans (Nat.lt_trans (Nat.lt_trans (Nat.lt_trans cc_q42 cc_q91) cc_q136) cc_q183) cc_q217) cc_q270) cc_q325) cc_q382) cc_q451) cc_q514) cc_q581) cc_q652) cc_q727))) | 1, _ => (show q804 ≠ q22 from (Nat.ne_of_gt (Nat.lt_trans (Nat.lt_trans (Nat.lt_trans (Nat.lt_trans (Nat.lt_trans (Nat.lt_trans (Nat.lt_trans (Nat.lt_trans (Nat.lt_trans (Nat.lt_trans (Nat.lt_trans (Nat.lt_trans (Nat.lt_trans cc_q42 cc_q91) cc_q136) cc_q183) cc_q217) cc_q270) cc_q325) cc_q382) cc_q451) cc_q514) cc_q581) cc_q652) cc_q727) cc_q804))) | 2, _ => (show q883 ≠ q22 from (Nat.ne_of_gt (Nat.lt_trans (Nat.lt_trans (Nat.lt_trans (Nat.lt_trans (Nat.lt_trans (Nat.lt_trans (Nat.lt_trans (Nat.lt_trans (Nat.lt_trans (Nat.lt_trans (Nat.lt_trans (Nat.lt_trans (Nat.lt_trans (Nat.lt_trans cc_q42 cc_q91) cc_q136) cc_q183) cc_q217) cc_q270) cc_q325) cc_q382) cc_q451) cc_q514) cc_q581) cc_q652) cc_q727) cc_q804) cc_q883))) | (n + 3), hf => absurd (by unfold q_rk; rfl) hf)
  try clear y1024
  have y1070 : y_root X1057 q42 := by rw [dX1057]; exact y1025.add y_xg (fun f hf => match f, hf with | 0, _ => (show q727 ≠ q42 from (Nat.ne_of_gt (Nat.lt_trans (Nat.lt_trans (Nat.lt_trans (Nat.lt_trans (Nat.lt_trans (Nat.lt_trans (Nat.lt_trans (Nat.lt_trans (Nat.lt_trans (Nat.lt_trans (Nat.lt_trans cc_q91 cc_q136) cc_q183) cc_q217) cc_q270) cc_q325) cc_q382) cc_q451) cc_q514) cc_q581) cc_q652) cc_q727))) | 1, _ => (show q804 ≠ q42 from (Nat.ne_of_gt (Nat.lt_trans (Nat.lt_trans (Nat.lt_trans (Nat.lt_trans (Nat.lt_trans (Nat.lt_trans (Nat.lt_trans (Nat.lt_trans (Nat.lt_trans (Nat.lt_trans (Nat.lt_trans (Nat.lt_trans cc_q91 cc_q136) cc_q183) cc_q217) cc_q270) cc_q325) cc_q382) cc_q451) cc_q514) cc_q581) cc_q652) cc_q727) cc_q804))) | 2, _ => (show q883 ≠ q42 from (Nat.ne_of_gt (Nat.lt_trans (Nat.lt_trans (Nat.lt_trans (Nat.lt_trans (Nat.lt_trans (Nat.lt_trans (Nat.lt_trans (Nat.lt_trans (Nat.lt_trans (Nat.lt_trans (Nat.lt_trans (Nat.lt_trans (Nat.lt_trans cc_q91 cc_q136) cc_q183) cc_q217) cc_q270) cc_q325) cc_q382) cc_q451) cc_q514) cc_q581) cc_q652) cc_q727) cc_q804) cc_q883))) | (n + 3), hf => absurd (by unfold q_rk; rfl) hf)
  try clear y1025
  have y1071 : y_root X1057 q183 := by rw [dX1057]; exact (y_root.out w1013.1 k1045).add y_xg (fun f hf => match f, hf with | 0, _ => (show q727 ≠ q183 from (Nat.ne_of_gt (Nat.lt_trans (Nat.lt_trans (Nat.lt_trans (Nat.lt_trans (Nat.lt_trans (Nat.lt_trans (Nat.lt_trans (Nat.lt_trans cc_q217 cc_q270) cc_q325) cc_q382) cc_q451) cc_q514) cc_q581) cc_q652) cc_q727))) | 1, _ => (show q804 ≠ q183 from (Nat.ne_of_gt (Nat.lt_trans (Nat.lt_trans (Nat.lt_trans (Nat.lt_trans (Nat.lt_trans (Nat.lt_trans (Nat.lt_trans (Nat.lt_trans (Nat.lt_trans cc_q217 cc_q270) cc_q325) cc_q382) cc_q451) cc_q514) cc_q581) cc_q652) cc_q727) cc_q804))) | 2, _ => (show q883 ≠ q183 from (Nat.ne_of_gt (Nat.lt_trans (Nat.lt_trans (Nat.lt_trans (Nat.lt_trans (Nat.lt_trans (Nat.lt_trans (Nat.lt_trans (Nat.lt_trans (Nat.lt_trans (Nat.lt_trans cc_q217 cc_q270) cc_q325) cc_q382) cc_q451) cc_q514) cc_q581) cc_q652) cc_q727) cc_q804) cc_q883))) | (n + 3), hf => absurd (by unfold q_rk; rfl) hf)
  have y1072 : y_rt X X1057 := by rw [dX1057]; exact y1026.add y_xg (fun f hf => match f, hf with | 0, _ => (show q_kd X q727 = 0 from hw0.fresh gg_q727) | 1, _ => (show q_kd X q804 = 0 from hw0.fresh gg_q804) | 2, _ => (show q_kd X q883 = 0 from hw0.fresh gg_q883) | (n + 3), hf => absurd (by unfold q_rk; rfl) hf)
  try clear y1026
  have w1060 : q_w X1057 σ1058 H954 := by
    rw [dX1057, dσ1058]
    exact w1013.add k1045 (q_hrk (fun f _ hf => match f, hf with | 0, _ => k1041 | 1, _ => k1042 | 2, _ => k1043 | (n + 3), hf => absurd (by unfold q_rk; rfl) hf)) (fun _ => rfl) (by decide) (fun q => absurd q (by decide)) (fun f => q_inU rfl) (fun q => by rcases q with q | q <;> exact absurd q (by decide)) (q_cfA D1027 (by decide) (t0 := 4) rfl r1062 (fun j => rfl)) (fun f hf => match f, hf with | 0, _ => (show q183 < q727 from (Nat.lt_trans (Nat.lt_trans (Nat.lt_trans (Nat.lt_trans (Nat.lt_trans (Nat.lt_trans (Nat.lt_trans (Nat.lt_trans cc_q217 cc_q270) cc_q325) cc_q382) cc_q451) cc_q514) cc_q581) cc_q652) cc_q727)) | 1, _ => (show q183 < q804 from (Nat.lt_trans (Nat.lt_trans (Nat.lt_trans (Nat.lt_trans (Nat.lt_trans (Nat.lt_trans (Nat.lt_trans (Nat.lt_trans (Nat.lt_trans cc_q217 cc_q270) cc_q325) cc_q382) cc_q451) cc_q514) cc_q581) cc_q652) cc_q727) cc_q804)) | 2, _ => (show q183 < q883 from (Nat.lt_trans (Nat.lt_trans (Nat.lt_trans (Nat.lt_trans (Nat.lt_trans (Nat.lt_trans (Nat.lt_trans (Nat.lt_trans (Nat.lt_trans (Nat.lt_trans cc_q217 cc_q270) cc_q325) cc_q382) cc_q451) cc_q514) cc_q581) cc_q652) cc_q727) cc_q804) cc_q883)) | (n + 3), hf => absurd (by unfold q_rk; rfl) hf) (y_in24 (rf := (fun j => ([q727, q804, q883] : List Nat).getD j 0)) (show q727 < q804 from cc_q804) (show q804 < q883 from cc_q883)) (fun f hf => match f, hf with | 0, _ => y1021 | 1, _ => y1022 | 2, _ => y1023 | (n + 3), hf => absurd (by unfold q_rk; rfl) hf) (fun f hf => by rcases y_fs24 (show q_rk 24 f ≠ 0 by rw [hf]; decide) with rfl | rfl | rfl <;> exact absurd hf (by decide)) (fun q => absurd q (by decide))
  try clear r1062; try clear k1045; try clear y1023; try clear y1022; try clear y1021; try clear w1013; try clear t0
  have D1073 : X1057.1 = D := x1059.1.trans D1027
  try clear D1027
  have k1074 : q_kd X1057 q183 = 24 := by rw [dX1057]; exact q_xg_h
  have n1075 : q_ln X1057 q183 = 3 := by rw [dX1057]; exact if_pos rfl
  have x1076 := x1030.tr x1059 (fun a e => Or.inr (by rw [e]; exact gg_q183))
  try clear x1030
  have k1077 := x1059.kd k1031 (by decide)
  try clear k1031
  have k1078 := x1059.kd k1032 (by decide)
  try clear k1032
  have k1079 := x1059.kd k1033 (by decide)
  try clear k1033
  have k1080 := x1059.kd k1034 (by decide)
  try clear k1034
  have k1081 := x1059.kd k1035 (by decide)
  try clear k1035
  have k1082 := x1059.kd k1036 (by decide)
  try clear k1036
  have k1083 := x1059.kd k1037 (by decide)
  have k1084 := x1059.kd k1038 (by decide)
  have k1085 := x1059.kd k1039 (by decide)
  have k1086 := x1059.kd k1040 (by decide)
  have k1087 := x1059.kd k1041 (by decide)
  try clear k1041
  have k1088 := x1059.kd k1042 (by decide)
  try clear k1042
  have k1089 := x1059.kd k1043 (by decide)
  try clear k1043
  have k1090 := x1059.kd k1044 (by decide)
  have k1091 := x1059.kd k1028 (by decide)
  have k1092 : q_kd X1057 h = 0 := x1059.k0 k1046 (by first | exact (Nat.ne_of_lt hq183) | (omega))
  try clear k1046
  have i1093 : σ1058.1 q451 0 = 0 := (q_exi x1059 (by rw [k1037]; decide)).trans i1047
  try clear i1047
  have i1094 : σ1058.1 q451 1 = -1 := (q_exi x1059 (by rw [k1037]; decide)).trans i1048
  try clear i1048; try clear k1037
  have i1095 : σ1058.1 q514 0 = 0 := (q_exi x1059 (by rw [k1038]; decide)).trans i1049
  try clear i1049
  have i1096 : σ1058.1 q514 1 = -1 := (q_exi x1059 (by rw [k1038]; decide)).trans i1050
  try clear i1050; try clear k1038
  have i1097 : σ1058.1 q581 0 = 0 := (q_exi x1059 (by rw [k1039]; decide)).trans i1051
  try clear i1051
  have i1098 : σ1058.1 q581 1 = -1 := (q_exi x1059 (by rw [k1039]; decide)).trans i1052
  try clear i1052; try clear k1039
  have i1099 : σ1058.1 q652 0 = 0 := (q_exi x1059 (by rw [k1040]; decide)).trans i1053
  try clear i1053
  have i1100 : σ1058.1 q652 1 = -1 := (q_exi x1059 (by rw [k1040]; decide)).trans i1054
  try clear i1054; try clear k1040
  have n1101 : q_ln X1057 q22 = 4 := (x1059.2.2.2.1 q22 (by rw [k1044]; decide)).2.1.trans n1055
  have n1102 : q_ln X1057 q42 = 900 := (x1059.2.2.2.1 q42 (by rw [k1028]; decide)).2.1.trans n1029
  try clear k1028
  have j1103 : ∀ j, q_rf X1057 q183 j = ([q727, q804, q883] : List Nat).getD j 0 := fun j => by rw [dX1057]; exact if_pos rfl
  have j1104 : ∀ j, q_rf X1057 q22 j = ([q451, q514, q581, q652] : List Nat).getD j 0 := fun j => ((x1059.2.2.2.1 q22 (by rw [k1044]; decide)).2.2.1 j).trans (j1056 j)
  try clear x1059; try clear k1044
  obtain ⟨X1105, dX1105⟩ : ∃ Y, Y = q_xg X1057 h 11 0 (fun f => ([0, 0, 0, q22, q42, 0, 0, 0, q91, q136, q183, 0, q217, q270, q325, q382, 0] : List Nat).getD f 0) := ⟨_, rfl⟩
  obtain ⟨σ1106, dσ1106⟩ : ∃ τ, τ = q_sg σ1058 h (fun f => ([0, 0, 0, 0, 0, 0, (-1), (-1), 0, 0, 0, 0, 0, 0, 0, 0, 0] : List Int32).getD f 0) (fun f => ([0, 0, 1, 0, 0, 0, 0, 0, 0, 0, 0, 0, 0, 0, 0, 0, 0] : List Int64).getD f 0) 0 := ⟨_, rfl⟩
  have x1107 : q_ext (fun a => a = h) X1057 X1105 σ1058 σ1106 := by rw [dX1105, dσ1106]; exact q_ext.add k1092
  have hrk : ∀ f, f < 40 → q_rk 11 f ≠ 0 → q_kd X1057 (([0, 0, 0, q22, q42, 0, 0, 0, q91, q136, q183, 0, q217, q270, q325, q382, 0] : List Nat).getD f 0) = q_rk 11 f := fun f h40 hf => match f, h40, hf with | 0, _, hf => absurd rfl hf | 1, _, hf => absurd rfl hf | 2, _, hf => absurd rfl hf | 3, _, _ => k1090 | 4, _, _ => k1091 | 5, _, hf => absurd rfl hf | 6, _, hf => absurd rfl hf | 7, _, hf => absurd rfl hf | 8, _, _ => k1077 | 9, _, _ => k1078 | 10, _, _ => k1074 | 11, _, hf => absurd rfl hf | 12, _, _ => k1079 | 13, _, _ => k1080 | 14, _, _ => k1081 | 15, _, _ => k1082 | 16, _, hf => absurd rfl hf | 17, _, hf => absurd rfl hf | 18, _, hf => absurd rfl hf | 19, _, hf => absurd rfl hf | 20, _, hf => absurd rfl hf | 21, _, hf => absurd rfl hf | 22, _, hf => absurd rfl hf | 23, _, hf => absurd rfl hf | 24, _, hf => absurd rfl hf | 25, _, hf => absurd rfl hf | 26, _, hf => absurd rfl hf | 27, _, hf => absurd rfl hf | 28, _, hf => absurd rfl hf | 29, _, hf => absurd rfl hf | 30, _, hf => absurd rfl hf | 31, _, hf => absurd rfl hf | 32, _, hf => absurd rfl hf | 33, _, hf => absurd rfl hf | 34, _, hf => absurd rfl hf | 35, _, hf => absurd rfl hf | 36, _, hf => absurd rfl hf | 37, _, hf => absurd rfl hf | 38, _, hf => absurd rfl hf | 39, _, hf => absurd rfl hf | (n + 40), h40, _ => absurd h40 (Nat.not_lt_of_ge (Nat.le_add_left 40 n))
  have hB : ∀ f, f < 40 → (q_bn 11 f).1 ≤ ((([0, 0, 0, 0, 0, 0, (-1), (-1), 0, 0, 0, 0, 0, 0, 0, 0, 0] : List Int32).getD f 0).toInt) ∧ (([0, 0, 0, 0, 0, 0, (-1), (-1), 0, 0, 0, 0, 0, 0, 0, 0, 0] : List Int32).getD f 0).toInt ≤ (q_bn 11 f).2 := by decide +kernel
  have y1109 : ∀ f, q_rk 11 f ≠ 0 → h < ([0, 0, 0, q22, q42, 0, 0, 0, q91, q136, q183, 0, q217, q270, q325, q382, 0] : List Nat).getD f 0 := by
    intro f hf
    rcases y_fs11 hf with rfl | rfl | rfl | rfl | rfl | rfl | rfl | rfl | rfl
    · exact (hq22)
    · exact (hq42)
    · exact (hq91)
    · exact (hq136)
    · exact (hq183)
    · exact (hq217)
    · exact (hq270)
    · exact (hq325)
    · exact (hq382)
  have y1110 : ∀ f, q_rk 11 f ≠ 0 → y_root X1057 (([0, 0, 0, q22, q42, 0, 0, 0, q91, q136, q183, 0, q217, q270, q325, q382, 0] : List Nat).getD f 0) := by
    intro f hf
    rcases y_fs11 hf with rfl | rfl | rfl | rfl | rfl | rfl | rfl | rfl | rfl
    · exact y1069
    · exact y1070
    · exact y1063
    · exact y1064
    · exact y1071
    · exact y1065
    · exact y1066
    · exact y1067
    · exact y1068
  try clear y1071; try clear y1070; try clear y1069; try clear y1068; try clear y1067; try clear y1066; try clear y1065; try clear y1064; try clear y1063
  have y1111 : ∀ f, q_rk 11 f = 5 → q_ln X1057 (q_rf X1057 (([0, 0, 0, q22, q42, 0, 0, 0, q91, q136, q183, 0, q217, q270, q325, q382, 0] : List Nat).getD f 0) 0) = y_rl 11 f := by
    intro f hf
    rcases y_fs11 (show q_rk 11 f ≠ 0 by rw [hf]; decide) with rfl | rfl | rfl | rfl | rfl | rfl | rfl | rfl | rfl
    · exact absurd hf (by decide)
    · exact absurd hf (by decide)
    · exact absurd hf (by decide)
    · exact absurd hf (by decide)
    · exact absurd hf (by decide)
    · exact absurd hf (by decide)
    · exact absurd hf (by decide)
    · exact absurd hf (by decide)
    · exact absurd hf (by decide)
  have y1112 : ∀ f, q_rk 11 f ≠ 0 → ([0, 0, 0, q22, q42, 0, 0, 0, q91, q136, q183, 0, q217, q270, q325, q382, 0] : List Nat).getD f 0 ≠ h := by
    intro f hf
    rcases y_fs11 hf with rfl | rfl | rfl | rfl | rfl | rfl | rfl | rfl | rfl
    · exact ((Nat.ne_of_gt hq22))
    · exact ((Nat.ne_of_gt hq42))
    · exact ((Nat.ne_of_gt hq91))
    · exact ((Nat.ne_of_gt hq136))
    · exact ((Nat.ne_of_gt hq183))
    · exact ((Nat.ne_of_gt hq217))
    · exact ((Nat.ne_of_gt hq270))
    · exact ((Nat.ne_of_gt hq325))
    · exact ((Nat.ne_of_gt hq382))
  have y1113 : ∀ f, q_rk 11 f ≠ 0 → q_kd X (([0, 0, 0, q22, q42, 0, 0, 0, q91, q136, q183, 0, q217, q270, q325, q382, 0] : List Nat).getD f 0) = 0 := by
    intro f hf
    rcases y_fs11 hf with rfl | rfl | rfl | rfl | rfl | rfl | rfl | rfl | rfl
    · exact hw0.fresh (gg_q22)
    · exact hw0.fresh (gg_q42)
    · exact hw0.fresh (gg_q91)
    · exact hw0.fresh (gg_q136)
    · exact hw0.fresh (gg_q183)
    · exact hw0.fresh (gg_q217)
    · exact hw0.fresh (gg_q270)
    · exact hw0.fresh (gg_q325)
    · exact hw0.fresh (gg_q382)
  have hIV : ∀ f, f < 60 → ([0, 0, 0, 0, 0, 0, (-1), (-1), 0, 0, 0, 0, 0, 0, 0, 0, 0] : List Int32).getD f 0 = y_iv 11 f ∧ ([0, 0, 1, 0, 0, 0, 0, 0, 0, 0, 0, 0, 0, 0, 0, 0, 0] : List Int64).getD f 0 = y_il 11 f := by decide +kernel
  have w1108 : q_w X1105 σ1106 H954 := by
    rw [dX1105, dσ1106]
    exact w1060.add k1092 (q_hrk hrk) (fun q => absurd rfl q) (by decide) (fun _ => ⟨n1102, (show q_kd X1057 q42 ≠ 0 by rw [k1091]; decide)⟩) (q_hB hB (by decide)) (fun q => by rcases q with q | q <;> exact absurd q (by decide)) (q_cfO D1073 ⟨rfl, by decide⟩ (show vwCl[10]? = some (RX11, TX11, 17) from rfl) b960 (fun f hf => match f, hf with | 0, _ => rfl | 1, _ => rfl | 2, _ => rfl | 3, _ => rfl | 4, _ => rfl | 5, _ => rfl | 6, _ => rfl | 7, _ => rfl | 8, _ => rfl | 9, _ => rfl | 10, _ => rfl | 11, _ => rfl | 12, _ => rfl | 13, _ => rfl | 14, _ => rfl | 15, _ => rfl | 16, _ => rfl | (n + 17), hf => absurd hf (Nat.not_lt_of_ge (Nat.le_add_left 17 n)))) y1109 (y_in11 (rf := (fun f => ([0, 0, 0, q22, q42, 0, 0, 0, q91, q136, q183, 0, q217, q270, q325, q382, 0] : List Nat).getD f 0)) (show q22 < q42 from cc_q42) (show q42 < q91 from cc_q91) (show q91 < q136 from cc_q136) (show q136 < q183 from cc_q183) (show q183 < q217 from cc_q217) (show q217 < q270 from cc_q270) (show q270 < q325 from cc_q325) (show q325 < q382 from cc_q382)) y1110 y1111 (fun _ f hf => hIV f (hf.resolve_left (by decide)))
  try clear y1111; try clear y1110; try clear y1109; try clear D1073; try clear b960
  have y1114 : y_root X1105 h := by
    rw [dX1105]
    exact (y_root.out w1060.1 k1092).add y_xg y1112
  try clear y1112; try clear k1092; try clear w1060
  have y1115 : y_rt X X1105 := by
    rw [dX1105]
    exact y1072.add y_xg y1113
  try clear y1113; try clear y1072
  have k1116 : q_kd X1105 h = 11 := by rw [dX1105]; exact q_xg_h
  have x1117 := x1076.tr x1107 (fun a e => Or.inl e)
  try clear x1076
  have k1118 := x1107.kd k1077 (by decide)
  try clear k1118; try clear k1077
  have k1119 := x1107.kd k1078 (by decide)
  try clear k1119; try clear k1078
  have k1120 := x1107.kd k1079 (by decide)
  try clear k1120; try clear k1079
  have k1121 := x1107.kd k1080 (by decide)
  try clear k1121; try clear k1080
  have k1122 := x1107.kd k1081 (by decide)
  try clear k1122; try clear k1081
  have k1123 := x1107.kd k1082 (by decide)
  try clear k1123; try clear k1082
  have k1124 := x1107.kd k1083 (by decide)
  try clear k1124
  have k1125 := x1107.kd k1084 (by decide)
  try clear k1125
  have k1126 := x1107.kd k1085 (by decide)
  try clear k1126
  have k1127 := x1107.kd k1086 (by decide)
  try clear k1127
  have k1128 := x1107.kd k1087 (by decide)
  try clear k1128; try clear k1087
  have k1129 := x1107.kd k1088 (by decide)
  try clear k1129; try clear k1088
  have k1130 := x1107.kd k1089 (by decide)
  try clear k1130; try clear k1089
  have k1131 := x1107.kd k1090 (by decide)
  try clear k1131
  have k1132 := x1107.kd k1091 (by decide)
  try clear k1132; try clear k1091
  have k1133 := x1107.kd k1074 (by decide)
  try clear k1133; try clear k1074
  have i1134 : σ1106.1 q451 0 = 0 := (q_exi x1107 (by rw [k1083]; decide)).trans i1093
  try clear i1093
  have i1135 : σ1106.1 q451 1 = -1 := (q_exi x1107 (by rw [k1083]; decide)).trans i1094
  try clear i1094; try clear k1083
  have i1136 : σ1106.1 q514 0 = 0 := (q_exi x1107 (by rw [k1084]; decide)).trans i1095
  try clear i1095
  have i1137 : σ1106.1 q514 1 = -1 := (q_exi x1107 (by rw [k1084]; decide)).trans i1096
  try clear i1096; try clear k1084
  have i1138 : σ1106.1 q581 0 = 0 := (q_exi x1107 (by rw [k1085]; decide)).trans i1097
  try clear i1097
  have i1139 : σ1106.1 q581 1 = -1 := (q_exi x1107 (by rw [k1085]; decide)).trans i1098
  try clear i1098; try clear k1085
  have i1140 : σ1106.1 q652 0 = 0 := (q_exi x1107 (by rw [k1086]; decide)).trans i1099
  try clear i1099
  have i1141 : σ1106.1 q652 1 = -1 := (q_exi x1107 (by rw [k1086]; decide)).trans i1100
  try clear i1100; try clear k1086
  have ht3 : q_rf X1105 h 3 = q22 := by rw [dX1105]; exact if_pos rfl
  have htj : ∀ j, q_rf X1105 q22 j = ([q451, q514, q581, q652] : List Nat).getD j 0 := fun j => ((x1107.2.2.2.1 q22 (by rw [k1090]; decide)).2.2.1 j).trans (j1104 j)
  try clear x1107; try clear k1090
  have htr : ∀ i, i < 4 → σ1106.1 (q_rf X1105 (q_rf X1105 h 3) i) 0 = 0 ∧ σ1106.1 (q_rf X1105 (q_rf X1105 h 3) i) 1 = -1 := by
    intro i hi
    rw [ht3, htj]
    exact match i, hi with | 0, _ => ⟨i1134, i1135⟩ | 1, _ => ⟨i1136, i1137⟩ | 2, _ => ⟨i1138, i1139⟩ | 3, _ => ⟨i1140, i1141⟩ | (n + 4), hi => absurd hi (Nat.not_lt_of_ge (Nat.le_add_left 4 n))
  try clear i1141; try clear i1140; try clear i1139; try clear i1138; try clear i1137; try clear i1136; try clear i1135; try clear i1134
  exact b_ret E hr hlk S958 x1117 k1116 ⟨⟨y1115, y1114⟩, ⟨⟨by rw [dσ1106]; exact if_pos rfl, by rw [dσ1106]; exact if_pos rfl⟩, htr⟩⟩ w1108 dX11_init_187
end
