/-! FROM 49l.lay.lean.txt -/
/-! A LAYING CALLED -/
abbrev ly_ok (N v : Int) : Prop := v = -1 ∨ (0 ≤ v ∧ v < N)
def ly_n (v : Int) : Int := if v = -1 then 0 else 1
def ly_1 (v j : Int) : Int := if v = j then 1 else 0
def ly_l (p q r s j : Int) : Int := ly_1 p j + ly_1 q j + ly_1 r j + ly_1 s j
theorem ly_1b (v j : Int) : 0 ≤ ly_1 v j ∧ ly_1 v j ≤ 1 := by
  unfold ly_1
  split <;> omega
theorem ly_nb (v : Int) : 0 ≤ ly_n v ∧ ly_n v ≤ 1 := by
  unfold ly_n
  split <;> omega
theorem ly_S1 {v : Int} (h : ly_ok 10 v) : m_S (ly_1 v) 0 10 = ly_n v := by
  rcases (by unfold ly_ok at h; omega : v = -1 ∨ v = 0 ∨ v = 1 ∨ v = 2 ∨ v = 3 ∨ v = 4 ∨ v = 5 ∨ v = 6 ∨ v = 7 ∨ v = 8 ∨ v = 9) with e | e | e | e | e | e | e | e | e | e | e <;> subst e <;> rfl
theorem m_S_plus (f g : Int → Int) (b : Int) (n : Nat) : m_S (fun j => f j + g j) b n = m_S f b n + m_S g b n := by
  induction n with
  | zero => rfl
  | succ n ih =>
    show m_S (fun j => f j + g j) b n + (f (b + (n : Int)) + g (b + (n : Int))) = m_S f b n + f (b + (n : Int)) + (m_S g b n + g (b + (n : Int)))
    rw [ih]
    omega
theorem ly_S {p q r s : Int} (hp : ly_ok 10 p) (hq : ly_ok 10 q) (hr : ly_ok 10 r) (hs : ly_ok 10 s) : m_S (ly_l p q r s) 0 10 = ly_n p + ly_n q + ly_n r + ly_n s := by
  have e : ly_l p q r s = fun j => (fun j => (fun j => ly_1 p j + ly_1 q j) j + ly_1 r j) j + ly_1 s j := rfl
  rw [e, m_S_plus (fun j => (fun j => ly_1 p j + ly_1 q j) j + ly_1 r j) (ly_1 s), m_S_plus (fun j => ly_1 p j + ly_1 q j) (ly_1 r), m_S_plus (ly_1 p) (ly_1 q), ly_S1 hp, ly_S1 hq, ly_S1 hr, ly_S1 hs]
section GL
variable {X : XW} {lb : Nat → Nat} {C g o a : Nat} {σ τ σ0 τ0 : ST} {V V0 : Nat → Int → Int} {c c0 l : Int → Int}
/-! the class -/
theorem ly_want (Y : y_S X lb) (G : y_G X lb g o) (w : y_W X lb g o σ0 τ V) {v : Int32} (h : ly_ok 10 v.toInt) (b : ∀ j : Int, 0 ≤ j → j < 10 → 0 ≤ V 23 j ∧ V 23 j ≤ 10) (b9 : 0 ≤ V 0 9 ∧ V 0 9 ≤ 10) :
    ∃ V' : Nat → Int → Int, y_W X lb g o σ0 (F_X0_want X τ g v 1) V' ∧ (∀ (id : Nat) (i : Int), id ≠ 23 → (id ≠ 0 ∨ i ≠ 9) → V' id i = V id i) ∧ (∀ j : Int, 0 ≤ j → j < 10 → V' 23 j = V 23 j + ly_1 v.toInt j) ∧ V' 0 9 = V 0 9 + ly_n v.toInt := by
  have one : (1 : Int32).toInt = 1 := rfl
  have gn : ((y_gn 23 : Nat) : Int) = 10 := rfl
  unfold F_X0_want ly_n
  by_cases q : v.toInt = -1
  · rw [if_pos q, if_pos q]
    refine ⟨V, w, fun _ _ _ _ => rfl, fun j j0 j1 => ?_, by omega⟩
    unfold ly_1
    rw [if_neg (by omega)]
    omega
  · have hv : 0 ≤ v.toInt ∧ v.toInt < 10 := by
      unfold ly_ok at h
      omega
    have bv := b v.toInt hv.1 hv.2
    rw [if_neg q, if_neg q, q_letE (F_X5_add X τ (q_rf X g 8) v 1)]
    have w1 := w.add Y G (id := 23) (r := q_rf X g 8) ⟨by decide, by decide⟩ rfl v 1 hv.1 (by rw [gn]; exact hv.2)
    rw [one, ar_wr (by omega) (by omega)] at w1
    obtain ⟨τ1, e1⟩ : ∃ s, s = F_X5_add X τ (q_rf X g 8) v 1 := ⟨_, rfl⟩
    rw [← e1] at w1 ⊢
    have f9 : (τ1.1 g 9).toInt = V 0 9 := (w1.rd (id := 0) (by decide) 9 rfl).trans (y_up_ne (Or.inl (by decide)))
    rw [q_letE (τ1.1 g 9)]
    obtain ⟨u, hu⟩ : ∃ u, u = τ1.1 g 9 + 1 := ⟨_, rfl⟩
    have uv : u.toInt = V 0 9 + 1 := by rw [hu, ar_add, f9, one, ar_wr (by omega) (by omega)]
    rw [← hu, q_letE u, q_letE (q_si τ1 g 9 u)]
    have w2 : y_W X lb g o σ0 (q_si τ1 g 9 u) (y_up (y_up V 23 v.toInt (V 23 v.toInt + 1)) 0 9 u.toInt) := w1.si Y G (id := 0) (by decide) 9 u
    rw [uv] at w2
    refine ⟨_, w2, fun id i i23 i0 => ?_, fun j j0 j1 => ?_, y_up_eq _ _ _ _⟩
    · rw [y_up_ne i0, y_up_ne (Or.inl i23)]
    · rw [y_up_ne (Or.inl (by decide))]
      unfold ly_1
      by_cases e : v.toInt = j
      · rw [if_pos e, ← e, y_up_eq]
      · rw [if_neg e, y_up_ne (Or.inr (fun z => e z.symm))]; omega
theorem ly_holdL (Y : y_S X lb) (G : y_G X lb g o) (w : y_W X lb g o σ0 τ V) {N p : Int} (hN : V 1 0 = N) (bN : 0 ≤ N ∧ N ≤ 10) (hp : V 0 5 = p) (bp : 0 ≤ p ∧ p < 6) (fu : Nat) : ∀ x : Int32, (2147483647 - x.toInt).toNat < fu → 0 ≤ x.toInt → x.toInt ≤ N → ((F_X0_holdsWanted_L2_1 X τ g fu x).toInt = 1 ∨ (F_X0_holdsWanted_L2_1 X τ g fu x).toInt = 0) ∧ ((F_X0_holdsWanted_L2_1 X τ g fu x).toInt = 1 ↔ ∀ k : Int, x.toInt ≤ k → k < N → V 23 k ≤ V 7 (10 * p + k)) := by
  have gn7 : ((y_gn 7 : Nat) : Int) = 60 := rfl
  have gn23 : ((y_gn 23 : Nat) : Int) = 10 := rfl
  have e10 : (10 : Int32).toInt = 10 := rfl
  have f0 : (τ.1 (q_rf X g 0) 0).toInt = N := (w.rd (id := 1) (by decide) 0 rfl).trans hN
  have f5 : (τ.1 g 5).toInt = p := (w.rd (id := 0) (by decide) 5 rfl).trans hp
  induction fu with
  | zero => intro x h; exact absurd h (Nat.not_lt_zero _)
  | succ fu ih =>
    intro x hf x0 x1
    rw [F_X0_holdsWanted_L2_1_s]
    unfold F_X0_holdsWanted_B2_1
    rw [q_letE (τ.1 (q_rf X g 0) 0), f0]
    by_cases q : x.toInt < N
    · have ei : (τ.1 g 5 * 10 + x).toInt = 10 * p + x.toInt := by
        rw [ar_add, ar_mul, f5, e10, ar_wr (n := p * 10) (by omega) (by omega), ar_wr (by omega) (by omega)]
        omega
      have h7 : (F_X1_heldBy X τ (q_rf X g 1) (τ.1 g 5) x).toInt = V 7 (10 * p + x.toInt) := by
        unfold F_X1_heldBy
        rw [q_letE, q_letE, q_letE]
        exact y_getI Y G w (id := 7) ⟨by decide, by decide⟩ rfl ei (by omega) (by rw [gn7]; omega)
      have h23 : (F_X5_get X τ (q_rf X g 8) x).toInt = V 23 x.toInt := y_getI Y G w (id := 23) ⟨by decide, by decide⟩ rfl (x := x) rfl x0 (by rw [gn23]; omega)
      have ex : (x + 1).toInt = x.toInt + 1 := y_inc (by omega)
      rw [if_pos q, q_letE (τ.1 g 5), q_letE (F_X1_heldBy X τ (q_rf X g 1) (τ.1 g 5) x), q_letE (F_X5_get X τ (q_rf X g 8) x), h7, h23]
      by_cases q2 : V 7 (10 * p + x.toInt) < V 23 x.toInt
      · rw [if_pos q2]
        refine ⟨Or.inr rfl, ⟨fun h => absurd h (by decide), fun h => ?_⟩⟩
        have := h x.toInt (Int.le_refl _) q
        omega
      · rw [if_neg q2, q_letE (x + 1)]
        obtain ⟨i1, i2⟩ := ih (x + 1) (by omega) (by omega) (by omega)
        refine ⟨i1, i2.trans ⟨fun h k k0 k1 => ?_, fun h k k0 k1 => h k (by omega) k1⟩⟩
        by_cases e : k = x.toInt
        · rw [e]; omega
        · exact h k (by omega) k1
    · rw [if_neg q]
      exact ⟨Or.inl rfl, ⟨fun _ k k0 k1 => by omega, fun _ => rfl⟩⟩
/-! the reference -/
theorem lr_J161 (Bf : Int32 → Int32 → Int32 → Int32 → ST → Int32 × ST) (ha : q_rf X a 28 ≠ q_rf X a 29) {n i v e' g' : Int32} (hv : τ.1 (q_rf X a 29) i.toNatClampNeg = v) (ok : ly_ok 10 v.toInt) (bn : 0 ≤ n.toInt ∧ n.toInt ≤ 10) (bl : ∀ j : Int, 0 ≤ j → j < 10 → 0 ≤ (τ.1 (q_rf X a 28) j.toNat).toInt ∧ (τ.1 (q_rf X a 28) j.toNat).toInt ≤ 10) :
    ∃ (n' : Int32) (τ' : ST), F_X12_lay_J161_10 X τ a i n Bf e' g' = Bf n' g' e' (i + 1) τ' ∧ n'.toInt = n.toInt + ly_n v.toInt ∧ tkl (fun b _ => b = q_rf X a 28) (fun _ _ => False) τ τ' ∧ ∀ j : Int, 0 ≤ j → j < 10 → (τ'.1 (q_rf X a 28) j.toNat).toInt = (τ.1 (q_rf X a 28) j.toNat).toInt + ly_1 v.toInt j := by
  have one : (1 : Int32).toInt = 1 := rfl
  have z0 : (0 : Int32).toInt = 0 := rfl
  unfold F_X12_lay_J161_10 ly_n
  rw [q_letE (τ.1 (q_rf X a 29) i.toNatClampNeg), hv]
  by_cases q : v.toInt = -1
  · rw [if_pos q, if_pos q, q_letE (n + 0), q_letE v, if_pos q, q_letE (i + 1)]
    refine ⟨n + 0, τ, rfl, ?_, tkl.rf, fun j j0 j1 => ?_⟩
    · rw [ar_add, z0, ar_wr (by omega) (by omega)]
    · unfold ly_1
      rw [if_neg (by omega)]
      omega
  · have hv10 : 0 ≤ v.toInt ∧ v.toInt < 10 := by
      unfold ly_ok at ok
      omega
    have bv := bl v.toInt hv10.1 hv10.2
    rw [if_neg q, if_neg q, q_letE (n + 1), q_letE v, if_neg q, q_letE v, q_letE (τ.1 (q_rf X a 28) v.toNatClampNeg)]
    obtain ⟨u, hu⟩ : ∃ u, u = τ.1 (q_rf X a 28) v.toNatClampNeg + 1 := ⟨_, rfl⟩
    have uv : u.toInt = (τ.1 (q_rf X a 28) v.toInt.toNat).toInt + 1 := by
      rw [hu, ar_add, one, ar_cl, ar_wr (by omega) (by omega)]
    rw [← hu, q_letE u, q_letE (q_si τ (q_rf X a 28) v.toNatClampNeg u), q_letE (i + 1)]
    refine ⟨n + 1, _, rfl, ?_, tkl.rf.si _ rfl, fun j j0 j1 => ?_⟩
    · rw [ar_add, one, ar_wr (by omega) (by omega)]
    · unfold ly_1
      show (if q_rf X a 28 = q_rf X a 28 ∧ j.toNat = v.toNatClampNeg then u else τ.1 (q_rf X a 28) j.toNat).toInt = _
      by_cases e : v.toInt = j
      · rw [if_pos e, if_pos ⟨rfl, by rw [ar_cl, e]⟩, uv, e]
      · rw [if_neg e, if_neg (fun z => e (by have := z.2; rw [ar_cl] at this; omega))]
        omega
theorem lr_step (Bf : Int32 → Int32 → Int32 → Int32 → ST → Int32 × ST) (ha : q_rf X a 28 ≠ q_rf X a 29) (hc : m_c X τ a = c) (h0 : 2 ≤ c 0 ∧ c 0 ≤ 10) {n g e i v : Int32} (hi : i.toInt < 4) (hv : τ.1 (q_rf X a 29) i.toNatClampNeg = v) (ok : ly_ok (c 0) v.toInt) (bn : 0 ≤ n.toInt ∧ n.toInt ≤ 10) (bl : ∀ j : Int, 0 ≤ j → j < 10 → 0 ≤ (τ.1 (q_rf X a 28) j.toNat).toInt ∧ (τ.1 (q_rf X a 28) j.toNat).toInt ≤ 10) :
    ∃ (n' g' e' : Int32) (τ' : ST), F_X12_lay_B75_3 X a Bf n g e i τ = Bf n' g' e' (i + 1) τ' ∧ n'.toInt = n.toInt + ly_n v.toInt ∧ (e'.toInt = 0 ↔ e.toInt = 0 ∧ v.toInt ≠ -1) ∧ (g'.toInt = 0 ↔ g.toInt = 0 ∧ (e.toInt = 0 ∨ v.toInt = -1)) ∧ tkl (fun b _ => b = q_rf X a 28) (fun _ _ => False) τ τ' ∧ ∀ j : Int, 0 ≤ j → j < 10 → (τ'.1 (q_rf X a 28) j.toNat).toInt = (τ.1 (q_rf X a 28) j.toNat).toInt + ly_1 v.toInt j := by
  have ok10 : ly_ok 10 v.toInt := by
    unfold ly_ok at ok ⊢
    omega
  have one : (1 : Int32).toInt = 1 := rfl
  have z0 : (0 : Int32).toInt = 0 := rfl
  -- behind the flags
  have fin : ∀ e' g' : Int32, ∃ (n' : Int32) (τ' : ST), F_X12_lay_J161_10 X τ a i n Bf e' g' = Bf n' g' e' (i + 1) τ' ∧ n'.toInt = n.toInt + ly_n v.toInt ∧ tkl (fun b _ => b = q_rf X a 28) (fun _ _ => False) τ τ' ∧ ∀ j : Int, 0 ≤ j → j < 10 → (τ'.1 (q_rf X a 28) j.toNat).toInt = (τ.1 (q_rf X a 28) j.toNat).toInt + ly_1 v.toInt j := fun e' g' => lr_J161 Bf ha hv ok10 bn bl
  have j133 : ∀ e' : Int32, (e'.toInt = 0 ↔ e.toInt = 0 ∧ v.toInt ≠ -1) → ∃ (n' g' : Int32) (τ' : ST), F_X12_lay_J133_9 X g τ a i n Bf e' = Bf n' g' e' (i + 1) τ' ∧ n'.toInt = n.toInt + ly_n v.toInt ∧ (g'.toInt = 0 ↔ g.toInt = 0 ∧ (e.toInt = 0 ∨ v.toInt = -1)) ∧ tkl (fun b _ => b = q_rf X a 28) (fun _ _ => False) τ τ' ∧ ∀ j : Int, 0 ≤ j → j < 10 → (τ'.1 (q_rf X a 28) j.toNat).toInt = (τ.1 (q_rf X a 28) j.toNat).toInt + ly_1 v.toInt j := by
    intro e' he
    unfold F_X12_lay_J133_9
    by_cases q : g.toInt = 0
    · rw [if_pos q]
      by_cases q2 : e'.toInt = 0
      · rw [if_pos q2]
        obtain ⟨n', τ', f1, f2, f3, f4⟩ := fin e' 0
        exact ⟨n', 0, τ', f1, f2, ⟨fun _ => ⟨q, Or.inl (he.mp q2).1⟩, fun _ => rfl⟩, f3, f4⟩
      · rw [if_neg q2, q_letE (τ.1 (q_rf X a 29) i.toNatClampNeg), hv]
        by_cases q3 : v.toInt = -1
        · rw [if_pos q3]
          obtain ⟨n', τ', f1, f2, f3, f4⟩ := fin e' 0
          exact ⟨n', 0, τ', f1, f2, ⟨fun _ => ⟨q, Or.inr q3⟩, fun _ => rfl⟩, f3, f4⟩
        · rw [if_neg q3]
          obtain ⟨n', τ', f1, f2, f3, f4⟩ := fin e' 1
          refine ⟨n', 1, τ', f1, f2, ⟨fun h => absurd h (by decide), fun h => ?_⟩, f3, f4⟩
          rcases h.2 with h | h
          · exact absurd (he.mpr ⟨h, q3⟩) q2
          · exact absurd h q3
    · rw [if_neg q]
      obtain ⟨n', τ', f1, f2, f3, f4⟩ := fin e' 1
      exact ⟨n', 1, τ', f1, f2, ⟨fun h => absurd h (by decide), fun h => absurd h.1 q⟩, f3, f4⟩
  have j112 : ∃ (n' g' e' : Int32) (τ' : ST), F_X12_lay_J112_8 X e τ a i g n Bf = Bf n' g' e' (i + 1) τ' ∧ n'.toInt = n.toInt + ly_n v.toInt ∧ (e'.toInt = 0 ↔ e.toInt = 0 ∧ v.toInt ≠ -1) ∧ (g'.toInt = 0 ↔ g.toInt = 0 ∧ (e.toInt = 0 ∨ v.toInt = -1)) ∧ tkl (fun b _ => b = q_rf X a 28) (fun _ _ => False) τ τ' ∧ ∀ j : Int, 0 ≤ j → j < 10 → (τ'.1 (q_rf X a 28) j.toNat).toInt = (τ.1 (q_rf X a 28) j.toNat).toInt + ly_1 v.toInt j := by
    unfold F_X12_lay_J112_8
    by_cases q : e.toInt = 0
    · rw [if_pos q, q_letE (τ.1 (q_rf X a 29) i.toNatClampNeg), hv]
      by_cases q2 : v.toInt = -1
      · rw [if_pos q2]
        have he : (1 : Int32).toInt = 0 ↔ e.toInt = 0 ∧ v.toInt ≠ -1 := ⟨fun h => absurd h (by decide), fun h => absurd q2 h.2⟩
        obtain ⟨n', g', τ', f1, f2, f3, f4, f5⟩ := j133 1 he
        exact ⟨n', g', 1, τ', f1, f2, he, f3, f4, f5⟩
      · rw [if_neg q2]
        have he : (0 : Int32).toInt = 0 ↔ e.toInt = 0 ∧ v.toInt ≠ -1 := ⟨fun _ => ⟨q, q2⟩, fun _ => rfl⟩
        obtain ⟨n', g', τ', f1, f2, f3, f4, f5⟩ := j133 0 he
        exact ⟨n', g', 0, τ', f1, f2, he, f3, f4, f5⟩
    · rw [if_neg q]
      have he : (1 : Int32).toInt = 0 ↔ e.toInt = 0 ∧ v.toInt ≠ -1 := ⟨fun h => absurd h (by decide), fun h => absurd h.1 q⟩
      obtain ⟨n', g', τ', f1, f2, f3, f4, f5⟩ := j133 1 he
      exact ⟨n', g', 1, τ', f1, f2, he, f3, f4, f5⟩
  unfold F_X12_lay_B75_3
  rw [if_pos hi, q_letE (τ.1 (q_rf X a 29) i.toNatClampNeg), hv]
  by_cases q : v.toInt = -1
  · rw [if_pos q]; exact j112
  · have k := lk_kindAt hc h0 v
    rw [if_pos (by unfold ly_ok at ok; omega)] at k
    rw [if_neg q, q_letE v, q_letE (F_X12_isKindAt X τ a v), k, if_neg (by decide : ¬ (1 : Int) = 0)]
    exact j112
theorem lr_bad (Bf : Int32 → Int32 → Int32 → Int32 → ST → Int32 × ST) (hc : m_c X τ a = c) (h0 : 2 ≤ c 0 ∧ c 0 ≤ 10) {n g e i v : Int32} (hi : i.toInt < 4) (hv : τ.1 (q_rf X a 29) i.toNatClampNeg = v) (ok : ¬ ly_ok (c 0) v.toInt) : F_X12_lay_B75_3 X a Bf n g e i τ = (-1, q_si τ a 0 2) := by
  have q : ¬ v.toInt = -1 := fun h => ok (Or.inl h)
  have k := lk_kindAt hc h0 v
  rw [if_neg (fun h => ok (Or.inr h))] at k
  unfold F_X12_lay_B75_3
  rw [if_pos hi, q_letE (τ.1 (q_rf X a 29) i.toNatClampNeg), hv, if_neg q, q_letE v, q_letE (F_X12_isKindAt X τ a v), k, if_pos rfl]
  unfold F_X12_lay_E106_11 F_X12_refuse
  rw [q_letE]
  rfl
theorem lr_clear (fu : Nat) : ∀ (x : Int32) (τ : ST), (2147483647 - x.toInt).toNat < fu → 0 ≤ x.toInt → x.toInt ≤ 10 → (∀ j : Int, 0 ≤ j → j < x.toInt → (τ.1 (q_rf X a 28) j.toNat).toInt = 0) → ∃ τ' : ST, F_X12_lay_L42_1 X a fu x τ = F_X12_lay_L75_3 X a ((2147483647 - (0 : Int32).toInt).toNat + 1) 0 0 0 0 τ' ∧ tkl (fun b _ => b = q_rf X a 28) (fun _ _ => False) τ τ' ∧ ∀ j : Int, 0 ≤ j → j < 10 → (τ'.1 (q_rf X a 28) j.toNat).toInt = 0 := by
  induction fu with
  | zero => intro x τ h; exact absurd h (Nat.not_lt_zero _)
  | succ fu ih =>
    intro x τ hf x0 x1 hz
    rw [F_X12_lay_L42_1_s]
    unfold F_X12_lay_B42_1
    by_cases q : x.toInt < 10
    · have ex : (x + 1).toInt = x.toInt + 1 := y_inc (by omega)
      rw [if_pos q, q_letE (q_si τ (q_rf X a 28) x.toNatClampNeg 0), q_letE (x + 1)]
      obtain ⟨τ', i1, i2, i3⟩ := ih (x + 1) (q_si τ (q_rf X a 28) x.toNatClampNeg 0) (by omega) (by omega) (by omega) (fun j j0 j1 => by
        show (if q_rf X a 28 = q_rf X a 28 ∧ j.toNat = x.toNatClampNeg then (0 : Int32) else τ.1 (q_rf X a 28) j.toNat).toInt = 0
        by_cases e : j = x.toInt
        · rw [if_pos ⟨rfl, by rw [ar_cl, e]⟩]; rfl
        · rw [if_neg (fun z => e (by have := z.2; rw [ar_cl] at this; omega))]
          exact hz j j0 (by omega))
      have t0 : tkl (fun b _ => b = q_rf X a 28) (fun _ _ => False) τ (q_si τ (q_rf X a 28) x.toNatClampNeg 0) := tkl.rf.si _ rfl
      exact ⟨τ', i1, t0.tr i2, i3⟩
    · rw [if_neg q]
      exact ⟨τ, rfl, tkl.rf, fun j j0 j1 => hz j j0 (by omega)⟩
/-- what the reference writes in a call, beside its table -/
def mv_S (X : XW) (a : Nat) (b f : Nat) : Prop := b = q_rf X a 20 ∨ b = a ∧ (f = 0 ∨ f = 1) ∨ b = q_rf X a 28 ∨ b = q_rf X a 29
theorem lr_asked (hT : q_T X) (ha : q_kd X a = 12) (hc : m_c X τ a = c) (h0 : 2 ≤ c 0 ∧ c 0 ≤ 10) (p q r s : Int32) :
    (¬ (ly_ok (c 0) p.toInt ∧ ly_ok (c 0) q.toInt ∧ ly_ok (c 0) r.toInt ∧ ly_ok (c 0) s.toInt) ∧ ∃ τ' : ST, F_X12_lay X τ a p q r s = (-1, q_si τ' a 0 2) ∧ m_c X τ' a = c ∧ tkl (mv_S X a) (fun _ _ => False) τ τ') ∨
    ((ly_ok (c 0) p.toInt ∧ ly_ok (c 0) q.toInt ∧ ly_ok (c 0) r.toInt ∧ ly_ok (c 0) s.toInt) ∧ ∃ (n g : Int32) (τ' : ST), F_X12_lay X τ a p q r s = F_X12_lay_E217_7 X n τ' a g ∧ n.toInt = ly_n p.toInt + ly_n q.toInt + ly_n r.toInt + ly_n s.toInt ∧ (g.toInt = 0 ↔ (p.toInt = -1 → q.toInt = -1) ∧ (p.toInt = -1 ∨ q.toInt = -1 → r.toInt = -1) ∧ (p.toInt = -1 ∨ q.toInt = -1 ∨ r.toInt = -1 → s.toInt = -1)) ∧ m_c X τ' a = c ∧ (τ'.1 a 0).toInt = 0 ∧ tkl (mv_S X a) (fun _ _ => False) τ τ' ∧ ∀ j : Int, 0 ≤ j → j < 10 → (τ'.1 (q_rf X a 28) j.toNat).toInt = ly_l p.toInt q.toInt r.toInt s.toInt j) := by
  have k28 : q_kd X (q_rf X a 28) = 39 := (hT.1 a 28 (by rw [ha]; decide)).trans (by rw [ha]; rfl)
  have k29 : q_kd X (q_rf X a 29) = 40 := (hT.1 a 29 (by rw [ha]; decide)).trans (by rw [ha]; rfl)
  have k20 := (tb_k hT ha).1
  have n89 : q_rf X a 28 ≠ q_rf X a 29 := m_ne k28 k29 (by decide)
  have n80 : q_rf X a 28 ≠ q_rf X a 20 := m_ne k28 k20 (by decide)
  have n90 : q_rf X a 29 ≠ q_rf X a 20 := m_ne k29 k20 (by decide)
  have na0 : a ≠ q_rf X a 20 := Ne.symm (m_ne k20 ha (by decide))
  have na8 : a ≠ q_rf X a 28 := Ne.symm (m_ne k28 ha (by decide))
  have na9 : a ≠ q_rf X a 29 := Ne.symm (m_ne k29 ha (by decide))
  have z0 : (0 : Int32).toInt = 0 := rfl
  unfold F_X12_lay
  rw [q_letE (q_si τ a 1 0), q_letE (q_si (q_si τ a 1 0) a 0 0), q_letE (q_si (q_si (q_si τ a 1 0) a 0 0) (q_rf X a 29) (0 : Int32).toNatClampNeg p), q_letE (q_si (q_si (q_si (q_si τ a 1 0) a 0 0) (q_rf X a 29) (0 : Int32).toNatClampNeg p) (q_rf X a 29) (1 : Int32).toNatClampNeg q), q_letE (q_si (q_si (q_si (q_si (q_si τ a 1 0) a 0 0) (q_rf X a 29) (0 : Int32).toNatClampNeg p) (q_rf X a 29) (1 : Int32).toNatClampNeg q) (q_rf X a 29) (2 : Int32).toNatClampNeg r), q_letE (q_si (q_si (q_si (q_si (q_si (q_si τ a 1 0) a 0 0) (q_rf X a 29) (0 : Int32).toNatClampNeg p) (q_rf X a 29) (1 : Int32).toNatClampNeg q) (q_rf X a 29) (2 : Int32).toNatClampNeg r) (q_rf X a 29) (3 : Int32).toNatClampNeg s)]
  obtain ⟨τ1, e1⟩ : ∃ t, t = q_si (q_si (q_si (q_si (q_si (q_si τ a 1 0) a 0 0) (q_rf X a 29) (0 : Int32).toNatClampNeg p) (q_rf X a 29) (1 : Int32).toNatClampNeg q) (q_rf X a 29) (2 : Int32).toNatClampNeg r) (q_rf X a 29) (3 : Int32).toNatClampNeg s := ⟨_, rfl⟩
  have t1 : tkl (fun b f => b = a ∧ (f = 0 ∨ f = 1) ∨ b = q_rf X a 29) (fun _ _ => False) τ τ1 := by
    rw [e1]
    exact (((((tkl.rf.si _ (Or.inl ⟨rfl, Or.inr rfl⟩)).si _ (Or.inl ⟨rfl, Or.inl rfl⟩)).si _ (Or.inr rfl)).si _ (Or.inr rfl)).si _ (Or.inr rfl)).si _ (Or.inr rfl)
  have s1 : τ1.1 a 0 = 0 := by
    rw [e1, q_si_ne na9, q_si_ne na9, q_si_ne na9, q_si_ne na9, si_eq]
  have a3 : τ1.1 (q_rf X a 29) (3 : Int32).toNatClampNeg = s := by rw [e1, si_eq]
  have a2 : τ1.1 (q_rf X a 29) (2 : Int32).toNatClampNeg = r := by rw [e1, si_f (by decide), si_eq]
  have a1 : τ1.1 (q_rf X a 29) (1 : Int32).toNatClampNeg = q := by rw [e1, si_f (by decide), si_f (by decide), si_eq]
  have a0 : τ1.1 (q_rf X a 29) (0 : Int32).toNatClampNeg = p := by rw [e1, si_f (by decide), si_f (by decide), si_f (by decide), si_eq]
  rw [← e1]
  have cT : ∀ τ' : ST, tkl (mv_S X a) (fun _ _ => False) τ τ' → True := fun _ _ => trivial
  obtain ⟨τ2, c1, c2, c3⟩ := lr_clear (X := X) (a := a) ((2147483647 - (0 : Int32).toInt).toNat + 1) 0 τ1 (by decide) (by decide) (by decide) (fun j j0 j1 => absurd j1 (by rw [z0]; omega))
  rw [c1]
  obtain ⟨fu, hfu⟩ : ∃ fu : Nat, (2147483647 - (0 : Int32).toInt).toNat + 1 = fu + 5 := ⟨2147483643, by decide⟩
  rw [hfu]
  -- what stays through the steps
  have kc : ∀ τ' : ST, tkl (fun b _ => b = q_rf X a 28) (fun _ _ => False) τ2 τ' → m_c X τ' a = c ∧ (∀ f, τ'.1 (q_rf X a 29) f = τ1.1 (q_rf X a 29) f) ∧ τ'.1 a 0 = 0 ∧ tkl (mv_S X a) (fun _ _ => False) τ τ' := by
    intro τ' h
    have hh := c2.tr h
    refine ⟨?_, fun f => hh.1 _ f (fun z => n89 z.symm), ?_, ?_⟩
    · rw [← hc]
      funext j
      refine congrArg Int32.toInt ?_
      rw [hh.1 _ _ (fun z => n80 z.symm), t1.1 _ _ (fun z => by
        rcases z with z | z
        · exact na0 z.1.symm
        · exact n90 z.symm)]
    · rw [hh.1 a 0 na8]; exact s1
    · refine (t1.mono (fun b f z => ?_) (fun _ _ z => z)).tr (hh.mono (fun b f z => Or.inr (Or.inr (Or.inl z))) (fun _ _ z => z))
      rcases z with z | z
      · exact Or.inr (Or.inl z)
      · exact Or.inr (Or.inr (Or.inr z))
  have e00 : (0 : Int32) + 1 = 1 := by decide
  have e01 : (1 : Int32) + 1 = 2 := by decide
  have e02 : (2 : Int32) + 1 = 3 := by decide
  have e03 : (3 : Int32) + 1 = 4 := by decide
  have k2 := kc τ2 tkl.rf
  rw [F_X12_lay_L75_3_s]
  by_cases op : ¬ ly_ok (c 0) p.toInt
  · exact Or.inl ⟨fun h => op h.1, τ2, lr_bad _ k2.1 h0 (by decide) ((k2.2.1 _).trans a0) op, k2.1, k2.2.2.2⟩
  replace op := Classical.not_not.mp op
  obtain ⟨n3, g3, d3, τ3, x1, x2, x3, x4, x5, x6⟩ := lr_step (F_X12_lay_L75_3 X a (fu + 4)) n89 k2.1 h0 (n := 0) (g := 0) (e := 0) (i := 0) (by decide) ((k2.2.1 _).trans a0) op ⟨by decide, by decide⟩ (fun j j0 j1 => by rw [c3 j j0 j1]; omega)
  rw [x1, e00, F_X12_lay_L75_3_s]
  have k3 := kc τ3 x5
  have np := ly_nb p.toInt
  by_cases oq : ¬ ly_ok (c 0) q.toInt
  · exact Or.inl ⟨fun h => oq h.2.1, τ3, lr_bad _ k3.1 h0 (by decide) ((k3.2.1 _).trans a1) oq, k3.1, k3.2.2.2⟩
  replace oq := Classical.not_not.mp oq
  have v3 : ∀ j : Int, 0 ≤ j → j < 10 → (τ3.1 (q_rf X a 28) j.toNat).toInt = ly_1 p.toInt j := fun j j0 j1 => by rw [x6 j j0 j1, c3 j j0 j1]; omega
  obtain ⟨n4, g4, d4, τ4, y1, y2, y3, y4, y5, y6⟩ := lr_step (F_X12_lay_L75_3 X a (fu + 3)) n89 k3.1 h0 (n := n3) (g := g3) (e := d3) (i := 1) (by decide) ((k3.2.1 _).trans a1) oq (by omega) (fun j j0 j1 => by rw [v3 j j0 j1]; have := ly_1b p.toInt j; omega)
  rw [y1, e01, F_X12_lay_L75_3_s]
  have k4 := kc τ4 (x5.tr y5)
  have nq := ly_nb q.toInt
  by_cases or_ : ¬ ly_ok (c 0) r.toInt
  · exact Or.inl ⟨fun h => or_ h.2.2.1, τ4, lr_bad _ k4.1 h0 (by decide) ((k4.2.1 _).trans a2) or_, k4.1, k4.2.2.2⟩
  replace or_ := Classical.not_not.mp or_
  have v4 : ∀ j : Int, 0 ≤ j → j < 10 → (τ4.1 (q_rf X a 28) j.toNat).toInt = ly_1 p.toInt j + ly_1 q.toInt j := fun j j0 j1 => by rw [y6 j j0 j1, v3 j j0 j1]
  obtain ⟨n5, g5, d5, τ5, w1, w2, w3, w4, w5, w6⟩ := lr_step (F_X12_lay_L75_3 X a (fu + 2)) n89 k4.1 h0 (n := n4) (g := g4) (e := d4) (i := 2) (by decide) ((k4.2.1 _).trans a2) or_ (by omega) (fun j j0 j1 => by rw [v4 j j0 j1]; have := ly_1b p.toInt j; have := ly_1b q.toInt j; omega)
  rw [w1, e02, F_X12_lay_L75_3_s]
  have k5 := kc τ5 ((x5.tr y5).tr w5)
  have nr := ly_nb r.toInt
  by_cases os : ¬ ly_ok (c 0) s.toInt
  · exact Or.inl ⟨fun h => os h.2.2.2, τ5, lr_bad _ k5.1 h0 (by decide) ((k5.2.1 _).trans a3) os, k5.1, k5.2.2.2⟩
  replace os := Classical.not_not.mp os
  have v5 : ∀ j : Int, 0 ≤ j → j < 10 → (τ5.1 (q_rf X a 28) j.toNat).toInt = ly_1 p.toInt j + ly_1 q.toInt j + ly_1 r.toInt j := fun j j0 j1 => by rw [w6 j j0 j1, v4 j j0 j1]
  obtain ⟨n6, g6, d6, τ6, u1, u2, u3, u4, u5, u6⟩ := lr_step (F_X12_lay_L75_3 X a (fu + 1)) n89 k5.1 h0 (n := n5) (g := g5) (e := d5) (i := 3) (by decide) ((k5.2.1 _).trans a3) os (by omega) (fun j j0 j1 => by rw [v5 j j0 j1]; have := ly_1b p.toInt j; have := ly_1b q.toInt j; have := ly_1b r.toInt j; omega)
  rw [u1, e03, F_X12_lay_L75_3_s]
  have k6 := kc τ6 (((x5.tr y5).tr w5).tr u5)
  refine Or.inr ⟨⟨op, oq, or_, os⟩, n6, g6, τ6, ?_, ?_, ?_, k6.1, by rw [k6.2.2.1]; rfl, k6.2.2.2, fun j j0 j1 => ?_⟩
  · unfold F_X12_lay_B75_3
    rw [if_neg (by decide : ¬ (4 : Int32).toInt < 4)]
  · rw [u2, w2, y2, x2, z0]; omega
  · rw [u4, w4, y4, x4, w3, y3, x3]
    have t0 : (0 : Int32).toInt = 0 := rfl
    constructor
    · rintro ⟨⟨⟨⟨-, h1⟩, h2⟩, h3⟩, h4⟩
      refine ⟨fun h => ?_, fun h => ?_, fun h => ?_⟩
      · rcases h2 with h2 | h2
        · exact absurd h h2.2
        · exact h2
      · rcases h3 with h3 | h3
        · rcases h with h | h
          · exact absurd h h3.1.2
          · exact absurd h h3.2
        · exact h3
      · rcases h4 with h4 | h4
        · rcases h with h | h | h
          · exact absurd h h4.1.1.2
          · exact absurd h h4.1.2
          · exact absurd h h4.2
        · exact h4
    · rintro ⟨h1, h2, h3⟩
      refine ⟨⟨⟨⟨t0, Or.inl t0⟩, ?_⟩, ?_⟩, ?_⟩
      · by_cases e : p.toInt = -1
        · exact Or.inr (h1 e)
        · exact Or.inl ⟨t0, e⟩
      · by_cases e : p.toInt = -1 ∨ q.toInt = -1
        · exact Or.inr (h2 e)
        · exact Or.inl ⟨⟨t0, fun z => e (Or.inl z)⟩, fun z => e (Or.inr z)⟩
      · by_cases e : p.toInt = -1 ∨ q.toInt = -1 ∨ r.toInt = -1
        · exact Or.inr (h3 e)
        · exact Or.inl ⟨⟨⟨t0, fun z => e (Or.inl z)⟩, fun z => e (Or.inr (Or.inl z))⟩, fun z => e (Or.inr (Or.inr z))⟩
  · rw [u6 j j0 j1, v5 j j0 j1]
    rfl
end GL
