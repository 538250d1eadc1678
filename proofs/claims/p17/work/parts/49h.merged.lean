/-! FROM 49h.takes.lean.txt -/
/-! THE HEAP TAKEN -/
def gq (f : Int → Int) (d : Int) : Nat → Int
  | 0 => 0
  | n + 1 => gq f d n + f (10 * (n : Int) + d)
theorem gq_s (f : Int → Int) (d : Int) {p : Int} (h : 0 ≤ p) : gq f d (p + 1).toNat = gq f d p.toNat + f (10 * p + d) := by
  have e : (p + 1).toNat = p.toNat + 1 := by omega
  have e2 : (p.toNat : Int) = p := by omega
  rw [e]
  show gq f d p.toNat + f (10 * (p.toNat : Int) + d) = _
  rw [e2]
theorem gq_b {f : Int → Int} {d : Int} (n : Nat) (h : ∀ p : Int, 0 ≤ p → p < (n : Int) → 0 ≤ f (10 * p + d) ∧ f (10 * p + d) ≤ 80) : 0 ≤ gq f d n ∧ gq f d n ≤ 80 * (n : Int) := by
  induction n with
  | zero => exact ⟨Int.le_refl _, Int.le_refl _⟩
  | succ n ih =>
    have i := ih (fun p a b => h p a (by omega))
    have d0 := h (n : Int) (by omega) (by omega)
    show 0 ≤ gq f d n + f (10 * (n : Int) + d) ∧ gq f d n + f (10 * (n : Int) + d) ≤ _
    omega
/-- all players' cards of a kind in the heap -/
theorem gq_A {c : Int → Int} {d : Int} (n : Nat) (hl : ∀ i : Int, 0 ≤ i → i < (n : Int) → 0 ≤ c (94 + 7 * i) ∧ c (94 + 7 * i) < 6) : m_A c 0 d n + m_A c 1 d n + m_A c 2 d n + m_A c 3 d n + m_A c 4 d n + m_A c 5 d n = m_A c (-1) d n := by
  induction n with
  | zero => rfl
  | succ n ih =>
    have i := ih (fun t a b => hl t a (by omega))
    have l := hl (n : Int) (by omega) (by omega)
    have s : ∀ q : Int, m_A c q d (n + 1) = m_A c q d n + (if 0 ≤ q ∧ c (94 + 7 * (n : Int)) ≠ q then 0 else m_K c (94 + 7 * (n : Int)) d (c (94 + 7 * (n : Int) + 2)).toNat) := fun q => rfl
    have sm : m_A c (-1) d (n + 1) = m_A c (-1) d n + m_K c (94 + 7 * (n : Int)) d (c (94 + 7 * (n : Int) + 2)).toNat := by rw [s (-1), if_neg (fun z => absurd z.1 (by decide))]
    rw [s 0, s 1, s 2, s 3, s 4, s 5, sm, ← i]
    obtain ⟨L, hL⟩ : ∃ L, L = c (94 + 7 * (n : Int)) := ⟨_, rfl⟩
    obtain ⟨M, hM⟩ : ∃ M, M = m_K c (94 + 7 * (n : Int)) d (c (94 + 7 * (n : Int) + 2)).toNat := ⟨_, rfl⟩
    rw [← hL] at l ⊢
    rw [← hM]
    rcases (by omega : L = 0 ∨ L = 1 ∨ L = 2 ∨ L = 3 ∨ L = 4 ∨ L = 5) with e | e | e | e | e | e <;> rw [e] <;> simp <;> omega
/-- how far the class is: the rows of the players below p, the first k of p's -/
def gt_v (V0 V : Nat → Int → Int) (t p k : Int) : Prop :=
  (∀ (id : Nat) (j : Int), id ≠ 7 → id ≠ 9 → V id j = V0 id j) ∧ (∀ j : Int, ¬ (10 * t ≤ j ∧ j < 10 * t + 10) → V 7 j = V0 7 j) ∧ (∀ d : Int, 0 ≤ d → d < 10 → V 7 (10 * t + d) = V0 7 (10 * t + d) + gq (V0 8) d (if d < k then p + 1 else p).toNat) ∧ (∀ j : Int, j ≠ t → V 9 j = V0 9 j) ∧ V 9 t = m_S (V 7) (10 * t) 10 ∧ 0 ≤ V 9 t ∧ V 9 t ≤ 100 + 80 * (10 * p + k)
def gt_V (V0 V : Nat → Int → Int) (t : Int) : Prop :=
  (∀ (id : Nat) (j : Int), id ≠ 7 → id ≠ 8 → id ≠ 9 → V id j = V0 id j) ∧ (∀ j : Int, ¬ (10 * t ≤ j ∧ j < 10 * t + 10) → V 7 j = V0 7 j) ∧ (∀ d : Int, 0 ≤ d → d < 10 → V 7 (10 * t + d) = V0 7 (10 * t + d) + gq (V0 8) d 6) ∧ (∀ j : Int, j ≠ t → V 9 j = V0 9 j) ∧ V 9 t = m_S (V 7) (10 * t) 10 ∧ ∀ j : Int, 0 ≤ j → j < 60 → V 8 j = 0
/-- what it wants of the game -/
def gt_p (V0 : Nat → Int → Int) (t : Int) : Prop := (0 ≤ t ∧ t < 6) ∧ (∀ j : Int, 0 ≤ j → j < 60 → (0 ≤ V0 7 j ∧ V0 7 j ≤ 80) ∧ 0 ≤ V0 8 j ∧ V0 8 j ≤ 80) ∧ V0 9 t = m_S (V0 7) (10 * t) 10 ∧ 0 ≤ V0 9 t ∧ V0 9 t ≤ 100
section GH
variable {X : XW} {lb : Nat → Nat} {g o a : Nat} {σ τ σ0 τ0 : ST} {V V0 : Nat → Int → Int} {c c0 : Int → Int}
theorem gm_deal (Y : y_S X lb) (G : y_G X lb g o) (w : y_W X lb g o σ0 τ V) {v1 v2 v3 : Int32} {p k n : Int} (hv1 : v1.toInt = p) (hv2 : v2.toInt = k) (hv3 : v3.toInt = n) (hp : 0 ≤ p ∧ p < 6) (hk : 0 ≤ k ∧ k < 10) (hn : -1000 ≤ n ∧ n ≤ 1000) (b7 : -100000 ≤ V 7 (10 * p + k) ∧ V 7 (10 * p + k) ≤ 100000) (b9 : -100000 ≤ V 9 p ∧ V 9 p ≤ 100000) :
    y_W X lb g o σ0 (F_X1_deal X τ (q_rf X g 1) v1 v2 v3) (y_up (y_up V 7 (10 * p + k) (V 7 (10 * p + k) + n)) 9 p (V 9 p + n)) := by
  have gn7 : ((y_gn 7 : Nat) : Int) = 60 := rfl
  have gn9 : ((y_gn 9 : Nat) : Int) = 6 := rfl
  have e10 : (10 : Int32).toInt = 10 := rfl
  have ei : (v1 * 10 + v2).toInt = 10 * p + k := by
    rw [ar_add, ar_mul, hv1, hv2, e10, ar_wr (n := p * 10) (by omega) (by omega), ar_wr (by omega) (by omega)]
    omega
  have w1 := w.add Y G (id := 7) (r := q_rf X (q_rf X g 1) 0) ⟨by decide, by decide⟩ rfl (v1 * 10 + v2) v3 (by omega) (by rw [gn7]; omega)
  rw [ei, hv3, ar_wr (by omega) (by omega)] at w1
  unfold F_X1_deal
  rw [q_letE (v1 * 10), q_letE (v1 * 10 + v2), q_letE (F_X5_add X τ (q_rf X (q_rf X g 1) 0) (v1 * 10 + v2) v3)]
  obtain ⟨τ1, e1⟩ : ∃ s, s = F_X5_add X τ (q_rf X (q_rf X g 1) 0) (v1 * 10 + v2) v3 := ⟨_, rfl⟩
  rw [← e1] at w1 ⊢
  have w2 := w1.add Y G (id := 9) (r := q_rf X (q_rf X g 1) 2) ⟨by decide, by decide⟩ rfl v1 v3 (by omega) (by rw [gn9]; omega)
  rw [hv1, hv3, y_up_ne (Or.inl (by decide)), ar_wr (by omega) (by omega)] at w2
  rw [q_letE (F_X5_add X τ1 (q_rf X (q_rf X g 1) 2) v1 v3)]
  exact w2
theorem gt_step {t p k n : Int} (H : gt_p V0 t) (hp : 0 ≤ p ∧ p < 6) (hk : 0 ≤ k ∧ k < 10) (P : gt_v V0 V t p k) (hn : n = V0 8 (10 * p + k)) : gt_v V0 (y_up (y_up V 7 (10 * t + k) (V 7 (10 * t + k) + n)) 9 t (V 9 t + n)) t p (k + 1) := by
  obtain ⟨Ht, Hb, H9, -, -⟩ := H
  obtain ⟨P1, P2, P3, P4, P5, P6, P7⟩ := P
  have bn := (Hb (10 * p + k) (by omega) (by omega)).2
  refine ⟨fun id j i7 i9 => ?_, fun j hj => ?_, fun d d0 d1 => ?_, fun j hj => ?_, ?_, ?_, ?_⟩
  · rw [y_up_ne (Or.inl i9), y_up_ne (Or.inl i7)]; exact P1 id j i7 i9
  · rw [y_up_ne (Or.inl (by decide)), y_up_ne (by omega)]; exact P2 j hj
  · rw [y_up_ne (Or.inl (by decide))]
    by_cases e : d = k
    · subst e
      have z := P3 d d0 d1
      rw [if_neg (by omega)] at z
      rw [y_up_eq, z, if_pos (by omega), gq_s _ _ hp.1, hn]
      omega
    · rw [y_up_ne (by omega), P3 d d0 d1]
      by_cases e2 : d < k
      · rw [if_pos e2, if_pos (by omega)]
      · rw [if_neg e2, if_neg (by omega)]
  · rw [y_up_ne (by omega), y_up_ne (Or.inl (by decide))]; exact P4 j hj
  · rw [y_up_eq]
    have z := m_S_upd (c := V 7) (c' := (y_up (y_up V 7 (10 * t + k) (V 7 (10 * t + k) + n)) 9 t (V 9 t + n)) 7) (b := 10 * t) (A := 10 * t + k) (v := V 7 (10 * t + k) + n) (n := 10) (fun j a1 a2 => by
      rw [y_up_ne (Or.inl (by decide))]
      by_cases e : j = 10 * t + k
      · rw [e, y_up_eq, if_pos rfl]
      · rw [y_up_ne (Or.inr e), if_neg e]) (by omega) (by omega)
    rw [z, P5]
    omega
  · rw [y_up_eq]; omega
  · rw [y_up_eq]; omega
theorem gt_in (Y : y_S X lb) (G : y_G X lb g o) {t p : Int} (H : gt_p V0 t) (hp : 0 ≤ p ∧ p < 6) {x1 v1 : Int32} (hx1 : x1.toInt = p) (hv1 : v1.toInt = t) (Bf : Int32 → ST → ST) (fu : Nat) : ∀ (x : Int32) (τ : ST) (V : Nat → Int → Int), (2147483647 - x.toInt).toNat < fu → y_W X lb g o σ0 τ V → gt_v V0 V t p x.toInt → 0 ≤ x.toInt → x.toInt ≤ 10 →
    ∃ (τ' : ST) (V' : Nat → Int → Int), F_X1_takeHeap_L10_3 X (q_rf X g 1) x1 v1 Bf fu x τ = Bf (x1 + 1) τ' ∧ y_W X lb g o σ0 τ' V' ∧ gt_v V0 V' t (p + 1) 0 := by
  have gn8 : ((y_gn 8 : Nat) : Int) = 60 := rfl
  have e10 : (10 : Int32).toInt = 10 := rfl
  induction fu with
  | zero => intro x τ V h; exact absurd h (Nat.not_lt_zero _)
  | succ fu ih =>
    intro x τ V hf w P x0 x1'
    rw [F_X1_takeHeap_L10_3_s]
    unfold F_X1_takeHeap_B10_3
    by_cases q : x.toInt < 10
    · have ei : (x1 * 10 + x).toInt = 10 * p + x.toInt := by
        rw [ar_add, ar_mul, hx1, e10, ar_wr (n := p * 10) (by omega) (by omega), ar_wr (by omega) (by omega)]
        omega
      have lb8 : (F_X1_laidBy X τ (q_rf X g 1) x1 x).toInt = V0 8 (10 * p + x.toInt) := by
        unfold F_X1_laidBy
        rw [q_letE, q_letE, q_letE]
        exact (y_getI Y G w (id := 8) ⟨by decide, by decide⟩ rfl ei (by omega) (by rw [gn8]; omega)).trans (P.1 8 _ (by decide) (by decide))
      have bn := (H.2.1 (10 * p + x.toInt) (by omega) (by omega)).2
      have b7 := (H.2.1 (10 * t + x.toInt) (by have := H.1; omega) (by have := H.1; omega)).1
      have q7 := P.2.2.1 x.toInt x0 q
      rw [if_neg (by omega)] at q7
      have gb := gq_b (f := V0 8) (d := x.toInt) p.toNat (fun r r0 r1 => (H.2.1 (10 * r + x.toInt) (by omega) (by omega)).2)
      have p9 := P.2.2.2.2.2
      rw [if_pos q, q_letE (F_X1_laidBy X τ (q_rf X g 1) x1 x)]
      obtain ⟨n, hn⟩ : ∃ n, n = F_X1_laidBy X τ (q_rf X g 1) x1 x := ⟨_, rfl⟩
      rw [← hn] at lb8 ⊢
      have w1 := gm_deal Y G w (v1 := v1) (v2 := x) (v3 := n) hv1 rfl rfl H.1 ⟨x0, q⟩ (by omega) (by omega) (by omega)
      rw [q_letE (F_X1_deal X τ (q_rf X g 1) v1 x n), q_letE (x + 1)]
      have ex : (x + 1).toInt = x.toInt + 1 := y_inc (by omega)
      exact ih (x + 1) _ _ (by omega) w1 (by rw [ex]; exact gt_step H hp ⟨x0, q⟩ P lb8) (by omega) (by omega)
    · have ex : x.toInt = 10 := by omega
      rw [ex] at P
      rw [if_neg q]
      unfold F_X1_takeHeap_E34_4
      rw [q_letE (x1 + 1)]
      obtain ⟨P1, P2, P3, P4, P5, P6, P7⟩ := P
      refine ⟨τ, V, rfl, w, P1, P2, fun d d0 d1 => ?_, P4, P5, P6, by omega⟩
      rw [P3 d d0 d1, if_pos d1, if_neg (by omega)]
theorem gt_out (Y : y_S X lb) (G : y_G X lb g o) {t : Int} (H : gt_p V0 t) {v1 : Int32} (hv1 : v1.toInt = t) (fu : Nat) : ∀ (x : Int32) (τ : ST) (V : Nat → Int → Int), (2147483647 - x.toInt).toNat < fu → y_W X lb g o σ0 τ V → gt_v V0 V t x.toInt 0 → 0 ≤ x.toInt → x.toInt ≤ 6 →
    ∃ V' : Nat → Int → Int, y_W X lb g o σ0 (F_X1_takeHeap_L2_1 X (q_rf X g 1) v1 fu x τ) V' ∧ gt_V V0 V' t := by
  induction fu with
  | zero => intro x τ V h; exact absurd h (Nat.not_lt_zero _)
  | succ fu ih =>
    intro x τ V hf w P x0 x1'
    have z0 : (0 : Int32).toInt = 0 := rfl
    rw [F_X1_takeHeap_L2_1_s]
    unfold F_X1_takeHeap_B2_1
    by_cases q : x.toInt < 6
    · rw [if_pos q]
      obtain ⟨τ', V', e, w', P'⟩ := gt_in Y G H ⟨x0, q⟩ (x1 := x) rfl hv1 (F_X1_takeHeap_L2_1 X (q_rf X g 1) v1 fu) ((2147483647 - (0 : Int32).toInt).toNat + 1) 0 τ V (by decide) w (by rw [z0]; exact P) (by decide) (by decide)
      rw [e]
      have ex : (x + 1).toInt = x.toInt + 1 := y_inc (by omega)
      exact ih (x + 1) τ' V' (by omega) w' (by rw [ex]; exact P') (by omega) (by omega)
    · have ex : x.toInt = 6 := by omega
      rw [ex] at P
      rw [if_neg q]
      unfold F_X1_takeHeap_E40_2
      rw [q_letE (F_X5_clear X τ (q_rf X (q_rf X g 1) 1))]
      have w1 := w.clear Y G (id := 8) (r := q_rf X (q_rf X g 1) 1) ⟨by decide, by decide⟩ rfl
      obtain ⟨P1, P2, P3, P4, P5, P6, P7⟩ := P
      have r : ∀ (id : Nat) (j : Int), id ≠ 8 → y_bl V 8 ((y_gn 8 : Nat) : Int) (fun _ => 0) id j = V id j := fun id j h => if_neg (fun z => h z.1)
      refine ⟨_, w1, fun id j i7 i8 i9 => ?_, fun j hj => ?_, fun d d0 d1 => ?_, fun j hj => ?_, ?_, fun j j0 j1 => ?_⟩
      · rw [r id j i8]; exact P1 id j i7 i9
      · rw [r 7 j (by decide)]; exact P2 j hj
      · rw [r 7 _ (by decide), P3 d d0 d1, if_neg (by omega)]; rfl
      · rw [r 9 j (by decide)]; exact P4 j hj
      · rw [r 9 t (by decide), P5]
        exact (m_S_ext (fun j a b => r 7 j (by decide))).symm
      · exact if_pos ⟨rfl, j0, j1⟩
/-- the class's player takes the heap -/
theorem gm_takeHeap (Y : y_S X lb) (G : y_G X lb g o) (w : y_W X lb g o σ0 τ V) {t : Int} (H : gt_p V t) {v1 : Int32} (hv1 : v1.toInt = t) : ∃ V' : Nat → Int → Int, y_W X lb g o σ0 (F_X1_takeHeap X τ (q_rf X g 1) v1) V' ∧ gt_V V V' t := by
  have z0 : (0 : Int32).toInt = 0 := rfl
  unfold F_X1_takeHeap
  refine gt_out Y G H hv1 _ 0 τ V (by decide) w ?_ (by decide) (by decide)
  rw [z0]
  refine ⟨fun _ _ _ _ => rfl, fun _ _ => rfl, fun d d0 d1 => ?_, fun _ _ => rfl, H.2.2.1, H.2.2.2.1, by have := H.2.2.2.2; omega⟩
  rw [if_neg (by omega)]
  have e : gq (V 8) d (0 : Int).toNat = 0 := rfl
  omega
/-! the reference -/
def gt_c (c0 c : Int → Int) (p k i : Int) : Prop := (∀ j : Int, 0 ≤ j → ¬ (34 + 10 * p ≤ j ∧ j < 44 + 10 * p) → c j = c0 j) ∧ ∀ d : Int, 0 ≤ d → d < 10 → c (34 + 10 * p + d) = c0 (34 + 10 * p + d) + m_A c0 (-1) d k.toNat + m_K c0 (94 + 7 * k) d i.toNat
theorem gt_c.card {p k i d v : Int} (h : gt_c c0 c p k i) (hp : 0 ≤ p ∧ p < 6) (hk : 0 ≤ k) (hi : 0 ≤ i) (hd : 0 ≤ d ∧ d < 10) (ed : c0 (94 + 7 * k + 3 + i) = d) (hv : v = c (34 + 10 * p + d) + 1) : gt_c c0 (m_up c (34 + 10 * p + d) v) p k (i + 1) := by
  obtain ⟨h1, h2⟩ := h
  refine ⟨fun j j0 j1 => ?_, fun e e0 e1 => ?_⟩
  · rw [m_up_ne (by omega)]; exact h1 j j0 j1
  · rw [m_K_succ _ _ _ _ hi, ed]
    by_cases q : e = d
    · rw [q, m_up_eq, if_pos (Or.inr rfl), hv, h2 d hd.1 hd.2]
      omega
    · rw [m_up_ne (by omega), h2 e e0 e1, if_neg (by omega)]
      omega
theorem gt_c.lay {p k i : Int} (h : gt_c c0 c p k i) (hk : 0 ≤ k) (hi : i = c0 (94 + 7 * k + 2)) : gt_c c0 c p (k + 1) 0 := by
  obtain ⟨h1, h2⟩ := h
  refine ⟨h1, fun d d0 d1 => ?_⟩
  have z : m_K c0 (94 + 7 * (k + 1)) d (0 : Int).toNat = 0 := rfl
  rw [h2 d d0 d1, m_A_succ _ _ _ _ hk, if_neg (fun z => absurd z.1 (by decide)), hi, z]
  omega
theorem gr_in (g0 : m_G c0) {p k : Int} (hp : 0 ≤ p ∧ p < 6) (hk : 0 ≤ k ∧ k < c0 9) {v1 x1 rr : Int32} (hv1 : v1.toInt = p) (hr : rr.toInt = 94 + 7 * k) (Bf : Int32 → ST → ST) (fu : Nat) : ∀ (x : Int32) (τ : ST) (c : Int → Int), (2147483647 - x.toInt).toNat < fu → tkl (fun b _ => b = q_rf X a 20) (fun _ _ => False) τ0 τ → m_c X τ a = c → gt_c c0 c p k x.toInt → m_tk c0 c p k x.toInt → 0 ≤ x.toInt → x.toInt ≤ c0 (94 + 7 * k + 2) →
    ∃ (τ' : ST) (c' : Int → Int), F_X12_takes_L21_3 X rr a v1 x1 Bf fu x τ = Bf (x1 + 1) τ' ∧ tkl (fun b _ => b = q_rf X a 20) (fun _ _ => False) τ0 τ' ∧ m_c X τ' a = c' ∧ gt_c c0 c' p (k + 1) 0 ∧ m_tk c0 c' p (k + 1) 0 := by
  have e1 : (1 : Int32).toInt = 1 := rfl
  have e2 : (2 : Int32).toInt = 2 := rfl
  have e3 : (3 : Int32).toInt = 3 := rfl
  have e10 : (10 : Int32).toInt = 10 := rfl
  have e34 : (34 : Int32).toInt = 34 := rfl
  have b9 := g0.1.2.2.2.2.2.2.1
  have b0 := g0.1.1
  obtain ⟨y4, y5⟩ := g0.2.2.1 k hk.1 hk.2
  have i2 : (rr + 2).toInt = 94 + 7 * k + 2 := by rw [ar_add, hr, e2, ar_wr (by omega) (by omega)]
  have i3 : (rr + 3).toInt = 94 + 7 * k + 3 := by rw [ar_add, hr, e3, ar_wr (by omega) (by omega)]
  have i34 : ((34 : Int32) + 10 * v1).toInt = 34 + 10 * p := by
    rw [ar_add, ar_mul, hv1, e10, e34, ar_wr (n := 10 * p) (by omega) (by omega), ar_wr (by omega) (by omega)]
  induction fu with
  | zero => intro x τ c h; exact absurd h (Nat.not_lt_zero _)
  | succ fu ih =>
    intro x τ c hf t hc P D x0 x1'
    have r2 : (τ.1 (q_rf X a 20) (rr + 2).toNatClampNeg).toInt = c0 (94 + 7 * k + 2) := (gm_cell hc i2).trans (P.1 _ (by omega) (by omega))
    rw [F_X12_takes_L21_3_s]
    unfold F_X12_takes_B21_3
    rw [q_letE (rr + 2), q_letE (τ.1 (q_rf X a 20) (rr + 2).toNatClampNeg), r2]
    by_cases q : x.toInt < c0 (94 + 7 * k + 2)
    · have yd := y5 x.toInt x0 q
      have ei : (rr + 3 + x).toInt = 94 + 7 * k + 3 + x.toInt := by rw [ar_add, i3, ar_wr (by omega) (by omega)]
      have rd : (τ.1 (q_rf X a 20) (rr + 3 + x).toNatClampNeg).toInt = c0 (94 + 7 * k + 3 + x.toInt) := (gm_cell hc ei).trans (P.1 _ (by omega) (by omega))
      rw [if_pos q, q_letE ((10 : Int32) * v1), q_letE ((34 : Int32) + 10 * v1), q_letE (rr + 3), q_letE (rr + 3 + x), q_letE (τ.1 (q_rf X a 20) (rr + 3 + x).toNatClampNeg)]
      obtain ⟨f, hf1⟩ : ∃ f, f = τ.1 (q_rf X a 20) (rr + 3 + x).toNatClampNeg := ⟨_, rfl⟩
      rw [← hf1] at rd ⊢
      obtain ⟨d, hd⟩ : ∃ d, d = c0 (94 + 7 * k + 3 + x.toInt) := ⟨_, rfl⟩
      rw [← hd] at rd yd
      have ej : ((34 : Int32) + 10 * v1 + f).toInt = 34 + 10 * p + d := by rw [ar_add, i34, rd, ar_wr (by omega) (by omega)]
      have fh : (τ.1 (q_rf X a 20) ((34 : Int32) + 10 * v1 + f).toNatClampNeg).toInt = c (34 + 10 * p + d) := gm_cell hc ej
      have ab := g0.A_bd (-1) d k.toNat (by omega)
      have lb := g0.L80 hk.1 (by omega : k ≤ c0 9)
      have kb := m_K_bd c0 (94 + 7 * k) d x.toInt.toNat
      have hb := g0.h80 hp.1 hp.2 yd.1 (by omega : d < 10)
      have pd := P.2 d yd.1 (by omega)
      rw [q_letE ((34 : Int32) + 10 * v1 + f), q_letE (τ.1 (q_rf X a 20) ((34 : Int32) + 10 * v1 + f).toNatClampNeg)]
      obtain ⟨u, hu⟩ : ∃ u, u = τ.1 (q_rf X a 20) ((34 : Int32) + 10 * v1 + f).toNatClampNeg + 1 := ⟨_, rfl⟩
      have uv : u.toInt = c (34 + 10 * p + d) + 1 := by rw [hu, ar_add, fh, e1, ar_wr (by omega) (by omega)]
      rw [← hu, q_letE u, q_letE (q_si τ (q_rf X a 20) ((34 : Int32) + 10 * v1 + f).toNatClampNeg u), q_letE (x + 1)]
      have ex : (x + 1).toInt = x.toInt + 1 := y_inc (by omega)
      have c1 : m_c X (q_si τ (q_rf X a 20) ((34 : Int32) + 10 * v1 + f).toNatClampNeg u) a = m_up c (34 + 10 * p + d) u.toInt := by
        rw [m_c_up _ (by omega) ej, hc]
      exact ih (x + 1) _ _ (by omega) (t.si _ rfl) c1 (by rw [ex]; exact P.card hp hk.1 x0 ⟨yd.1, by omega⟩ hd.symm uv) (by rw [ex]; exact D.card hp yd (by omega) m_up_e uv) (by omega) (by omega)
    · rw [if_neg q]
      unfold F_X12_takes_E68_4
      rw [q_letE (x1 + 1)]
      exact ⟨τ, c, rfl, t, hc, P.lay hk.1 (by omega), D.lay hk.1 (by omega)⟩
theorem gr_out (g0 : m_G c0) (h7 : c0 7 = 0) {p : Int} (hp : 0 ≤ p ∧ p < 6) {v1 : Int32} (hv1 : v1.toInt = p) (fu : Nat) : ∀ (x : Int32) (τ : ST) (c : Int → Int), (2147483647 - x.toInt).toNat < fu → tkl (fun b _ => b = q_rf X a 20) (fun _ _ => False) τ0 τ → m_c X τ a = c → gt_c c0 c p x.toInt 0 → m_tk c0 c p x.toInt 0 → 0 ≤ x.toInt → x.toInt ≤ c0 9 →
    ∃ c' : Int → Int, m_c X (F_X12_takes_L2_1 X a v1 fu x τ) a = m_up c' 9 0 ∧ tkl (fun b _ => b = q_rf X a 20) (fun _ _ => False) τ0 (F_X12_takes_L2_1 X a v1 fu x τ) ∧ gt_c c0 c' p (c0 9) 0 ∧ m_G (m_up c' 9 0) := by
  have b9 := g0.1.2.2.2.2.2.2.1
  have z0 : (0 : Int32).toInt = 0 := rfl
  induction fu with
  | zero => intro x τ c h; exact absurd h (Nat.not_lt_zero _)
  | succ fu ih =>
    intro x τ c hf t hc P D x0 x1'
    have r9 : (τ.1 (q_rf X a 20) (9 : Int32).toNatClampNeg).toInt = c0 9 := (gm_cell (A := 9) hc rfl).trans (P.1 _ (by omega) (by omega))
    rw [F_X12_takes_L2_1_s]
    unfold F_X12_takes_B2_1
    rw [q_letE (τ.1 (q_rf X a 20) (9 : Int32).toNatClampNeg), r9]
    by_cases q : x.toInt < c0 9
    · have y4 := (g0.2.2.1 x.toInt x0 q).1
      rw [if_pos q, q_letE (F_X12_laid X τ x)]
      obtain ⟨τ', c', i1, i2, i3, i4, i5⟩ := gr_in (X := X) (a := a) (τ0 := τ0) g0 hp ⟨x0, q⟩ hv1 (x1 := x) (gm_laid (X := X) (τ := τ) (v := x) rfl ⟨x0, by omega⟩) (F_X12_takes_L2_1 X a v1 fu) ((2147483647 - (0 : Int32).toInt).toNat + 1) 0 τ c (by decide) t hc (by rw [z0]; exact P) (by rw [z0]; exact D) (by decide) (by rw [z0]; omega)
      rw [i1]
      have ex : (x + 1).toInt = x.toInt + 1 := y_inc (by omega)
      exact ih (x + 1) τ' c' (by omega) i2 i3 (by rw [ex]; exact i4) (by rw [ex]; exact i5) (by omega) (by omega)
    · have ex : x.toInt = c0 9 := by omega
      rw [ex] at P D
      rw [if_neg q]
      unfold F_X12_takes_E74_2
      rw [q_letE (q_si τ (q_rf X a 20) (9 : Int32).toNatClampNeg 0)]
      exact ⟨c, by rw [m_c_up 9 (by decide) rfl, hc, z0], t.si _ rfl, P, (D.done g0 hp h7 m_up_e rfl).1⟩
theorem gm_takes (g0 : m_G c) (h7 : c 7 = 0) (hc : m_c X τ a = c) {p : Int} (hp : 0 ≤ p ∧ p < 6) {v1 : Int32} (hv1 : v1.toInt = p) : ∃ c' : Int → Int, m_c X (F_X12_takes X τ a v1) a = m_up c' 9 0 ∧ tkl (fun b _ => b = q_rf X a 20) (fun _ _ => False) τ (F_X12_takes X τ a v1) ∧ gt_c c c' p (c 9) 0 ∧ m_G (m_up c' 9 0) := by
  have z0 : (0 : Int32).toInt = 0 := rfl
  have b9 := g0.1.2.2.2.2.2.2.1
  unfold F_X12_takes
  refine gr_out g0 h7 hp hv1 _ 0 τ c (by decide) tkl.rf hc ?_ (by rw [z0]; exact m_tk.start g0 hp) (by decide) (by rw [z0]; exact b9.1)
  rw [z0]
  refine ⟨fun _ _ _ => rfl, fun d d0 d1 => ?_⟩
  have e1 : m_A c (-1) d (0 : Int).toNat = 0 := rfl
  have e2 : m_K c (94 + 7 * 0) d (0 : Int).toNat = 0 := rfl
  omega
end GH
