/-! OBSERVERS: the ways to draw, in both the same; who is most ready to doubt -/
def w_a (n : Int) : Nat → Int
  | 0 => 1
  | i + 1 => w_a n i * (n - (i : Int)) / ((i : Int) + 1)
def w_c (n k : Int) : Nat → Int
  | 0 => 1
  | i + 1 => w_c n k i * (n - k + ((i : Int) + 1)) / ((i : Int) + 1)
def w_v (n k : Int) : Int := if n < k then 0 else w_a n k.toNat
def w_ok (n k i : Nat) : Bool := decide (k < i) || (decide (0 ≤ w_a (n : Int) i) && decide (w_a (n : Int) i ≤ 2000000) && decide (0 ≤ w_c (n : Int) (k : Int) i) && decide (w_c (n : Int) (k : Int) i ≤ 2000000))
def w_ook : Bool := (List.range 81).all fun n => (List.range 5).all fun k => decide (n < k) || (decide (w_a (n : Int) k = w_c (n : Int) (k : Int) k) && (List.range 5).all fun i => w_ok n k i)
theorem w_okT : w_ook = true := by decide +kernel
theorem w_tab (n : Nat) (hn : n < 81) (k : Nat) (hk : k < 5) (h : k ≤ n) : w_a (n : Int) k = w_c (n : Int) (k : Int) k ∧ ∀ i : Nat, i < 5 → i ≤ k → (0 ≤ w_a (n : Int) i ∧ w_a (n : Int) i ≤ 2000000) ∧ 0 ≤ w_c (n : Int) (k : Int) i ∧ w_c (n : Int) (k : Int) i ≤ 2000000 := by
  have h1 := List.all_eq_true.mp w_okT n (List.mem_range.mpr hn)
  have h2 := List.all_eq_true.mp h1 k (List.mem_range.mpr hk)
  simp only [Bool.or_eq_true, Bool.and_eq_true, decide_eq_true_eq] at h2
  rcases h2 with z | ⟨z1, z2⟩
  · exact absurd z (by omega)
  · refine ⟨z1, fun i hi ik => ?_⟩
    have h3 := List.all_eq_true.mp z2 i (List.mem_range.mpr hi)
    unfold w_ok at h3
    simp only [Bool.or_eq_true, Bool.and_eq_true, decide_eq_true_eq] at h3
    rcases h3 with y | ⟨⟨⟨y1, y2⟩, y3⟩, y4⟩
    · exact absurd y (by omega)
    · exact ⟨⟨y1, y2⟩, y3, y4⟩
theorem w_ab {n k : Int} (hn : 0 ≤ n ∧ n ≤ 80) (hk : 0 ≤ k ∧ k ≤ 4) (h : k ≤ n) : w_a n k.toNat = w_c n k k.toNat ∧ ∀ i : Nat, (i : Int) ≤ k → (0 ≤ w_a n i ∧ w_a n i ≤ 2000000) ∧ 0 ≤ w_c n k i ∧ w_c n k i ≤ 2000000 := by
  have e1 : ((n.toNat : Nat) : Int) = n := by omega
  have e2 : ((k.toNat : Nat) : Int) = k := by omega
  have z := w_tab n.toNat (by omega) k.toNat (by omega) (by omega)
  rw [e1, e2] at z
  exact ⟨z.1, fun i hi => z.2 i (by omega) (by omega)⟩
theorem w_v_b {n k : Int} (hn : 0 ≤ n ∧ n ≤ 80) (hk : 0 ≤ k ∧ k ≤ 4) : 0 ≤ w_v n k ∧ w_v n k ≤ 2000000 := by
  unfold w_v
  split
  · exact ⟨by decide, by decide⟩
  · exact ((w_ab hn hk (by omega)).2 k.toNat (by omega)).1
theorem w_div {x y : Int64} {A B : Int} (hx : x.toInt = A) (hy : y.toInt = B) (hA : 0 ≤ A) : (x / y).toInt = A / B := by
  have hr := Int64.toInt_lt x
  have h2 := Int.ediv_le_self B hA
  rw [Int64.toInt_div, hx, hy, Int.tdiv_eq_ediv_of_nonneg hA]
  have h0 : -A ≤ A / B := by
    by_cases q : 0 ≤ B
    · have := Int.ediv_nonneg hA q
      omega
    · have e : A / B = -(A / (-B)) := by rw [Int.ediv_neg]; omega
      have h3 := Int.ediv_le_self (-B) hA
      omega
  exact Int.bmod_eq_of_le (by omega) (by omega)
section QG
variable {X : XW} {lb : Nat → Nat} {g o C a : Nat} {σ τ : ST} {V : Nat → Int → Int} {c : Int → Int} {n : Int}
theorem w_toL {nn kk : Int} {v0 v1 : Int32} (h0 : v0.toInt = nn) (h1 : v1.toInt = kk) (hn : 0 ≤ nn ∧ nn ≤ 80) (hk : 0 ≤ kk ∧ kk ≤ 4) (h : kk ≤ nn) (fu : Nat) : ∀ (w : Int64) (x : Int32) (i : Nat), (2147483647 - x.toInt).toNat < fu → x.toInt = (i : Int) → (i : Int) ≤ kk → w.toInt = w_a nn i → (F_X11_waysToTake_L12_1 X v1 v0 fu w x).toInt = w_a nn kk.toNat := by
  have ab := w_ab hn hk h
  have one : (1 : Int32).toInt = 1 := rfl
  induction fu with
  | zero => intro w x i h; exact absurd h (Nat.not_lt_zero _)
  | succ fu ih =>
    intro w x i hf hx hi hw
    rw [F_X11_waysToTake_L12_1_s]
    unfold F_X11_waysToTake_B12_1
    rw [hx, h1]
    by_cases q : (i : Int) < kk
    · have x1 : (x + 1).toInt = ((i + 1 : Nat) : Int) := by rw [y_inc (by omega), hx]; omega
      have b := (ab.2 i hi).1
      have m := m_mulI (a := w_a nn i) (A := 2000000) (b := nn - (i : Int)) (B := 80) b.1 b.2 (by omega) (by omega)
      have e6 : (v0 - x).toInt = nn - (i : Int) := by rw [ar_sub, h0, hx, ar_wr (by omega) (by omega)]
      have e8 : (w * (v0 - x).toInt64).toInt = w_a nn i * (nn - (i : Int)) := by rw [ar_mull, ar_i2l, e6, hw, ar_vr (by omega) (by omega)]
      have e11 : (x + 1).toInt64.toInt = (i : Int) + 1 := by rw [ar_i2l, x1]; omega
      have e12 : (w * (v0 - x).toInt64 / (x + 1).toInt64).toInt = w_a nn (i + 1) := w_div e8 e11 m.1
      rw [if_pos q, q_letE (v0 - x), q_letE (v0 - x).toInt64, q_letE (w * (v0 - x).toInt64), q_letE (x + 1), q_letE (x + 1).toInt64, q_letE (w * (v0 - x).toInt64 / (x + 1).toInt64), q_letE (x + 1)]
      exact ih _ _ (i + 1) (by omega) x1 (by omega) e12
    · have e : i = kk.toNat := by omega
      rw [if_neg q, hw, e]
theorem w_toTake {nn kk : Int} {v0 v1 : Int32} (h0 : v0.toInt = nn) (h1 : v1.toInt = kk) (hn : 0 ≤ nn ∧ nn ≤ 80) (hk : 0 ≤ kk ∧ kk ≤ 4) : (F_X11_waysToTake X σ v0 v1).toInt = w_v nn kk := by
  unfold F_X11_waysToTake w_v
  rw [h0, h1]
  by_cases q : nn < kk
  · rw [if_pos q, if_pos q]; rfl
  · rw [if_neg q, if_neg q]
    exact w_toL h0 h1 hn hk (by omega) _ 1 0 0 (Nat.lt_succ_self _) rfl hk.1 rfl
theorem w_chL {nn kk : Int} {v0 v1 : Int32} (h0 : v0.toInt = nn) (h1 : v1.toInt = kk) (hn : 0 ≤ nn ∧ nn ≤ 80) (hk : 0 ≤ kk ∧ kk ≤ 4) (h : kk ≤ nn) (fu : Nat) : ∀ (w : Int64) (x : Int32) (i : Nat), (2147483647 - x.toInt).toNat < fu → x.toInt = (i : Int) + 1 → (i : Int) ≤ kk → w.toInt = w_c nn kk i → (F_X12_choose_L12_1 X v1 v0 fu w x).toInt = w_c nn kk kk.toNat := by
  have ab := w_ab hn hk h
  have one : (1 : Int32).toInt = 1 := rfl
  induction fu with
  | zero => intro w x i h; exact absurd h (Nat.not_lt_zero _)
  | succ fu ih =>
    intro w x i hf hx hi hw
    rw [F_X12_choose_L12_1_s]
    unfold F_X12_choose_B12_1
    rw [hx, h1]
    by_cases q : kk < (i : Int) + 1
    · have e : i = kk.toNat := by omega
      rw [if_pos q, hw, e]
    · have x1 : (x + 1).toInt = ((i + 1 : Nat) : Int) + 1 := by rw [y_inc (by omega), hx]; omega
      have b := (ab.2 i hi).2
      have m := m_mulI (a := w_c nn kk i) (A := 2000000) (b := nn - kk + ((i : Int) + 1)) (B := 160) b.1 b.2 (by omega) (by omega)
      have e6 : (v0 - v1 + x).toInt = nn - kk + ((i : Int) + 1) := by rw [ar_add, ar_sub, h0, h1, hx, ar_wr (n := nn - kk) (by omega) (by omega), ar_wr (by omega) (by omega)]
      have e9 : (w * (v0 - v1 + x).toInt64).toInt = w_c nn kk i * (nn - kk + ((i : Int) + 1)) := by rw [ar_mull, ar_i2l, e6, hw, ar_vr (by omega) (by omega)]
      have e10 : x.toInt64.toInt = (i : Int) + 1 := by rw [ar_i2l, hx]
      have e11 : (w * (v0 - v1 + x).toInt64 / x.toInt64).toInt = w_c nn kk (i + 1) := w_div e9 e10 m.1
      rw [if_neg q, q_letE (v0 - v1), q_letE (v0 - v1 + x), q_letE (v0 - v1 + x).toInt64, q_letE (w * (v0 - v1 + x).toInt64), q_letE x.toInt64, q_letE (w * (v0 - v1 + x).toInt64 / x.toInt64), q_letE (x + 1)]
      exact ih _ _ (i + 1) (by omega) x1 (by omega) e11
theorem w_choose {nn kk : Int} {v0 v1 : Int32} (h0 : v0.toInt = nn) (h1 : v1.toInt = kk) (hn : 0 ≤ nn ∧ nn ≤ 80) (hk : 0 ≤ kk ∧ kk ≤ 4) : (F_X12_choose X τ v0 v1).toInt = w_v nn kk := by
  unfold F_X12_choose w_v
  rw [h0, h1]
  by_cases q : nn < kk
  · rw [if_pos q, if_pos q]; rfl
  · rw [if_neg q, if_neg q, (w_ab hn hk (by omega)).1]
    exact w_chL h0 h1 hn hk (by omega) _ 1 1 0 (Nat.lt_succ_self _) rfl hk.1 rfl
end QG
/-! all unknown to one: at most eighty -/
def w_s (f : Int → Int) : Nat → Int
  | 0 => 0
  | n + 1 => w_s f n + f (n : Int)
theorem w_s_add (f f' : Int → Int) (n : Nat) : w_s (fun k => f k + f' k) n = w_s f n + w_s f' n := by
  induction n with
  | zero => rfl
  | succ n ih =>
    show w_s (fun k => f k + f' k) n + (f (n : Int) + f' (n : Int)) = w_s f n + f (n : Int) + (w_s f' n + f' (n : Int))
    rw [ih]
    omega
theorem w_s_0 (n : Nat) : w_s (fun _ => 0) n = 0 := by
  induction n with
  | zero => rfl
  | succ n ih => show w_s (fun _ => 0) n + 0 = 0; omega
theorem w_J (c : Int → Int) (w : Int) (m n : Nat) : m_J c w m n = w_s (fun k => m_K c w k m) n := by
  induction n with
  | zero => rfl
  | succ n ih =>
    show m_J c w m n + m_K c w (n : Int) m = w_s (fun k => m_K c w k m) n + m_K c w (n : Int) m
    rw [ih]
theorem w_J_le (c : Int → Int) (w : Int) (m n : Nat) : m_J c w m n ≤ (m : Int) := by
  induction m with
  | zero =>
    rw [w_J]
    show w_s (fun _ => 0) n ≤ 0
    rw [w_s_0]
    exact Int.le_refl _
  | succ m ih =>
    rw [m_J_succ]
    split <;> omega
theorem w_A {c : Int → Int} (h : m_G c) (n N : Nat) (hN : (N : Int) ≤ c 9) : w_s (fun k => m_A c (-1) k N) n ≤ m_L c N := by
  induction N with
  | zero =>
    show w_s (fun _ => 0) n ≤ 0
    rw [w_s_0]
    exact Int.le_refl _
  | succ N ih =>
    have i := ih (by omega)
    have y := (h.2.2.1 (N : Int) (by omega) (by omega)).1
    have j := w_J_le c (94 + 7 * (N : Int)) (c (94 + 7 * (N : Int) + 2)).toNat n
    have e : w_s (fun k => m_A c (-1) k (N + 1)) n = w_s (fun k => m_A c (-1) k N) n + w_s (fun k => m_K c (94 + 7 * (N : Int)) k (c (94 + 7 * (N : Int) + 2)).toNat) n := by
      rw [← w_s_add]
      refine congrArg (fun f => w_s f n) ?_
      funext k
      show m_A c (-1) k N + (if 0 ≤ (-1 : Int) ∧ c (94 + 7 * (N : Int)) ≠ -1 then 0 else m_K c (94 + 7 * (N : Int)) k (c (94 + 7 * (N : Int) + 2)).toNat) = _
      rw [if_neg (by omega)]
    rw [e, ← w_J]
    show _ ≤ m_L c N + c (94 + 7 * (N : Int) + 2)
    omega
theorem w_P {c : Int → Int} (h : m_G c) (n N : Nat) (hn : n ≤ 10) (hN : N ≤ 6) : w_s (fun k => m_P c k N) n ≤ m_S c 34 (10 * N) := by
  induction N with
  | zero =>
    show w_s (fun _ => 0) n ≤ 0
    rw [w_s_0]
    exact Int.le_refl _
  | succ N ih =>
    have i := ih (by omega)
    have e : w_s (fun k => m_P c k (N + 1)) n = w_s (fun k => m_P c k N) n + w_s (fun k => c (34 + 10 * (N : Int) + k)) n := by
      rw [← w_s_add]
      rfl
    have s : w_s (fun k => c (34 + 10 * (N : Int) + k)) n = m_S c (34 + 10 * (N : Int)) n := by
      clear i e ih hn
      induction n with
      | zero => rfl
      | succ n ih =>
        show w_s (fun k => c (34 + 10 * (N : Int) + k)) n + c (34 + 10 * (N : Int) + (n : Int)) = m_S c (34 + 10 * (N : Int)) n + c (34 + 10 * (N : Int) + (n : Int))
        rw [ih]
    have t := m_S_add c (34 + 10 * (N : Int)) n (10 - n)
    have e10 : n + (10 - n) = 10 := by omega
    rw [e10] at t
    have nn : 0 ≤ m_S c (34 + 10 * (N : Int) + (n : Int)) (10 - n) := m_S_nn (fun j a b => h.hand0 (by omega) (by omega))
    have u := m_S_add c 34 (10 * N) 10
    have eu : 10 * N + 10 = 10 * (N + 1) := by omega
    have ev : (34 : Int) + ((10 * N : Nat) : Int) = 34 + 10 * (N : Int) := by omega
    rw [eu, ev] at u
    rw [e, s, u]
    omega
theorem w_V {c : Int → Int} (h : m_G c) {p : Int} (p0 : 0 ≤ p) (p1 : p < c 2) (n : Nat) (hn : n ≤ 10) : 0 ≤ m_V c p n ∧ m_V c p n ≤ 80 := by
  have hd := h.hd
  have a := w_A h n (c 9).toNat (by omega)
  have b := w_P h n (c 2).toNat hn (by omega)
  have e := h.Sall (10 * (c 2).toNat) (by omega)
  have f := h.tot
  have s : w_s (fun k => m_I c k) n = w_s (fun k => m_A c (-1) k (c 9).toNat) n + w_s (fun k => m_P c k (c 2).toNat) n := w_s_add _ _ n
  have le : m_V c p n ≤ w_s (fun k => m_I c k) n := by
    clear a b s
    induction n with
    | zero => exact Int.le_refl _
    | succ n ih =>
      have i := ih (by omega)
      have k := h.hand0 (j := 34 + 10 * p + (n : Int)) (by omega) (by omega)
      have l := h.A_bd p (n : Int) (c 9).toNat (by omega)
      have ud : m_U c p (n : Int) = m_I c (n : Int) - (c (34 + 10 * p + (n : Int)) + m_A c p (n : Int) (c 9).toNat) := rfl
      show m_V c p n + m_U c p (n : Int) ≤ w_s (fun k => m_I c k) n + m_I c (n : Int)
      omega
  exact ⟨(h.V_bd p0 p1 n hn).1, by omega⟩
/-- of the open laying: how many cards; ways to draw so many of its kind, of all; what a doubt is worth a card of the heap -/
def w_n (c : Int → Int) : Int := c (94 + 7 * (c 9 - 1) + 2)
def w_t (c : Int → Int) (p : Int) : Int := w_v (m_U c p (c 5)) (w_n c)
def w_l (c : Int → Int) (p : Int) : Int := w_v (m_V c p (c 0).toNat) (w_n c)
def w_w (c : Int → Int) (p : Int) : Int := w_l c p - 2 * w_t c p
theorem w_n_b {c : Int → Int} (h : m_G c) (h9 : 1 ≤ c 9) : 1 ≤ w_n c ∧ w_n c ≤ 4 := (h.2.2.1 (c 9 - 1) (by omega) (by omega)).1
theorem w_tl_b {c : Int → Int} (h : m_G c) (h9 : 1 ≤ c 9) {p : Int} (hp : 0 ≤ p ∧ p < c 2) : (0 ≤ w_t c p ∧ w_t c p ≤ 2000000) ∧ 0 ≤ w_l c p ∧ w_l c p ≤ 2000000 := by
  have nb := w_n_b h h9
  have hd := h.1
  have b5 := hd.2.2.2.1
  have b0 := hd.1
  exact ⟨w_v_b (h.U_bd hp.1 hp.2 b5.1 (by omega)) ⟨by omega, nb.2⟩, w_v_b (w_V h hp.1 hp.2 _ (by omega)) ⟨by omega, nb.2⟩⟩
section QH
variable {X : XW} {lb : Nat → Nat} {C a : Nat} {σ τ : ST} {n : Int}
theorem w_class (K : al_C X lb C a) (A : al_R X C a σ τ) (M : m_M (m_c X τ a) (τ.1 a 24).toInt n) (h9 : 1 ≤ m_c X τ a 9) {v : Int32} {p : Int} (hv : v.toInt = p) (hp : 0 ≤ p ∧ p < m_c X τ a 2) : (F_X0_trueWays X σ (q_rf X C 8) v).toInt = w_t (m_c X τ a) p ∧ (F_X0_allWays X σ (q_rf X C 8) v).toInt = w_l (m_c X τ a) p := by
  obtain ⟨kC, ka, S, lC, G8, G9, GM⟩ := id K
  obtain ⟨m2, s2, t2⟩ := mv_beg S.1 ka (rfl : m_c X τ a = m_c X τ a)
  obtain ⟨b0, b2, b4, b5, b6, b7, b9, b79⟩ := M.1.1.1
  have w : y_W X lb (q_rf X C 8) 1 σ σ (y_v X (q_rf X C 8) σ) := y_W.rf
  have one : (1 : Int32).toInt = 1 := rfl
  have n16 : ((y_gn 16 : Nat) : Int) = 80 := rfl
  have Rg := A.1.1
  have nb := w_n_b M.1.1 h9
  have f4 : (σ.1 (q_rf X C 8) 4).toInt = m_c X τ a 5 := (w.rd (id := 0) (by decide) 4 rfl).trans Rg.2.1.1
  have f0 : (σ.1 (q_rf X (q_rf X C 8) 2) 0).toInt = m_c X τ a 9 := (w.rd (id := 2) (by decide) 0 rfl).trans Rg.2.2.2.2.1.1
  have top := (Rg.2.2.2.2.1.2.2 (m_c X τ a 9 - 1) (by omega) (by omega)).2.2.1
  have ts : (F_X2_topSize X σ (q_rf X (q_rf X C 8) 2)).toInt = w_n (m_c X τ a) := by
    unfold F_X2_topSize
    rw [q_letE (σ.1 (q_rf X (q_rf X C 8) 2) 0), q_letE (σ.1 (q_rf X (q_rf X C 8) 2) 0 - 1), q_letE, y_getI S G8 w (id := 16) (r := q_rf X (q_rf X (q_rf X C 8) 2) 4) ⟨by decide, by decide⟩ rfl (i := m_c X τ a 9 - 1) (by rw [ar_sub, f0, one, ar_wr (by omega) (by omega)]) (by omega) (by rw [n16]; omega)]
    exact top
  have kn := (rg.know (X := X) (τ := τ) S G8 w Rg M.1.1 rfl (v1 := v) (v2 := σ.1 (q_rf X C 8) 4) hv f4 hp ⟨b5.1, by omega⟩).2.2.1
  have al := (an_all K A M m2 hv hp).1
  constructor
  · unfold F_X0_trueWays
    rw [q_letE (σ.1 (q_rf X C 8) 4), q_letE (F_X0_unknownTo X σ (q_rf X C 8) v (σ.1 (q_rf X C 8) 4)), q_letE (F_X2_topSize X σ (q_rf X (q_rf X C 8) 2)), q_letE]
    exact w_toTake kn ts (M.1.1.U_bd hp.1 hp.2 b5.1 (by omega)) ⟨by omega, nb.2⟩
  · unfold F_X0_allWays
    rw [q_letE (F_X0_allUnknownTo X σ (q_rf X C 8) v), q_letE (F_X2_topSize X σ (q_rf X (q_rf X C 8) 2)), q_letE]
    exact w_toTake al ts (w_V M.1.1 hp.1 hp.2 _ (by omega)) ⟨by omega, nb.2⟩
theorem w_model (K : al_C X lb C a) (A : al_R X C a σ τ) (M : m_M (m_c X τ a) (τ.1 a 24).toInt n) (h9 : 1 ≤ m_c X τ a 9) {τ2 : ST} (m2 : m_c X τ2 a = m_c X τ a) {v : Int32} {p : Int} (hv : v.toInt = p) (hp : 0 ≤ p ∧ p < m_c X τ a 2) : ((F_X12_blinds X τ2 a v).2.1 a 30).toInt = w_t (m_c X τ a) p ∧ ((F_X12_blinds X τ2 a v).2.1 a 31).toInt = w_l (m_c X τ a) p := by
  obtain ⟨kC, ka, S, lC, G8, G9, GM⟩ := id K
  obtain ⟨b0, b2, b4, b5, b6, b7, b9, b79⟩ := M.1.1.1
  have w : y_W X lb (q_rf X C 8) 1 σ σ (y_v X (q_rf X C 8) σ) := y_W.rf
  have one : (1 : Int32).toInt = 1 := rfl
  have e2 : (2 : Int32).toInt = 2 := rfl
  have Rg := A.1.1
  have nb := w_n_b M.1.1 h9
  have g5 : (τ2.1 (q_rf X a 20) (5 : Int32).toNatClampNeg).toInt = m_c X τ a 5 := gm_cell (A := 5) m2 rfl
  have g9 : (τ2.1 (q_rf X a 20) (9 : Int32).toNatClampNeg).toInt = m_c X τ a 9 := gm_cell (A := 9) m2 rfl
  have kn := (rg.know (X := X) (τ := τ2) S G8 w Rg M.1.1 m2 (v1 := v) (v2 := τ2.1 (q_rf X a 20) (5 : Int32).toNatClampNeg) hv g5 hp ⟨b5.1, by omega⟩).2.2.2
  have l1 : (τ2.1 (q_rf X a 20) (9 : Int32).toNatClampNeg - 1).toInt = m_c X τ a 9 - 1 := by rw [ar_sub, g9, one, ar_wr (by omega) (by omega)]
  have l2 := gm_laid (X := X) (τ := τ2) l1 ⟨by omega, by omega⟩
  have l3 : (τ2.1 (q_rf X a 20) (F_X12_laid X τ2 (τ2.1 (q_rf X a 20) (9 : Int32).toNatClampNeg - 1) + 2).toNatClampNeg).toInt = w_n (m_c X τ a) := gm_cell m2 (by rw [ar_add, l2, e2, ar_wr (by omega) (by omega)])
  unfold F_X12_blinds
  rw [q_letE (τ2.1 (q_rf X a 20) (9 : Int32).toNatClampNeg), q_letE (τ2.1 (q_rf X a 20) (9 : Int32).toNatClampNeg - 1), q_letE (F_X12_laid X τ2 (τ2.1 (q_rf X a 20) (9 : Int32).toNatClampNeg - 1)), q_letE (F_X12_laid X τ2 (τ2.1 (q_rf X a 20) (9 : Int32).toNatClampNeg - 1) + 2)]
  obtain ⟨z, hz⟩ : ∃ z, z = τ2.1 (q_rf X a 20) (F_X12_laid X τ2 (τ2.1 (q_rf X a 20) (9 : Int32).toNatClampNeg - 1) + 2).toNatClampNeg := ⟨_, rfl⟩
  rw [← hz] at l3 ⊢
  obtain ⟨u, hu⟩ : ∃ u, u = F_X12_unknownOf X τ2 a v (τ2.1 (q_rf X a 20) (5 : Int32).toNatClampNeg) := ⟨_, rfl⟩
  rw [← hu] at kn
  rw [q_letE z, q_letE (τ2.1 (q_rf X a 20) (5 : Int32).toNatClampNeg), ← hu, q_letE u, q_letE (F_X12_choose X τ2 u z)]
  obtain ⟨τ3, e3⟩ : ∃ t, t = q_sl τ2 a 30 (F_X12_choose X τ2 u z) := ⟨_, rfl⟩
  have m3 : m_c X τ3 a = m_c X τ a := by rw [e3]; exact m2
  have al := (an_all K A M m3 hv hp).2
  rw [← e3, q_letE τ3, q_letE (F_X12_unknownAll X τ3 a v), q_letE (F_X12_choose X τ3 (F_X12_unknownAll X τ3 a v) z), q_letE]
  constructor
  · have e : (q_sl τ3 a 31 (F_X12_choose X τ3 (F_X12_unknownAll X τ3 a v) z)).2.1 a 30 = τ3.2.1 a 30 := by
      show (if a = a ∧ (30 : Nat) = 31 then _ else τ3.2.1 a 30) = _
      rw [if_neg (fun h => absurd h.2 (by decide))]
    have e' : τ3.2.1 a 30 = F_X12_choose X τ2 u z := by rw [e3, sl_eq]
    rw [e, e']
    exact w_choose kn l3 (M.1.1.U_bd hp.1 hp.2 b5.1 (by omega)) ⟨by omega, nb.2⟩
  · rw [sl_eq]
    exact w_choose al l3 (w_V M.1.1 hp.1 hp.2 _ (by omega)) ⟨by omega, nb.2⟩
end QH
