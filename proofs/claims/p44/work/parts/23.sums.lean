theorem m_G.hd {c : Int → Int} (h : m_G c) : (2 ≤ c 0 ∧ c 0 ≤ 10) ∧ (0 ≤ c 2 ∧ c 2 ≤ 6) ∧ (1 ≤ c 4 ∧ c 4 ≤ 4) ∧ (0 ≤ c 5 ∧ c 5 < c 0) ∧ (-1 ≤ c 6 ∧ c 6 < c 2 ∧ c 2 ≤ 6 * (c 6 + 1)) ∧ (0 ≤ c 7 ∧ c 7 ≤ 1) ∧ (0 ≤ c 9 ∧ c 9 ≤ 80) ∧ (c 7 ≤ c 9 ∧ c 7 ≤ c 6 + 1) := h.1
theorem m_G.hand0 {c : Int → Int} (h : m_G c) {j : Int} (h0 : 34 ≤ j) (h1 : j < 94) : 0 ≤ c j := by
  have e : j = 34 + 10 * ((j - 34) / 10) + (j - 34) % 10 := by omega
  rw [e]
  exact (h.2.1 _ _ (by omega) (by omega) (by omega) (by omega)).1
theorem m_G.L0 {c : Int → Int} (h : m_G c) (n : Nat) (hn : (n : Int) ≤ c 9) : 0 ≤ m_L c n := by
  induction n with
  | zero => exact Int.le_refl _
  | succ n ih =>
    have h1 := ih (by omega)
    have h2 := (h.2.2.1 (n : Int) (by omega) (by omega)).1
    show 0 ≤ m_L c n + c (94 + 7 * (n : Int) + 2)
    omega
/-- the cards of the first layings are no more than all -/
theorem m_G.Lle {c : Int → Int} (h : m_G c) (n : Nat) (hn : (n : Int) ≤ c 9) : (n : Int) ≤ m_L c n ∧ m_L c n ≤ 4 * (n : Int) := by
  induction n with
  | zero => exact ⟨Int.le_refl _, Int.le_refl _⟩
  | succ n ih =>
    have h1 := ih (by omega)
    have h2 := (h.2.2.1 (n : Int) (by omega) (by omega)).1
    show ((n + 1 : Nat) : Int) ≤ m_L c n + c (94 + 7 * (n : Int) + 2) ∧ m_L c n + c (94 + 7 * (n : Int) + 2) ≤ 4 * ((n + 1 : Nat) : Int)
    omega
theorem m_G.Lmono {c : Int → Int} (h : m_G c) (m n : Nat) (hn : ((m + n : Nat) : Int) ≤ c 9) : m_L c m ≤ m_L c (m + n) := by
  induction n with
  | zero => exact Int.le_refl _
  | succ n ih =>
    have h1 := ih (by omega)
    have h2 := (h.2.2.1 ((m + n : Nat) : Int) (by omega) (by omega)).1
    show m_L c m ≤ m_L c (m + n) + c (94 + 7 * ((m + n : Nat) : Int) + 2)
    omega
theorem m_G.Lall {c : Int → Int} (h : m_G c) {k : Int} (h0 : 0 ≤ k) (h1 : k ≤ c 9) : 0 ≤ m_L c k.toNat ∧ m_L c k.toNat ≤ m_L c (c 9).toNat := by
  have b := h.hd.2.2.2.2.2.2.1
  refine ⟨h.L0 _ (by omega), ?_⟩
  have w := h.Lmono k.toNat ((c 9).toNat - k.toNat) (by omega)
  have e : k.toNat + ((c 9).toNat - k.toNat) = (c 9).toNat := by omega
  rw [e] at w
  exact w
theorem m_G.S0 {c : Int → Int} (h : m_G c) : 0 ≤ m_S c 34 60 := m_S_nn (fun _ a b => h.hand0 a (by omega))
theorem m_G.tot {c : Int → Int} (h : m_G c) : m_S c 34 60 + m_L c (c 9).toNat ≤ 80 := h.2.2.2.1
theorem m_G.L80 {c : Int → Int} (h : m_G c) {k : Int} (h0 : 0 ≤ k) (h1 : k ≤ c 9) : 0 ≤ m_L c k.toNat ∧ m_L c k.toNat ≤ 80 := by
  have a := h.Lall h0 h1
  have b := h.tot
  have d := h.S0
  omega
/-- a hand, or its beginning -/
theorem m_G.Shand {c : Int → Int} (h : m_G c) {p : Int} (h0 : 0 ≤ p) (h1 : p < 6) {n : Nat} (hn : n ≤ 10) : 0 ≤ m_S c (34 + 10 * p) n ∧ m_S c (34 + 10 * p) n ≤ m_S c 34 60 := by
  refine ⟨m_S_nn (fun j a b => h.hand0 (by omega) (by omega)), ?_⟩
  have w := m_S_add c 34 ((10 * p).toNat + n) (60 - ((10 * p).toNat + n))
  have e : (10 * p).toNat + n + (60 - ((10 * p).toNat + n)) = 60 := by omega
  rw [e] at w
  have w2 := m_S_add c 34 (10 * p).toNat n
  have e2 : (34 : Int) + ((10 * p).toNat : Int) = 34 + 10 * p := by omega
  rw [e2] at w2
  have z1 : 0 ≤ m_S c 34 (10 * p).toNat := m_S_nn (fun j a b => h.hand0 (by omega) (by omega))
  have z2 : 0 ≤ m_S c (34 + (((10 * p).toNat + n : Nat) : Int)) (60 - ((10 * p).toNat + n)) := m_S_nn (fun j a b => h.hand0 (by omega) (by omega))
  omega
theorem m_G.S80 {c : Int → Int} (h : m_G c) {p k : Int} (h0 : 0 ≤ p) (h1 : p < 6) (k0 : 0 ≤ k) (k1 : k ≤ 10) : 0 ≤ m_S c (34 + 10 * p) k.toNat ∧ m_S c (34 + 10 * p) k.toNat ≤ 80 := by
  have a := h.Shand h0 h1 (n := k.toNat) (by omega)
  have b := h.tot
  have d := h.L80 (k := c 9) h.hd.2.2.2.2.2.2.1.1 (Int.le_refl _)
  omega
theorem m_G.h80 {c : Int → Int} (h : m_G c) {p k : Int} (h0 : 0 ≤ p) (h1 : p < 6) (k0 : 0 ≤ k) (k1 : k < 10) : 0 ≤ c (34 + 10 * p + k) ∧ c (34 + 10 * p + k) ≤ 80 := by
  have a := h.S80 h0 h1 k0 (by omega : k ≤ 10)
  have b := h.S80 h0 h1 (by omega : 0 ≤ k + 1) (by omega : k + 1 ≤ 10)
  rw [m_S_succ _ _ _ k0] at b
  have d := (h.2.1 p k h0 h1 k0 k1).1
  omega
/-- all hands' cards of a kind -/
def m_P (c : Int → Int) (k : Int) : Nat → Int
  | 0 => 0
  | n + 1 => m_P c k n + c (34 + 10 * (n : Int) + k)
theorem m_P_succ (c : Int → Int) (k p : Int) (h : 0 ≤ p) : m_P c k (p + 1).toNat = m_P c k p.toNat + c (34 + 10 * p + k) := by
  have e : (p + 1).toNat = p.toNat + 1 := by omega
  have e2 : (p.toNat : Int) = p := by omega
  rw [e]
  show m_P c k p.toNat + c (34 + 10 * (p.toNat : Int) + k) = _
  rw [e2]
theorem m_S_ge {c : Int → Int} {b A : Int} {n : Nat} (h : ∀ j : Int, b ≤ j → j < b + (n : Int) → 0 ≤ c j) (h0 : b ≤ A) (h1 : A < b + (n : Int)) : c A ≤ m_S c b n := by
  induction n with
  | zero => omega
  | succ n ih =>
    show c A ≤ m_S c b n + c (b + (n : Int))
    have z := m_S_nn (fun j a1 a2 => h j a1 (by omega) : ∀ j : Int, b ≤ j → j < b + (n : Int) → 0 ≤ c j)
    by_cases q : A = b + (n : Int)
    · rw [q]; omega
    · have w := ih (fun j a1 a2 => h j a1 (by omega)) (by omega)
      have z2 := h (b + (n : Int)) (by omega) (by omega)
      omega
theorem m_G.Pbd {c : Int → Int} (h : m_G c) {k : Int} (k0 : 0 ≤ k) (k1 : k < 10) (n : Nat) (hn : n ≤ 6) : 0 ≤ m_P c k n ∧ m_P c k n ≤ m_S c 34 (10 * n) := by
  induction n with
  | zero => exact ⟨Int.le_refl _, Int.le_refl _⟩
  | succ n ih =>
    have a := ih (by omega)
    have e : 10 * (n + 1) = 10 * n + 10 := by omega
    have w := m_S_add c 34 (10 * n) 10
    have e2 : (34 : Int) + ((10 * n : Nat) : Int) = 34 + 10 * (n : Int) := by omega
    rw [← e, e2] at w
    have z := m_S_ge (c := c) (b := 34 + 10 * (n : Int)) (A := 34 + 10 * (n : Int) + k) (n := 10) (fun j a b => h.hand0 (by omega) (by omega)) (by omega) (by omega)
    have d := h.hand0 (j := 34 + 10 * (n : Int) + k) (by omega) (by omega)
    show 0 ≤ m_P c k n + c (34 + 10 * (n : Int) + k) ∧ m_P c k n + c (34 + 10 * (n : Int) + k) ≤ m_S c 34 (10 * (n + 1))
    omega
theorem m_G.Sall {c : Int → Int} (h : m_G c) (n : Nat) (hn : n ≤ 60) : m_S c 34 n ≤ m_S c 34 60 := by
  have w := m_S_add c 34 n (60 - n)
  have e : n + (60 - n) = 60 := by omega
  rw [e] at w
  have z : 0 ≤ m_S c (34 + (n : Int)) (60 - n) := m_S_nn (fun j a b => h.hand0 (by omega) (by omega))
  omega
theorem m_G.Pge {c : Int → Int} (h : m_G c) {k : Int} (k0 : 0 ≤ k) (k1 : k < 10) {p : Int} (p0 : 0 ≤ p) (n : Nat) (hn : n ≤ 6) (p1 : p < (n : Int)) : c (34 + 10 * p + k) ≤ m_P c k n := by
  induction n with
  | zero => omega
  | succ n ih =>
    have z := (h.Pbd k0 k1 n (by omega)).1
    have d := h.hand0 (j := 34 + 10 * (n : Int) + k) (by omega) (by omega)
    show c (34 + 10 * p + k) ≤ m_P c k n + c (34 + 10 * (n : Int) + k)
    by_cases q : p = (n : Int)
    · rw [q]; omega
    · have := ih (by omega) (by omega)
      omega
/-- how many of the first n cards of the laying at w are of a kind (below 0: all) -/
def m_K (c : Int → Int) (w k : Int) : Nat → Int
  | 0 => 0
  | n + 1 => m_K c w k n + (if k < 0 ∨ c (w + 3 + (n : Int)) = k then 1 else 0)
theorem m_K_succ (c : Int → Int) (w k t : Int) (h : 0 ≤ t) : m_K c w k (t + 1).toNat = m_K c w k t.toNat + (if k < 0 ∨ c (w + 3 + t) = k then 1 else 0) := by
  have e : (t + 1).toNat = t.toNat + 1 := by omega
  have e2 : (t.toNat : Int) = t := by omega
  rw [e]
  show m_K c w k t.toNat + (if k < 0 ∨ c (w + 3 + (t.toNat : Int)) = k then 1 else 0) = _
  rw [e2]
theorem m_K_bd (c : Int → Int) (w k : Int) (n : Nat) : 0 ≤ m_K c w k n ∧ m_K c w k n ≤ (n : Int) := by
  induction n with
  | zero => exact ⟨Int.le_refl _, Int.le_refl _⟩
  | succ n ih =>
    show 0 ≤ m_K c w k n + (if k < 0 ∨ c (w + 3 + (n : Int)) = k then 1 else 0) ∧ m_K c w k n + (if k < 0 ∨ c (w + 3 + (n : Int)) = k then 1 else 0) ≤ ((n + 1 : Nat) : Int)
    split <;> omega
/-- how many cards of a kind (below 0: of all) a player (below 0: all) laid in the first n layings -/
def m_A (c : Int → Int) (p k : Int) : Nat → Int
  | 0 => 0
  | n + 1 => m_A c p k n + (if 0 ≤ p ∧ c (94 + 7 * (n : Int)) ≠ p then 0 else m_K c (94 + 7 * (n : Int)) k (c (94 + 7 * (n : Int) + 2)).toNat)
theorem m_A_succ (c : Int → Int) (p k t : Int) (h : 0 ≤ t) : m_A c p k (t + 1).toNat = m_A c p k t.toNat + (if 0 ≤ p ∧ c (94 + 7 * t) ≠ p then 0 else m_K c (94 + 7 * t) k (c (94 + 7 * t + 2)).toNat) := by
  have e : (t + 1).toNat = t.toNat + 1 := by omega
  have e2 : (t.toNat : Int) = t := by omega
  rw [e]
  show m_A c p k t.toNat + (if 0 ≤ p ∧ c (94 + 7 * (t.toNat : Int)) ≠ p then 0 else m_K c (94 + 7 * (t.toNat : Int)) k (c (94 + 7 * (t.toNat : Int) + 2)).toNat) = _
  rw [e2]
theorem m_G.A_bd {c : Int → Int} (h : m_G c) (p k : Int) (n : Nat) (hn : (n : Int) ≤ c 9) : 0 ≤ m_A c p k n ∧ m_A c p k n ≤ m_L c n := by
  induction n with
  | zero => exact ⟨Int.le_refl _, Int.le_refl _⟩
  | succ n ih =>
    have a := ih (by omega)
    have h2 := (h.2.2.1 (n : Int) (by omega) (by omega)).1
    have b := m_K_bd c (94 + 7 * (n : Int)) k (c (94 + 7 * (n : Int) + 2)).toNat
    show 0 ≤ m_A c p k n + (if 0 ≤ p ∧ c (94 + 7 * (n : Int)) ≠ p then 0 else m_K c (94 + 7 * (n : Int)) k (c (94 + 7 * (n : Int) + 2)).toNat) ∧ m_A c p k n + (if 0 ≤ p ∧ c (94 + 7 * (n : Int)) ≠ p then 0 else m_K c (94 + 7 * (n : Int)) k (c (94 + 7 * (n : Int) + 2)).toNat) ≤ m_L c n + c (94 + 7 * (n : Int) + 2)
    split <;> omega
/-- those of one player are among those of all -/
theorem m_A_le (c : Int → Int) (p k : Int) (n : Nat) : m_A c p k n ≤ m_A c (-1) k n := by
  induction n with
  | zero => exact Int.le_refl _
  | succ n ih =>
    have b := m_K_bd c (94 + 7 * (n : Int)) k (c (94 + 7 * (n : Int) + 2)).toNat
    show m_A c p k n + (if 0 ≤ p ∧ c (94 + 7 * (n : Int)) ≠ p then 0 else m_K c (94 + 7 * (n : Int)) k (c (94 + 7 * (n : Int) + 2)).toNat) ≤ m_A c (-1) k n + (if 0 ≤ (-1 : Int) ∧ c (94 + 7 * (n : Int)) ≠ -1 then 0 else m_K c (94 + 7 * (n : Int)) k (c (94 + 7 * (n : Int) + 2)).toNat)
    rw [if_neg (by omega : ¬ (0 ≤ (-1 : Int) ∧ c (94 + 7 * (n : Int)) ≠ -1))]
    split <;> omega
/-- and the last laying is another's -/
theorem m_A_last (c : Int → Int) (p k : Int) (n : Nat) (hp : 0 ≤ p) (h : c (94 + 7 * (n : Int)) ≠ p) : m_A c p k (n + 1) + m_K c (94 + 7 * (n : Int)) k (c (94 + 7 * (n : Int) + 2)).toNat ≤ m_A c (-1) k (n + 1) := by
  have a := m_A_le c p k n
  show m_A c p k n + (if 0 ≤ p ∧ c (94 + 7 * (n : Int)) ≠ p then 0 else m_K c (94 + 7 * (n : Int)) k (c (94 + 7 * (n : Int) + 2)).toNat) + m_K c (94 + 7 * (n : Int)) k (c (94 + 7 * (n : Int) + 2)).toNat ≤ m_A c (-1) k n + (if 0 ≤ (-1 : Int) ∧ c (94 + 7 * (n : Int)) ≠ -1 then 0 else m_K c (94 + 7 * (n : Int)) k (c (94 + 7 * (n : Int) + 2)).toNat)
  rw [if_pos ⟨hp, h⟩, if_neg (by omega : ¬ (0 ≤ (-1 : Int) ∧ c (94 + 7 * (n : Int)) ≠ -1))]
  omega
/-- how many of a kind are in the game; are unknown to a player -/
def m_I (c : Int → Int) (k : Int) : Int := m_A c (-1) k (c 9).toNat + m_P c k (c 2).toNat
def m_U (c : Int → Int) (p k : Int) : Int := m_I c k - (c (34 + 10 * p + k) + m_A c p k (c 9).toNat)
theorem m_G.I_bd {c : Int → Int} (h : m_G c) {k : Int} (k0 : 0 ≤ k) (k1 : k < 10) : 0 ≤ m_I c k ∧ m_I c k ≤ 80 := by
  have b := h.hd
  have a := h.A_bd (-1) k (c 9).toNat (by omega)
  have d := h.Pbd k0 k1 (c 2).toNat (by omega)
  have e := h.Sall (10 * (c 2).toNat) (by omega)
  have f := h.tot
  unfold m_I
  omega
theorem m_G.U_bd {c : Int → Int} (h : m_G c) {p k : Int} (p0 : 0 ≤ p) (p1 : p < c 2) (k0 : 0 ≤ k) (k1 : k < 10) : 0 ≤ m_U c p k ∧ m_U c p k ≤ 80 := by
  have b := h.hd
  have a := h.I_bd k0 k1
  have d := h.Pge k0 k1 p0 (c 2).toNat (by omega) (by omega)
  have e := m_A_le c p k (c 9).toNat
  have f := h.A_bd p k (c 9).toNat (by omega)
  have g := h.hand0 (j := 34 + 10 * p + k) (by omega) (by omega)
  unfold m_U
  unfold m_I at a ⊢
  omega
/-- unknown ones of the first n kinds -/
def m_V (c : Int → Int) (p : Int) : Nat → Int
  | 0 => 0
  | n + 1 => m_V c p n + m_U c p (n : Int)
theorem m_V_succ (c : Int → Int) (p k : Int) (h : 0 ≤ k) : m_V c p (k + 1).toNat = m_V c p k.toNat + m_U c p k := by
  have e : (k + 1).toNat = k.toNat + 1 := by omega
  have e2 : (k.toNat : Int) = k := by omega
  rw [e]
  show m_V c p k.toNat + m_U c p (k.toNat : Int) = _
  rw [e2]
theorem m_G.V_bd {c : Int → Int} (h : m_G c) {p : Int} (p0 : 0 ≤ p) (p1 : p < c 2) (n : Nat) (hn : n ≤ 10) : 0 ≤ m_V c p n ∧ m_V c p n ≤ 80 * (n : Int) := by
  induction n with
  | zero => exact ⟨Int.le_refl _, Int.le_refl _⟩
  | succ n ih =>
    have a := ih (by omega)
    have b := h.U_bd p0 p1 (k := (n : Int)) (by omega) (by omega)
    show 0 ≤ m_V c p n + m_U c p (n : Int) ∧ m_V c p n + m_U c p (n : Int) ≤ 80 * ((n + 1 : Nat) : Int)
    omega
/-- the last laying's cards, kind by kind -/
def m_J (c : Int → Int) (w : Int) (m : Nat) : Nat → Int
  | 0 => 0
  | n + 1 => m_J c w m n + m_K c w (n : Int) m
theorem m_J_succ (c : Int → Int) (w : Int) (m n : Nat) : m_J c w (m + 1) n = m_J c w m n + (if 0 ≤ c (w + 3 + (m : Int)) ∧ c (w + 3 + (m : Int)) < (n : Int) then 1 else 0) := by
  induction n with
  | zero =>
    show (0 : Int) = 0 + (if 0 ≤ c (w + 3 + (m : Int)) ∧ c (w + 3 + (m : Int)) < ((0 : Nat) : Int) then 1 else 0)
    rw [if_neg (by omega)]
    rfl
  | succ n ih =>
    show m_J c w (m + 1) n + (m_K c w (n : Int) m + (if (n : Int) < 0 ∨ c (w + 3 + (m : Int)) = (n : Int) then 1 else 0)) = m_J c w m n + m_K c w (n : Int) m + (if 0 ≤ c (w + 3 + (m : Int)) ∧ c (w + 3 + (m : Int)) < ((n + 1 : Nat) : Int) then 1 else 0)
    rw [ih]
    repeat' split
    all_goals omega
theorem m_J_all {c : Int → Int} {w : Int} {m n : Nat} (h : ∀ t : Int, 0 ≤ t → t < (m : Int) → 0 ≤ c (w + 3 + t) ∧ c (w + 3 + t) < (n : Int)) : m_J c w m n = (m : Int) := by
  induction m with
  | zero =>
    have z : ∀ n : Nat, m_J c w 0 n = 0 := by
      intro n
      induction n with
      | zero => rfl
      | succ n ih => show m_J c w 0 n + 0 = 0; omega
    exact z n
  | succ m ih =>
    rw [m_J_succ, ih (fun t a b => h t a (by omega)), if_pos (h (m : Int) (by omega) (by omega))]
    rfl
/-- all unknown ones are no fewer than an open laying's cards, for another player -/
theorem m_G.V_open {c : Int → Int} (h : m_G c) {p : Int} (p0 : 0 ≤ p) (p1 : p < c 2) (h7 : c 7 = 1) (hp : p ≠ c 6) : 1 ≤ c (94 + 7 * (c 9 - 1) + 2) ∧ c (94 + 7 * (c 9 - 1) + 2) ≤ 4 ∧ c (94 + 7 * (c 9 - 1) + 2) ≤ m_V c p (c 0).toNat := by
  have b := h.hd
  have y := h.2.2.1 (c 9 - 1) (by omega) (by omega)
  have o : c (94 + 7 * (c 9 - 1)) = c 6 := h.2.2.2.2.1 h7
  have e : (((c 9).toNat - 1 : Nat) : Int) = c 9 - 1 := by omega
  have e9 : (c 9).toNat = (c 9).toNat - 1 + 1 := by omega
  have st : ∀ n : Nat, n ≤ 10 → m_J c (94 + 7 * (c 9 - 1)) (c (94 + 7 * (c 9 - 1) + 2)).toNat n ≤ m_V c p n := by
    intro n hn
    induction n with
    | zero => exact Int.le_refl _
    | succ n ih =>
      have a := ih (by omega)
      have z := m_A_last c p (n : Int) ((c 9).toNat - 1) p0 (by rw [e, o]; exact Ne.symm hp)
      rw [← e9, e] at z
      have d := h.Pge (k := (n : Int)) (by omega) (by omega) p0 (c 2).toNat (by omega) (by omega)
      show m_J c (94 + 7 * (c 9 - 1)) (c (94 + 7 * (c 9 - 1) + 2)).toNat n + m_K c (94 + 7 * (c 9 - 1)) (n : Int) (c (94 + 7 * (c 9 - 1) + 2)).toNat ≤ m_V c p n + m_U c p (n : Int)
      have u : m_U c p (n : Int) = m_A c (-1) (n : Int) (c 9).toNat + m_P c (n : Int) (c 2).toNat - (c (34 + 10 * p + (n : Int)) + m_A c p (n : Int) (c 9).toNat) := rfl
      omega
  have w := st (c 0).toNat (by omega)
  rw [m_J_all (fun t a b' => by
    have := y.2 t a (by omega)
    omega)] at w
  omega
