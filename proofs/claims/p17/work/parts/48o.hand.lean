/-! A HAND TOLD: bits, sums, the relation -/
def tb_pw (k : Int) : Int := if k = 0 then 1 else if k = 1 then 2 else if k = 2 then 4 else if k = 3 then 8 else if k = 4 then 16 else if k = 5 then 32 else if k = 6 then 64 else if k = 7 then 128 else if k = 8 then 256 else 512
theorem tb_ten {k : Int} (hk : 0 ≤ k ∧ k < 10) : k = 0 ∨ k = 1 ∨ k = 2 ∨ k = 3 ∨ k = 4 ∨ k = 5 ∨ k = 6 ∨ k = 7 ∨ k = 8 ∨ k = 9 := by omega
theorem tb_pw_b {k : Int} (hk : 0 ≤ k ∧ k < 10) : 1 ≤ tb_pw k ∧ tb_pw k ≤ 512 := by
  rcases tb_ten hk with rfl | rfl | rfl | rfl | rfl | rfl | rfl | rfl | rfl | rfl <;> decide
theorem tb_shl {f : Int32} {k : Int} (hf : f.toInt = k) (hk : 0 ≤ k ∧ k < 10) : ((1 : Int32) <<< (f &&& 31)).toInt = tb_pw k := by
  rcases tb_ten hk with rfl | rfl | rfl | rfl | rfl | rfl | rfl | rfl | rfl | rfl
  · have e : f = 0 := Int32.toInt_inj.mp hf
    subst e
    rfl
  · have e : f = 1 := Int32.toInt_inj.mp hf
    subst e
    rfl
  · have e : f = 2 := Int32.toInt_inj.mp hf
    subst e
    rfl
  · have e : f = 3 := Int32.toInt_inj.mp hf
    subst e
    rfl
  · have e : f = 4 := Int32.toInt_inj.mp hf
    subst e
    rfl
  · have e : f = 5 := Int32.toInt_inj.mp hf
    subst e
    rfl
  · have e : f = 6 := Int32.toInt_inj.mp hf
    subst e
    rfl
  · have e : f = 7 := Int32.toInt_inj.mp hf
    subst e
    rfl
  · have e : f = 8 := Int32.toInt_inj.mp hf
    subst e
    rfl
  · have e : f = 9 := Int32.toInt_inj.mp hf
    subst e
    rfl
theorem tb_bit {x f : Int32} {t : Int → Int} {p k : Int} (hx : x.toInt = tb_bits t p) (hf : f.toInt = k) (hk : 0 ≤ k ∧ k < 10) (ht : ∀ i : Int, 0 ≤ i → i < 10 → t (10 * p + i) = 0 ∨ t (10 * p + i) = 1) : ((x >>> (f &&& 31)) &&& 1).toInt = t (10 * p + k) := by
  have b : ∀ i : Int, 0 ≤ i → i < 10 → 0 ≤ t (10 * p + i) ∧ t (10 * p + i) ≤ 1 := fun i i0 i1 => by rcases ht i i0 i1 with h | h <;> rw [h] <;> decide
  have b0 := b 0 (by decide) (by decide)
  rw [Int.add_zero] at b0
  have b1 := b 1 (by decide) (by decide)
  have b2 := b 2 (by decide) (by decide)
  have b3 := b 3 (by decide) (by decide)
  have b4 := b 4 (by decide) (by decide)
  have b5 := b 5 (by decide) (by decide)
  have b6 := b 6 (by decide) (by decide)
  have b7 := b 7 (by decide) (by decide)
  have b8 := b 8 (by decide) (by decide)
  have b9 := b 9 (by decide) (by decide)
  clear b ht
  unfold tb_bits at hx
  rcases tb_ten hk with rfl | rfl | rfl | rfl | rfl | rfl | rfl | rfl | rfl | rfl
  · have e : f = 0 := Int32.toInt_inj.mp hf
    subst e
    rw [Jvm.Kit.i32_mask (k := 1) _ 1 (by decide) (by decide), Jvm.Kit.i32_shr x _ (k := 0) (by decide), hx]
    have e1 : (2 : Int) ^ 1 = 2 := rfl
    have e2 : (2 : Int) ^ 0 = 1 := rfl
    rw [e1, e2]
    rw [Int.add_zero]
    omega
  · have e : f = 1 := Int32.toInt_inj.mp hf
    subst e
    rw [Jvm.Kit.i32_mask (k := 1) _ 1 (by decide) (by decide), Jvm.Kit.i32_shr x _ (k := 1) (by decide), hx]
    have e1 : (2 : Int) ^ 1 = 2 := rfl
    have e2 : (2 : Int) ^ 1 = 2 := rfl
    rw [e1]
    omega
  · have e : f = 2 := Int32.toInt_inj.mp hf
    subst e
    rw [Jvm.Kit.i32_mask (k := 1) _ 1 (by decide) (by decide), Jvm.Kit.i32_shr x _ (k := 2) (by decide), hx]
    have e1 : (2 : Int) ^ 1 = 2 := rfl
    have e2 : (2 : Int) ^ 2 = 4 := rfl
    rw [e1, e2]
    omega
  · have e : f = 3 := Int32.toInt_inj.mp hf
    subst e
    rw [Jvm.Kit.i32_mask (k := 1) _ 1 (by decide) (by decide), Jvm.Kit.i32_shr x _ (k := 3) (by decide), hx]
    have e1 : (2 : Int) ^ 1 = 2 := rfl
    have e2 : (2 : Int) ^ 3 = 8 := rfl
    rw [e1, e2]
    omega
  · have e : f = 4 := Int32.toInt_inj.mp hf
    subst e
    rw [Jvm.Kit.i32_mask (k := 1) _ 1 (by decide) (by decide), Jvm.Kit.i32_shr x _ (k := 4) (by decide), hx]
    have e1 : (2 : Int) ^ 1 = 2 := rfl
    have e2 : (2 : Int) ^ 4 = 16 := rfl
    rw [e1, e2]
    omega
  · have e : f = 5 := Int32.toInt_inj.mp hf
    subst e
    rw [Jvm.Kit.i32_mask (k := 1) _ 1 (by decide) (by decide), Jvm.Kit.i32_shr x _ (k := 5) (by decide), hx]
    have e1 : (2 : Int) ^ 1 = 2 := rfl
    have e2 : (2 : Int) ^ 5 = 32 := rfl
    rw [e1, e2]
    omega
  · have e : f = 6 := Int32.toInt_inj.mp hf
    subst e
    rw [Jvm.Kit.i32_mask (k := 1) _ 1 (by decide) (by decide), Jvm.Kit.i32_shr x _ (k := 6) (by decide), hx]
    have e1 : (2 : Int) ^ 1 = 2 := rfl
    have e2 : (2 : Int) ^ 6 = 64 := rfl
    rw [e1, e2]
    omega
  · have e : f = 7 := Int32.toInt_inj.mp hf
    subst e
    rw [Jvm.Kit.i32_mask (k := 1) _ 1 (by decide) (by decide), Jvm.Kit.i32_shr x _ (k := 7) (by decide), hx]
    have e1 : (2 : Int) ^ 1 = 2 := rfl
    have e2 : (2 : Int) ^ 7 = 128 := rfl
    rw [e1, e2]
    omega
  · have e : f = 8 := Int32.toInt_inj.mp hf
    subst e
    rw [Jvm.Kit.i32_mask (k := 1) _ 1 (by decide) (by decide), Jvm.Kit.i32_shr x _ (k := 8) (by decide), hx]
    have e1 : (2 : Int) ^ 1 = 2 := rfl
    have e2 : (2 : Int) ^ 8 = 256 := rfl
    rw [e1, e2]
    omega
  · have e : f = 9 := Int32.toInt_inj.mp hf
    subst e
    rw [Jvm.Kit.i32_mask (k := 1) _ 1 (by decide) (by decide), Jvm.Kit.i32_shr x _ (k := 9) (by decide), hx]
    have e1 : (2 : Int) ^ 1 = 2 := rfl
    have e2 : (2 : Int) ^ 9 = 512 := rfl
    rw [e1, e2]
    omega
theorem tb_bits_up {t : Int → Int} {p k : Int} (hk : 0 ≤ k ∧ k < 10) (ht : t (10 * p + k) = 0) : tb_bits (m_up t (10 * p + k) 1) p = tb_bits t p + tb_pw k := by
  have e : ∀ i : Int, m_up t (10 * p + k) 1 (10 * p + i) = if i = k then 1 else t (10 * p + i) := by
    intro i
    unfold m_up
    by_cases q : i = k
    · rw [if_pos q, if_pos (by omega)]
    · rw [if_neg q, if_neg (by omega)]
  have e0 := e 0
  rw [Int.add_zero] at e0
  unfold tb_bits tb_pw
  rw [e0, e 1, e 2, e 3, e 4, e 5, e 6, e 7, e 8, e 9]
  clear e e0
  rcases tb_ten hk with rfl | rfl | rfl | rfl | rfl | rfl | rfl | rfl | rfl | rfl
  · rw [Int.add_zero] at ht
    simp only [Int.reduceEq, ↓reduceIte]
    omega
  · simp only [Int.reduceEq, ↓reduceIte]
    omega
  · simp only [Int.reduceEq, ↓reduceIte]
    omega
  · simp only [Int.reduceEq, ↓reduceIte]
    omega
  · simp only [Int.reduceEq, ↓reduceIte]
    omega
  · simp only [Int.reduceEq, ↓reduceIte]
    omega
  · simp only [Int.reduceEq, ↓reduceIte]
    omega
  · simp only [Int.reduceEq, ↓reduceIte]
    omega
  · simp only [Int.reduceEq, ↓reduceIte]
    omega
  · simp only [Int.reduceEq, ↓reduceIte]
    omega
theorem tb_bits_ne {t : Int → Int} {p q k v : Int} (hk : 0 ≤ k ∧ k < 10) (h : q ≠ p) : tb_bits (m_up t (10 * p + k) v) q = tb_bits t q := by
  unfold tb_bits
  rw [m_up_ne (by omega), m_up_ne (by omega), m_up_ne (by omega), m_up_ne (by omega), m_up_ne (by omega), m_up_ne (by omega), m_up_ne (by omega), m_up_ne (by omega), m_up_ne (by omega), m_up_ne (by omega)]
theorem m_sum_e {c : Int → Int} {k : Int} : m_sum c 3720 k = c (3754 + 10 * 0 + k) + c (3754 + 10 * 1 + k) + c (3754 + 10 * 2 + k) + c (3754 + 10 * 3 + k) + c (3754 + 10 * 4 + k) + c (3754 + 10 * 5 + k) := rfl
theorem m_sum_ne {c : Int → Int} {p k k' v : Int} (hk : 0 ≤ k ∧ k < 10) (hk' : 0 ≤ k' ∧ k' < 10) (h : k' ≠ k) : m_sum (m_up c (3754 + (10 * p + k)) v) 3720 k' = m_sum c 3720 k' := by
  unfold m_sum
  rw [m_up_ne (by omega), m_up_ne (by omega), m_up_ne (by omega), m_up_ne (by omega), m_up_ne (by omega), m_up_ne (by omega)]
theorem m_sum_at {c : Int → Int} {p k v : Int} (hp : 0 ≤ p ∧ p < 6) (h0 : c (3754 + (10 * p + k)) = 0) : m_sum (m_up c (3754 + (10 * p + k)) v) 3720 k = m_sum c 3720 k + v := by
  have e : ∀ i : Int, m_up c (3754 + (10 * p + k)) v (3754 + 10 * i + k) = if i = p then v else c (3754 + 10 * i + k) := by
    intro i
    unfold m_up
    by_cases q : i = p
    · rw [if_pos q, if_pos (by omega)]
    · rw [if_neg q, if_neg (by omega)]
  rw [m_sum_e, m_sum_e, e 0, e 1, e 2, e 3, e 4, e 5]
  clear e
  have h0' : c (3754 + 10 * p + k) = 0 := by
    have z : 3754 + 10 * p + k = 3754 + (10 * p + k) := by omega
    rw [z]
    exact h0
  rcases (by omega : p = 0 ∨ p = 1 ∨ p = 2 ∨ p = 3 ∨ p = 4 ∨ p = 5) with rfl | rfl | rfl | rfl | rfl | rfl
  · simp only [Int.reduceEq, ↓reduceIte]
    omega
  · simp only [Int.reduceEq, ↓reduceIte]
    omega
  · simp only [Int.reduceEq, ↓reduceIte]
    omega
  · simp only [Int.reduceEq, ↓reduceIte]
    omega
  · simp only [Int.reduceEq, ↓reduceIte]
    omega
  · simp only [Int.reduceEq, ↓reduceIte]
    omega
theorem m_S_at {c : Int → Int} {b A v : Int} : ∀ N : Nat, b ≤ A → A < b + (N : Int) → m_S (m_up c A v) b N = m_S c b N + v - c A := by
  intro N
  induction N with
  | zero => intro h1 h2; omega
  | succ N ih =>
    intro h1 h2
    show m_S (m_up c A v) b N + m_up c A v (b + (N : Int)) = m_S c b N + c (b + (N : Int)) + v - c A
    by_cases q : A = b + (N : Int)
    · subst q
      rw [m_up_eq, m_S_ext (c := c) (fun j a1 a2 => m_up_ne (by omega))]
      omega
    · rw [m_up_ne (fun z => q z.symm), ih h1 (by omega)]
      omega
section TH
variable {X : XW} {lb : Nat → Nat} {D T g a : Nat} {σ τ σ' τ' σ1 τ1 : ST} {n : Int} {B : Int → Int} {V : Nat → Int → Int} {r c w t : Int → Int} {f9 f10 : Int}
theorem tb_R.hand {p k v s : Int} (h : tb_R V r c w t) (hp : 0 ≤ p ∧ p < c 3722) (hk : 0 ≤ k ∧ k < c 3720) (hv : 0 ≤ v) (ht : t (10 * p + k) = 0) (hs : m_sum c 3720 k + v ≤ c 3721) (es : s = r p + tb_pw k) :
    tb_R (y_up (y_up (y_up V 4 k (V 4 k + v)) 7 (10 * p + k) (V 7 (10 * p + k) + v)) 9 p (V 9 p + v)) (fun j => if j = p then s else r j) (m_up c (3754 + (10 * p + k)) v) w (m_up t (10 * p + k) 1) := by
  obtain ⟨⟨⟨n1, n2, n3, n4, n5⟩, n6, n7, n8, n9⟩, z, nm, ⟨h1, h2, h3⟩, mn, k1, k2, k3⟩ := h
  have hP : c 3722 ≤ 6 := mn.2.2.1.2
  have hK : c 3720 ≤ 10 := mn.1.2
  have hE : c 3721 ≤ 8 := mn.2.1.2
  have hk10 : 0 ≤ k ∧ k < 10 := by omega
  have c0 : c (3754 + (10 * p + k)) = 0 := (h1 (10 * p + k) (by omega) (by omega)).2 ht
  have rd : ∀ (id : Nat) (i : Int), id ≠ 4 → id ≠ 7 → id ≠ 9 → y_up (y_up (y_up V 4 k (V 4 k + v)) 7 (10 * p + k) (V 7 (10 * p + k) + v)) 9 p (V 9 p + v) id i = V id i := fun id i i4 i7 i9 => by
    rw [y_up_ne (Or.inl i9), y_up_ne (Or.inl i7), y_up_ne (Or.inl i4)]
  have rc : ∀ j : Int, j < 3754 → m_up c (3754 + (10 * p + k)) v j = c j := fun j hj => m_up_ne (by omega)
  refine ⟨⟨⟨?_, ?_, ?_, ?_, ?_⟩, ?_, ?_, ?_, ?_⟩, ?_, ?_, ⟨?_, ?_, ?_⟩, ?_, ?_, ?_, ?_⟩
  · rw [rd 1 0 (by decide) (by decide) (by decide), rc _ (by decide)]; exact n1
  · rw [rd 1 1 (by decide) (by decide) (by decide), rc _ (by decide)]; exact n2
  · rw [rd 1 2 (by decide) (by decide) (by decide), rc _ (by decide)]; exact n3
  · rw [rd 1 3 (by decide) (by decide) (by decide), rc _ (by decide)]; exact n4
  · rw [rd 1 4 (by decide) (by decide) (by decide), rc _ (by decide)]; exact n5
  · intro k' a1 a2
    rw [y_up_ne (Or.inl (by decide)), y_up_ne (Or.inl (by decide))]
    by_cases q : k' = k
    · subst q
      rw [y_up_eq, m_sum_at ⟨hp.1, by omega⟩ c0, n6 k' a1 a2]
    · rw [y_up_ne (Or.inr q), m_sum_ne hk10 ⟨a1, a2⟩ q]
      exact n6 k' a1 a2
  · intro j a1 a2
    rw [y_up_ne (Or.inl (by decide))]
    by_cases q : j = 10 * p + k
    · subst q
      rw [y_up_eq, m_up_eq, n7 _ a1 a2, c0, Int.zero_add]
    · rw [y_up_ne (Or.inr q), y_up_ne (Or.inl (by decide)), m_up_ne (by omega)]
      exact n7 j a1 a2
  · intro q a1 a2
    by_cases e : q = p
    · subst e
      rw [y_up_eq, n8 q a1 a2, m_S_at 10 (by omega) (by show _ < _ + ((10 : Nat) : Int); omega), c0, Int.sub_zero]
    · rw [y_up_ne (Or.inr e), y_up_ne (Or.inl (by decide)), y_up_ne (Or.inl (by decide)), m_S_ext (fun j b1 b2 => m_up_ne (by have : ((10 : Nat) : Int) = 10 := rfl; omega))]
      exact n8 q a1 a2
  · intro q a1 a2
    rw [rd 10 q (by decide) (by decide) (by decide), rd 11 q (by decide) (by decide) (by decide), rc _ (by omega), rc _ (by omega)]
    exact n9 q a1 a2
  · exact ((z.up (by omega)).up (by omega)).up (by omega)
  · rw [rc _ (by decide)]
    exact ((nm.up (by decide) (by decide)).up (by decide) (by decide)).up (by decide) (by decide)
  · intro j a1 a2
    by_cases q : j = 10 * p + k
    · subst q
      rw [m_up_eq]
      exact ⟨Or.inr rfl, fun e => absurd e (by decide)⟩
    · rw [m_up_ne q, m_up_ne (by omega)]
      exact h1 j a1 a2
  · intro q a1 a2
    show (if q = p then s else r q) = _
    by_cases e : q = p
    · subst e
      rw [if_pos rfl, tb_bits_up hk10 ht, es, h2 q a1 a2]
    · rw [if_neg e, tb_bits_ne hk10 e]
      exact h2 q a1 a2
  · intro j a1 a2 a3
    rw [rc _ (by decide)] at a3
    rw [m_up_ne (by omega)]
    exact h3 j a1 a2 a3
  · exact mn.hand ⟨hp.1, by omega⟩ hk10 hk.2 m_up_e hv (by omega)
  · rw [rc _ (by decide)]; exact k1
  · rw [rc _ (by decide)]; exact k2
  · rw [rc _ (by decide)]; exact k3
theorem tb_S.get (H : tb_D X lb D T g) (S : tb_S X D T g σ n B V r f9 f10) {x : Int32} {p : Int} (hx : x.toInt = p) (hp : 0 ≤ p ∧ p < 6) : (F_X5_get X σ (q_rf X D 11) x).toInt = r p := by
  have hl : (q_len X (q_rf X (q_rf X D 11) 0)).toInt = 6 := by
    unfold q_len
    have : q_ln X (q_rf X (q_rf X D 11) 0) = 6 := H.2.2.2.2.2.2.2.1
    rw [this]
    rfl
  simp only [F_X5_get, ↓q_letE]
  rw [hl, hx, if_neg (by omega), if_pos (by omega), ar_cl, hx]
  exact S.2.2.1 p hp.1 hp.2
/-- how many of a kind have been told -/
theorem tm_toldOf (e : m_c X τ a = c) (mn : m_N c) {v : Int32} {k : Int} (hv : v.toInt = k) (hk : 0 ≤ k ∧ k < 10) : (F_X12_toldOf X τ a v).toInt = m_sum c 3720 k := by
  have hs := mn.2.2.2.2.2.2.2.2.1 k hk.1 hk.2
  rw [m_sum_e] at hs ⊢
  have hc := mn.2.2.2.2.2.2.2.1
  have d0 := hc (3754 + 10 * 0 + k) (by omega) (by omega)
  have d1 := hc (3754 + 10 * 1 + k) (by omega) (by omega)
  have d2 := hc (3754 + 10 * 2 + k) (by omega) (by omega)
  have d3 := hc (3754 + 10 * 3 + k) (by omega) (by omega)
  have d4 := hc (3754 + 10 * 4 + k) (by omega) (by omega)
  have d5 := hc (3754 + 10 * 5 + k) (by omega) (by omega)
  have st : ∀ (f : Nat) (x y : Int32) (j s : Int), y.toInt = j → 0 ≤ j → j < 6 → x.toInt = s → 0 ≤ s → s ≤ 100 → 0 ≤ c (3754 + 10 * j + k) → c (3754 + 10 * j + k) ≤ 8 → ∃ x' y' : Int32, F_X12_toldOf_L4_1 X v τ a (f + 1) x y = F_X12_toldOf_L4_1 X v τ a f x' y' ∧ x'.toInt = s + c (3754 + 10 * j + k) ∧ y'.toInt = j + 1 := by
    intro f x y j s hy j0 j1 hx s0 s1 c0 c1
    have ei : ((3754 : Int32) + (10 : Int32) * y + v).toInt = 3754 + 10 * j + k := by
      have e1 : (3754 : Int32).toInt = 3754 := rfl
      have e10 : (10 : Int32).toInt = 10 := rfl
      rw [ar_add, ar_add, ar_mul, e1, e10, hy, hv, ar_wr (n := 10 * j) (by omega) (by omega), ar_wr (n := 3754 + 10 * j) (by omega) (by omega), ar_wr (by omega) (by omega)]
    have ec : (τ.1 (q_rf X a 20) ((3754 : Int32) + (10 : Int32) * y + v).toNatClampNeg).toInt = c (3754 + 10 * j + k) := by
      have z := m_rd (X := X) (σ := τ) (a := a) rfl ei
      rw [e] at z
      exact z
    refine ⟨x + τ.1 (q_rf X a 20) ((3754 : Int32) + (10 : Int32) * y + v).toNatClampNeg, y + 1, ?_, ?_, ?_⟩
    · rw [F_X12_toldOf_L4_1_s]
      unfold F_X12_toldOf_B4_1
      rw [hy, if_pos j1, q_letE, q_letE, q_letE, q_letE, q_letE, q_letE]
    · rw [ar_add, hx, ec, ar_wr (by omega) (by omega)]
    · rw [y_inc (by omega), hy]
  have z0 : (0 : Int32).toInt = 0 := rfl
  unfold F_X12_toldOf
  obtain ⟨f, hf⟩ : ∃ f, (2147483647 - (0 : Int32).toInt).toNat + 1 = f + 1 + 1 + 1 + 1 + 1 + 1 + 1 := ⟨(2147483647 - (0 : Int32).toInt).toNat + 1 - 7, by rw [z0]; omega⟩
  rw [hf]
  obtain ⟨x1, y1, e1, hx1, hy1⟩ := st (f + 1 + 1 + 1 + 1 + 1 + 1) 0 0 0 0 z0 (by decide) (by decide) z0 (by decide) (by decide) d0 (by omega)
  obtain ⟨x2, y2, e2, hx2, hy2⟩ := st (f + 1 + 1 + 1 + 1 + 1) x1 y1 1 _ hy1 (by decide) (by decide) hx1 (by omega) (by omega) d1 (by omega)
  obtain ⟨x3, y3, e3, hx3, hy3⟩ := st (f + 1 + 1 + 1 + 1) x2 y2 2 _ hy2 (by decide) (by decide) hx2 (by omega) (by omega) d2 (by omega)
  obtain ⟨x4, y4, e4, hx4, hy4⟩ := st (f + 1 + 1 + 1) x3 y3 3 _ hy3 (by decide) (by decide) hx3 (by omega) (by omega) d3 (by omega)
  obtain ⟨x5, y5, e5, hx5, hy5⟩ := st (f + 1 + 1) x4 y4 4 _ hy4 (by decide) (by decide) hx4 (by omega) (by omega) d4 (by omega)
  obtain ⟨x6, y6, e6, hx6, hy6⟩ := st (f + 1) x5 y5 5 _ hy5 (by decide) (by decide) hx5 (by omega) (by omega) d5 (by omega)
  rw [e1, e2, e3, e4, e5, e6, F_X12_toldOf_L4_1_s]
  unfold F_X12_toldOf_B4_1
  rw [hy6, if_neg (by decide), hx6]
  omega
end TH
