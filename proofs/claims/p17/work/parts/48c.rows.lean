/-! a game's view: what its cells hold, place by place -/
def y_v (X : XW) (g : Nat) (σ : ST) : Nat → Int → Int := fun id i => if id < 25 ∧ 0 ≤ i then (σ.1 (y_gA X g id) i.toNat).toInt else 0
def y_up (V : Nat → Int → Int) (id : Nat) (i v : Int) : Nat → Int → Int := fun id' i' => if id' = id ∧ i' = i then v else V id' i'
def y_bl (V : Nat → Int → Int) (id : Nat) (n : Int) (f : Int → Int) : Nat → Int → Int := fun id' i' => if id' = id ∧ 0 ≤ i' ∧ i' < n then f i' else V id' i'
/-- from σ to τ nothing but the game's view has changed, to V -/
def y_W (X : XW) (lb : Nat → Nat) (g o : Nat) (σ τ : ST) (V : Nat → Int → Int) : Prop := (∀ b, lb b / 8192 ≠ o → ∀ f, τ.1 b f = σ.1 b f) ∧ τ.2 = σ.2 ∧ y_v X g τ = V
theorem y_co_inj : ∀ i, i < 25 → ∀ j, j < 25 → y_co i = y_co j → i = j := by decide
theorem y_co_lt : ∀ i, i < 25 → y_co i < 8192 := by decide
section Y
variable {X : XW} {lb : Nat → Nat} {g o : Nat} {σ τ : ST} {V : Nat → Int → Int}
theorem y_own (S : y_S X lb) (G : y_G X lb g o) {id : Nat} (h : id < 25) : lb (y_gA X g id) / 8192 = o := by
  have h1 := (y_gf S G id h).1
  have h2 := y_co_lt id h
  omega
theorem y_gA_inj (S : y_S X lb) (G : y_G X lb g o) {i j : Nat} (hi : i < 25) (hj : j < 25) (h : y_gA X g i = y_gA X g j) : i = j := by
  have h1 := (y_gf S G i hi).1
  have h2 := (y_gf S G j hj).1
  rw [h] at h1
  exact y_co_inj i hi j hj (by omega)
theorem y_gA_ne (S : y_S X lb) (G : y_G X lb g o) {id : Nat} (h : id < 25) {b : Nat} (hb : lb b / 8192 ≠ o) : b ≠ y_gA X g id := by
  rintro rfl
  exact hb (y_own S G h)
theorem y_len (S : y_S X lb) (a : Nat) : (q_len X a).toInt = (q_ln X a : Int) := by
  have h := S.1.2.2.1 a
  exact nI_toInt (by omega)
theorem y_ln (S : y_S X lb) (G : y_G X lb g o) {id : Nat} (h : 4 ≤ id ∧ id < 25) : q_ln X (y_gA X g id) = y_gn id := (y_gf S G id h.2).2.2 h.1
theorem y_v_rd {id : Nat} (h : id < 25) (x : Int32) (h0 : 0 ≤ x.toInt) : (σ.1 (y_gA X g id) x.toNatClampNeg).toInt = y_v X g σ id x.toInt := by
  unfold y_v
  rw [if_pos ⟨h, h0⟩]
  rfl
theorem y_v_rdn {id : Nat} (h : id < 25) (f : Nat) : (σ.1 (y_gA X g id) f).toInt = y_v X g σ id (f : Int) := by
  unfold y_v
  rw [if_pos ⟨h, Int.natCast_nonneg f⟩, Int.toNat_natCast]
theorem y_W.rf : y_W X lb g o σ σ (y_v X g σ) := ⟨fun _ _ _ => rfl, rfl, rfl⟩
theorem y_W.eq {V' : Nat → Int → Int} (w : y_W X lb g o σ τ V) (h : V = V') : y_W X lb g o σ τ V' := by
  subst h
  exact w
theorem y_W.tr {τ' : ST} {V' : Nat → Int → Int} (w : y_W X lb g o σ τ V) (w' : y_W X lb g o τ τ' V') : y_W X lb g o σ τ' V' := ⟨fun b hb f => (w'.1 b hb f).trans (w.1 b hb f), w'.2.1.trans w.2.1, w'.2.2⟩
theorem y_W.si (S : y_S X lb) (G : y_G X lb g o) (w : y_W X lb g o σ τ V) {id : Nat} (h : id < 25) (f : Nat) (v : Int32) : y_W X lb g o σ (q_si τ (y_gA X g id) f v) (y_up V id (f : Int) v.toInt) := by
  obtain ⟨w1, w2, w3⟩ := w
  refine ⟨fun b hb k => ?_, w2, ?_⟩
  · show (if b = y_gA X g id ∧ k = f then v else τ.1 b k) = _
    rw [if_neg (fun q => y_gA_ne S G h hb q.1)]
    exact w1 b hb k
  · subst w3
    funext j i
    show (if j < 25 ∧ 0 ≤ i then (if y_gA X g j = y_gA X g id ∧ i.toNat = f then v else τ.1 (y_gA X g j) i.toNat).toInt else 0) = if j = id ∧ i = (f : Int) then v.toInt else (if j < 25 ∧ 0 ≤ i then (τ.1 (y_gA X g j) i.toNat).toInt else 0)
    by_cases hj : j < 25 ∧ 0 ≤ i
    · rw [if_pos hj, if_pos hj]
      by_cases hq : j = id ∧ i = (f : Int)
      · obtain ⟨rfl, rfl⟩ := hq
        rw [if_pos ⟨rfl, Int.toNat_natCast f⟩, if_pos ⟨rfl, rfl⟩]
      · rw [if_neg hq, if_neg]
        rintro ⟨e1, e2⟩
        exact hq ⟨y_gA_inj S G hj.1 h e1, by omega⟩
    · rw [if_neg hj, if_neg hj]
      by_cases hq : j = id ∧ i = (f : Int)
      · obtain ⟨rfl, rfl⟩ := hq
        exact absurd ⟨h, Int.natCast_nonneg f⟩ hj
      · rw [if_neg hq]
theorem y_W.sx (S : y_S X lb) (G : y_G X lb g o) (w : y_W X lb g o σ τ V) {id : Nat} (h : id < 25) (x v : Int32) (h0 : 0 ≤ x.toInt) : y_W X lb g o σ (q_si τ (y_gA X g id) x.toNatClampNeg v) (y_up V id x.toInt v.toInt) := by
  have e : ((x.toNatClampNeg : Nat) : Int) = x.toInt := by rw [ar_cl]; omega
  have := w.si S G h x.toNatClampNeg v
  rw [e] at this
  exact this
/-- rows -/
theorem y_get (S : y_S X lb) (G : y_G X lb g o) (w : y_W X lb g o σ τ V) {id r : Nat} (h : 4 ≤ id ∧ id < 25) (hr : q_rf X r 0 = y_gA X g id) (x : Int32) : (F_X5_get X τ r x).toInt = if 0 ≤ x.toInt ∧ x.toInt < (y_gn id : Int) then V id x.toInt else 0 := by
  simp only [F_X5_get, ↓q_letE]
  rw [y_len S, hr, y_ln S G h]
  by_cases h0 : x.toInt < 0
  · rw [if_pos h0, if_neg (by omega)]
    rfl
  · rw [if_neg h0]
    by_cases h1 : x.toInt < (y_gn id : Int)
    · rw [if_pos h1, if_pos ⟨by omega, h1⟩, y_v_rd h.2 x (by omega), w.2.2]
    · rw [if_neg h1, if_neg (by omega)]
      rfl
theorem y_getI (S : y_S X lb) (G : y_G X lb g o) (w : y_W X lb g o σ τ V) {id r : Nat} (h : 4 ≤ id ∧ id < 25) (hr : q_rf X r 0 = y_gA X g id) {x : Int32} {i : Int} (hx : x.toInt = i) (h0 : 0 ≤ i) (h1 : i < (y_gn id : Int)) : (F_X5_get X τ r x).toInt = V id i := by
  subst hx
  rw [y_get S G w h hr, if_pos ⟨h0, h1⟩]
theorem y_W.set (S : y_S X lb) (G : y_G X lb g o) (w : y_W X lb g o σ τ V) {id r : Nat} (h : 4 ≤ id ∧ id < 25) (hr : q_rf X r 0 = y_gA X g id) (x v : Int32) (h0 : 0 ≤ x.toInt) (h1 : x.toInt < (y_gn id : Int)) : y_W X lb g o σ (F_X5_set X τ r x v) (y_up V id x.toInt v.toInt) := by
  simp only [F_X5_set, ↓q_letE]
  rw [y_len S, hr, y_ln S G h, if_neg (by omega), if_pos h1]
  exact w.sx S G h.2 x v h0
theorem y_W.add (S : y_S X lb) (G : y_G X lb g o) (w : y_W X lb g o σ τ V) {id r : Nat} (h : 4 ≤ id ∧ id < 25) (hr : q_rf X r 0 = y_gA X g id) (x v : Int32) (h0 : 0 ≤ x.toInt) (h1 : x.toInt < (y_gn id : Int)) : y_W X lb g o σ (F_X5_add X τ r x v) (y_up V id x.toInt (ar_w (V id x.toInt + v.toInt))) := by
  simp only [F_X5_add, ↓q_letE]
  rw [y_len S, hr, y_ln S G h, if_neg (by omega), if_pos h1]
  have e := w.sx S G h.2 x (τ.1 (y_gA X g id) x.toNatClampNeg + v) h0
  rw [ar_add, y_v_rd h.2 x h0, w.2.2] at e
  exact e
theorem y_bl0 {id : Nat} {f : Int → Int} : y_bl V id 0 f = V := by
  funext j i
  show (if j = id ∧ 0 ≤ i ∧ i < 0 then f i else V j i) = V j i
  rw [if_neg (by omega)]
theorem y_bl_s {id : Nat} {f : Int → Int} {n : Int} (h : 0 ≤ n) : y_up (y_bl V id n f) id n (f n) = y_bl V id (n + 1) f := by
  funext j i
  show (if j = id ∧ i = n then f n else if j = id ∧ 0 ≤ i ∧ i < n then f i else V j i) = if j = id ∧ 0 ≤ i ∧ i < n + 1 then f i else V j i
  by_cases q : j = id ∧ i = n
  · obtain ⟨rfl, rfl⟩ := q
    rw [if_pos ⟨rfl, rfl⟩, if_pos ⟨rfl, h, by omega⟩]
  · rw [if_neg q]
    by_cases q2 : j = id ∧ 0 ≤ i ∧ i < n
    · rw [if_pos q2, if_pos ⟨q2.1, q2.2.1, by omega⟩]
    · rw [if_neg q2, if_neg]
      rintro ⟨e1, e2, e3⟩
      exact q2 ⟨e1, e2, by have : i ≠ n := fun e => q ⟨e1, e⟩; omega⟩
theorem y_inc {x : Int32} (h : x.toInt < 2147483647) : (x + 1).toInt = x.toInt + 1 := q_inc rfl h
theorem y_clearL (S : y_S X lb) (G : y_G X lb g o) {id r : Nat} (h : 4 ≤ id ∧ id < 25) (hr : q_rf X r 0 = y_gA X g id) (k : Nat) : ∀ (x : Int32) (τ : ST), (2147483647 - x.toInt).toNat < k → 0 ≤ x.toInt → x.toInt ≤ (y_gn id : Int) → y_W X lb g o σ τ (y_bl V id x.toInt (fun _ => 0)) → y_W X lb g o σ (F_X5_clear_L2_1 X r k x τ) (y_bl V id (y_gn id : Int) (fun _ => 0)) := by
  induction k with
  | zero => intro x τ hm; exact absurd hm (Nat.not_lt_zero _)
  | succ k ih =>
    intro x τ hm h0 h1 w
    have hb := ar_bd x
    rw [F_X5_clear_L2_1_s]
    simp only [F_X5_clear_B2_1, ↓q_letE]
    rw [y_len S, hr, y_ln S G h]
    by_cases q : x.toInt < (y_gn id : Int)
    · rw [if_pos q]
      have hl : y_gn id ≤ 1000 := by
        have := S.1.2.2.1 (y_gA X g id)
        have z : ∀ i, i < 25 → y_gn i ≤ 1000 := by decide
        exact z id h.2
      have e : (x + 1).toInt = x.toInt + 1 := y_inc (by omega)
      refine ih (x + 1) _ (by omega) (by omega) (by omega) ?_
      rw [e]
      exact (w.sx S G h.2 x 0 h0).eq (y_bl_s h0)
    · rw [if_neg q]
      have e : x.toInt = (y_gn id : Int) := by omega
      rw [e] at w
      exact w
theorem y_W.clear (S : y_S X lb) (G : y_G X lb g o) (w : y_W X lb g o σ τ V) {id r : Nat} (h : 4 ≤ id ∧ id < 25) (hr : q_rf X r 0 = y_gA X g id) : y_W X lb g o σ (F_X5_clear X τ r) (y_bl V id (y_gn id : Int) (fun _ => 0)) := by
  unfold F_X5_clear
  refine y_clearL S G h hr _ 0 τ (by decide) (by decide) (Int.natCast_nonneg _) ?_
  exact w.eq y_bl0.symm
theorem y_copyL (S : y_S X lb) (G : y_G X lb g o) {id r r' : Nat} (h : 4 ≤ id ∧ id < 25) (hr : q_rf X r 0 = y_gA X g id) (hn : q_ln X (q_rf X r' 0) = y_gn id) (hb : q_rf X r' 0 ≠ y_gA X g id) (ρ : Nat → Int32) (k : Nat) : ∀ (x : Int32) (τ : ST), (2147483647 - x.toInt).toNat < k → 0 ≤ x.toInt → x.toInt ≤ (y_gn id : Int) → (∀ f, τ.1 (q_rf X r' 0) f = ρ f) → y_W X lb g o σ τ (y_bl V id x.toInt (fun i => (ρ i.toNat).toInt)) → y_W X lb g o σ (F_X5_copyFrom_L2_1 X r r' k x τ) (y_bl V id (y_gn id : Int) (fun i => (ρ i.toNat).toInt)) := by
  induction k with
  | zero => intro x τ hm; exact absurd hm (Nat.not_lt_zero _)
  | succ k ih =>
    intro x τ hm h0 h1 hρ w
    have hbd := ar_bd x
    rw [F_X5_copyFrom_L2_1_s]
    simp only [F_X5_copyFrom_B2_1, ↓q_letE]
    rw [y_len S, y_len S, hn, hr, y_ln S G h]
    by_cases q : x.toInt < (y_gn id : Int)
    · rw [if_pos q, if_pos q]
      have hl : y_gn id ≤ 1000 := by
        have z : ∀ i, i < 25 → y_gn i ≤ 1000 := by decide
        exact z id h.2
      have e : (x + 1).toInt = x.toInt + 1 := y_inc (by omega)
      refine ih (x + 1) _ (by omega) (by omega) (by omega) (fun f => ?_) ?_
      · rw [q_si_ne hb]
        exact hρ f
      · rw [e]
        have w2 := w.sx S G h.2 x (τ.1 (q_rf X r' 0) x.toNatClampNeg) h0
        rw [hρ] at w2 ⊢
        exact w2.eq (y_bl_s (f := fun i => (ρ i.toNat).toInt) h0)
    · rw [if_neg q]
      have e : x.toInt = (y_gn id : Int) := by omega
      rw [e] at w
      exact w
theorem y_W.copy (S : y_S X lb) (G : y_G X lb g o) (w : y_W X lb g o σ τ V) {id r r' : Nat} (h : 4 ≤ id ∧ id < 25) (hr : q_rf X r 0 = y_gA X g id) (hn : q_ln X (q_rf X r' 0) = y_gn id) (hb : q_rf X r' 0 ≠ y_gA X g id) : y_W X lb g o σ (F_X5_copyFrom X τ r r') (y_bl V id (y_gn id : Int) (fun i => (τ.1 (q_rf X r' 0) i.toNat).toInt)) := by
  unfold F_X5_copyFrom
  refine y_copyL S G h hr hn hb (fun f => τ.1 (q_rf X r' 0) f) _ 0 τ (by decide) (by decide) (Int.natCast_nonneg _) (fun _ => rfl) ?_
  exact w.eq y_bl0.symm
end Y
