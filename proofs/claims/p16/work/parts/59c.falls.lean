/-! OBSERVERS: what falls to whom -/
/-- how many turns a player waits behind who has it next -/
def fa_w (c : Int → Int) (p : Int) : Int := (p - c 6 - c 7) % c 2
/-- the kind behind so many layings that are left -/
def fa_K (c : Int → Int) (t : Int) : Int := if c 3 = 2 then c 5 else if c 3 = 0 then (c 5 + t) % c 0 else (c 5 - t) % c 0
def fa_k (c : Int → Int) (p r : Int) : Int := fa_K c (fa_w c p + c 7 + r * c 2)
theorem fa_mul {r m : Int} (hr : 0 ≤ r ∧ r ≤ 60) (hm : 0 ≤ m ∧ m ≤ 6) : 0 ≤ r * m ∧ r * m ≤ 360 := by
  have h := m_mulI hr.1 hr.2 hm.1 hm.2
  omega
theorem fa_K_b {c : Int → Int} (hG : m_G c) (t : Int) : 0 ≤ fa_K c t ∧ fa_K c t < c 0 := by
  have h0 := hG.1.1
  have h5 := hG.1.2.2.2.1
  unfold fa_K
  split
  · exact h5
  · split
    · exact ⟨Int.emod_nonneg _ (by omega), Int.emod_lt_of_pos _ (by omega)⟩
    · exact ⟨Int.emod_nonneg _ (by omega), Int.emod_lt_of_pos _ (by omega)⟩
theorem fa_w_b {c : Int → Int} (p : Int) (h : 0 < c 2) : 0 ≤ fa_w c p ∧ fa_w c p < c 2 := ⟨Int.emod_nonneg _ (by omega), Int.emod_lt_of_pos _ h⟩
section QC
variable {X : XW} {lb : Nat → Nat} {g o C a : Nat} {σ τ : ST} {V : Nat → Int → Int} {c : Int → Int} {n : Int}
theorem fa_ahead (Y : y_S X lb) (G : y_G X lb g o) (hV : y_v X g σ = V) (Rg : rg V c) (hG : m_G c) {v : Int32} {p : Int} (hv : v.toInt = p) (hp : 0 ≤ p ∧ p < c 2) : (F_X0_turnsAhead X σ g v).toInt = fa_w c p + c 7 := by
  obtain ⟨b0, b2, b4, b5, b6, b7, b9, b79⟩ := hG.1
  have w := pl_W (lb := lb) (o := o) hV
  have z0 : (0 : Int32).toInt = 0 := rfl
  have v5 : V 0 5 = c 6 := by
    have z := Rg.2.1.2.1
    rw [if_neg (by omega)] at z
    exact z
  have f5 : (σ.1 g 5).toInt = c 6 := (w.rd (id := 0) (by decide) 5 rfl).trans v5
  have f7 : (σ.1 g 7).toInt = c 7 := (w.rd (id := 0) (by decide) 7 rfl).trans Rg.2.1.2.2.2
  have f4 : (σ.1 (q_rf X g 0) 4).toInt = c 2 := (w.rd (id := 1) (by decide) 4 rfl).trans Rg.1.2.2.2.2.1
  have e1 : (v - σ.1 g 5).toInt = p - c 6 := by rw [ar_sub, hv, f5, ar_wr (by omega) (by omega)]
  have pa : (F_X6_playerAfter X σ (q_rf X g 0) (v - σ.1 g 5) 0).toInt = (p - c 6) % c 2 := by
    unfold F_X6_playerAfter
    rw [q_letE (σ.1 (q_rf X g 0) 4), f4, if_pos (by omega), q_letE, q_letE, q_letE]
    exact gm_fm (by rw [ar_add, e1, z0, ar_wr (by omega) (by omega)]; omega) f4 ⟨by omega, by omega⟩ ⟨by omega, by omega⟩
  unfold F_X0_turnsAhead
  rw [q_letE (σ.1 g 5), q_letE (v - σ.1 g 5), q_letE (F_X6_playerAfter X σ (q_rf X g 0) (v - σ.1 g 5) 0), pa]
  have em : (p - c 6) % c 2 = if p < c 6 then p - c 6 + c 2 else p - c 6 := by
    split
    · have z := Int.add_emod_right (p - c 6) (c 2)
      rw [← z]
      exact Int.emod_eq_of_lt (by omega) (by omega)
    · exact Int.emod_eq_of_lt (by omega) (by omega)
  have ew : fa_w c p = if p - c 6 - c 7 < 0 then p - c 6 - c 7 + c 2 else p - c 6 - c 7 := by
    unfold fa_w
    split
    · have z := Int.add_emod_right (p - c 6 - c 7) (c 2)
      rw [← z]
      exact Int.emod_eq_of_lt (by omega) (by omega)
    · exact Int.emod_eq_of_lt (by omega) (by omega)
  by_cases q : (p - c 6) % c 2 = 0
  · rw [if_pos q, q_letE (σ.1 g 7), f7]
    by_cases q7 : c 7 = 0
    · rw [if_pos q7, pa, q, ew]
      rw [em] at q
      split at q <;> split <;> omega
    · rw [if_neg q7, q_letE (σ.1 (q_rf X g 0) 4), f4, ew]
      rw [em] at q
      split at q <;> split <;> omega
  · rw [if_neg q, pa, ew]
    rw [em] at q ⊢
    split at q <;> split <;> split <;> omega
theorem fa_kindAfter (Y : y_S X lb) (G : y_G X lb g o) (hV : y_v X g σ = V) (Rg : rg V c) (hG : m_G c) {x y : Int32} {t : Int} (hx : x.toInt = c 5) (hy : y.toInt = t) (ht : 0 ≤ t ∧ t ≤ 400) : (F_X6_kindAfter X σ (q_rf X g 0) x y).toInt = fa_K c t := by
  obtain ⟨b0, b2, b4, b5, b6, b7, b9, b79⟩ := hG.1
  have w := pl_W (lb := lb) (o := o) hV
  have f2 : (σ.1 (q_rf X g 0) 2).toInt = c 3 := (w.rd (id := 1) (by decide) 2 rfl).trans Rg.1.2.2.1
  have f0 : (σ.1 (q_rf X g 0) 0).toInt = c 0 := (w.rd (id := 1) (by decide) 0 rfl).trans Rg.1.1
  unfold F_X6_kindAfter fa_K
  rw [q_letE (σ.1 (q_rf X g 0) 2), f2]
  by_cases q2 : c 3 = 2
  · rw [if_pos q2, if_pos q2, hx]
  · rw [if_neg q2, if_neg q2, q_letE (σ.1 (q_rf X g 0) 0), f0, if_pos (by omega), q_letE (σ.1 (q_rf X g 0) 2), f2]
    by_cases q0 : c 3 = 0
    · rw [if_pos q0, if_pos q0, q_letE, q_letE, q_letE]
      exact gm_fm (by rw [ar_add, hx, hy, ar_wr (by omega) (by omega)]) f0 ⟨by omega, by omega⟩ ⟨by omega, by omega⟩
    · rw [if_neg q0, if_neg q0, q_letE, q_letE, q_letE]
      exact gm_fm (by rw [ar_sub, hx, hy, ar_wr (by omega) (by omega)]) f0 ⟨by omega, by omega⟩ ⟨by omega, by omega⟩
/-- the class -/
theorem fa_falling (Y : y_S X lb) (G : y_G X lb g o) (hV : y_v X g σ = V) (Rg : rg V c) (hG : m_G c) {v x : Int32} {p r : Int} (hv : v.toInt = p) (hp : 0 ≤ p ∧ p < c 2) (hx : x.toInt = r) (hr : 0 ≤ r ∧ r ≤ 60) : (F_X0_fallingKind X σ g v x).toInt = fa_k c p r := by
  obtain ⟨b0, b2, b4, b5, b6, b7, b9, b79⟩ := hG.1
  have w := pl_W (lb := lb) (o := o) hV
  have f4 : (σ.1 g 4).toInt = c 5 := (w.rd (id := 0) (by decide) 4 rfl).trans Rg.2.1.1
  have f2 : (σ.1 (q_rf X g 0) 4).toInt = c 2 := (w.rd (id := 1) (by decide) 4 rfl).trans Rg.1.2.2.2.2.1
  have ah := fa_ahead Y G hV Rg hG hv hp
  have wb := fa_w_b (c := c) p (by omega)
  have mb := fa_mul hr ⟨b2.1, b2.2⟩
  unfold F_X0_fallingKind fa_k
  rw [q_letE (σ.1 g 4), q_letE (F_X0_turnsAhead X σ g v), q_letE (σ.1 (q_rf X g 0) 4), q_letE, q_letE, q_letE]
  refine fa_kindAfter Y G hV Rg hG f4 ?_ ⟨by omega, by omega⟩
  rw [ar_add, ar_mul, ah, hx, f2, ar_wr (n := r * c 2) (by omega) (by omega), ar_wr (by omega) (by omega)]
/-- the reference -/
theorem fa_waits (hG : m_G c) (hc : m_c X τ a = c) {v : Int32} {p : Int} (hv : v.toInt = p) (hp : 0 ≤ p ∧ p < c 2) : (F_X12_waitsOf X τ a v).toInt = fa_w c p := by
  obtain ⟨b0, b2, b4, b5, b6, b7, b9, b79⟩ := hG.1
  have g7 : (τ.1 (q_rf X a 20) (7 : Int32).toNatClampNeg).toInt = c 7 := gm_cell (A := 7) hc rfl
  have g6 : (τ.1 (q_rf X a 20) (6 : Int32).toNatClampNeg).toInt = c 6 := gm_cell (A := 6) hc rfl
  have g2 : (τ.1 (q_rf X a 20) (2 : Int32).toNatClampNeg).toInt = c 2 := gm_cell (A := 2) hc rfl
  have md : ∀ (z : Int32) (y : Int), z.toInt = y → 0 ≤ y → (z % τ.1 (q_rf X a 20) (2 : Int32).toNatClampNeg).toInt = y % c 2 := fun z y h1 h2 => by
    rw [Int32.toInt_mod, h1, g2, Int.tmod_eq_emod_of_nonneg h2]
  unfold F_X12_waitsOf fa_w
  rw [q_letE (τ.1 (q_rf X a 20) (7 : Int32).toNatClampNeg), g7]
  by_cases q : c 7 = 1
  · have bq := gm_behindOf (X := X) hc b2 g6 ⟨by omega, by omega⟩
    rw [if_pos q, q_letE (τ.1 (q_rf X a 20) (6 : Int32).toNatClampNeg), q_letE (F_X12_behindOf X τ a (τ.1 (q_rf X a 20) (6 : Int32).toNatClampNeg)), q_letE, q_letE (τ.1 (q_rf X a 20) (2 : Int32).toNatClampNeg), q_letE, q_letE (τ.1 (q_rf X a 20) (2 : Int32).toNatClampNeg), q_letE]
    have rb1 := Int.emod_nonneg (c 6 + 1) (by omega : c 2 ≠ 0)
    have rb2 := Int.emod_lt_of_pos (c 6 + 1) (by omega : 0 < c 2)
    rw [md _ (p - (c 6 + 1) % c 2 + c 2) (by rw [ar_add, ar_sub, hv, bq, g2, ar_wr (n := p - (c 6 + 1) % c 2) (by omega) (by omega), ar_wr (by omega) (by omega)]) (by omega), Int.add_emod_right, Int.sub_emod_emod, q]
    congr 1
    omega
  · have q0 : c 7 = 0 := by omega
    rw [if_neg q, q_letE (τ.1 (q_rf X a 20) (6 : Int32).toNatClampNeg), q_letE, q_letE (τ.1 (q_rf X a 20) (2 : Int32).toNatClampNeg), q_letE, q_letE (τ.1 (q_rf X a 20) (2 : Int32).toNatClampNeg), q_letE]
    rw [md _ (p - c 6 + c 2) (by rw [ar_add, ar_sub, hv, g6, g2, ar_wr (n := p - c 6) (by omega) (by omega), ar_wr (by omega) (by omega)]) (by omega), Int.add_emod_right, q0]
    congr 1
    omega
theorem fa_fallsTo (Y : y_S X lb) (hG : m_G c) (h3 : 0 ≤ c 3 ∧ c 3 ≤ 2) (hc : m_c X τ a = c) {v x : Int32} {p r : Int} (hv : v.toInt = p) (hp : 0 ≤ p ∧ p < c 2) (hx : x.toInt = r) (hr : 0 ≤ r ∧ r ≤ 60) : (F_X12_fallsTo X τ a v x).toInt = fa_k c p r := by
  obtain ⟨b0, b2, b4, b5, b6, b7, b9, b79⟩ := hG.1
  have g7 : (τ.1 (q_rf X a 20) (7 : Int32).toNatClampNeg).toInt = c 7 := gm_cell (A := 7) hc rfl
  have g5 : (τ.1 (q_rf X a 20) (5 : Int32).toNatClampNeg).toInt = c 5 := gm_cell (A := 5) hc rfl
  have g2 : (τ.1 (q_rf X a 20) (2 : Int32).toNatClampNeg).toInt = c 2 := gm_cell (A := 2) hc rfl
  have g3 : (τ.1 (q_rf X a 20) (3 : Int32).toNatClampNeg).toInt = c 3 := gm_cell (A := 3) hc rfl
  have g0 : (τ.1 (q_rf X a 20) (0 : Int32).toNatClampNeg).toInt = c 0 := gm_cell (A := 0) hc rfl
  have one : (1 : Int32).toInt = 1 := rfl
  have wt := fa_waits (X := X) hG hc hv hp
  have wb := fa_w_b (c := c) p (by omega)
  have mb := fa_mul hr ⟨b2.1, b2.2⟩
  have md : ∀ (z : Int32) (y : Int), z.toInt = y → 0 ≤ y → (z % τ.1 (q_rf X a 20) (0 : Int32).toNatClampNeg).toInt = y % c 0 := fun z y h1 h2 => by
    rw [Int32.toInt_mod, h1, g0, Int.tmod_eq_emod_of_nonneg h2]
  obtain ⟨T, hT⟩ : ∃ T, T = fa_w c p + r * c 2 := ⟨_, rfl⟩
  have tb : 0 ≤ T ∧ T ≤ 370 := by omega
  have tm1 := Int.emod_nonneg T (by omega : c 0 ≠ 0)
  have tm2 := Int.emod_lt_of_pos T (by omega : 0 < c 0)
  have e9 : ((F_X12_waitsOf X τ a v + x * τ.1 (q_rf X a 20) (2 : Int32).toNatClampNeg) % τ.1 (q_rf X a 20) (0 : Int32).toNatClampNeg).toInt = T % c 0 := md _ T (by rw [ar_add, ar_mul, wt, hx, g2, ar_wr (n := r * c 2) (by omega) (by omega), ar_wr (by omega) (by omega), hT]) tb.1
  have tail : ∀ (y : Int32) (k : Int), y.toInt = k → 0 ≤ k → k < c 0 → (F_X12_fallsTo_J25_1 X τ a v x y).toInt = if c 3 = 0 then (k + T) % c 0 else if c 3 = 1 then (k - T) % c 0 else k := by
    intro y k hy k0 k1
    unfold F_X12_fallsTo_J25_1
    rw [q_letE (F_X12_waitsOf X τ a v), q_letE (τ.1 (q_rf X a 20) (2 : Int32).toNatClampNeg), q_letE (x * τ.1 (q_rf X a 20) (2 : Int32).toNatClampNeg), q_letE (F_X12_waitsOf X τ a v + x * τ.1 (q_rf X a 20) (2 : Int32).toNatClampNeg), q_letE (τ.1 (q_rf X a 20) (0 : Int32).toNatClampNeg), q_letE ((F_X12_waitsOf X τ a v + x * τ.1 (q_rf X a 20) (2 : Int32).toNatClampNeg) % τ.1 (q_rf X a 20) (0 : Int32).toNatClampNeg), q_letE (τ.1 (q_rf X a 20) (3 : Int32).toNatClampNeg), g3]
    obtain ⟨z9, h9⟩ : ∃ z, z = (F_X12_waitsOf X τ a v + x * τ.1 (q_rf X a 20) (2 : Int32).toNatClampNeg) % τ.1 (q_rf X a 20) (0 : Int32).toNatClampNeg := ⟨_, rfl⟩
    rw [← h9] at e9 ⊢
    by_cases q0 : c 3 = 0
    · rw [if_pos q0, if_pos q0, q_letE (y + z9), q_letE (τ.1 (q_rf X a 20) (0 : Int32).toNatClampNeg), q_letE, md _ (k + T % c 0) (by rw [ar_add, hy, e9, ar_wr (by omega) (by omega)]) (by omega), Int.add_emod_emod]
    · rw [if_neg q0, if_neg q0, q_letE (τ.1 (q_rf X a 20) (3 : Int32).toNatClampNeg), g3]
      by_cases q1 : c 3 = 1
      · rw [if_pos q1, if_pos q1, q_letE (τ.1 (q_rf X a 20) (0 : Int32).toNatClampNeg), q_letE, q_letE, q_letE (τ.1 (q_rf X a 20) (0 : Int32).toNatClampNeg), q_letE, md _ (k + c 0 - T % c 0) (by rw [ar_sub, ar_add, hy, e9, g0, ar_wr (n := k + c 0) (by omega) (by omega), ar_wr (by omega) (by omega)]) (by omega), Int.sub_emod_emod]
        have e : k + c 0 - T = k - T + c 0 := by omega
        rw [e, Int.add_emod_right]
      · rw [if_neg q1, if_neg q1, hy]
  have nk : (F_X12_nextKind X τ a 1).toInt = gm_nk c (c 5) := gm_nextKind (X := X) hc b0 b5 h3
  unfold F_X12_fallsTo
  rw [q_letE (τ.1 (q_rf X a 20) (7 : Int32).toNatClampNeg), g7]
  have fin : ∀ k : Int, (c 3 = 0 → k = (c 5 + c 7) % c 0) → (c 3 = 1 → k = (c 5 - c 7) % c 0) → (c 3 = 2 → k = c 5) → (if c 3 = 0 then (k + T) % c 0 else if c 3 = 1 then (k - T) % c 0 else k) = fa_k c p r := by
    intro k k0 k1 k2
    unfold fa_k fa_K
    by_cases q0 : c 3 = 0
    · rw [if_pos q0, if_neg (by omega), if_pos q0, k0 q0, Int.emod_add_emod, hT]
      congr 1
      omega
    · by_cases q1 : c 3 = 1
      · rw [if_neg q0, if_pos q1, if_neg (by omega), if_neg q0, k1 q1, Int.emod_sub_emod, hT]
        congr 1
        omega
      · rw [if_neg q0, if_neg q1, if_pos (by omega), k2 (by omega)]
  by_cases q : c 7 = 1
  · have kb : 0 ≤ gm_nk c (c 5) ∧ gm_nk c (c 5) < c 0 := by
      unfold gm_nk
      have n0 : c 0 ≠ 0 := by omega
      have m1 := Int.emod_nonneg (c 5 + 1) n0
      have m2 := Int.emod_lt_of_pos (c 5 + 1) (by omega : 0 < c 0)
      have m3 := Int.emod_nonneg (c 5 - 1) n0
      have m4 := Int.emod_lt_of_pos (c 5 - 1) (by omega : 0 < c 0)
      split
      · exact b5
      · split
        · exact ⟨m1, m2⟩
        · exact ⟨m3, m4⟩
    rw [if_pos q, q_letE (F_X12_nextKind X τ a 1), tail _ _ nk kb.1 kb.2]
    refine fin _ (fun h => ?_) (fun h => ?_) (fun h => ?_)
    · unfold gm_nk
      rw [if_neg (by omega), if_pos h, q]
    · unfold gm_nk
      rw [if_neg (by omega), if_neg (by omega), q]
    · unfold gm_nk
      rw [if_pos h]
  · have q0 : c 7 = 0 := by omega
    rw [if_neg q, q_letE (τ.1 (q_rf X a 20) (5 : Int32).toNatClampNeg), tail _ _ g5 b5.1 b5.2]
    refine fin _ (fun h => ?_) (fun h => ?_) (fun h => rfl)
    · rw [q0, Int.add_zero, Int.emod_eq_of_lt b5.1 b5.2]
    · rw [q0, Int.sub_zero, Int.emod_eq_of_lt b5.1 b5.2]
theorem an_fore (K : al_C X lb C a) (A : al_R X C a σ τ) (M : m_M (m_c X τ a) (τ.1 a 24).toInt n) {τ2 : ST} (m2 : m_c X τ2 a = m_c X τ a) (v x : Int32) : (F_X11_forecastStatus X σ C v x).toInt = if ¬ (0 ≤ v.toInt ∧ v.toInt < m_c X τ a 2) then 2 else if ¬ (0 ≤ x.toInt ∧ x.toInt ≤ 60) then 5 else 0 := by
  have pp := an_p K A M m2 v
  unfold F_X11_forecastStatus
  rw [q_letE (F_X11_isPlayer X σ C v), pp.1]
  by_cases q : 0 ≤ v.toInt ∧ v.toInt < m_c X τ a 2
  · rw [if_pos q, if_neg (by decide : ¬ (1 : Int) = 0), if_neg (not_not_intro q)]
    by_cases a1 : x.toInt < 0
    · rw [if_pos a1, if_pos (by omega : ¬ (0 ≤ x.toInt ∧ x.toInt ≤ 60))]; rfl
    · rw [if_neg a1]
      by_cases a2 : 60 < x.toInt
      · rw [if_pos a2, if_pos (by omega : ¬ (0 ≤ x.toInt ∧ x.toInt ≤ 60))]; rfl
      · rw [if_neg a2, if_neg (by omega : ¬ ¬ (0 ≤ x.toInt ∧ x.toInt ≤ 60))]; rfl
  · rw [if_neg q, if_pos rfl, if_pos q]; rfl
/-- falls -/
theorem ob_falls (K : al_C X lb C a) (A : al_R X C a σ τ) (M : m_M (m_c X τ a) (τ.1 a 24).toInt n) (v x : Int32) : ob_O X C a (F_X11_falls X σ C v x) (F_X12_falls X τ a v x) := by
  obtain ⟨kC, ka, S, lC, G8, G9, GM⟩ := id K
  obtain ⟨m2, s2, t2⟩ := mv_beg S.1 ka (rfl : m_c X τ a = m_c X τ a)
  have pp := an_p K A M m2 v
  have fs := an_fore K A M m2 v x
  have e0 : (0 : Int64).toInt = 0 := rfl
  have e60 : (60 : Int64).toInt = 60 := rfl
  have i3 : (F_X12_isIn X (q_si (q_si τ a 1 0) a 0 0) x.toInt64 (0 : Int64) (60 : Int64)).toInt = if 0 ≤ x.toInt ∧ x.toInt ≤ 60 then 1 else 0 := lk_in (X := X) x e0 e60
  unfold F_X11_falls F_X12_falls
  rw [q_letE (F_X11_forecastStatus X σ C v x), q_letE (q_si τ a 1 0), q_letE (q_si (q_si τ a 1 0) a 0 0), q_letE (F_X12_isPlayerAt X (q_si (q_si τ a 1 0) a 0 0) a v), pp.2]
  obtain ⟨k, hk⟩ : ∃ k, k = F_X11_forecastStatus X σ C v x := ⟨_, rfl⟩
  rw [← hk] at fs ⊢
  by_cases q : 0 ≤ v.toInt ∧ v.toInt < m_c X τ a 2
  · rw [if_neg (not_not_intro q)] at fs
    rw [if_pos q, if_neg (by decide : ¬ (1 : Int) = 0), q_letE x.toInt64, q_letE (F_X12_isIn X (q_si (q_si τ a 1 0) a 0 0) x.toInt64 (0 : Int64) (60 : Int64)), i3]
    by_cases q2 : 0 ≤ x.toInt ∧ x.toInt ≤ 60
    · rw [if_neg (not_not_intro q2)] at fs
      have f1 := fa_falling S G8 (rfl : y_v X (q_rf X C 8) σ = _) A.1.1 M.1.1 (v := v) (x := x) rfl q rfl q2
      have f2 := fa_fallsTo S M.1.1 A.1.1.1.2.2.2.2.2 m2 (v := v) (x := x) rfl q rfl q2
      rw [if_pos fs, if_pos q2, if_neg (by decide : ¬ (1 : Int) = 0), q_letE (F_X0_fallingKind X σ (q_rf X C 8) v x), q_letE (F_X12_fallsTo X (q_si (q_si τ a 1 0) a 0 0) a v x)]
      exact ob_good K A M (f1.trans f2.symm)
    · rw [if_pos q2] at fs
      have k5 : k = 5 := Int32.toInt_inj.mp (fs.trans rfl)
      rw [k5, if_neg (by decide : ¬ (5 : Int32).toInt = 0), if_neg q2, if_pos rfl]
      exact ob_none K A M 5
  · rw [if_pos q] at fs
    have k2 : k = 2 := Int32.toInt_inj.mp (fs.trans rfl)
    rw [k2, if_neg (by decide : ¬ (2 : Int32).toInt = 0), if_neg q, if_pos rfl]
    exact ob_none K A M 2
end QC
