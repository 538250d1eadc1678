/-! OBSERVERS: what one lays honestly, turn by turn -/
def fo_m (m x : Int) : Int := if x < m then x else m
def fo (c : Int → Int) (p : Int) : Nat → (Int → Int) × Int × Int × Int
  | 0 => (fun k => c (34 + 10 * p + k), 0, -1, -1)
  | r + 1 => (fun j => if j = fa_k c p (r : Int) then (fo c p r).1 j - fo_m (c 4) ((fo c p r).1 (fa_k c p (r : Int))) else (fo c p r).1 j, (fo c p r).2.1 + fo_m (c 4) ((fo c p r).1 (fa_k c p (r : Int))), (if 0 < fo_m (c 4) ((fo c p r).1 (fa_k c p (r : Int))) then fa_k c p (r : Int) else (fo c p r).2.2.1), if fo_m (c 4) ((fo c p r).1 (fa_k c p (r : Int))) = 0 ∧ (fo c p r).2.1 < m_S c (34 + 10 * p) 10 ∧ (fo c p r).2.2.2 < 0 then (r : Int) else (fo c p r).2.2.2)
/-- behind how many turns it is rid of all -/
def fo_r (c : Int → Int) (p : Int) : Nat → Int
  | 0 => if m_S c (34 + 10 * p) 10 = 0 then 0 else -1
  | r + 1 => if fo_r c p r = -1 then (if (fo c p (r + 1)).2.1 = m_S c (34 + 10 * p) 10 then (r : Int) + 1 else -1) else fo_r c p r
theorem fo_m_b {m x : Int} (hm : 1 ≤ m) (hx : 0 ≤ x) : 0 ≤ fo_m m x ∧ fo_m m x ≤ x ∧ fo_m m x ≤ m := by
  unfold fo_m
  split <;> omega
theorem m_S_sh (c : Int → Int) (b : Int) (n : Nat) : m_S (fun k => c (b + k)) 0 n = m_S c b n := by
  induction n with
  | zero => rfl
  | succ n ih =>
    show m_S (fun k => c (b + k)) 0 n + c (b + (0 + (n : Int))) = m_S c b n + c (b + (n : Int))
    rw [ih, Int.zero_add]
section FO
variable {c : Int → Int} {p : Int}
theorem fo_inv (hG : m_G c) (hp : 0 ≤ p ∧ p < 6) (r : Nat) : (∀ j : Int, 0 ≤ j → j < 10 → 0 ≤ (fo c p r).1 j ∧ (fo c p r).1 j ≤ 80) ∧ m_S (fo c p r).1 0 10 + (fo c p r).2.1 = m_S c (34 + 10 * p) 10 ∧ (0 ≤ (fo c p r).2.1 ∧ (fo c p r).2.1 ≤ 80) ∧ ((fo c p r).2.2.1 = -1 ∨ 0 ≤ (fo c p r).2.2.1 ∧ (fo c p r).2.2.1 < c 0) ∧ ((fo c p r).2.2.2 = -1 ∨ 0 ≤ (fo c p r).2.2.2) ∧ ((fo c p r).2.1 ≠ 0 → (fo c p r).2.2.1 ≠ -1) := by
  have b4 := hG.1.2.2.1
  have h0 := hG.1.1
  have s80 := hG.S80 (p := p) (k := 10) hp.1 hp.2 (by decide) (by decide)
  have z10 : m_S c (34 + 10 * p) (10 : Int).toNat = m_S c (34 + 10 * p) 10 := rfl
  induction r with
  | zero =>
    refine ⟨fun j j0 j1 => hG.h80 hp.1 hp.2 j0 j1, ?_, ⟨(by decide : (0 : Int) ≤ 0), (by decide : (0 : Int) ≤ 80)⟩, Or.inl rfl, Or.inl rfl, fun h => absurd rfl h⟩
    show m_S (fun k => c (34 + 10 * p + k)) 0 10 + 0 = _
    rw [m_S_sh, Int.add_zero]
  | succ r ih =>
    obtain ⟨i1, i2, i3, i4, i5, i6⟩ := ih
    obtain ⟨k, hk⟩ : ∃ k, k = fa_k c p (r : Int) := ⟨_, rfl⟩
    have kb : 0 ≤ k ∧ k < c 0 := by rw [hk]; exact fa_K_b hG _
    have rk := i1 k kb.1 (by omega)
    have nb := fo_m_b (m := c 4) b4.1 rk.1
    obtain ⟨m, hm⟩ : ∃ m, m = fo_m (c 4) ((fo c p r).1 k) := ⟨_, rfl⟩
    rw [← hm] at nb
    have e : fo c p (r + 1) = (fun j => if j = k then (fo c p r).1 j - m else (fo c p r).1 j, (fo c p r).2.1 + m, (if 0 < m then k else (fo c p r).2.2.1), if m = 0 ∧ (fo c p r).2.1 < m_S c (34 + 10 * p) 10 ∧ (fo c p r).2.2.2 < 0 then (r : Int) else (fo c p r).2.2.2) := by
      rw [hm, hk]
      rfl
    rw [e]
    have u := m_S_upd (c := (fo c p r).1) (c' := fun j => if j = k then (fo c p r).1 j - m else (fo c p r).1 j) (b := 0) (A := k) (v := (fo c p r).1 k - m) (n := 10) (fun j _ _ => by
      by_cases q : j = k
      · rw [if_pos q, if_pos q, q]
      · rw [if_neg q, if_neg q]) kb.1 (by omega)
    have nn : 0 ≤ m_S (fun j => if j = k then (fo c p r).1 j - m else (fo c p r).1 j) 0 10 := m_S_nn (fun j j0 j1 => by
      have := i1 j j0 (by omega)
      show 0 ≤ if j = k then (fo c p r).1 j - m else (fo c p r).1 j
      split
      · rename_i q
        rw [q]
        omega
      · exact this.1)
    refine ⟨fun j j0 j1 => ?_, ?_, ⟨?_, ?_⟩, ?_, ?_, ?_⟩
    · have := i1 j j0 j1
      show 0 ≤ (if j = k then (fo c p r).1 j - m else (fo c p r).1 j) ∧ (if j = k then (fo c p r).1 j - m else (fo c p r).1 j) ≤ 80
      split
      · rename_i q
        rw [q]
        omega
      · exact this
    · show m_S (fun j => if j = k then (fo c p r).1 j - m else (fo c p r).1 j) 0 10 + ((fo c p r).2.1 + m) = _
      omega
    · show 0 ≤ (fo c p r).2.1 + m
      omega
    · show (fo c p r).2.1 + m ≤ 80
      omega
    · show (if 0 < m then k else (fo c p r).2.2.1) = -1 ∨ 0 ≤ (if 0 < m then k else (fo c p r).2.2.1) ∧ (if 0 < m then k else (fo c p r).2.2.1) < c 0
      split
      · exact Or.inr kb
      · exact i4
    · show (if m = 0 ∧ (fo c p r).2.1 < m_S c (34 + 10 * p) 10 ∧ (fo c p r).2.2.2 < 0 then (r : Int) else (fo c p r).2.2.2) = -1 ∨ 0 ≤ (if m = 0 ∧ (fo c p r).2.1 < m_S c (34 + 10 * p) 10 ∧ (fo c p r).2.2.2 < 0 then (r : Int) else (fo c p r).2.2.2)
      split
      · exact Or.inr (Int.natCast_nonneg r)
      · exact i5
    · intro h
      have h' : (fo c p r).2.1 + m ≠ 0 := h
      show (if 0 < m then k else (fo c p r).2.2.1) ≠ -1
      split
      · omega
      · exact i6 (by omega)
/-- rid of all: nothing more -/
theorem fo_stay1 (hG : m_G c) (hp : 0 ≤ p ∧ p < 6) {r : Nat} (h : (fo c p r).2.1 = m_S c (34 + 10 * p) 10) : (fo c p (r + 1)).2 = (fo c p r).2 := by
  obtain ⟨i1, i2, i3, i4, i5, i6⟩ := fo_inv hG hp r
  have b4 := hG.1.2.2.1
  have h0 := hG.1.1
  have kb := fa_K_b hG (fa_w c p + c 7 + (r : Int) * c 2)
  have kb' : 0 ≤ fa_k c p (r : Int) ∧ fa_k c p (r : Int) < c 0 := kb
  have ge := m_S_ge (c := (fo c p r).1) (b := 0) (A := fa_k c p (r : Int)) (n := 10) (fun j j0 j1 => (i1 j j0 (by omega)).1) kb'.1 (by omega)
  have rk := i1 (fa_k c p (r : Int)) kb'.1 (by omega)
  have z : fo_m (c 4) ((fo c p r).1 (fa_k c p (r : Int))) = 0 := by
    unfold fo_m
    rw [if_pos (by omega)]
    omega
  show ((fo c p r).2.1 + fo_m (c 4) ((fo c p r).1 (fa_k c p (r : Int))), (if 0 < fo_m (c 4) ((fo c p r).1 (fa_k c p (r : Int))) then fa_k c p (r : Int) else (fo c p r).2.2.1), if fo_m (c 4) ((fo c p r).1 (fa_k c p (r : Int))) = 0 ∧ (fo c p r).2.1 < m_S c (34 + 10 * p) 10 ∧ (fo c p r).2.2.2 < 0 then (r : Int) else (fo c p r).2.2.2) = _
  rw [z, if_neg (by omega), if_neg (by omega), Int.add_zero]
theorem fo_stay (hG : m_G c) (hp : 0 ≤ p ∧ p < 6) {r : Nat} (h : (fo c p r).2.1 = m_S c (34 + 10 * p) 10) (k : Nat) : (fo c p (r + k)).2 = (fo c p r).2 := by
  induction k with
  | zero => rfl
  | succ k ih =>
    have e : (fo c p (r + k)).2.1 = m_S c (34 + 10 * p) 10 := by rw [ih]; exact h
    exact (fo_stay1 hG hp e).trans ih
theorem fo_r_s (r : Nat) : (fo_r c p r = -1 ↔ ∀ k, k ≤ r → (fo c p k).2.1 ≠ m_S c (34 + 10 * p) 10) ∧ (fo_r c p r ≠ -1 → 0 ≤ fo_r c p r ∧ fo_r c p r ≤ (r : Int) ∧ (fo c p (fo_r c p r).toNat).2.1 = m_S c (34 + 10 * p) 10 ∧ ∀ k : Nat, (k : Int) < fo_r c p r → (fo c p k).2.1 ≠ m_S c (34 + 10 * p) 10) := by
  induction r with
  | zero =>
    have e : fo_r c p 0 = if m_S c (34 + 10 * p) 10 = 0 then 0 else -1 := rfl
    have e0 : (fo c p 0).2.1 = 0 := rfl
    rw [e]
    by_cases q : m_S c (34 + 10 * p) 10 = 0
    · rw [if_pos q]
      refine ⟨⟨fun h => by omega, fun h => absurd (e0.trans q.symm) (h 0 (Nat.le_refl 0))⟩, fun _ => ⟨by decide, by decide, ?_, fun k h => by omega⟩⟩
      exact e0.trans q.symm
    · rw [if_neg q]
      refine ⟨⟨fun _ k hk => ?_, fun _ => rfl⟩, fun h => absurd rfl h⟩
      have : k = 0 := by omega
      rw [this, e0]
      exact fun z => q z.symm
  | succ r ih =>
    obtain ⟨ih1, ih2⟩ := ih
    have e : fo_r c p (r + 1) = if fo_r c p r = -1 then (if (fo c p (r + 1)).2.1 = m_S c (34 + 10 * p) 10 then (r : Int) + 1 else -1) else fo_r c p r := rfl
    rw [e]
    by_cases q : fo_r c p r = -1
    · rw [if_pos q]
      have old := ih1.mp q
      by_cases q2 : (fo c p (r + 1)).2.1 = m_S c (34 + 10 * p) 10
      · rw [if_pos q2]
        refine ⟨⟨fun h => by omega, fun h => absurd q2 (h (r + 1) (Nat.le_refl _))⟩, fun _ => ⟨by omega, by omega, ?_, fun k h => old k (by omega)⟩⟩
        have : ((r : Int) + 1).toNat = r + 1 := by omega
        rw [this]
        exact q2
      · rw [if_neg q2]
        refine ⟨⟨fun _ k hk => ?_, fun _ => rfl⟩, fun h => absurd rfl h⟩
        by_cases hk' : k = r + 1
        · rw [hk']; exact q2
        · exact old k (by omega)
    · rw [if_neg q]
      have i := ih2 q
      refine ⟨⟨fun h => absurd h q, fun h => absurd i.2.2.1 (h _ (by omega))⟩, fun _ => ⟨i.1, by omega, i.2.2.1, i.2.2.2⟩⟩
/-- rid stays -/
theorem fo_r_stay {r : Nat} (h : fo_r c p r ≠ -1) (k : Nat) : fo_r c p (r + k) = fo_r c p r := by
  induction k with
  | zero => rfl
  | succ k ih =>
    have e : fo_r c p (r + k + 1) = if fo_r c p (r + k) = -1 then (if (fo c p (r + k + 1)).2.1 = m_S c (34 + 10 * p) 10 then ((r + k : Nat) : Int) + 1 else -1) else fo_r c p (r + k) := rfl
    show fo_r c p (r + k + 1) = _
    rw [e, if_neg (by rw [ih]; exact h), ih]
/-- done once rid -/
theorem fo_done (hG : m_G c) (hp : 0 ≤ p ∧ p < 6) {r t : Nat} (hr : r ≤ t) (h : fo_r c p r ≠ -1) : (fo c p t).2 = (fo c p r).2 ∧ fo_r c p t = fo_r c p r := by
  obtain ⟨k, ek⟩ : ∃ k, t = r + k := ⟨t - r, by omega⟩
  have i := (fo_r_s (c := c) (p := p) r).2 h
  have s := fo_stay hG hp i.2.2.1 (r - (fo_r c p r).toNat)
  have e2 : (fo_r c p r).toNat + (r - (fo_r c p r).toNat) = r := by omega
  rw [e2] at s
  have h2 : (fo c p r).2.1 = m_S c (34 + 10 * p) 10 := by rw [s]; exact i.2.2.1
  rw [ek]
  exact ⟨fo_stay hG hp h2 k, fo_r_stay h k⟩
end FO
section QD
variable {X : XW} {lb : Nat → Nat} {g o C a : Nat} {σ τ : ST} {V : Nat → Int → Int} {c : Int → Int} {n : Int}
/-- what the class holds ahead of turn r -/
def fo_C (V V1 : Nat → Int → Int) (c : Int → Int) (p : Int) (r : Nat) : Prop := (∀ (id : Nat) (i : Int), id ≠ 24 → (id ≠ 0 ∨ i ≤ 10) → V1 id i = V id i) ∧ (∀ j : Int, 0 ≤ j → j < c 0 → V1 24 j = (fo c p r).1 j) ∧ V1 0 11 = (fo c p r).2.1 ∧ V1 0 12 = fo_r c p r ∧ V1 0 13 = (fo c p r).2.2.1 ∧ V1 0 14 = (fo c p r).2.2.2
theorem fo_CL (Y : y_S X lb) (G : y_G X lb g o) (Rg : rg V c) (hG : m_G c) {v1 v2 u : Int32} {p : Int} {t : Nat} (hv : v1.toInt = p) (hp : 0 ≤ p ∧ p < c 2) (h2 : v2.toInt = (t : Int)) (ht : t ≤ 60) (hu : u.toInt = m_S c (34 + 10 * p) 10) (fu : Nat) : ∀ (x : Int32) (σ1 : ST) (V1 : Nat → Int → Int) (r : Nat), (2147483647 - x.toInt).toNat < fu → x.toInt = (r : Int) → r ≤ t → y_W X lb g o σ σ1 V1 → fo_C V V1 c p r → ∃ V2 : Nat → Int → Int, y_W X lb g o σ (F_X0_foresee_L83_4 X v2 g v1 u fu x σ1) V2 ∧ V2 0 11 = (fo c p t).2.1 ∧ V2 0 12 = fo_r c p t ∧ V2 0 13 = (fo c p t).2.2.1 ∧ V2 0 14 = (fo c p t).2.2.2 ∧ ∀ (id : Nat) (i : Int), id ≠ 24 → (id ≠ 0 ∨ i ≤ 10) → V2 id i = V id i := by
  have b2 := hG.1.2.1
  have b4 := hG.1.2.2.1
  have h0 := hG.1.1
  have hp6 : 0 ≤ p ∧ p < 6 := ⟨hp.1, by omega⟩
  have n24 : ((y_gn 24 : Nat) : Int) = 10 := rfl
  induction fu with
  | zero => intro x σ1 V1 r h; exact absurd h (Nat.not_lt_zero _)
  | succ fu ih =>
    intro x σ1 V1 r hf hx hr w F
    obtain ⟨F0, F24, F11, F12, F13, F14⟩ := F
    have e12 : (σ1.1 g 12).toInt = fo_r c p r := (w.rd (id := 0) (by decide) 12 rfl).trans F12
    rw [F_X0_foresee_L83_4_s]
    unfold F_X0_foresee_B83_4
    rw [h2, hx]
    by_cases q : (r : Int) < (t : Int)
    · rw [if_pos q, q_letE (σ1.1 g 12), e12]
      by_cases q12 : fo_r c p r = -1
      · rw [if_pos q12]
        obtain ⟨i1, i2, i3, i4, i5, i6⟩ := fo_inv hG hp6 r
        have R1 : rg V1 c := Rg.w hG (fun id i h1 h2 h3 => F0 id i h2 (by omega))
        have fk := fa_falling Y G w.2.2 R1 hG hv hp (x := x) hx ⟨by omega, by omega⟩
        have kb : 0 ≤ fa_k c p (r : Int) ∧ fa_k c p (r : Int) < c 0 := fa_K_b hG _
        obtain ⟨k, hk⟩ : ∃ k, k = fa_k c p (r : Int) := ⟨_, rfl⟩
        rw [← hk] at fk kb
        rw [q_letE (F_X0_fallingKind X σ1 g v1 x)]
        obtain ⟨y, ey⟩ : ∃ y, y = F_X0_fallingKind X σ1 g v1 x := ⟨_, rfl⟩
        rw [← ey] at fk ⊢
        have g21 : (F_X5_get X σ1 (q_rf X g 10) y).toInt = (fo c p r).1 k := (y_getI Y G w (id := 24) (r := q_rf X g 10) ⟨by decide, by decide⟩ rfl fk kb.1 (by rw [n24]; omega)).trans (F24 k kb.1 kb.2)
        have g23 : (σ1.1 (q_rf X g 0) 3).toInt = c 4 := (w.rd (id := 1) (by decide) 3 rfl).trans R1.1.2.2.2.1
        have rk := i1 k kb.1 (by omega)
        have nb := fo_m_b (m := c 4) b4.1 rk.1
        have g24 : (F_J9_min_7cf53 X σ1 (F_X5_get X σ1 (q_rf X g 10) y) (σ1.1 (q_rf X g 0) 3)).toInt = fo_m (c 4) ((fo c p r).1 k) := by
          rw [gm_min, g21, g23]
          unfold fo_m
          split <;> split <;> omega
        rw [q_letE (F_X5_get X σ1 (q_rf X g 10) y), q_letE (σ1.1 (q_rf X g 0) 3), q_letE (F_J9_min_7cf53 X σ1 (F_X5_get X σ1 (q_rf X g 10) y) (σ1.1 (q_rf X g 0) 3))]
        obtain ⟨z, ez⟩ : ∃ z, z = F_J9_min_7cf53 X σ1 (F_X5_get X σ1 (q_rf X g 10) y) (σ1.1 (q_rf X g 0) 3) := ⟨_, rfl⟩
        rw [← ez] at g24 ⊢
        obtain ⟨m, hm⟩ : ∃ m, m = fo_m (c 4) ((fo c p r).1 k) := ⟨_, rfl⟩
        rw [← hm] at g24 nb
        have st : fo c p (r + 1) = (fun j => if j = k then (fo c p r).1 j - m else (fo c p r).1 j, (fo c p r).2.1 + m, (if 0 < m then k else (fo c p r).2.2.1), if m = 0 ∧ (fo c p r).2.1 < m_S c (34 + 10 * p) 10 ∧ (fo c p r).2.2.2 < 0 then (r : Int) else (fo c p r).2.2.2) := by
          rw [hm, hk]
          rfl
        have sr : fo_r c p (r + 1) = if (fo c p r).2.1 + m = m_S c (34 + 10 * p) 10 then (r : Int) + 1 else -1 := by
          show (if fo_r c p r = -1 then (if (fo c p (r + 1)).2.1 = m_S c (34 + 10 * p) 10 then (r : Int) + 1 else -1) else fo_r c p r) = _
          rw [if_pos q12, st]
        have ne := (fo_r_s (c := c) (p := p) r).1.mp q12 r (Nat.le_refl r)
        have nS : 0 ≤ m_S (fo c p r).1 0 10 := m_S_nn (fun j j0 j1 => (i1 j j0 (by omega)).1)
        have wa := w.add Y G (id := 24) (r := q_rf X g 10) ⟨by decide, by decide⟩ rfl y (-z) (by rw [fk]; exact kb.1) (by rw [fk, n24]; omega)
        rw [fk, F24 k kb.1 kb.2, ar_neg, g24, ar_wr (n := -m) (by omega) (by omega), ar_wr (by omega) (by omega)] at wa
        rw [q_letE (-z), q_letE (F_X5_add X σ1 (q_rf X g 10) y (-z))]
        obtain ⟨σ2, e2⟩ : ∃ s, s = F_X5_add X σ1 (q_rf X g 10) y (-z) := ⟨_, rfl⟩
        rw [← e2] at wa ⊢
        have f29 : (σ2.1 g 11).toInt = (fo c p r).2.1 := (wa.rd (id := 0) (by decide) 11 rfl).trans ((y_up_ne (Or.inl (by decide))).trans F11)
        have e30 : (σ2.1 g 11 + z).toInt = (fo c p r).2.1 + m := by rw [ar_add, f29, g24, ar_wr (by omega) (by omega)]
        rw [q_letE (σ2.1 g 11), q_letE (σ2.1 g 11 + z), q_letE (q_si σ2 g 11 (σ2.1 g 11 + z))]
        have wb : y_W X lb g o σ (q_si σ2 g 11 (σ2.1 g 11 + z)) (y_up (y_up V1 24 k ((fo c p r).1 k + -m)) 0 11 (σ2.1 g 11 + z).toInt) := wa.si Y G (id := 0) (by decide) 11 _
        rw [e30] at wb
        obtain ⟨σ3, e3⟩ : ∃ s, s = q_si σ2 g 11 (σ2.1 g 11 + z) := ⟨_, rfl⟩
        rw [← e3] at wb ⊢
        obtain ⟨V3, hV3⟩ : ∃ v, v = y_up (y_up V1 24 k ((fo c p r).1 k + -m)) 0 11 ((fo c p r).2.1 + m) := ⟨_, rfl⟩
        rw [← hV3] at wb
        have V3a : ∀ (id : Nat) (i : Int), id ≠ 24 → (id ≠ 0 ∨ i ≤ 10) → V3 id i = V id i := fun id i h1 h2 => by
          rw [hV3, y_up_ne (by omega), y_up_ne (Or.inl h1)]
          exact F0 id i h1 h2
        have V3b : ∀ j : Int, 0 ≤ j → j < c 0 → V3 24 j = (fo c p (r + 1)).1 j := fun j j0 j1 => by
          rw [hV3, y_up_ne (Or.inl (by decide)), st]
          show _ = if j = k then (fo c p r).1 j - m else (fo c p r).1 j
          by_cases e : j = k
          · rw [if_pos e, e, y_up_eq]; omega
          · rw [if_neg e, y_up_ne (Or.inr e)]; exact F24 j j0 j1
        have V3c : V3 0 11 = (fo c p r).2.1 + m := by rw [hV3, y_up_eq]
        have V3d : ∀ i : Int, i ≠ 11 → V3 0 i = V1 0 i := fun i h => by rw [hV3, y_up_ne (Or.inr h), y_up_ne (Or.inl (by decide))]
        have x1 : (x + 1).toInt = ((r + 1 : Nat) : Int) := by rw [y_inc (by omega), hx]; omega
        -- the end of a turn
        have fin : ∀ (σ4 : ST) (V4 : Nat → Int → Int), y_W X lb g o σ σ4 V4 → (∀ (id : Nat) (i : Int), (id ≠ 0 ∨ i ≠ 13 ∧ i ≠ 14) → V4 id i = V3 id i) → V4 0 13 = (fo c p (r + 1)).2.2.1 → V4 0 14 = (fo c p (r + 1)).2.2.2 → ∀ A B : ST, A = F_X0_foresee_L83_4 X v2 g v1 u fu (x + 1) (q_si σ4 g 12 (x + 1)) → B = F_X0_foresee_L83_4 X v2 g v1 u fu (x + 1) σ4 → ∃ V2 : Nat → Int → Int, y_W X lb g o σ (if (σ4.1 g 11).toInt = u.toInt then A else B) V2 ∧ V2 0 11 = (fo c p t).2.1 ∧ V2 0 12 = fo_r c p t ∧ V2 0 13 = (fo c p t).2.2.1 ∧ V2 0 14 = (fo c p t).2.2.2 ∧ ∀ (id : Nat) (i : Int), id ≠ 24 → (id ≠ 0 ∨ i ≤ 10) → V2 id i = V id i := by
          intro σ4 V4 w4 k4 k13 k14 A B eA eB
          have f11 : (σ4.1 g 11).toInt = (fo c p r).2.1 + m := (w4.rd (id := 0) (by decide) 11 rfl).trans ((k4 0 11 (Or.inr (by decide))).trans V3c)
          rw [f11, hu]
          by_cases qe : (fo c p r).2.1 + m = m_S c (34 + 10 * p) 10
          · rw [if_pos qe, eA]
            have w5 : y_W X lb g o σ (q_si σ4 g 12 (x + 1)) (y_up V4 0 12 (x + 1).toInt) := w4.si Y G (id := 0) (by decide) 12 _
            refine ih (x + 1) _ _ (r + 1) (by omega) x1 (by omega) w5 ⟨fun id i h1 h2 => ?_, fun j j0 j1 => ?_, ?_, ?_, ?_, ?_⟩
            · rw [y_up_ne (by omega), k4 id i (by omega)]; exact V3a id i h1 h2
            · rw [y_up_ne (Or.inl (by decide)), k4 24 j (Or.inl (by decide))]; exact V3b j j0 j1
            · rw [y_up_ne (Or.inr (by decide)), k4 0 11 (Or.inr (by decide)), V3c, st]
            · rw [y_up_eq, sr, if_pos qe, x1]; omega
            · rw [y_up_ne (Or.inr (by decide))]; exact k13
            · rw [y_up_ne (Or.inr (by decide))]; exact k14
          · rw [if_neg qe, eB]
            refine ih (x + 1) _ _ (r + 1) (by omega) x1 (by omega) w4 ⟨fun id i h1 h2 => ?_, fun j j0 j1 => ?_, ?_, ?_, k13, k14⟩
            · rw [k4 id i (by omega)]; exact V3a id i h1 h2
            · rw [k4 24 j (Or.inl (by decide))]; exact V3b j j0 j1
            · rw [k4 0 11 (Or.inr (by decide)), V3c, st]
            · rw [k4 0 12 (Or.inr (by decide)), V3d 12 (by decide), F12, q12, sr, if_neg qe]
        rw [g24]
        by_cases qm : 0 < m
        · have w4 : y_W X lb g o σ (q_si σ3 g 13 y) (y_up V3 0 13 y.toInt) := wb.si Y G (id := 0) (by decide) 13 _
          rw [if_pos qm, q_letE (q_si σ3 g 13 y), q_letE ((q_si σ3 g 13 y).1 g 11)]
          refine fin _ _ w4 (fun id i h => y_up_ne (by omega)) ?_ ?_ _ _ (by rw [q_letE (x + 1), q_letE (q_si (q_si σ3 g 13 y) g 12 (x + 1)), q_letE (x + 1)]) (by rw [q_letE (x + 1)])
          · rw [y_up_eq, st, fk]
            show k = if 0 < m then k else (fo c p r).2.2.1
            rw [if_pos qm]
          · rw [y_up_ne (Or.inr (by decide)), V3d 14 (by decide), F14, st]
            show _ = if m = 0 ∧ (fo c p r).2.1 < m_S c (34 + 10 * p) 10 ∧ (fo c p r).2.2.2 < 0 then (r : Int) else (fo c p r).2.2.2
            rw [if_neg (by omega)]
        · have m0 : m = 0 := by omega
          have f33 : (σ3.1 g 14).toInt = (fo c p r).2.2.2 := (wb.rd (id := 0) (by decide) 14 rfl).trans ((V3d 14 (by decide)).trans F14)
          rw [if_neg qm, q_letE (σ3.1 g 14), f33]
          have k13 : V3 0 13 = (fo c p (r + 1)).2.2.1 := by
            rw [V3d 13 (by decide), F13, st]
            show _ = if 0 < m then k else (fo c p r).2.2.1
            rw [if_neg qm]
          by_cases ql : (fo c p r).2.2.2 = -1
          · have w4 : y_W X lb g o σ (q_si σ3 g 14 x) (y_up V3 0 14 x.toInt) := wb.si Y G (id := 0) (by decide) 14 _
            rw [if_pos ql, q_letE (q_si σ3 g 14 x), q_letE ((q_si σ3 g 14 x).1 g 11)]
            refine fin _ _ w4 (fun id i h => y_up_ne (by omega)) ?_ ?_ _ _ (by rw [q_letE (x + 1), q_letE (q_si (q_si σ3 g 14 x) g 12 (x + 1)), q_letE (x + 1)]) (by rw [q_letE (x + 1)])
            · rw [y_up_ne (Or.inr (by decide))]; exact k13
            · rw [y_up_eq, st, hx]
              show (r : Int) = if m = 0 ∧ (fo c p r).2.1 < m_S c (34 + 10 * p) 10 ∧ (fo c p r).2.2.2 < 0 then (r : Int) else (fo c p r).2.2.2
              rw [if_pos ⟨m0, by omega, by omega⟩]
          · rw [if_neg ql, q_letE (σ3.1 g 11)]
            refine fin _ _ wb (fun id i h => rfl) k13 ?_ _ _ (by rw [q_letE (x + 1), q_letE (q_si σ3 g 12 (x + 1)), q_letE (x + 1)]) (by rw [q_letE (x + 1)])
            rw [V3d 14 (by decide), F14, st]
            show _ = if m = 0 ∧ (fo c p r).2.1 < m_S c (34 + 10 * p) 10 ∧ (fo c p r).2.2.2 < 0 then (r : Int) else (fo c p r).2.2.2
            rw [if_neg (by omega)]
      · obtain ⟨d1, d2⟩ := fo_done hG hp6 hr q12
        rw [if_neg q12]
        exact ⟨V1, w, by rw [d1]; exact F11, by rw [d2]; exact F12, by rw [d1]; exact F13, by rw [d1]; exact F14, F0⟩
    · have e : r = t := by omega
      rw [if_neg q, ← e]
      exact ⟨V1, w, F11, F12, F13, F14, F0⟩
theorem fo_CK (Y : y_S X lb) (G : y_G X lb g o) (Rg : rg V c) (hG : m_G c) {v1 v2 u : Int32} {p : Int} (hv : v1.toInt = p) (hp : 0 ≤ p ∧ p < c 2) (fu : Nat) : ∀ (x : Int32) (σ1 : ST) (V1 : Nat → Int → Int), (2147483647 - x.toInt).toNat < fu → 0 ≤ x.toInt → x.toInt ≤ c 0 → y_W X lb g o σ σ1 V1 → (∀ (id : Nat) (i : Int), id ≠ 24 → V1 id i = V id i) → (∀ j : Int, 0 ≤ j → j < x.toInt → V1 24 j = c (34 + 10 * p + j)) → ∃ (σ2 : ST) (V2 : Nat → Int → Int), F_X0_foresee_L15_1 X g v1 u v2 fu x σ1 = F_X0_foresee_E52_6 X σ2 g u v2 v1 ∧ y_W X lb g o σ σ2 V2 ∧ (∀ (id : Nat) (i : Int), id ≠ 24 → V2 id i = V id i) ∧ ∀ j : Int, 0 ≤ j → j < c 0 → V2 24 j = c (34 + 10 * p + j) := by
  have b2 := hG.1.2.1
  have h0 := hG.1.1
  have n24 : ((y_gn 24 : Nat) : Int) = 10 := rfl
  induction fu with
  | zero => intro x σ1 V1 h; exact absurd h (Nat.not_lt_zero _)
  | succ fu ih =>
    intro x σ1 V1 hf x0 x1 w k1 k2
    have f0 : (σ1.1 (q_rf X g 0) 0).toInt = c 0 := (w.rd (id := 1) (by decide) 0 rfl).trans ((k1 1 0 (by decide)).trans Rg.1.1)
    rw [F_X0_foresee_L15_1_s]
    unfold F_X0_foresee_B15_1
    rw [q_letE (σ1.1 (q_rf X g 0) 0), f0]
    by_cases q : x.toInt < c 0
    · have e1 : (x + 1).toInt = x.toInt + 1 := y_inc (by omega)
      have hh : (F_X1_heldBy X σ1 (q_rf X g 1) v1 x).toInt = c (34 + 10 * p + x.toInt) := by
        rw [gm_held Y G w hv rfl ⟨hp.1, by omega⟩ ⟨x0, by omega⟩, k1 7 _ (by decide), Rg.2.2.2.1.1 _ (by omega) (by omega)]
        congr 1
        omega
      have w2 := w.set Y G (id := 24) (r := q_rf X g 10) ⟨by decide, by decide⟩ rfl x (F_X1_heldBy X σ1 (q_rf X g 1) v1 x) x0 (by rw [n24]; omega)
      rw [hh] at w2
      rw [if_pos q, q_letE (F_X1_heldBy X σ1 (q_rf X g 1) v1 x), q_letE (F_X5_set X σ1 (q_rf X g 10) x (F_X1_heldBy X σ1 (q_rf X g 1) v1 x)), q_letE (x + 1)]
      refine ih (x + 1) _ _ (by omega) (by omega) (by omega) w2 (fun id i h => by rw [y_up_ne (Or.inl h)]; exact k1 id i h) (fun j j0 j1 => ?_)
      by_cases e : j = x.toInt
      · rw [e, y_up_eq]
      · rw [y_up_ne (Or.inr e)]; exact k2 j j0 (by omega)
    · rw [if_neg q]
      exact ⟨σ1, V1, rfl, w, k1, fun j j0 j1 => k2 j j0 (by omega)⟩
/-- the class looks ahead -/
theorem fo_class (Y : y_S X lb) (G : y_G X lb g o) (hV : y_v X g σ = V) (Rg : rg V c) (hG : m_G c) {v1 v2 : Int32} {p : Int} {t : Nat} (hv : v1.toInt = p) (hp : 0 ≤ p ∧ p < c 2) (h2 : v2.toInt = (t : Int)) (ht : t ≤ 60) : ∃ V2 : Nat → Int → Int, y_W X lb g o σ (F_X0_foresee X σ g v1 v2) V2 ∧ V2 0 11 = (fo c p t).2.1 ∧ V2 0 12 = fo_r c p t ∧ V2 0 13 = (fo c p t).2.2.1 ∧ V2 0 14 = (fo c p t).2.2.2 ∧ ∀ (id : Nat) (i : Int), id ≠ 24 → (id ≠ 0 ∨ i ≤ 10) → V2 id i = V id i := by
  have b2 := hG.1.2.1
  have h0 := hG.1.1
  have w := pl_W (lb := lb) (o := o) hV
  have n9 : ((y_gn 9 : Nat) : Int) = 6 := rfl
  have z0 : (0 : Int32).toInt = 0 := rfl
  have m1 : ((-1) : Int32).toInt = -1 := rfl
  have cu : (F_X5_get X σ (q_rf X (q_rf X g 1) 2) v1).toInt = m_S c (34 + 10 * p) 10 := (y_getI Y G w (id := 9) (r := q_rf X (q_rf X g 1) 2) ⟨by decide, by decide⟩ rfl hv hp.1 (by rw [n9]; omega)).trans (Rg.2.2.2.1.2 p hp.1 (by omega))
  unfold F_X0_foresee
  rw [q_letE (F_X5_get X σ (q_rf X (q_rf X g 1) 2) v1)]
  obtain ⟨u, hu⟩ : ∃ u, u = F_X5_get X σ (q_rf X (q_rf X g 1) 2) v1 := ⟨_, rfl⟩
  rw [← hu] at cu ⊢
  obtain ⟨σ2, V2, e2, w2, k2, l2⟩ := fo_CK (v2 := v2) (u := u) Y G Rg hG hv hp ((2147483647 - (0 : Int32).toInt).toNat + 1) 0 σ V (Nat.lt_succ_self _) (by decide) (by rw [z0]; omega) w (fun _ _ _ => rfl) (fun j j0 j1 => by rw [z0] at j1; omega)
  rw [e2]
  unfold F_X0_foresee_E52_6
  rw [q_letE (q_si σ2 g 11 0)]
  have w3 : y_W X lb g o σ (q_si σ2 g 11 0) (y_up V2 0 11 (0 : Int32).toInt) := w2.si Y G (id := 0) (by decide) 11 _
  have tail : ∀ y : Int32, y.toInt = fo_r c p 0 → ∃ V3 : Nat → Int → Int, y_W X lb g o σ (F_X0_foresee_J67_3 X (q_si σ2 g 11 0) g v2 v1 u y) V3 ∧ V3 0 11 = (fo c p t).2.1 ∧ V3 0 12 = fo_r c p t ∧ V3 0 13 = (fo c p t).2.2.1 ∧ V3 0 14 = (fo c p t).2.2.2 ∧ ∀ (id : Nat) (i : Int), id ≠ 24 → (id ≠ 0 ∨ i ≤ 10) → V3 id i = V id i := by
    intro y hy
    unfold F_X0_foresee_J67_3
    rw [q_letE, q_letE, q_letE]
    have w4 : y_W X lb g o σ (q_si (q_si σ2 g 11 0) g 12 y) (y_up (y_up V2 0 11 (0 : Int32).toInt) 0 12 y.toInt) := w3.si Y G (id := 0) (by decide) 12 _
    have w5 : y_W X lb g o σ (q_si (q_si (q_si σ2 g 11 0) g 12 y) g 13 (-1)) (y_up (y_up (y_up V2 0 11 (0 : Int32).toInt) 0 12 y.toInt) 0 13 ((-1) : Int32).toInt) := w4.si Y G (id := 0) (by decide) 13 _
    have w6 : y_W X lb g o σ (q_si (q_si (q_si (q_si σ2 g 11 0) g 12 y) g 13 (-1)) g 14 (-1)) (y_up (y_up (y_up (y_up V2 0 11 (0 : Int32).toInt) 0 12 y.toInt) 0 13 ((-1) : Int32).toInt) 0 14 ((-1) : Int32).toInt) := w5.si Y G (id := 0) (by decide) 14 _
    refine fo_CL Y G Rg hG hv hp h2 ht cu _ 0 _ _ 0 (Nat.lt_succ_self _) z0 (Nat.zero_le _) w6 ⟨fun id i i1 i2 => ?_, fun j j0 j1 => ?_, ?_, ?_, ?_, ?_⟩
    · rw [y_up_ne (by omega), y_up_ne (by omega), y_up_ne (by omega), y_up_ne (by omega)]
      exact k2 id i i1
    · rw [y_up_ne (Or.inl (by decide)), y_up_ne (Or.inl (by decide)), y_up_ne (Or.inl (by decide)), y_up_ne (Or.inl (by decide))]
      exact l2 j j0 j1
    · rw [y_up_ne (Or.inr (by decide)), y_up_ne (Or.inr (by decide)), y_up_ne (Or.inr (by decide)), y_up_eq]; rfl
    · rw [y_up_ne (Or.inr (by decide)), y_up_ne (Or.inr (by decide)), y_up_eq]; exact hy
    · rw [y_up_ne (Or.inr (by decide)), y_up_eq]; rfl
    · rw [y_up_eq]; rfl
  have r0 : fo_r c p 0 = if m_S c (34 + 10 * p) 10 = 0 then 0 else -1 := rfl
  rw [cu]
  by_cases q : m_S c (34 + 10 * p) 10 = 0
  · rw [if_pos q]
    exact tail 0 (by rw [r0, if_pos q]; rfl)
  · rw [if_neg q]
    exact tail (-1) (by rw [r0, if_neg q]; rfl)
end QD
