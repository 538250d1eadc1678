/-! FROM 59d.foresee.lean.txt -/
section
/-! OBSERVERS: what one lays honestly, turn by turn -/
def fo_m (m x : Int) : Int := if x < m then x else m
def fo (c : Int → Int) (p : Int) : Nat → (Int → Int) × Int × Int × Int
  | 0 => (fun k => c (34 + 10 * p + k), 0, -1, -1)
  | r + 1 => (fun j => if j = fa_k c p (r : Int) then (fo c p r).1 j - fo_m (c 4) ((fo c p r).1 (fa_k c p (r : Int))) else (fo c p r).1 j, (fo c p r).2.1 + fo_m (c 4) ((fo c p r).1 (fa_k c p (r : Int))), (if 0 < fo_m (c 4) ((fo c p r).1 (fa_k c p (r : Int))) then fa_k c p (r : Int) else (fo c p r).2.2.1), if fo_m (c 4) ((fo c p r).1 (fa_k c p (r : Int))) = 0 ∧ (fo c p r).2.1 < m_S c (34 + 10 * p) 10 ∧ (fo c p r).2.2.2 < 0 then (r : Int) else (fo c p r).2.2.2)
/-- behind how many turns it is rid of all -/
def fo_r (c : Int → Int) (p : Int) : Nat → Int
  | 0 => if m_S c (34 + 10 * p) 10 = 0 then 0 else -1
  | r + 1 => if fo_r c p r = -1 then (if (fo c p (r + 1)).2.1 = m_S c (34 + 10 * p) 10 then (r : Int) + 1 else -1) else fo_r c p r
theorem fo_m_b {m x : Int} (hm : 1 ≤ m) (hx : 0 ≤ x) : 0 ≤ fo_m m x ∧ fo_m m x ≤ x ∧ fo_m m x ≤ m := by
  unfold fo_m
  split <;> omega
theorem m_S_sh (c : Int → Int) (b : Int) (n : Nat) : m_S (fun k => c (b + k)) 0 n = m_S c b n := by
  induction n with
  | zero => rfl
  | succ n ih =>
    show m_S (fun k => c (b + k)) 0 n + c (b + (0 + (n : Int))) = m_S c b n + c (b + (n : Int))
    rw [ih, Int.zero_add]
section FO
variable {c : Int → Int} {p : Int}
theorem fo_inv (hG : m_G c) (hp : 0 ≤ p ∧ p < 6) (r : Nat) : (∀ j : Int, 0 ≤ j → j < 10 → 0 ≤ (fo c p r).1 j ∧ (fo c p r).1 j ≤ 80) ∧ m_S (fo c p r).1 0 10 + (fo c p r).2.1 = m_S c (34 + 10 * p) 10 ∧ (0 ≤ (fo c p r).2.1 ∧ (fo c p r).2.1 ≤ 80) ∧ ((fo c p r).2.2.1 = -1 ∨ 0 ≤ (fo c p r).2.2.1 ∧ (fo c p r).2.2.1 < c 0) ∧ ((fo c p r).2.2.2 = -1 ∨ 0 ≤ (fo c p r).2.2.2) ∧ ((fo c p r).2.1 ≠ 0 → (fo c p r).2.2.1 ≠ -1) := by
  have b4 := hG.1.2.2.1
  have h0 := hG.1.1
  have s80 := hG.S80 (p := p) (k := 10) hp.1 hp.2 (by decide) (by decide)
  have z10 : m_S c (34 + 10 * p) (10 : Int).toNat = m_S c (34 + 10 * p) 10 := rfl
  induction r with
  | zero =>
    refine ⟨fun j j0 j1 => hG.h80 hp.1 hp.2 j0 j1, ?_, ⟨(by decide : (0 : Int) ≤ 0), (by decide : (0 : Int) ≤ 80)⟩, Or.inl rfl, Or.inl rfl, fun h => absurd rfl h⟩
    show m_S (fun k => c (34 + 10 * p + k)) 0 10 + 0 = _
    rw [m_S_sh, Int.add_zero]
  | succ r ih =>
    obtain ⟨i1, i2, i3, i4, i5, i6⟩ := ih
    obtain ⟨k, hk⟩ : ∃ k, k = fa_k c p (r : Int) := ⟨_, rfl⟩
    have kb : 0 ≤ k ∧ k < c 0 := by rw [hk]; exact fa_K_b hG _
    have rk := i1 k kb.1 (by omega)
    have nb := fo_m_b (m := c 4) b4.1 rk.1
    obtain ⟨m, hm⟩ : ∃ m, m = fo_m (c 4) ((fo c p r).1 k) := ⟨_, rfl⟩
    rw [← hm] at nb
    have e : fo c p (r + 1) = (fun j => if j = k then (fo c p r).1 j - m else (fo c p r).1 j, (fo c p r).2.1 + m, (if 0 < m then k else (fo c p r).2.2.1), if m = 0 ∧ (fo c p r).2.1 < m_S c (34 + 10 * p) 10 ∧ (fo c p r).2.2.2 < 0 then (r : Int) else (fo c p r).2.2.2) := by
      rw [hm, hk]
      rfl
    rw [e]
    have u := m_S_upd (c := (fo c p r).1) (c' := fun j => if j = k then (fo c p r).1 j - m else (fo c p r).1 j) (b := 0) (A := k) (v := (fo c p r).1 k - m) (n := 10) (fun j _ _ => by
      by_cases q : j = k
      · rw [if_pos q, if_pos q, q]
      · rw [if_neg q, if_neg q]) kb.1 (by omega)
    have nn : 0 ≤ m_S (fun j => if j = k then (fo c p r).1 j - m else (fo c p r).1 j) 0 10 := m_S_nn (fun j j0 j1 => by
      have := i1 j j0 (by omega)
      show 0 ≤ if j = k then (fo c p r).1 j - m else (fo c p r).1 j
      split
      · rename_i q
        rw [q]
        omega
      · exact this.1)
    refine ⟨fun j j0 j1 => ?_, ?_, ⟨?_, ?_⟩, ?_, ?_, ?_⟩
    · have := i1 j j0 j1
      show 0 ≤ (if j = k then (fo c p r).1 j - m else (fo c p r).1 j) ∧ (if j = k then (fo c p r).1 j - m else (fo c p r).1 j) ≤ 80
      split
      · rename_i q
        rw [q]
        omega
      · exact this
    · show m_S (fun j => if j = k then (fo c p r).1 j - m else (fo c p r).1 j) 0 10 + ((fo c p r).2.1 + m) = _
      omega
    · show 0 ≤ (fo c p r).2.1 + m
      omega
    · show (fo c p r).2.1 + m ≤ 80
      omega
    · show (if 0 < m then k else (fo c p r).2.2.1) = -1 ∨ 0 ≤ (if 0 < m then k else (fo c p r).2.2.1) ∧ (if 0 < m then k else (fo c p r).2.2.1) < c 0
      split
      · exact Or.inr kb
      · exact i4
    · show (if m = 0 ∧ (fo c p r).2.1 < m_S c (34 + 10 * p) 10 ∧ (fo c p r).2.2.2 < 0 then (r : Int) else (fo c p r).2.2.2) = -1 ∨ 0 ≤ (if m = 0 ∧ (fo c p r).2.1 < m_S c (34 + 10 * p) 10 ∧ (fo c p r).2.2.2 < 0 then (r : Int) else (fo c p r).2.2.2)
      split
      · exact Or.inr (Int.natCast_nonneg r)
      · exact i5
    · intro h
      have h' : (fo c p r).2.1 + m ≠ 0 := h
      show (if 0 < m then k else (fo c p r).2.2.1) ≠ -1
      split
      · omega
      · exact i6 (by omega)
/-- rid of all: nothing more -/
theorem fo_stay1 (hG : m_G c) (hp : 0 ≤ p ∧ p < 6) {r : Nat} (h : (fo c p r).2.1 = m_S c (34 + 10 * p) 10) : (fo c p (r + 1)).2 = (fo c p r).2 := by
  obtain ⟨i1, i2, i3, i4, i5, i6⟩ := fo_inv hG hp r
  have b4 := hG.1.2.2.1
  have h0 := hG.1.1
  have kb := fa_K_b hG (fa_w c p + c 7 + (r : Int) * c 2)
  have kb' : 0 ≤ fa_k c p (r : Int) ∧ fa_k c p (r : Int) < c 0 := kb
  have ge := m_S_ge (c := (fo c p r).1) (b := 0) (A := fa_k c p (r : Int)) (n := 10) (fun j j0 j1 => (i1 j j0 (by omega)).1) kb'.1 (by omega)
  have rk := i1 (fa_k c p (r : Int)) kb'.1 (by omega)
  have z : fo_m (c 4) ((fo c p r).1 (fa_k c p (r : Int))) = 0 := by
    unfold fo_m
    rw [if_pos (by omega)]
    omega
  show ((fo c p r).2.1 + fo_m (c 4) ((fo c p r).1 (fa_k c p (r : Int))), (if 0 < fo_m (c 4) ((fo c p r).1 (fa_k c p (r : Int))) then fa_k c p (r : Int) else (fo c p r).2.2.1), if fo_m (c 4) ((fo c p r).1 (fa_k c p (r : Int))) = 0 ∧ (fo c p r).2.1 < m_S c (34 + 10 * p) 10 ∧ (fo c p r).2.2.2 < 0 then (r : Int) else (fo c p r).2.2.2) = _
  rw [z, if_neg (by omega), if_neg (by omega), Int.add_zero]
theorem fo_stay (hG : m_G c) (hp : 0 ≤ p ∧ p < 6) {r : Nat} (h : (fo c p r).2.1 = m_S c (34 + 10 * p) 10) (k : Nat) : (fo c p (r + k)).2 = (fo c p r).2 := by
  induction k with
  | zero => rfl
  | succ k ih =>
    have e : (fo c p (r + k)).2.1 = m_S c (34 + 10 * p) 10 := by rw [ih]; exact h
    exact (fo_stay1 hG hp e).trans ih
theorem fo_r_s (r : Nat) : (fo_r c p r = -1 ↔ ∀ k, k ≤ r → (fo c p k).2.1 ≠ m_S c (34 + 10 * p) 10) ∧ (fo_r c p r ≠ -1 → 0 ≤ fo_r c p r ∧ fo_r c p r ≤ (r : Int) ∧ (fo c p (fo_r c p r).toNat).2.1 = m_S c (34 + 10 * p) 10 ∧ ∀ k : Nat, (k : Int) < fo_r c p r → (fo c p k).2.1 ≠ m_S c (34 + 10 * p) 10) := by
  induction r with
  | zero =>
    have e : fo_r c p 0 = if m_S c (34 + 10 * p) 10 = 0 then 0 else -1 := rfl
    have e0 : (fo c p 0).2.1 = 0 := rfl
    rw [e]
    by_cases q : m_S c (34 + 10 * p) 10 = 0
    · rw [if_pos q]
      refine ⟨⟨fun h => by omega, fun h => absurd (e0.trans q.symm) (h 0 (Nat.le_refl 0))⟩, fun _ => ⟨by decide, by decide, ?_, fun k h => by omega⟩⟩
      exact e0.trans q.symm
    · rw [if_neg q]
      refine ⟨⟨fun _ k hk => ?_, fun _ => rfl⟩, fun h => absurd rfl h⟩
      have : k = 0 := by omega
      rw [this, e0]
      exact fun z => q z.symm
  | succ r ih =>
    obtain ⟨ih1, ih2⟩ := ih
    have e : fo_r c p (r + 1) = if fo_r c p r = -1 then (if (fo c p (r + 1)).2.1 = m_S c (34 + 10 * p) 10 then (r : Int) + 1 else -1) else fo_r c p r := rfl
    rw [e]
    by_cases q : fo_r c p r = -1
    · rw [if_pos q]
      have old := ih1.mp q
      by_cases q2 : (fo c p (r + 1)).2.1 = m_S c (34 + 10 * p) 10
      · rw [if_pos q2]
        refine ⟨⟨fun h => by omega, fun h => absurd q2 (h (r + 1) (Nat.le_refl _))⟩, fun _ => ⟨by omega, by omega, ?_, fun k h => old k (by omega)⟩⟩
        have : ((r : Int) + 1).toNat = r + 1 := by omega
        rw [this]
        exact q2
      · rw [if_neg q2]
        refine ⟨⟨fun _ k hk => ?_, fun _ => rfl⟩, fun h => absurd rfl h⟩
        by_cases hk' : k = r + 1
        · rw [hk']; exact q2
        · exact old k (by omega)
    · rw [if_neg q]
      have i := ih2 q
      refine ⟨⟨fun h => absurd h q, fun h => absurd i.2.2.1 (h _ (by omega))⟩, fun _ => ⟨i.1, by omega, i.2.2.1, i.2.2.2⟩⟩
/-- rid stays -/
theorem fo_r_stay {r : Nat} (h : fo_r c p r ≠ -1) (k : Nat) : fo_r c p (r + k) = fo_r c p r := by
  induction k with
  | zero => rfl
  | succ k ih =>
    have e : fo_r c p (r + k + 1) = if fo_r c p (r + k) = -1 then (if (fo c p (r + k + 1)).2.1 = m_S c (34 + 10 * p) 10 then ((r + k : Nat) : Int) + 1 else -1) else fo_r c p (r + k) := rfl
    show fo_r c p (r + k + 1) = _
    rw [e, if_neg (by rw [ih]; exact h), ih]
/-- done once rid -/
theorem fo_done (hG : m_G c) (hp : 0 ≤ p ∧ p < 6) {r t : Nat} (hr : r ≤ t) (h : fo_r c p r ≠ -1) : (fo c p t).2 = (fo c p r).2 ∧ fo_r c p t = fo_r c p r := by
  obtain ⟨k, ek⟩ : ∃ k, t = r + k := ⟨t - r, by omega⟩
  have i := (fo_r_s (c := c) (p := p) r).2 h
  have s := fo_stay hG hp i.2.2.1 (r - (fo_r c p r).toNat)
  have e2 : (fo_r c p r).toNat + (r - (fo_r c p r).toNat) = r := by omega
  rw [e2] at s
  have h2 : (fo c p r).2.1 = m_S c (34 + 10 * p) 10 := by rw [s]; exact i.2.2.1
  rw [ek]
  exact ⟨fo_stay hG hp h2 k, fo_r_stay h k⟩
end FO
section QD
variable {X : XW} {lb : Nat → Nat} {g o C a : Nat} {σ τ : ST} {V : Nat → Int → Int} {c : Int → Int} {n : Int}
/-- what the class holds ahead of turn r -/
def fo_C (V V1 : Nat → Int → Int) (c : Int → Int) (p : Int) (r : Nat) : Prop := (∀ (id : Nat) (i : Int), id ≠ 24 → (id ≠ 0 ∨ i ≤ 10) → V1 id i = V id i) ∧ (∀ j : Int, 0 ≤ j → j < c 0 → V1 24 j = (fo c p r).1 j) ∧ V1 0 11 = (fo c p r).2.1 ∧ V1 0 12 = fo_r c p r ∧ V1 0 13 = (fo c p r).2.2.1 ∧ V1 0 14 = (fo c p r).2.2.2
theorem fo_CL (Y : y_S X lb) (G : y_G X lb g o) (Rg : rg V c) (hG : m_G c) {v1 v2 u : Int32} {p : Int} {t : Nat} (hv : v1.toInt = p) (hp : 0 ≤ p ∧ p < c 2) (h2 : v2.toInt = (t : Int)) (ht : t ≤ 60) (hu : u.toInt = m_S c (34 + 10 * p) 10) (fu : Nat) : ∀ (x : Int32) (σ1 : ST) (V1 : Nat → Int → Int) (r : Nat), (2147483647 - x.toInt).toNat < fu → x.toInt = (r : Int) → r ≤ t → y_W X lb g o σ σ1 V1 → fo_C V V1 c p r → ∃ V2 : Nat → Int → Int, y_W X lb g o σ (F_X0_foresee_L83_4 X v2 g v1 u fu x σ1) V2 ∧ V2 0 11 = (fo c p t).2.1 ∧ V2 0 12 = fo_r c p t ∧ V2 0 13 = (fo c p t).2.2.1 ∧ V2 0 14 = (fo c p t).2.2.2 ∧ ∀ (id : Nat) (i : Int), id ≠ 24 → (id ≠ 0 ∨ i ≤ 10) → V2 id i = V id i := by
  have b2 := hG.1.2.1
  have b4 := hG.1.2.2.1
  have h0 := hG.1.1
  have hp6 : 0 ≤ p ∧ p < 6 := ⟨hp.1, by omega⟩
  have n24 : ((y_gn 24 : Nat) : Int) = 10 := rfl
  induction fu with
  | zero => intro x σ1 V1 r h; exact absurd h (Nat.not_lt_zero _)
  | succ fu ih =>
    intro x σ1 V1 r hf hx hr w F
    obtain ⟨F0, F24, F11, F12, F13, F14⟩ := F
    have e12 : (σ1.1 g 12).toInt = fo_r c p r := (w.rd (id := 0) (by decide) 12 rfl).trans F12
    rw [F_X0_foresee_L83_4_s]
    unfold F_X0_foresee_B83_4
    rw [h2, hx]
    by_cases q : (r : Int) < (t : Int)
    · rw [if_pos q, q_letE (σ1.1 g 12), e12]
      by_cases q12 : fo_r c p r = -1
      · rw [if_pos q12]
        obtain ⟨i1, i2, i3, i4, i5, i6⟩ := fo_inv hG hp6 r
        have R1 : rg V1 c := Rg.w hG (fun id i h1 h2 h3 => F0 id i h2 (by omega))
        have fk := fa_falling Y G w.2.2 R1 hG hv hp (x := x) hx ⟨by omega, by omega⟩
        have kb : 0 ≤ fa_k c p (r : Int) ∧ fa_k c p (r : Int) < c 0 := fa_K_b hG _
        obtain ⟨k, hk⟩ : ∃ k, k = fa_k c p (r : Int) := ⟨_, rfl⟩
        rw [← hk] at fk kb
        rw [q_letE (F_X0_fallingKind X σ1 g v1 x)]
        obtain ⟨y, ey⟩ : ∃ y, y = F_X0_fallingKind X σ1 g v1 x := ⟨_, rfl⟩
        rw [← ey] at fk ⊢
        have g21 : (F_X5_get X σ1 (q_rf X g 10) y).toInt = (fo c p r).1 k := (y_getI Y G w (id := 24) (r := q_rf X g 10) ⟨by decide, by decide⟩ rfl fk kb.1 (by rw [n24]; omega)).trans (F24 k kb.1 kb.2)
        have g23 : (σ1.1 (q_rf X g 0) 3).toInt = c 4 := (w.rd (id := 1) (by decide) 3 rfl).trans R1.1.2.2.2.1
        have rk := i1 k kb.1 (by omega)
        have nb := fo_m_b (m := c 4) b4.1 rk.1
        have g24 : (F_J9_min_7cf53 X σ1 (F_X5_get X σ1 (q_rf X g 10) y) (σ1.1 (q_rf X g 0) 3)).toInt = fo_m (c 4) ((fo c p r).1 k) := by
          rw [gm_min, g21, g23]
          unfold fo_m
          split <;> split <;> omega
        rw [q_letE (F_X5_get X σ1 (q_rf X g 10) y), q_letE (σ1.1 (q_rf X g 0) 3), q_letE (F_J9_min_7cf53 X σ1 (F_X5_get X σ1 (q_rf X g 10) y) (σ1.1 (q_rf X g 0) 3))]
        obtain ⟨z, ez⟩ : ∃ z, z = F_J9_min_7cf53 X σ1 (F_X5_get X σ1 (q_rf X g 10) y) (σ1.1 (q_rf X g 0) 3) := ⟨_, rfl⟩
        rw [← ez] at g24 ⊢
        obtain ⟨m, hm⟩ : ∃ m, m = fo_m (c 4) ((fo c p r).1 k) := ⟨_, rfl⟩
        rw [← hm] at g24 nb
        have st : fo c p (r + 1) = (fun j => if j = k then (fo c p r).1 j - m else (fo c p r).1 j, (fo c p r).2.1 + m, (if 0 < m then k else (fo c p r).2.2.1), if m = 0 ∧ (fo c p r).2.1 < m_S c (34 + 10 * p) 10 ∧ (fo c p r).2.2.2 < 0 then (r : Int) else (fo c p r).2.2.2) := by
          rw [hm, hk]
          rfl
        have sr : fo_r c p (r + 1) = if (fo c p r).2.1 + m = m_S c (34 + 10 * p) 10 then (r : Int) + 1 else -1 := by
          show (if fo_r c p r = -1 then (if (fo c p (r + 1)).2.1 = m_S c (34 + 10 * p) 10 then (r : Int) + 1 else -1) else fo_r c p r) = _
          rw [if_pos q12, st]
        have ne := (fo_r_s (c := c) (p := p) r).1.mp q12 r (Nat.le_refl r)
        have nS : 0 ≤ m_S (fo c p r).1 0 10 := m_S_nn (fun j j0 j1 => (i1 j j0 (by omega)).1)
        have wa := w.add Y G (id := 24) (r := q_rf X g 10) ⟨by decide, by decide⟩ rfl y (-z) (by rw [fk]; exact kb.1) (by rw [fk, n24]; omega)
        rw [fk, F24 k kb.1 kb.2, ar_neg, g24, ar_wr (n := -m) (by omega) (by omega), ar_wr (by omega) (by omega)] at wa
        rw [q_letE (-z), q_letE (F_X5_add X σ1 (q_rf X g 10) y (-z))]
        obtain ⟨σ2, e2⟩ : ∃ s, s = F_X5_add X σ1 (q_rf X g 10) y (-z) := ⟨_, rfl⟩
        rw [← e2] at wa ⊢
        have f29 : (σ2.1 g 11).toInt = (fo c p r).2.1 := (wa.rd (id := 0) (by decide) 11 rfl).trans ((y_up_ne (Or.inl (by decide))).trans F11)
        have e30 : (σ2.1 g 11 + z).toInt = (fo c p r).2.1 + m := by rw [ar_add, f29, g24, ar_wr (by omega) (by omega)]
        rw [q_letE (σ2.1 g 11), q_letE (σ2.1 g 11 + z), q_letE (q_si σ2 g 11 (σ2.1 g 11 + z))]
        have wb : y_W X lb g o σ (q_si σ2 g 11 (σ2.1 g 11 + z)) (y_up (y_up V1 24 k ((fo c p r).1 k + -m)) 0 11 (σ2.1 g 11 + z).toInt) := wa.si Y G (id := 0) (by decide) 11 _
        rw [e30] at wb
        obtain ⟨σ3, e3⟩ : ∃ s, s = q_si σ2 g 11 (σ2.1 g 11 + z) := ⟨_, rfl⟩
        rw [← e3] at wb ⊢
        obtain ⟨V3, hV3⟩ : ∃ v, v = y_up (y_up V1 24 k ((fo c p r).1 k + -m)) 0 11 ((fo c p r).2.1 + m) := ⟨_, rfl⟩
        rw [← hV3] at wb
        have V3a : ∀ (id : Nat) (i : Int), id ≠ 24 → (id ≠ 0 ∨ i ≤ 10) → V3 id i = V id i := fun id i h1 h2 => by
          rw [hV3, y_up_ne (by omega), y_up_ne (Or.inl h1)]
          exact F0 id i h1 h2
        have V3b : ∀ j : Int, 0 ≤ j → j < c 0 → V3 24 j = (fo c p (r + 1)).1 j := fun j j0 j1 => by
          rw [hV3, y_up_ne (Or.inl (by decide)), st]
          show _ = if j = k then (fo c p r).1 j - m else (fo c p r).1 j
          by_cases e : j = k
          · rw [if_pos e, e, y_up_eq]; omega
          · rw [if_neg e, y_up_ne (Or.inr e)]; exact F24 j j0 j1
        have V3c : V3 0 11 = (fo c p r).2.1 + m := by rw [hV3, y_up_eq]
        have V3d : ∀ i : Int, i ≠ 11 → V3 0 i = V1 0 i := fun i h => by rw [hV3, y_up_ne (Or.inr h), y_up_ne (Or.inl (by decide))]
        have x1 : (x + 1).toInt = ((r + 1 : Nat) : Int) := by rw [y_inc (by omega), hx]; omega
        -- the end of a turn
        have fin : ∀ (σ4 : ST) (V4 : Nat → Int → Int), y_W X lb g o σ σ4 V4 → (∀ (id : Nat) (i : Int), (id ≠ 0 ∨ i ≠ 13 ∧ i ≠ 14) → V4 id i = V3 id i) → V4 0 13 = (fo c p (r + 1)).2.2.1 → V4 0 14 = (fo c p (r + 1)).2.2.2 → ∀ A B : ST, A = F_X0_foresee_L83_4 X v2 g v1 u fu (x + 1) (q_si σ4 g 12 (x + 1)) → B = F_X0_foresee_L83_4 X v2 g v1 u fu (x + 1) σ4 → ∃ V2 : Nat → Int → Int, y_W X lb g o σ (if (σ4.1 g 11).toInt = u.toInt then A else B) V2 ∧ V2 0 11 = (fo c p t).2.1 ∧ V2 0 12 = fo_r c p t ∧ V2 0 13 = (fo c p t).2.2.1 ∧ V2 0 14 = (fo c p t).2.2.2 ∧ ∀ (id : Nat) (i : Int), id ≠ 24 → (id ≠ 0 ∨ i ≤ 10) → V2 id i = V id i := by
          intro σ4 V4 w4 k4 k13 k14 A B eA eB
          have f11 : (σ4.1 g 11).toInt = (fo c p r).2.1 + m := (w4.rd (id := 0) (by decide) 11 rfl).trans ((k4 0 11 (Or.inr (by decide))).trans V3c)
          rw [f11, hu]
          by_cases qe : (fo c p r).2.1 + m = m_S c (34 + 10 * p) 10
          · rw [if_pos qe, eA]
            have w5 : y_W X lb g o σ (q_si σ4 g 12 (x + 1)) (y_up V4 0 12 (x + 1).toInt) := w4.si Y G (id := 0) (by decide) 12 _
            refine ih (x + 1) _ _ (r + 1) (by omega) x1 (by omega) w5 ⟨fun id i h1 h2 => ?_, fun j j0 j1 => ?_, ?_, ?_, ?_, ?_⟩
            · rw [y_up_ne (by omega), k4 id i (by omega)]; exact V3a id i h1 h2
            · rw [y_up_ne (Or.inl (by decide)), k4 24 j (Or.inl (by decide))]; exact V3b j j0 j1
            · rw [y_up_ne (Or.inr (by decide)), k4 0 11 (Or.inr (by decide)), V3c, st]
            · rw [y_up_eq, sr, if_pos qe, x1]; omega
            · rw [y_up_ne (Or.inr (by decide))]; exact k13
            · rw [y_up_ne (Or.inr (by decide))]; exact k14
          · rw [if_neg qe, eB]
            refine ih (x + 1) _ _ (r + 1) (by omega) x1 (by omega) w4 ⟨fun id i h1 h2 => ?_, fun j j0 j1 => ?_, ?_, ?_, k13, k14⟩
            · rw [k4 id i (by omega)]; exact V3a id i h1 h2
            · rw [k4 24 j (Or.inl (by decide))]; exact V3b j j0 j1
            · rw [k4 0 11 (Or.inr (by decide)), V3c, st]
            · rw [k4 0 12 (Or.inr (by decide)), V3d 12 (by decide), F12, q12, sr, if_neg qe]
        rw [g24]
        by_cases qm : 0 < m
        · have w4 : y_W X lb g o σ (q_si σ3 g 13 y) (y_up V3 0 13 y.toInt) := wb.si Y G (id := 0) (by decide) 13 _
          rw [if_pos qm, q_letE (q_si σ3 g 13 y), q_letE ((q_si σ3 g 13 y).1 g 11)]
          refine fin _ _ w4 (fun id i h => y_up_ne (by omega)) ?_ ?_ _ _ (by rw [q_letE (x + 1), q_letE (q_si (q_si σ3 g 13 y) g 12 (x + 1)), q_letE (x + 1)]) (by rw [q_letE (x + 1)])
          · rw [y_up_eq, st, fk]
            show k = if 0 < m then k else (fo c p r).2.2.1
            rw [if_pos qm]
          · rw [y_up_ne (Or.inr (by decide)), V3d 14 (by decide), F14, st]
            show _ = if m = 0 ∧ (fo c p r).2.1 < m_S c (34 + 10 * p) 10 ∧ (fo c p r).2.2.2 < 0 then (r : Int) else (fo c p r).2.2.2
            rw [if_neg (by omega)]
        · have m0 : m = 0 := by omega
          have f33 : (σ3.1 g 14).toInt = (fo c p r).2.2.2 := (wb.rd (id := 0) (by decide) 14 rfl).trans ((V3d 14 (by decide)).trans F14)
          rw [if_neg qm, q_letE (σ3.1 g 14), f33]
          have k13 : V3 0 13 = (fo c p (r + 1)).2.2.1 := by
            rw [V3d 13 (by decide), F13, st]
            show _ = if 0 < m then k else (fo c p r).2.2.1
            rw [if_neg qm]
          by_cases ql : (fo c p r).2.2.2 = -1
          · have w4 : y_W X lb g o σ (q_si σ3 g 14 x) (y_up V3 0 14 x.toInt) := wb.si Y G (id := 0) (by decide) 14 _
            rw [if_pos ql, q_letE (q_si σ3 g 14 x), q_letE ((q_si σ3 g 14 x).1 g 11)]
            refine fin _ _ w4 (fun id i h => y_up_ne (by omega)) ?_ ?_ _ _ (by rw [q_letE (x + 1), q_letE (q_si (q_si σ3 g 14 x) g 12 (x + 1)), q_letE (x + 1)]) (by rw [q_letE (x + 1)])
            · rw [y_up_ne (Or.inr (by decide))]; exact k13
            · rw [y_up_eq, st, hx]
              show (r : Int) = if m = 0 ∧ (fo c p r).2.1 < m_S c (34 + 10 * p) 10 ∧ (fo c p r).2.2.2 < 0 then (r : Int) else (fo c p r).2.2.2
              rw [if_pos ⟨m0, by omega, by omega⟩]
          · rw [if_neg ql, q_letE (σ3.1 g 11)]
            refine fin _ _ wb (fun id i h => rfl) k13 ?_ _ _ (by rw [q_letE (x + 1), q_letE (q_si σ3 g 12 (x + 1)), q_letE (x + 1)]) (by rw [q_letE (x + 1)])
            rw [V3d 14 (by decide), F14, st]
            show _ = if m = 0 ∧ (fo c p r).2.1 < m_S c (34 + 10 * p) 10 ∧ (fo c p r).2.2.2 < 0 then (r : Int) else (fo c p r).2.2.2
            rw [if_neg (by omega)]
      · obtain ⟨d1, d2⟩ := fo_done hG hp6 hr q12
        rw [if_neg q12]
        exact ⟨V1, w, by rw [d1]; exact F11, by rw [d2]; exact F12, by rw [d1]; exact F13, by rw [d1]; exact F14, F0⟩
    · have e : r = t := by omega
      rw [if_neg q, ← e]
      exact ⟨V1, w, F11, F12, F13, F14, F0⟩
theorem fo_CK (Y : y_S X lb) (G : y_G X lb g o) (Rg : rg V c) (hG : m_G c) {v1 v2 u : Int32} {p : Int} (hv : v1.toInt = p) (hp : 0 ≤ p ∧ p < c 2) (fu : Nat) : ∀ (x : Int32) (σ1 : ST) (V1 : Nat → Int → Int), (2147483647 - x.toInt).toNat < fu → 0 ≤ x.toInt → x.toInt ≤ c 0 → y_W X lb g o σ σ1 V1 → (∀ (id : Nat) (i : Int), id ≠ 24 → V1 id i = V id i) → (∀ j : Int, 0 ≤ j → j < x.toInt → V1 24 j = c (34 + 10 * p + j)) → ∃ (σ2 : ST) (V2 : Nat → Int → Int), F_X0_foresee_L15_1 X g v1 u v2 fu x σ1 = F_X0_foresee_E52_6 X σ2 g u v2 v1 ∧ y_W X lb g o σ σ2 V2 ∧ (∀ (id : Nat) (i : Int), id ≠ 24 → V2 id i = V id i) ∧ ∀ j : Int, 0 ≤ j → j < c 0 → V2 24 j = c (34 + 10 * p + j) := by
  have b2 := hG.1.2.1
  have h0 := hG.1.1
  have n24 : ((y_gn 24 : Nat) : Int) = 10 := rfl
  induction fu with
  | zero => intro x σ1 V1 h; exact absurd h (Nat.not_lt_zero _)
  | succ fu ih =>
    intro x σ1 V1 hf x0 x1 w k1 k2
    have f0 : (σ1.1 (q_rf X g 0) 0).toInt = c 0 := (w.rd (id := 1) (by decide) 0 rfl).trans ((k1 1 0 (by decide)).trans Rg.1.1)
    rw [F_X0_foresee_L15_1_s]
    unfold F_X0_foresee_B15_1
    rw [q_letE (σ1.1 (q_rf X g 0) 0), f0]
    by_cases q : x.toInt < c 0
    · have e1 : (x + 1).toInt = x.toInt + 1 := y_inc (by omega)
      have hh : (F_X1_heldBy X σ1 (q_rf X g 1) v1 x).toInt = c (34 + 10 * p + x.toInt) := by
        rw [gm_held Y G w hv rfl ⟨hp.1, by omega⟩ ⟨x0, by omega⟩, k1 7 _ (by decide), Rg.2.2.2.1.1 _ (by omega) (by omega)]
        congr 1
        omega
      have w2 := w.set Y G (id := 24) (r := q_rf X g 10) ⟨by decide, by decide⟩ rfl x (F_X1_heldBy X σ1 (q_rf X g 1) v1 x) x0 (by rw [n24]; omega)
      rw [hh] at w2
      rw [if_pos q, q_letE (F_X1_heldBy X σ1 (q_rf X g 1) v1 x), q_letE (F_X5_set X σ1 (q_rf X g 10) x (F_X1_heldBy X σ1 (q_rf X g 1) v1 x)), q_letE (x + 1)]
      refine ih (x + 1) _ _ (by omega) (by omega) (by omega) w2 (fun id i h => by rw [y_up_ne (Or.inl h)]; exact k1 id i h) (fun j j0 j1 => ?_)
      by_cases e : j = x.toInt
      · rw [e, y_up_eq]
      · rw [y_up_ne (Or.inr e)]; exact k2 j j0 (by omega)
    · rw [if_neg q]
      exact ⟨σ1, V1, rfl, w, k1, fun j j0 j1 => k2 j j0 (by omega)⟩
/-- the class looks ahead -/
theorem fo_class (Y : y_S X lb) (G : y_G X lb g o) (hV : y_v X g σ = V) (Rg : rg V c) (hG : m_G c) {v1 v2 : Int32} {p : Int} {t : Nat} (hv : v1.toInt = p) (hp : 0 ≤ p ∧ p < c 2) (h2 : v2.toInt = (t : Int)) (ht : t ≤ 60) : ∃ V2 : Nat → Int → Int, y_W X lb g o σ (F_X0_foresee X σ g v1 v2) V2 ∧ V2 0 11 = (fo c p t).2.1 ∧ V2 0 12 = fo_r c p t ∧ V2 0 13 = (fo c p t).2.2.1 ∧ V2 0 14 = (fo c p t).2.2.2 ∧ ∀ (id : Nat) (i : Int), id ≠ 24 → (id ≠ 0 ∨ i ≤ 10) → V2 id i = V id i := by
  have b2 := hG.1.2.1
  have h0 := hG.1.1
  have w := pl_W (lb := lb) (o := o) hV
  have n9 : ((y_gn 9 : Nat) : Int) = 6 := rfl
  have z0 : (0 : Int32).toInt = 0 := rfl
  have m1 : ((-1) : Int32).toInt = -1 := rfl
  have cu : (F_X5_get X σ (q_rf X (q_rf X g 1) 2) v1).toInt = m_S c (34 + 10 * p) 10 := (y_getI Y G w (id := 9) (r := q_rf X (q_rf X g 1) 2) ⟨by decide, by decide⟩ rfl hv hp.1 (by rw [n9]; omega)).trans (Rg.2.2.2.1.2 p hp.1 (by omega))
  unfold F_X0_foresee
  rw [q_letE (F_X5_get X σ (q_rf X (q_rf X g 1) 2) v1)]
  obtain ⟨u, hu⟩ : ∃ u, u = F_X5_get X σ (q_rf X (q_rf X g 1) 2) v1 := ⟨_, rfl⟩
  rw [← hu] at cu ⊢
  obtain ⟨σ2, V2, e2, w2, k2, l2⟩ := fo_CK (v2 := v2) (u := u) Y G Rg hG hv hp ((2147483647 - (0 : Int32).toInt).toNat + 1) 0 σ V (Nat.lt_succ_self _) (by decide) (by rw [z0]; omega) w (fun _ _ _ => rfl) (fun j j0 j1 => by rw [z0] at j1; omega)
  rw [e2]
  unfold F_X0_foresee_E52_6
  rw [q_letE (q_si σ2 g 11 0)]
  have w3 : y_W X lb g o σ (q_si σ2 g 11 0) (y_up V2 0 11 (0 : Int32).toInt) := w2.si Y G (id := 0) (by decide) 11 _
  have tail : ∀ y : Int32, y.toInt = fo_r c p 0 → ∃ V3 : Nat → Int → Int, y_W X lb g o σ (F_X0_foresee_J67_3 X (q_si σ2 g 11 0) g v2 v1 u y) V3 ∧ V3 0 11 = (fo c p t).2.1 ∧ V3 0 12 = fo_r c p t ∧ V3 0 13 = (fo c p t).2.2.1 ∧ V3 0 14 = (fo c p t).2.2.2 ∧ ∀ (id : Nat) (i : Int), id ≠ 24 → (id ≠ 0 ∨ i ≤ 10) → V3 id i = V id i := by
    intro y hy
    unfold F_X0_foresee_J67_3
    rw [q_letE, q_letE, q_letE]
    have w4 : y_W X lb g o σ (q_si (q_si σ2 g 11 0) g 12 y) (y_up (y_up V2 0 11 (0 : Int32).toInt) 0 12 y.toInt) := w3.si Y G (id := 0) (by decide) 12 _
    have w5 : y_W X lb g o σ (q_si (q_si (q_si σ2 g 11 0) g 12 y) g 13 (-1)) (y_up (y_up (y_up V2 0 11 (0 : Int32).toInt) 0 12 y.toInt) 0 13 ((-1) : Int32).toInt) := w4.si Y G (id := 0) (by decide) 13 _
    have w6 : y_W X lb g o σ (q_si (q_si (q_si (q_si σ2 g 11 0) g 12 y) g 13 (-1)) g 14 (-1)) (y_up (y_up (y_up (y_up V2 0 11 (0 : Int32).toInt) 0 12 y.toInt) 0 13 ((-1) : Int32).toInt) 0 14 ((-1) : Int32).toInt) := w5.si Y G (id := 0) (by decide) 14 _
    refine fo_CL Y G Rg hG hv hp h2 ht cu _ 0 _ _ 0 (Nat.lt_succ_self _) z0 (Nat.zero_le _) w6 ⟨fun id i i1 i2 => ?_, fun j j0 j1 => ?_, ?_, ?_, ?_, ?_⟩
    · rw [y_up_ne (by omega), y_up_ne (by omega), y_up_ne (by omega), y_up_ne (by omega)]
      exact k2 id i i1
    · rw [y_up_ne (Or.inl (by decide)), y_up_ne (Or.inl (by decide)), y_up_ne (Or.inl (by decide)), y_up_ne (Or.inl (by decide))]
      exact l2 j j0 j1
    · rw [y_up_ne (Or.inr (by decide)), y_up_ne (Or.inr (by decide)), y_up_ne (Or.inr (by decide)), y_up_eq]; rfl
    · rw [y_up_ne (Or.inr (by decide)), y_up_ne (Or.inr (by decide)), y_up_eq]; exact hy
    · rw [y_up_ne (Or.inr (by decide)), y_up_eq]; rfl
    · rw [y_up_eq]; rfl
  have r0 : fo_r c p 0 = if m_S c (34 + 10 * p) 10 = 0 then 0 else -1 := rfl
  rw [cu]
  by_cases q : m_S c (34 + 10 * p) 10 = 0
  · rw [if_pos q]
    exact tail 0 (by rw [r0, if_pos q]; rfl)
  · rw [if_neg q]
    exact tail (-1) (by rw [r0, if_neg q]; rfl)
end QD
end
/-! FROM 59e.honest.lean.txt -/
section
/-! OBSERVERS: honestly, rid, lastKind, mustLie, soonest -/
section QE
variable {X : XW} {lb : Nat → Nat} {g o C a : Nat} {σ τ : ST} {V : Nat → Int → Int} {c : Int → Int} {n : Int}
/-- what the reference writes as it looks ahead -/
def fo_S (X : XW) (a : Nat) (b f : Nat) : Prop := b = q_rf X a 32 ∨ b = a ∧ (f = 33 ∨ f = 34 ∨ f = 35)
/-- what the reference holds ahead of turn r -/
def fo_M (X : XW) (a : Nat) (τ1 : ST) (c : Int → Int) (p : Int) (r : Nat) : Prop := (∀ j : Int, 0 ≤ j → j < 10 → (τ1.1 (q_rf X a 32) j.toNat).toInt = (fo c p r).1 j) ∧ (τ1.1 a 33).toInt = (fo c p r).2.1 ∧ (τ1.1 a 34).toInt = (fo c p r).2.2.1 ∧ (τ1.1 a 35).toInt = (fo c p r).2.2.2
theorem fo_k32 (hT : q_T X) (ha : q_kd X a = 12) : q_rf X a 32 ≠ a ∧ q_rf X a 32 ≠ q_rf X a 20 := by
  have k32 : q_kd X (q_rf X a 32) = 38 := (hT.1 a 32 (by rw [ha]; decide)).trans (by rw [ha]; rfl)
  exact ⟨m_ne k32 ha (by decide), m_ne k32 (tb_k hT ha).1 (by decide)⟩
theorem fo_Sc (hT : q_T X) (ha : q_kd X a = 12) {τ1 : ST} (h : tkl (fo_S X a) (fun _ _ => False) τ τ1) : m_c X τ1 a = m_c X τ a := pl_mc (fun f => h.1 _ f (by
  rintro (z | ⟨z, -⟩)
  · exact (fo_k32 hT ha).2 z.symm
  · exact (m_ne (tb_k hT ha).1 ha (by decide)) z))
theorem fo_ML (Y : y_S X lb) (ha : q_kd X a = 12) (hG : m_G c) (h3 : 0 ≤ c 3 ∧ c 3 ≤ 2) (hc : m_c X τ a = c) {v1 v2 : Int32} {p : Int} {t : Nat} (hv : v1.toInt = p) (hp : 0 ≤ p ∧ p < c 2) (h2 : v2.toInt = (t : Int)) (ht : t ≤ 60) (fu : Nat) : ∀ (y x : Int32) (τ1 : ST) (r : Nat), (2147483647 - x.toInt).toNat < fu → x.toInt = (r : Int) → r ≤ t → y.toInt = m_S c (34 + 10 * p) 10 - (fo c p r).2.1 → tkl (fo_S X a) (fun _ _ => False) τ τ1 → fo_M X a τ1 c p r → ∃ (z : Int32) (τ2 : ST), F_X12_honestFor_L50_3 X v2 a v1 fu y x τ1 = (z, τ2) ∧ z.toInt = m_S c (34 + 10 * p) 10 - (fo c p t).2.1 ∧ tkl (fo_S X a) (fun _ _ => False) τ τ2 ∧ fo_M X a τ2 c p t := by
  have b2 := hG.1.2.1
  have b4 := hG.1.2.2.1
  have h0 := hG.1.1
  have hp6 : 0 ≤ p ∧ p < 6 := ⟨hp.1, by omega⟩
  obtain ⟨n32, n320⟩ := fo_k32 Y.1 ha
  have s80 := hG.S80 (p := p) (k := 10) hp6.1 hp6.2 (by decide) (by decide)
  have z10 : m_S c (34 + 10 * p) (10 : Int).toNat = m_S c (34 + 10 * p) 10 := rfl
  induction fu with
  | zero => intro y x τ1 r h; exact absurd h (Nat.not_lt_zero _)
  | succ fu ih =>
    intro y x τ1 r hf hx hr hy T F
    obtain ⟨F32, F33, F34, F35⟩ := F
    rw [F_X12_honestFor_L50_3_s]
    unfold F_X12_honestFor_B50_3
    rw [h2, hx]
    by_cases q : (r : Int) < (t : Int)
    · obtain ⟨i1, i2, i3, i4, i5, i6⟩ := fo_inv hG hp6 r
      have mc1 : m_c X τ1 a = c := (fo_Sc Y.1 ha T).trans hc
      have fk := fa_fallsTo Y hG h3 mc1 hv hp (x := x) hx ⟨by omega, by omega⟩
      have kb : 0 ≤ fa_k c p (r : Int) ∧ fa_k c p (r : Int) < c 0 := fa_K_b hG _
      obtain ⟨k, hk⟩ : ∃ k, k = fa_k c p (r : Int) := ⟨_, rfl⟩
      rw [← hk] at fk kb
      rw [if_pos q, q_letE (F_X12_fallsTo X τ1 a v1 x)]
      obtain ⟨u, eu⟩ : ∃ u, u = F_X12_fallsTo X τ1 a v1 x := ⟨_, rfl⟩
      rw [← eu] at fk ⊢
      have un : u.toNatClampNeg = k.toNat := by rw [ar_cl, fk]
      have g4 : (τ1.1 (q_rf X a 20) (4 : Int32).toNatClampNeg).toInt = c 4 := gm_cell (A := 4) mc1 rfl
      have g32 : (τ1.1 (q_rf X a 32) k.toNat).toInt = (fo c p r).1 k := F32 k kb.1 (by omega)
      have rk := i1 k kb.1 (by omega)
      have nb := fo_m_b (m := c 4) b4.1 rk.1
      have g19 : (F_J9_min_7cf53 X τ1 (τ1.1 (q_rf X a 20) (4 : Int32).toNatClampNeg) (τ1.1 (q_rf X a 32) k.toNat)).toInt = fo_m (c 4) ((fo c p r).1 k) := by
        rw [gm_min, g32, g4]
        rfl
      rw [q_letE (τ1.1 (q_rf X a 20) (4 : Int32).toNatClampNeg), un, q_letE (τ1.1 (q_rf X a 32) k.toNat), q_letE (F_J9_min_7cf53 X τ1 (τ1.1 (q_rf X a 20) (4 : Int32).toNatClampNeg) (τ1.1 (q_rf X a 32) k.toNat))]
      obtain ⟨z, ez⟩ : ∃ z, z = F_J9_min_7cf53 X τ1 (τ1.1 (q_rf X a 20) (4 : Int32).toNatClampNeg) (τ1.1 (q_rf X a 32) k.toNat) := ⟨_, rfl⟩
      rw [← ez] at g19 ⊢
      obtain ⟨m, hm⟩ : ∃ m, m = fo_m (c 4) ((fo c p r).1 k) := ⟨_, rfl⟩
      rw [← hm] at g19 nb
      have st : fo c p (r + 1) = (fun j => if j = k then (fo c p r).1 j - m else (fo c p r).1 j, (fo c p r).2.1 + m, (if 0 < m then k else (fo c p r).2.2.1), if m = 0 ∧ (fo c p r).2.1 < m_S c (34 + 10 * p) 10 ∧ (fo c p r).2.2.2 < 0 then (r : Int) else (fo c p r).2.2.2) := by
        rw [hm, hk]
        rfl
      have nS : 0 ≤ m_S (fo c p r).1 0 10 := m_S_nn (fun j j0 j1 => (i1 j j0 (by omega)).1)
      have x1 : (x + 1).toInt = ((r + 1 : Nat) : Int) := by rw [y_inc (by omega), hx]; omega
      -- the turn's end
      have tail : ∀ τ3 : ST, tkl (fo_S X a) (fun _ _ => False) τ τ3 → (∀ f, τ3.1 (q_rf X a 32) f = τ1.1 (q_rf X a 32) f) → (τ3.1 a 33).toInt = (fo c p r).2.1 → (τ3.1 a 34).toInt = (fo c p r).2.2.1 → (τ3.1 a 35).toInt = (fo c p (r + 1)).2.2.2 → ∃ (z' : Int32) (τ2 : ST), F_X12_honestFor_J105_5 X a u z y x (F_X12_honestFor_L50_3 X v2 a v1 fu) τ3 = (z', τ2) ∧ z'.toInt = m_S c (34 + 10 * p) 10 - (fo c p t).2.1 ∧ tkl (fo_S X a) (fun _ _ => False) τ τ2 ∧ fo_M X a τ2 c p t := by
        intro τ3 T3 k32 k33 k34 k35
        have e22 : (τ3.1 (q_rf X a 32) k.toNat).toInt = (fo c p r).1 k := by rw [k32]; exact g32
        have e23 : (τ3.1 (q_rf X a 32) k.toNat - z).toInt = (fo c p r).1 k - m := by rw [ar_sub, e22, g19, ar_wr (by omega) (by omega)]
        unfold F_X12_honestFor_J105_5
        rw [un, q_letE (τ3.1 (q_rf X a 32) k.toNat), q_letE (τ3.1 (q_rf X a 32) k.toNat - z), q_letE (q_si τ3 (q_rf X a 32) k.toNat (τ3.1 (q_rf X a 32) k.toNat - z))]
        obtain ⟨τ4, e4⟩ : ∃ s, s = q_si τ3 (q_rf X a 32) k.toNat (τ3.1 (q_rf X a 32) k.toNat - z) := ⟨_, rfl⟩
        have a4 : ∀ f, τ4.1 a f = τ3.1 a f := fun f => by rw [e4]; exact q_si_ne (Ne.symm n32) f
        have T4 : tkl (fo_S X a) (fun _ _ => False) τ τ4 := by rw [e4]; exact T3.si _ (Or.inl rfl)
        have r4 : ∀ j : Int, 0 ≤ j → j < 10 → (τ4.1 (q_rf X a 32) j.toNat).toInt = (fo c p (r + 1)).1 j := fun j j0 j1 => by
          rw [e4, st]
          show (if q_rf X a 32 = q_rf X a 32 ∧ j.toNat = k.toNat then τ3.1 (q_rf X a 32) k.toNat - z else τ3.1 (q_rf X a 32) j.toNat).toInt = if j = k then (fo c p r).1 j - m else (fo c p r).1 j
          by_cases e : j = k
          · rw [if_pos ⟨rfl, by rw [e]⟩, if_pos e, e23, e]
          · rw [if_neg (fun z => e (by have := z.2; omega)), if_neg e, k32]
            exact F32 j j0 j1
        rw [← e4]
        have e25 : (τ4.1 a 33).toInt = (fo c p r).2.1 := by rw [a4]; exact k33
        have e26 : (τ4.1 a 33 + z).toInt = (fo c p (r + 1)).2.1 := by
          rw [ar_add, e25, g19, ar_wr (by omega) (by omega), st]
        rw [q_letE (τ4.1 a 33), q_letE (τ4.1 a 33 + z), q_letE (q_si τ4 a 33 (τ4.1 a 33 + z)), q_letE (y - z), g19]
        obtain ⟨τ5, e5⟩ : ∃ s, s = q_si τ4 a 33 (τ4.1 a 33 + z) := ⟨_, rfl⟩
        have a5 : ∀ f, f ≠ 33 → τ5.1 a f = τ3.1 a f := fun f h => by rw [e5, si_f h]; exact a4 f
        have T5 : tkl (fo_S X a) (fun _ _ => False) τ τ5 := by rw [e5]; exact T4.si _ (Or.inr ⟨rfl, Or.inl rfl⟩)
        have r5 : ∀ f, τ5.1 (q_rf X a 32) f = τ4.1 (q_rf X a 32) f := fun f => by rw [e5]; exact q_si_ne n32 f
        have s5 : (τ5.1 a 33).toInt = (fo c p (r + 1)).2.1 := by rw [e5, si_eq]; exact e26
        rw [← e5]
        have yz : (y - z).toInt = m_S c (34 + 10 * p) 10 - (fo c p (r + 1)).2.1 := by
          rw [ar_sub, hy, g19, ar_wr (by omega) (by omega), st]
          show _ = m_S c (34 + 10 * p) 10 - ((fo c p r).2.1 + m)
          omega
        by_cases qm : 0 < m
        · rw [if_pos qm, q_letE (q_si τ5 a 34 u), q_letE (x + 1)]
          refine ih (y - z) (x + 1) _ (r + 1) (by omega) x1 (by omega) yz (T5.si _ (Or.inr ⟨rfl, Or.inr (Or.inl rfl)⟩)) ⟨fun j j0 j1 => ?_, ?_, ?_, ?_⟩
          · rw [q_si_ne n32, r5]; exact r4 j j0 j1
          · rw [si_f (by decide)]; exact s5
          · rw [si_eq, st, fk]
            show k = if 0 < m then k else (fo c p r).2.2.1
            rw [if_pos qm]
          · rw [si_f (by decide), a5 35 (by decide)]; exact k35
        · rw [if_neg qm, q_letE (τ5.1 a 34), pl_same, q_letE τ5, q_letE (x + 1)]
          refine ih (y - z) (x + 1) _ (r + 1) (by omega) x1 (by omega) yz T5 ⟨fun j j0 j1 => ?_, s5, ?_, ?_⟩
          · rw [r5]; exact r4 j j0 j1
          · rw [a5 34 (by decide), k34, st]
            show _ = if 0 < m then k else (fo c p r).2.2.1
            rw [if_neg qm]
          · rw [a5 35 (by decide)]; exact k35
      have lie : (fo c p (r + 1)).2.2.2 = if m = 0 ∧ (fo c p r).2.1 < m_S c (34 + 10 * p) 10 ∧ (fo c p r).2.2.2 < 0 then (r : Int) else (fo c p r).2.2.2 := by rw [st]
      rw [g19]
      by_cases qm : m = 0
      · rw [if_pos qm]
        by_cases qy : 0 < y.toInt
        · rw [if_pos qy, q_letE (τ1.1 a 35), F35]
          by_cases ql : (fo c p r).2.2.2 < 0
          · rw [if_pos ql, q_letE (q_si τ1 a 35 x)]
            refine tail _ (T.si _ (Or.inr ⟨rfl, Or.inr (Or.inr rfl)⟩)) (fun f => q_si_ne n32 f) (by rw [si_f (by decide)]; exact F33) (by rw [si_f (by decide)]; exact F34) ?_
            rw [si_eq, hx, lie, if_pos ⟨qm, by omega, ql⟩]
          · rw [if_neg ql]
            exact tail τ1 T (fun _ => rfl) F33 F34 (by rw [lie, if_neg (fun z => ql z.2.2)]; exact F35)
        · rw [if_neg qy]
          exact tail τ1 T (fun _ => rfl) F33 F34 (by rw [lie, if_neg (fun z => by omega)]; exact F35)
      · rw [if_neg qm]
        exact tail τ1 T (fun _ => rfl) F33 F34 (by rw [lie, if_neg (fun z => qm z.1)]; exact F35)
    · have e : r = t := by omega
      rw [if_neg q, ← e]
      exact ⟨y, τ1, rfl, hy, T, F32, F33, F34, F35⟩
theorem fo_MK (Y : y_S X lb) (ha : q_kd X a = 12) (hG : m_G c) (hc : m_c X τ a = c) {v1 v2 : Int32} {p : Int} (hv : v1.toInt = p) (hp : 0 ≤ p ∧ p < 6) (fu : Nat) : ∀ (x : Int32) (τ1 : ST), (2147483647 - x.toInt).toNat < fu → 0 ≤ x.toInt → x.toInt ≤ 10 → tkl (fo_S X a) (fun _ _ => False) τ τ1 → (∀ j : Int, 0 ≤ j → j < x.toInt → (τ1.1 (q_rf X a 32) j.toNat).toInt = c (34 + 10 * p + j)) → ∃ τ2 : ST, F_X12_honestFor_L2_1 X a v1 v2 fu x τ1 = F_X12_honestFor_E26_5 X τ2 a v1 v2 ∧ tkl (fo_S X a) (fun _ _ => False) τ τ2 ∧ ∀ j : Int, 0 ≤ j → j < 10 → (τ2.1 (q_rf X a 32) j.toNat).toInt = c (34 + 10 * p + j) := by
  obtain ⟨n32, n320⟩ := fo_k32 Y.1 ha
  induction fu with
  | zero => intro x τ1 h; exact absurd h (Nat.not_lt_zero _)
  | succ fu ih =>
    intro x τ1 hf x0 x1 T hz
    rw [F_X12_honestFor_L2_1_s]
    unfold F_X12_honestFor_B2_1
    by_cases q : x.toInt < 10
    · have e1 : (x + 1).toInt = x.toInt + 1 := y_inc (by omega)
      have mc1 : m_c X τ1 a = c := (fo_Sc Y.1 ha T).trans hc
      have hh := gm_handOf (X := X) (a := a) mc1 (y := x) hv rfl hp ⟨x0, q⟩
      rw [if_pos q, q_letE (F_X12_handOf X τ1 a v1 x), q_letE (q_si τ1 (q_rf X a 32) x.toNatClampNeg (F_X12_handOf X τ1 a v1 x)), q_letE (x + 1)]
      refine ih (x + 1) _ (by omega) (by omega) (by omega) (T.si _ (Or.inl rfl)) (fun j j0 j1 => ?_)
      show (if q_rf X a 32 = q_rf X a 32 ∧ j.toNat = x.toNatClampNeg then F_X12_handOf X τ1 a v1 x else τ1.1 (q_rf X a 32) j.toNat).toInt = _
      by_cases e : j = x.toInt
      · rw [if_pos ⟨rfl, by rw [ar_cl, e]⟩, hh, e]
      · rw [if_neg (fun z => e (by have := z.2; rw [ar_cl] at this; omega))]
        exact hz j j0 (by omega)
    · rw [if_neg q]
      exact ⟨τ1, rfl, T, fun j j0 j1 => hz j j0 (by omega)⟩
/-- the reference looks ahead -/
theorem fo_model (Y : y_S X lb) (ha : q_kd X a = 12) (hG : m_G c) (h3 : 0 ≤ c 3 ∧ c 3 ≤ 2) (hc : m_c X τ a = c) {v1 v2 : Int32} {p : Int} {t : Nat} (hv : v1.toInt = p) (hp : 0 ≤ p ∧ p < c 2) (h2 : v2.toInt = (t : Int)) (ht : t ≤ 60) : ∃ (z : Int32) (τ2 : ST), F_X12_honestFor X τ a v1 v2 = (z, τ2) ∧ z.toInt = m_S c (34 + 10 * p) 10 - (fo c p t).2.1 ∧ tkl (fo_S X a) (fun _ _ => False) τ τ2 ∧ fo_M X a τ2 c p t := by
  have b2 := hG.1.2.1
  have hp6 : 0 ≤ p ∧ p < 6 := ⟨hp.1, by omega⟩
  have z0 : (0 : Int32).toInt = 0 := rfl
  obtain ⟨n32, n320⟩ := fo_k32 Y.1 ha
  unfold F_X12_honestFor
  obtain ⟨τ2, e2, T2, k2⟩ := fo_MK (v2 := v2) Y ha hG hc hv hp6 ((2147483647 - (0 : Int32).toInt).toNat + 1) 0 τ (Nat.lt_succ_self _) (by decide) (by decide) tkl.rf (fun j j0 j1 => by rw [z0] at j1; omega)
  have mc2 : m_c X τ2 a = c := (fo_Sc Y.1 ha T2).trans hc
  have cu := gm_cardsOf (X := X) mc2 hG hv hp6
  rw [e2]
  unfold F_X12_honestFor_E26_5
  rw [q_letE (F_X12_cardsOf X τ2 a v1), q_letE (q_si τ2 a 33 0), q_letE (q_si (q_si τ2 a 33 0) a 34 (-1)), q_letE (q_si (q_si (q_si τ2 a 33 0) a 34 (-1)) a 35 (-1))]
  refine fo_ML Y ha hG h3 hc hv hp h2 ht _ _ 0 _ 0 (Nat.lt_succ_self _) z0 (Nat.zero_le _) ?_ (((T2.si _ (Or.inr ⟨rfl, Or.inl rfl⟩)).si _ (Or.inr ⟨rfl, Or.inr (Or.inl rfl)⟩)).si _ (Or.inr ⟨rfl, Or.inr (Or.inr rfl)⟩)) ⟨fun j j0 j1 => ?_, ?_, ?_, ?_⟩
  · rw [cu]
    show _ = m_S c (34 + 10 * p) 10 - 0
    omega
  · rw [q_si_ne n32, q_si_ne n32, q_si_ne n32]
    exact k2 j j0 j1
  · rw [si_f (by decide), si_f (by decide), si_eq]; rfl
  · rw [si_f (by decide), si_eq]; rfl
  · rw [si_eq]; rfl
/-- rid, in the reference -/
theorem fo_ridL (Y : y_S X lb) (ha : q_kd X a = 12) (hG : m_G c) (h3 : 0 ≤ c 3 ∧ c 3 ≤ 2) (hc : m_c X τ a = c) {v1 : Int32} {p : Int} (hv : v1.toInt = p) (hp : 0 ≤ p ∧ p < c 2) (fu : Nat) : ∀ (x : Int32) (τ1 : ST) (r : Nat), (2147483647 - x.toInt).toNat < fu → x.toInt = (r : Int) → r ≤ 61 → (∀ k : Nat, k < r → (fo c p k).2.1 ≠ m_S c (34 + 10 * p) 10) → tkl (fo_S X a) (fun _ _ => False) τ τ1 → ∃ (z : Int32) (τ2 : ST), F_X12_ridOf_L2_1 X a v1 fu x τ1 = (z, τ2) ∧ z.toInt = fo_r c p 60 ∧ tkl (fo_S X a) (fun _ _ => False) τ τ2 ∧ (fo_r c p 60 ≠ -1 → (τ2.1 a 34).toInt = (fo c p 60).2.2.1) := by
  have b2 := hG.1.2.1
  have hp6 : 0 ≤ p ∧ p < 6 := ⟨hp.1, by omega⟩
  induction fu with
  | zero => intro x τ1 r h; exact absurd h (Nat.not_lt_zero _)
  | succ fu ih =>
    intro x τ1 r hf hx hr hn T
    rw [F_X12_ridOf_L2_1_s]
    unfold F_X12_ridOf_B2_1
    rw [hx]
    by_cases q : (60 : Int) < (r : Int)
    · have e : fo_r c p 60 = -1 := (fo_r_s (c := c) (p := p) 60).1.mpr (fun k hk => hn k (by omega))
      rw [if_pos q]
      exact ⟨-1, τ1, rfl, e.symm, T, fun h => absurd e h⟩
    · have mc1 : m_c X τ1 a = c := (fo_Sc Y.1 ha T).trans hc
      obtain ⟨z, τ2, e2, e3, T2, F⟩ := fo_model Y ha hG h3 mc1 hv hp (v2 := x) (t := r) hx (by omega)
      rw [if_neg q, e2, q_biP z τ2, e3]
      by_cases q2 : m_S c (34 + 10 * p) 10 - (fo c p r).2.1 = 0
      · have s : (fo c p r).2.1 = m_S c (34 + 10 * p) 10 := by omega
        have ne : fo_r c p r ≠ -1 := fun h => (fo_r_s (c := c) (p := p) r).1.mp h r (Nat.le_refl r) s
        have ev : fo_r c p r = (r : Int) := by
          have i := (fo_r_s (c := c) (p := p) r).2 ne
          by_cases w : fo_r c p r < (r : Int)
          · exact absurd i.2.2.1 (hn _ (by omega))
          · omega
        obtain ⟨d1, d2⟩ := fo_done hG hp6 (r := r) (t := 60) (by omega) ne
        rw [if_pos q2]
        exact ⟨x, τ2, rfl, by rw [d2, ev, hx], T.tr T2, fun _ => by rw [d1]; exact F.2.2.1⟩
      · have x1 : (x + 1).toInt = ((r + 1 : Nat) : Int) := by rw [y_inc (by omega), hx]; omega
        rw [if_neg q2, q_letE (x + 1)]
        refine ih (x + 1) τ2 (r + 1) (by omega) x1 (by omega) (fun k hk => ?_) (T.tr T2)
        by_cases e : k = r
        · rw [e]; omega
        · exact hn k (by omega)
theorem fo_rid (Y : y_S X lb) (ha : q_kd X a = 12) (hG : m_G c) (h3 : 0 ≤ c 3 ∧ c 3 ≤ 2) (hc : m_c X τ a = c) {v1 : Int32} {p : Int} (hv : v1.toInt = p) (hp : 0 ≤ p ∧ p < c 2) : ∃ (z : Int32) (τ2 : ST), F_X12_ridOf X τ a v1 = (z, τ2) ∧ z.toInt = fo_r c p 60 ∧ tkl (fo_S X a) (fun _ _ => False) τ τ2 ∧ (fo_r c p 60 ≠ -1 → (τ2.1 a 34).toInt = (fo c p 60).2.2.1) :=
  fo_ridL Y ha hG h3 hc hv hp _ 0 τ 0 (Nat.lt_succ_self _) rfl (by decide) (fun k hk => absurd hk (Nat.not_lt_zero _)) tkl.rf
/-- both behind a look ahead -/
theorem fo_al (K : al_C X lb C a) (A : al_R X C a σ τ) (M : m_M (m_c X τ a) (τ.1 a 24).toInt n) {σ2 τ2 : ST} (h1 : tkl (fs_C X C) (fun _ _ => False) σ σ2) (h2 : tkl (fo_S X a) (fun _ _ => False) (q_si (q_si τ a 1 0) a 0 0) τ2) (k : Int32) (z z' : Int32) (hz : z.toInt = z'.toInt) : ob_O X C a (z, q_si σ2 C 0 k) (z', q_si τ2 a 0 k) ∧ (k = 0 → ob_O X C a (z, q_si σ2 C 0 k) (z', τ2)) := by
  obtain ⟨kC, ka, S, lC, G8, G9, GM⟩ := id K
  obtain ⟨m2, s2, t2⟩ := mv_beg S.1 ka (rfl : m_c X τ a = m_c X τ a)
  obtain ⟨n32, n320⟩ := fo_k32 S.1 ka
  have nt : ∀ f, f ≠ 33 → f ≠ 34 → f ≠ 35 → τ2.1 a f = (q_si (q_si τ a 1 0) a 0 0).1 a f := fun f h3 h4 h5 => h2.1 a f (by
    rintro (z | ⟨-, z⟩)
    · exact n32 z.symm
    · omega)
  have mc2 : m_c X τ2 a = m_c X τ a := (fo_Sc S.1 ka h2).trans m2
  have B : al_R X C a (q_si σ2 C 0 k) τ := A.fs K M (h1.tr (fs_C0 k))
  have w23 : ∀ {τ3 : ST}, τ3.2 = τ2.2 → m_wd X τ3 a = m_wd X τ a := fun {τ3} h => by
    funext j
    show (τ3.2.1 (q_rf X a 23) j.toNat).toInt = (τ.2.1 (q_rf X a 23) j.toNat).toInt
    rw [h, h2.2.1 _ _ (fun z => z)]
    rfl
  have e24 : τ2.1 a 24 = τ.1 a 24 := by rw [nt 24 (by decide) (by decide) (by decide), si_f (by decide), si_f (by decide)]
  refine ⟨⟨hz, ?_, B.fr K M rfl ((mv_cell S.1 ka 0 k).trans mc2) B.1.1 pl_fix.rf (fun _ _ _ => rfl) rfl ?_ (w23 rfl)⟩, fun h0 => ⟨hz, ?_, B.fr K M rfl mc2 B.1.1 pl_fix.rf (fun _ _ _ => rfl) rfl e24 (w23 rfl)⟩⟩
  · show ((q_si σ2 C 0 k).1 C 0).toInt = ((q_si τ2 a 0 k).1 a 0).toInt
    rw [si_eq, si_eq]
  · rw [si_f (by decide)]; exact e24
  · show ((q_si σ2 C 0 k).1 C 0).toInt = (τ2.1 a 0).toInt
    rw [si_eq, nt 0 (by decide) (by decide) (by decide), s2, h0]
theorem ob_honestly (K : al_C X lb C a) (A : al_R X C a σ τ) (M : m_M (m_c X τ a) (τ.1 a 24).toInt n) (v x : Int32) : ob_O X C a (F_X11_honestly X σ C v x) (F_X12_honestly X τ a v x) := by
  obtain ⟨kC, ka, S, lC, G8, G9, GM⟩ := id K
  obtain ⟨m2, s2, t2⟩ := mv_beg S.1 ka (rfl : m_c X τ a = m_c X τ a)
  have pp := an_p K A M m2 v
  have fs := an_fore K A M m2 v x
  have e0 : (0 : Int64).toInt = 0 := rfl
  have e60 : (60 : Int64).toInt = 60 := rfl
  have i3 : (F_X12_isIn X (q_si (q_si τ a 1 0) a 0 0) x.toInt64 (0 : Int64) (60 : Int64)).toInt = if 0 ≤ x.toInt ∧ x.toInt ≤ 60 then 1 else 0 := lk_in (X := X) x e0 e60
  unfold F_X11_honestly F_X12_honestly
  rw [q_letE (F_X11_forecastStatus X σ C v x), q_letE (q_si τ a 1 0), q_letE (q_si (q_si τ a 1 0) a 0 0), q_letE (F_X12_isPlayerAt X (q_si (q_si τ a 1 0) a 0 0) a v), pp.2]
  obtain ⟨k, hk⟩ : ∃ k, k = F_X11_forecastStatus X σ C v x := ⟨_, rfl⟩
  rw [← hk] at fs ⊢
  by_cases q : 0 ≤ v.toInt ∧ v.toInt < m_c X τ a 2
  · rw [if_neg (not_not_intro q)] at fs
    rw [if_pos q, if_neg (by decide : ¬ (1 : Int) = 0), q_letE x.toInt64, q_letE (F_X12_isIn X (q_si (q_si τ a 1 0) a 0 0) x.toInt64 (0 : Int64) (60 : Int64)), i3]
    by_cases q2 : 0 ≤ x.toInt ∧ x.toInt ≤ 60
    · rw [if_neg (not_not_intro q2)] at fs
      have et : x.toInt = ((x.toInt.toNat : Nat) : Int) := by omega
      obtain ⟨V2, w2, c11, c12, c13, c14, -⟩ := fo_class S G8 (rfl : y_v X (q_rf X C 8) σ = _) A.1.1 M.1.1 (v1 := v) (v2 := x) rfl q et (by omega)
      obtain ⟨z, τ2, e2, e3, T2, F⟩ := fo_model S ka M.1.1 A.1.1.1.2.2.2.2.2 m2 (v1 := v) (v2 := x) rfl q et (by omega)
      rw [if_pos fs, q_letE (F_X0_foresee X σ (q_rf X C 8) v x), q_letE, ob_pe, mv_good, if_pos q2, if_neg (by decide : ¬ (1 : Int) = 0), e2, q_biP z τ2, q_letE (τ2.1 a 33)]
      exact (fo_al K A M (fs_Cs v x) T2 0 _ _ (((w2.rd (id := 0) (by decide) 11 rfl).trans c11).trans F.2.1.symm)).2 rfl
    · rw [if_pos q2] at fs
      have k5 : k = 5 := Int32.toInt_inj.mp (fs.trans rfl)
      rw [k5, if_neg (by decide : ¬ (5 : Int32).toInt = 0), if_neg q2, if_pos rfl]
      exact ob_none K A M 5
  · rw [if_pos q] at fs
    have k2 : k = 2 := Int32.toInt_inj.mp (fs.trans rfl)
    rw [k2, if_neg (by decide : ¬ (2 : Int32).toInt = 0), if_neg q, if_pos rfl]
    exact ob_none K A M 2
/-- good, or not there, behind a look ahead -/
theorem fo_gn (K : al_C X lb C a) (A : al_R X C a σ τ) (M : m_M (m_c X τ a) (τ.1 a 24).toInt n) {σ2 τ2 : ST} (h1 : tkl (fs_C X C) (fun _ _ => False) σ σ2) (h2 : tkl (fo_S X a) (fun _ _ => False) (q_si (q_si τ a 1 0) a 0 0) τ2) {z z' : Int32} (hz : z.toInt = z'.toInt) (hb : -1 ≤ z.toInt) : ob_O X C a (q_bi (F_X11_goodOrNotThere X σ2 C z) (fun r s => (r, s))) (if z'.toInt < 0 then q_bi (F_X12_refuse X τ2 a 8) (fun r s => (r, s)) else (z', τ2)) := by
  rw [ob_pe]
  unfold F_X11_goodOrNotThere
  by_cases q : z.toInt = -1
  · rw [if_pos q, if_pos (by omega), ob_pe, mv_none, ob_pe, mv_refuse]
    exact (fo_al K A M h1 h2 8 (-1) (-1) rfl).1
  · rw [if_neg q, if_neg (by omega), ob_pe, mv_good]
    exact (fo_al K A M h1 h2 0 _ _ hz).2 rfl
theorem fo_r_b {p : Int} (r : Nat) : -1 ≤ fo_r c p r := by
  by_cases q : fo_r c p r = -1
  · omega
  · have := ((fo_r_s (c := c) (p := p) r).2 q).1
    omega
theorem ob_rid (K : al_C X lb C a) (A : al_R X C a σ τ) (M : m_M (m_c X τ a) (τ.1 a 24).toInt n) (v : Int32) : ob_O X C a (F_X11_rid X σ C v) (F_X12_rid X τ a v) := by
  obtain ⟨kC, ka, S, lC, G8, G9, GM⟩ := id K
  obtain ⟨m2, s2, t2⟩ := mv_beg S.1 ka (rfl : m_c X τ a = m_c X τ a)
  have pp := an_p K A M m2 v
  unfold F_X11_rid F_X12_rid
  rw [q_letE (F_X11_isPlayer X σ C v), pp.1, q_letE (q_si τ a 1 0), q_letE (q_si (q_si τ a 1 0) a 0 0), q_letE (F_X12_isPlayerAt X (q_si (q_si τ a 1 0) a 0 0) a v), pp.2]
  by_cases q : 0 ≤ v.toInt ∧ v.toInt < m_c X τ a 2
  · obtain ⟨V2, w2, c11, c12, c13, c14, -⟩ := fo_class S G8 (rfl : y_v X (q_rf X C 8) σ = _) A.1.1 M.1.1 (v1 := v) (v2 := 60) (t := 60) rfl q rfl (by decide)
    obtain ⟨z, τ2, e2, e3, T2, F⟩ := fo_rid S ka M.1.1 A.1.1.1.2.2.2.2.2 m2 (v1 := v) rfl q
    have f12 : ((F_X0_foresee X σ (q_rf X C 8) v 60).1 (q_rf X C 8) 12).toInt = fo_r (m_c X τ a) v.toInt 60 := (w2.rd (id := 0) (by decide) 12 rfl).trans c12
    rw [if_pos q, if_neg (by decide : ¬ (1 : Int) = 0), if_neg (by decide : ¬ (1 : Int) = 0), q_letE (F_X0_foresee X σ (q_rf X C 8) v 60), q_letE, e2, q_biP z τ2]
    exact fo_gn K A M (fs_Cs v 60) T2 (f12.trans e3.symm) (by rw [f12]; exact fo_r_b 60)
  · rw [if_neg q, if_pos rfl, if_pos rfl]
    exact ob_none K A M 2
theorem ob_mustLie (K : al_C X lb C a) (A : al_R X C a σ τ) (M : m_M (m_c X τ a) (τ.1 a 24).toInt n) (v : Int32) : ob_O X C a (F_X11_mustLie X σ C v) (F_X12_mustLie X τ a v) := by
  obtain ⟨kC, ka, S, lC, G8, G9, GM⟩ := id K
  obtain ⟨m2, s2, t2⟩ := mv_beg S.1 ka (rfl : m_c X τ a = m_c X τ a)
  have b2 := M.1.1.1.2.1
  have pp := an_p K A M m2 v
  unfold F_X11_mustLie F_X12_mustLie
  rw [q_letE (F_X11_isPlayer X σ C v), pp.1, q_letE (q_si τ a 1 0), q_letE (q_si (q_si τ a 1 0) a 0 0), q_letE (F_X12_isPlayerAt X (q_si (q_si τ a 1 0) a 0 0) a v), pp.2]
  by_cases q : 0 ≤ v.toInt ∧ v.toInt < m_c X τ a 2
  · obtain ⟨V2, w2, c11, c12, c13, c14, -⟩ := fo_class S G8 (rfl : y_v X (q_rf X C 8) σ = _) A.1.1 M.1.1 (v1 := v) (v2 := 60) (t := 60) rfl q rfl (by decide)
    obtain ⟨z, τ2, e2, e3, T2, F⟩ := fo_model S ka M.1.1 A.1.1.1.2.2.2.2.2 m2 (v1 := v) (v2 := 60) (t := 60) rfl q rfl (by decide)
    have f14 : ((F_X0_foresee X σ (q_rf X C 8) v 60).1 (q_rf X C 8) 14).toInt = (fo (m_c X τ a) v.toInt 60).2.2.2 := (w2.rd (id := 0) (by decide) 14 rfl).trans c14
    have i5 := (fo_inv M.1.1 (p := v.toInt) ⟨q.1, by omega⟩ 60).2.2.2.2.1
    rw [if_pos q, if_neg (by decide : ¬ (1 : Int) = 0), if_neg (by decide : ¬ (1 : Int) = 0), q_letE (F_X0_foresee X σ (q_rf X C 8) v 60), q_letE, e2, q_biP z τ2, q_letE (τ2.1 a 35), q_letE (τ2.1 a 35)]
    exact fo_gn K A M (fs_Cs v 60) T2 (f14.trans F.2.2.2.symm) (by rw [f14]; omega)
  · rw [if_neg q, if_pos rfl, if_pos rfl]
    exact ob_none K A M 2
theorem ob_lastKind (K : al_C X lb C a) (A : al_R X C a σ τ) (M : m_M (m_c X τ a) (τ.1 a 24).toInt n) (v : Int32) : ob_O X C a (F_X11_lastKind X σ C v) (F_X12_lastKind X τ a v) := by
  obtain ⟨kC, ka, S, lC, G8, G9, GM⟩ := id K
  obtain ⟨m2, s2, t2⟩ := mv_beg S.1 ka (rfl : m_c X τ a = m_c X τ a)
  have b2 := M.1.1.1.2.1
  have pp := an_p K A M m2 v
  unfold F_X11_lastKind F_X12_lastKind
  rw [q_letE (F_X11_isPlayer X σ C v), pp.1, q_letE (q_si τ a 1 0), q_letE (q_si (q_si τ a 1 0) a 0 0), q_letE (F_X12_isPlayerAt X (q_si (q_si τ a 1 0) a 0 0) a v), pp.2]
  by_cases q : 0 ≤ v.toInt ∧ v.toInt < m_c X τ a 2
  · have hp6 : 0 ≤ v.toInt ∧ v.toInt < 6 := ⟨q.1, by omega⟩
    obtain ⟨V2, w2, c11, c12, c13, c14, -⟩ := fo_class S G8 (rfl : y_v X (q_rf X C 8) σ = _) A.1.1 M.1.1 (v1 := v) (v2 := 60) (t := 60) rfl q rfl (by decide)
    obtain ⟨z, τ2, e2, e3, T2, F⟩ := fo_rid S ka M.1.1 A.1.1.1.2.2.2.2.2 m2 (v1 := v) rfl q
    have f12 : ((F_X0_foresee X σ (q_rf X C 8) v 60).1 (q_rf X C 8) 12).toInt = fo_r (m_c X τ a) v.toInt 60 := (w2.rd (id := 0) (by decide) 12 rfl).trans c12
    have f13 : ((F_X0_foresee X σ (q_rf X C 8) v 60).1 (q_rf X C 8) 13).toInt = (fo (m_c X τ a) v.toInt 60).2.2.1 := (w2.rd (id := 0) (by decide) 13 rfl).trans c13
    obtain ⟨i1, i2, i3, i4, i5, i6⟩ := fo_inv M.1.1 hp6 60
    have cd := gm_cardsOf (X := X) (a := a) m2 M.1.1 (rfl : v.toInt = _) hp6
    rw [if_pos q, if_neg (by decide : ¬ (1 : Int) = 0), if_neg (by decide : ¬ (1 : Int) = 0), q_letE (F_X0_foresee X σ (q_rf X C 8) v 60), q_letE ((F_X0_foresee X σ (q_rf X C 8) v 60).1 (q_rf X C 8) 12), f12, q_letE (F_X12_cardsOf X (q_si (q_si τ a 1 0) a 0 0) a v), cd]
    have none8 : ∀ (τ3 : ST), tkl (fo_S X a) (fun _ _ => False) (q_si (q_si τ a 1 0) a 0 0) τ3 → ∀ y : Int32, y.toInt = -1 → ob_O X C a (q_bi (F_X11_goodOrNotThere X (F_X0_foresee X σ (q_rf X C 8) v 60) C y) (fun r s => (r, s))) (q_bi (F_X12_refuse X τ3 a 8) (fun r s => (r, s))) := fun τ3 T3 y hy => by
      have z := fo_gn K A M (fs_Cs v 60) T3 (z := y) (z' := y) rfl (by omega)
      rw [if_pos (by omega)] at z
      exact z
    by_cases qc : m_S (m_c X τ a) (34 + 10 * v.toInt) 10 = 0
    · have e : fo_r (m_c X τ a) v.toInt 60 = 0 := by
        have i := fo_r_stay (c := m_c X τ a) (p := v.toInt) (r := 0) (by show (if m_S (m_c X τ a) (34 + 10 * v.toInt) 10 = 0 then (0 : Int) else -1) ≠ -1; rw [if_pos qc]; decide) 60
        rw [Nat.zero_add] at i
        rw [i]
        show (if m_S (m_c X τ a) (34 + 10 * v.toInt) 10 = 0 then (0 : Int) else -1) = 0
        rw [if_pos qc]
      have d := (fo_done M.1.1 hp6 (r := 0) (t := 60) (by decide) (by show (if m_S (m_c X τ a) (34 + 10 * v.toInt) 10 = 0 then (0 : Int) else -1) ≠ -1; rw [if_pos qc]; decide)).1
      have l : (fo (m_c X τ a) v.toInt 60).2.2.1 = -1 := by rw [d]; rfl
      rw [if_pos qc, e, if_neg (by decide : ¬ (0 : Int) = -1), q_letE]
      exact none8 _ tkl.rf _ (f13.trans l)
    · rw [if_neg qc, e2, q_biP z τ2, e3]
      by_cases qr : fo_r (m_c X τ a) v.toInt 60 = -1
      · rw [if_pos qr, if_pos (by omega : fo_r (m_c X τ a) v.toInt 60 < 0)]
        exact none8 τ2 T2 _ rfl
      · have rb := (fo_r_s (c := m_c X τ a) (p := v.toInt) 60).2 qr
        have d := fo_done M.1.1 hp6 (r := (fo_r (m_c X τ a) v.toInt 60).toNat) (t := 60) (by omega) (fun h => (fo_r_s (c := m_c X τ a) (p := v.toInt) (fo_r (m_c X τ a) v.toInt 60).toNat).1.mp h _ (Nat.le_refl _) rb.2.2.1)
        have s60 : (fo (m_c X τ a) v.toInt 60).2.1 = m_S (m_c X τ a) (34 + 10 * v.toInt) 10 := by rw [d.1]; exact rb.2.2.1
        have l := i6 (by omega)
        have z := fo_gn K A M (fs_Cs v 60) T2 (z := (F_X0_foresee X σ (q_rf X C 8) v 60).1 (q_rf X C 8) 13) (z' := τ2.1 a 34) (f13.trans (F qr).symm) (by rw [f13]; omega)
        rw [if_neg (by rw [F qr]; omega)] at z
        rw [if_neg qr, if_neg (by omega : ¬ fo_r (m_c X τ a) v.toInt 60 < 0), q_letE, q_letE (τ2.1 a 34)]
        exact z
  · rw [if_neg q, if_pos rfl, if_pos rfl]
    exact ob_none K A M 2
end QE
end
/-! FROM 59f.soonest.lean.txt -/
section
/-! OBSERVERS: who is soonest rid of all -/
section QF
variable {X : XW} {lb : Nat → Nat} {C a : Nat} {σ τ : ST} {n : Int}
theorem ob_soonestL (K : al_C X lb C a) (A : al_R X C a σ τ) (M : m_M (m_c X τ a) (τ.1 a 24).toInt n) (fu : Nat) : ∀ (x y y' z : Int32) (σ1 τ1 : ST), (2147483647 - z.toInt).toNat < fu → 0 ≤ z.toInt → -1 ≤ x.toInt → (y.toInt = y'.toInt ∨ 60 < y.toInt ∧ 60 < y'.toInt) → tkl (fs_C X C) (fun _ _ => False) σ σ1 → tkl (fo_S X a) (fun _ _ => False) (q_si (q_si τ a 1 0) a 0 0) τ1 → ob_O X C a (F_X11_soonest_L7_1 X C fu x y z σ1) (F_X12_soonest_L17_1 X a fu x y' z τ1) := by
  obtain ⟨kC, ka, S, lC, G8, G9, GM⟩ := id K
  obtain ⟨m2, s2, t2⟩ := mv_beg S.1 ka (rfl : m_c X τ a = m_c X τ a)
  have b2 := M.1.1.1.2.1
  induction fu with
  | zero => intro x y y' z σ1 τ1 h; exact absurd h (Nat.not_lt_zero _)
  | succ fu ih =>
    intro x y y' z σ1 τ1 hf z0 x0 hy h1 h2
    have B : al_R X C a σ1 τ := A.fs K M h1
    have mc1 : m_c X τ1 a = m_c X τ a := (fo_Sc S.1 ka h2).trans m2
    have w : y_W X lb (q_rf X C 8) 1 σ1 σ1 (y_v X (q_rf X C 8) σ1) := y_W.rf
    have f4 : (σ1.1 (q_rf X (q_rf X C 8) 0) 4).toInt = m_c X τ a 2 := (w.rd (id := 1) (by decide) 4 rfl).trans B.1.1.1.2.2.2.2.1
    have g2 : (τ1.1 (q_rf X a 20) (2 : Int32).toNatClampNeg).toInt = m_c X τ a 2 := gm_cell (A := 2) mc1 rfl
    rw [F_X11_soonest_L7_1_s, F_X12_soonest_L17_1_s]
    unfold F_X11_soonest_B7_1 F_X12_soonest_B17_1
    rw [q_letE (σ1.1 (q_rf X (q_rf X C 8) 0) 4), f4, q_letE (τ1.1 (q_rf X a 20) (2 : Int32).toNatClampNeg), g2]
    by_cases q : z.toInt < m_c X τ a 2
    · have e1 : (z + 1).toInt = z.toInt + 1 := y_inc (by omega)
      obtain ⟨V2, w2, c11, c12, c13, c14, -⟩ := fo_class S G8 (rfl : y_v X (q_rf X C 8) σ1 = _) B.1.1 M.1.1 (v1 := z) (v2 := 60) (t := 60) rfl ⟨z0, q⟩ rfl (by decide)
      obtain ⟨u, τ2, e2, e3, T2, -⟩ := fo_rid S ka M.1.1 A.1.1.1.2.2.2.2.2 mc1 (v1 := z) rfl ⟨z0, q⟩
      obtain ⟨σ2, es⟩ : ∃ s, s = F_X0_foresee X σ1 (q_rf X C 8) z 60 := ⟨_, rfl⟩
      have h1' : tkl (fs_C X C) (fun _ _ => False) σ σ2 := by rw [es]; exact h1.tr (fs_Cs z 60)
      have h2' := h2.tr T2
      rw [← es] at w2
      have f12 : (σ2.1 (q_rf X C 8) 12).toInt = fo_r (m_c X τ a) z.toInt 60 := (w2.rd (id := 0) (by decide) 12 rfl).trans c12
      have rb := fo_r_b (c := m_c X τ a) (p := z.toInt) 60
      have rs := (fo_r_s (c := m_c X τ a) (p := z.toInt) 60).2
      rw [if_pos q, if_pos q, ← es, q_letE σ2, q_letE (σ2.1 (q_rf X C 8) 12), f12, e2, q_biP u τ2, e3]
      by_cases q1 : fo_r (m_c X τ a) z.toInt 60 = -1
      · rw [if_pos q1, if_pos (by omega), q_letE (z + 1), q_letE (z + 1)]
        exact ih x y y' (z + 1) σ2 τ2 (by omega) (by omega) x0 hy h1' h2'
      · have r2 := rs q1
        have r60 : fo_r (m_c X τ a) z.toInt 60 ≤ 60 := r2.2.1
        rw [if_neg q1, if_neg (by omega), q_letE (σ2.1 (q_rf X C 8) 12), f12]
        by_cases q2 : fo_r (m_c X τ a) z.toInt 60 < y.toInt
        · rw [if_pos q2, if_pos (by omega), q_letE (σ2.1 (q_rf X C 8) 12), q_letE (z + 1), q_letE (z + 1)]
          exact ih z (σ2.1 (q_rf X C 8) 12) u (z + 1) σ2 τ2 (by omega) (by omega) (by omega) (Or.inl (f12.trans e3.symm)) h1' h2'
        · rw [if_neg q2, if_neg (by omega), q_letE (z + 1), q_letE (z + 1)]
          exact ih x y y' (z + 1) σ2 τ2 (by omega) (by omega) x0 hy h1' h2'
    · rw [if_neg q, if_neg q]
      unfold F_X11_soonest_E69_2 F_X12_soonest_E59_2
      exact fo_gn K A M h1 h2 rfl x0
theorem ob_soonest (K : al_C X lb C a) (A : al_R X C a σ τ) (M : m_M (m_c X τ a) (τ.1 a 24).toInt n) : ob_O X C a (F_X11_soonest X σ C) (F_X12_soonest X τ a) := by
  unfold F_X11_soonest F_X12_soonest
  rw [q_letE (q_si τ a 1 0), q_letE (q_si (q_si τ a 1 0) a 0 0)]
  exact ob_soonestL K A M _ (-1) 61 99 0 σ _ (Nat.lt_succ_self _) (by decide) (by decide) (Or.inr ⟨by decide, by decide⟩) tkl.rf tkl.rf
end QF
end
/-! FROM 59g.ways.lean.txt -/
section
/-! OBSERVERS: the ways to draw, in both the same; who is most ready to doubt -/
def w_a (n : Int) : Nat → Int
  | 0 => 1
  | i + 1 => w_a n i * (n - (i : Int)) / ((i : Int) + 1)
def w_c (n k : Int) : Nat → Int
  | 0 => 1
  | i + 1 => w_c n k i * (n - k + ((i : Int) + 1)) / ((i : Int) + 1)
def w_v (n k : Int) : Int := if n < k then 0 else w_a n k.toNat
def w_ok (n k i : Nat) : Bool := decide (k < i) || (decide (0 ≤ w_a (n : Int) i) && decide (w_a (n : Int) i ≤ 2000000) && decide (0 ≤ w_c (n : Int) (k : Int) i) && decide (w_c (n : Int) (k : Int) i ≤ 2000000))
def w_ook : Bool := (List.range 81).all fun n => (List.range 5).all fun k => decide (n < k) || (decide (w_a (n : Int) k = w_c (n : Int) (k : Int) k) && (List.range 5).all fun i => w_ok n k i)
theorem w_okT : w_ook = true := by decide +kernel
theorem w_tab (n : Nat) (hn : n < 81) (k : Nat) (hk : k < 5) (h : k ≤ n) : w_a (n : Int) k = w_c (n : Int) (k : Int) k ∧ ∀ i : Nat, i < 5 → i ≤ k → (0 ≤ w_a (n : Int) i ∧ w_a (n : Int) i ≤ 2000000) ∧ 0 ≤ w_c (n : Int) (k : Int) i ∧ w_c (n : Int) (k : Int) i ≤ 2000000 := by
  have h1 := List.all_eq_true.mp w_okT n (List.mem_range.mpr hn)
  have h2 := List.all_eq_true.mp h1 k (List.mem_range.mpr hk)
  simp only [Bool.or_eq_true, Bool.and_eq_true, decide_eq_true_eq] at h2
  rcases h2 with z | ⟨z1, z2⟩
  · exact absurd z (by omega)
  · refine ⟨z1, fun i hi ik => ?_⟩
    have h3 := List.all_eq_true.mp z2 i (List.mem_range.mpr hi)
    unfold w_ok at h3
    simp only [Bool.or_eq_true, Bool.and_eq_true, decide_eq_true_eq] at h3
    rcases h3 with y | ⟨⟨⟨y1, y2⟩, y3⟩, y4⟩
    · exact absurd y (by omega)
    · exact ⟨⟨y1, y2⟩, y3, y4⟩
theorem w_ab {n k : Int} (hn : 0 ≤ n ∧ n ≤ 80) (hk : 0 ≤ k ∧ k ≤ 4) (h : k ≤ n) : w_a n k.toNat = w_c n k k.toNat ∧ ∀ i : Nat, (i : Int) ≤ k → (0 ≤ w_a n i ∧ w_a n i ≤ 2000000) ∧ 0 ≤ w_c n k i ∧ w_c n k i ≤ 2000000 := by
  have e1 : ((n.toNat : Nat) : Int) = n := by omega
  have e2 : ((k.toNat : Nat) : Int) = k := by omega
  have z := w_tab n.toNat (by omega) k.toNat (by omega) (by omega)
  rw [e1, e2] at z
  exact ⟨z.1, fun i hi => z.2 i (by omega) (by omega)⟩
theorem w_v_b {n k : Int} (hn : 0 ≤ n ∧ n ≤ 80) (hk : 0 ≤ k ∧ k ≤ 4) : 0 ≤ w_v n k ∧ w_v n k ≤ 2000000 := by
  unfold w_v
  split
  · exact ⟨by decide, by decide⟩
  · exact ((w_ab hn hk (by omega)).2 k.toNat (by omega)).1
theorem w_div {x y : Int64} {A B : Int} (hx : x.toInt = A) (hy : y.toInt = B) (hA : 0 ≤ A) : (x / y).toInt = A / B := by
  have hr := Int64.toInt_lt x
  have h2 := Int.ediv_le_self B hA
  rw [Int64.toInt_div, hx, hy, Int.tdiv_eq_ediv_of_nonneg hA]
  have h0 : -A ≤ A / B := by
    by_cases q : 0 ≤ B
    · have := Int.ediv_nonneg hA q
      omega
    · have e : A / B = -(A / (-B)) := by rw [Int.ediv_neg]; omega
      have h3 := Int.ediv_le_self (-B) hA
      omega
  exact Int.bmod_eq_of_le (by omega) (by omega)
section QG
variable {X : XW} {lb : Nat → Nat} {g o C a : Nat} {σ τ : ST} {V : Nat → Int → Int} {c : Int → Int} {n : Int}
theorem w_toL {nn kk : Int} {v0 v1 : Int32} (h0 : v0.toInt = nn) (h1 : v1.toInt = kk) (hn : 0 ≤ nn ∧ nn ≤ 80) (hk : 0 ≤ kk ∧ kk ≤ 4) (h : kk ≤ nn) (fu : Nat) : ∀ (w : Int64) (x : Int32) (i : Nat), (2147483647 - x.toInt).toNat < fu → x.toInt = (i : Int) → (i : Int) ≤ kk → w.toInt = w_a nn i → (F_X11_waysToTake_L12_1 X v1 v0 fu w x).toInt = w_a nn kk.toNat := by
  have ab := w_ab hn hk h
  have one : (1 : Int32).toInt = 1 := rfl
  induction fu with
  | zero => intro w x i h; exact absurd h (Nat.not_lt_zero _)
  | succ fu ih =>
    intro w x i hf hx hi hw
    rw [F_X11_waysToTake_L12_1_s]
    unfold F_X11_waysToTake_B12_1
    rw [hx, h1]
    by_cases q : (i : Int) < kk
    · have x1 : (x + 1).toInt = ((i + 1 : Nat) : Int) := by rw [y_inc (by omega), hx]; omega
      have b := (ab.2 i hi).1
      have m := m_mulI (a := w_a nn i) (A := 2000000) (b := nn - (i : Int)) (B := 80) b.1 b.2 (by omega) (by omega)
      have e6 : (v0 - x).toInt = nn - (i : Int) := by rw [ar_sub, h0, hx, ar_wr (by omega) (by omega)]
      have e8 : (w * (v0 - x).toInt64).toInt = w_a nn i * (nn - (i : Int)) := by rw [ar_mull, ar_i2l, e6, hw, ar_vr (by omega) (by omega)]
      have e11 : (x + 1).toInt64.toInt = (i : Int) + 1 := by rw [ar_i2l, x1]; omega
      have e12 : (w * (v0 - x).toInt64 / (x + 1).toInt64).toInt = w_a nn (i + 1) := w_div e8 e11 m.1
      rw [if_pos q, q_letE (v0 - x), q_letE (v0 - x).toInt64, q_letE (w * (v0 - x).toInt64), q_letE (x + 1), q_letE (x + 1).toInt64, q_letE (w * (v0 - x).toInt64 / (x + 1).toInt64), q_letE (x + 1)]
      exact ih _ _ (i + 1) (by omega) x1 (by omega) e12
    · have e : i = kk.toNat := by omega
      rw [if_neg q, hw, e]
theorem w_toTake {nn kk : Int} {v0 v1 : Int32} (h0 : v0.toInt = nn) (h1 : v1.toInt = kk) (hn : 0 ≤ nn ∧ nn ≤ 80) (hk : 0 ≤ kk ∧ kk ≤ 4) : (F_X11_waysToTake X σ v0 v1).toInt = w_v nn kk := by
  unfold F_X11_waysToTake w_v
  rw [h0, h1]
  by_cases q : nn < kk
  · rw [if_pos q, if_pos q]; rfl
  · rw [if_neg q, if_neg q]
    exact w_toL h0 h1 hn hk (by omega) _ 1 0 0 (Nat.lt_succ_self _) rfl hk.1 rfl
theorem w_chL {nn kk : Int} {v0 v1 : Int32} (h0 : v0.toInt = nn) (h1 : v1.toInt = kk) (hn : 0 ≤ nn ∧ nn ≤ 80) (hk : 0 ≤ kk ∧ kk ≤ 4) (h : kk ≤ nn) (fu : Nat) : ∀ (w : Int64) (x : Int32) (i : Nat), (2147483647 - x.toInt).toNat < fu → x.toInt = (i : Int) + 1 → (i : Int) ≤ kk → w.toInt = w_c nn kk i → (F_X12_choose_L12_1 X v1 v0 fu w x).toInt = w_c nn kk kk.toNat := by
  have ab := w_ab hn hk h
  have one : (1 : Int32).toInt = 1 := rfl
  induction fu with
  | zero => intro w x i h; exact absurd h (Nat.not_lt_zero _)
  | succ fu ih =>
    intro w x i hf hx hi hw
    rw [F_X12_choose_L12_1_s]
    unfold F_X12_choose_B12_1
    rw [hx, h1]
    by_cases q : kk < (i : Int) + 1
    · have e : i = kk.toNat := by omega
      rw [if_pos q, hw, e]
    · have x1 : (x + 1).toInt = ((i + 1 : Nat) : Int) + 1 := by rw [y_inc (by omega), hx]; omega
      have b := (ab.2 i hi).2
      have m := m_mulI (a := w_c nn kk i) (A := 2000000) (b := nn - kk + ((i : Int) + 1)) (B := 160) b.1 b.2 (by omega) (by omega)
      have e6 : (v0 - v1 + x).toInt = nn - kk + ((i : Int) + 1) := by rw [ar_add, ar_sub, h0, h1, hx, ar_wr (n := nn - kk) (by omega) (by omega), ar_wr (by omega) (by omega)]
      have e9 : (w * (v0 - v1 + x).toInt64).toInt = w_c nn kk i * (nn - kk + ((i : Int) + 1)) := by rw [ar_mull, ar_i2l, e6, hw, ar_vr (by omega) (by omega)]
      have e10 : x.toInt64.toInt = (i : Int) + 1 := by rw [ar_i2l, hx]
      have e11 : (w * (v0 - v1 + x).toInt64 / x.toInt64).toInt = w_c nn kk (i + 1) := w_div e9 e10 m.1
      rw [if_neg q, q_letE (v0 - v1), q_letE (v0 - v1 + x), q_letE (v0 - v1 + x).toInt64, q_letE (w * (v0 - v1 + x).toInt64), q_letE x.toInt64, q_letE (w * (v0 - v1 + x).toInt64 / x.toInt64), q_letE (x + 1)]
      exact ih _ _ (i + 1) (by omega) x1 (by omega) e11
theorem w_choose {nn kk : Int} {v0 v1 : Int32} (h0 : v0.toInt = nn) (h1 : v1.toInt = kk) (hn : 0 ≤ nn ∧ nn ≤ 80) (hk : 0 ≤ kk ∧ kk ≤ 4) : (F_X12_choose X τ v0 v1).toInt = w_v nn kk := by
  unfold F_X12_choose w_v
  rw [h0, h1]
  by_cases q : nn < kk
  · rw [if_pos q, if_pos q]; rfl
  · rw [if_neg q, if_neg q, (w_ab hn hk (by omega)).1]
    exact w_chL h0 h1 hn hk (by omega) _ 1 1 0 (Nat.lt_succ_self _) rfl hk.1 rfl
end QG
/-! all unknown to one: at most eighty -/
def w_s (f : Int → Int) : Nat → Int
  | 0 => 0
  | n + 1 => w_s f n + f (n : Int)
theorem w_s_add (f f' : Int → Int) (n : Nat) : w_s (fun k => f k + f' k) n = w_s f n + w_s f' n := by
  induction n with
  | zero => rfl
  | succ n ih =>
    show w_s (fun k => f k + f' k) n + (f (n : Int) + f' (n : Int)) = w_s f n + f (n : Int) + (w_s f' n + f' (n : Int))
    rw [ih]
    omega
theorem w_s_0 (n : Nat) : w_s (fun _ => 0) n = 0 := by
  induction n with
  | zero => rfl
  | succ n ih => show w_s (fun _ => 0) n + 0 = 0; omega
theorem w_J (c : Int → Int) (w : Int) (m n : Nat) : m_J c w m n = w_s (fun k => m_K c w k m) n := by
  induction n with
  | zero => rfl
  | succ n ih =>
    show m_J c w m n + m_K c w (n : Int) m = w_s (fun k => m_K c w k m) n + m_K c w (n : Int) m
    rw [ih]
theorem w_J_le (c : Int → Int) (w : Int) (m n : Nat) : m_J c w m n ≤ (m : Int) := by
  induction m with
  | zero =>
    rw [w_J]
    show w_s (fun _ => 0) n ≤ 0
    rw [w_s_0]
    exact Int.le_refl _
  | succ m ih =>
    rw [m_J_succ]
    split <;> omega
theorem w_A {c : Int → Int} (h : m_G c) (n N : Nat) (hN : (N : Int) ≤ c 9) : w_s (fun k => m_A c (-1) k N) n ≤ m_L c N := by
  induction N with
  | zero =>
    show w_s (fun _ => 0) n ≤ 0
    rw [w_s_0]
    exact Int.le_refl _
  | succ N ih =>
    have i := ih (by omega)
    have y := (h.2.2.1 (N : Int) (by omega) (by omega)).1
    have j := w_J_le c (94 + 7 * (N : Int)) (c (94 + 7 * (N : Int) + 2)).toNat n
    have e : w_s (fun k => m_A c (-1) k (N + 1)) n = w_s (fun k => m_A c (-1) k N) n + w_s (fun k => m_K c (94 + 7 * (N : Int)) k (c (94 + 7 * (N : Int) + 2)).toNat) n := by
      rw [← w_s_add]
      refine congrArg (fun f => w_s f n) ?_
      funext k
      show m_A c (-1) k N + (if 0 ≤ (-1 : Int) ∧ c (94 + 7 * (N : Int)) ≠ -1 then 0 else m_K c (94 + 7 * (N : Int)) k (c (94 + 7 * (N : Int) + 2)).toNat) = _
      rw [if_neg (by omega)]
    rw [e, ← w_J]
    show _ ≤ m_L c N + c (94 + 7 * (N : Int) + 2)
    omega
theorem w_P {c : Int → Int} (h : m_G c) (n N : Nat) (hn : n ≤ 10) (hN : N ≤ 6) : w_s (fun k => m_P c k N) n ≤ m_S c 34 (10 * N) := by
  induction N with
  | zero =>
    show w_s (fun _ => 0) n ≤ 0
    rw [w_s_0]
    exact Int.le_refl _
  | succ N ih =>
    have i := ih (by omega)
    have e : w_s (fun k => m_P c k (N + 1)) n = w_s (fun k => m_P c k N) n + w_s (fun k => c (34 + 10 * (N : Int) + k)) n := by
      rw [← w_s_add]
      rfl
    have s : w_s (fun k => c (34 + 10 * (N : Int) + k)) n = m_S c (34 + 10 * (N : Int)) n := by
      clear i e ih hn
      induction n with
      | zero => rfl
      | succ n ih =>
        show w_s (fun k => c (34 + 10 * (N : Int) + k)) n + c (34 + 10 * (N : Int) + (n : Int)) = m_S c (34 + 10 * (N : Int)) n + c (34 + 10 * (N : Int) + (n : Int))
        rw [ih]
    have t := m_S_add c (34 + 10 * (N : Int)) n (10 - n)
    have e10 : n + (10 - n) = 10 := by omega
    rw [e10] at t
    have nn : 0 ≤ m_S c (34 + 10 * (N : Int) + (n : Int)) (10 - n) := m_S_nn (fun j a b => h.hand0 (by omega) (by omega))
    have u := m_S_add c 34 (10 * N) 10
    have eu : 10 * N + 10 = 10 * (N + 1) := by omega
    have ev : (34 : Int) + ((10 * N : Nat) : Int) = 34 + 10 * (N : Int) := by omega
    rw [eu, ev] at u
    rw [e, s, u]
    omega
theorem w_V {c : Int → Int} (h : m_G c) {p : Int} (p0 : 0 ≤ p) (p1 : p < c 2) (n : Nat) (hn : n ≤ 10) : 0 ≤ m_V c p n ∧ m_V c p n ≤ 80 := by
  have hd := h.hd
  have a := w_A h n (c 9).toNat (by omega)
  have b := w_P h n (c 2).toNat hn (by omega)
  have e := h.Sall (10 * (c 2).toNat) (by omega)
  have f := h.tot
  have s : w_s (fun k => m_I c k) n = w_s (fun k => m_A c (-1) k (c 9).toNat) n + w_s (fun k => m_P c k (c 2).toNat) n := w_s_add _ _ n
  have le : m_V c p n ≤ w_s (fun k => m_I c k) n := by
    clear a b s
    induction n with
    | zero => exact Int.le_refl _
    | succ n ih =>
      have i := ih (by omega)
      have k := h.hand0 (j := 34 + 10 * p + (n : Int)) (by omega) (by omega)
      have l := h.A_bd p (n : Int) (c 9).toNat (by omega)
      have ud : m_U c p (n : Int) = m_I c (n : Int) - (c (34 + 10 * p + (n : Int)) + m_A c p (n : Int) (c 9).toNat) := rfl
      show m_V c p n + m_U c p (n : Int) ≤ w_s (fun k => m_I c k) n + m_I c (n : Int)
      omega
  exact ⟨(h.V_bd p0 p1 n hn).1, by omega⟩
/-- of the open laying: how many cards; ways to draw so many of its kind, of all; what a doubt is worth a card of the heap -/
def w_n (c : Int → Int) : Int := c (94 + 7 * (c 9 - 1) + 2)
def w_t (c : Int → Int) (p : Int) : Int := w_v (m_U c p (c 5)) (w_n c)
def w_l (c : Int → Int) (p : Int) : Int := w_v (m_V c p (c 0).toNat) (w_n c)
def w_w (c : Int → Int) (p : Int) : Int := w_l c p - 2 * w_t c p
theorem w_n_b {c : Int → Int} (h : m_G c) (h9 : 1 ≤ c 9) : 1 ≤ w_n c ∧ w_n c ≤ 4 := (h.2.2.1 (c 9 - 1) (by omega) (by omega)).1
theorem w_tl_b {c : Int → Int} (h : m_G c) (h9 : 1 ≤ c 9) {p : Int} (hp : 0 ≤ p ∧ p < c 2) : (0 ≤ w_t c p ∧ w_t c p ≤ 2000000) ∧ 0 ≤ w_l c p ∧ w_l c p ≤ 2000000 := by
  have nb := w_n_b h h9
  have hd := h.1
  have b5 := hd.2.2.2.1
  have b0 := hd.1
  exact ⟨w_v_b (h.U_bd hp.1 hp.2 b5.1 (by omega)) ⟨by omega, nb.2⟩, w_v_b (w_V h hp.1 hp.2 _ (by omega)) ⟨by omega, nb.2⟩⟩
section QH
variable {X : XW} {lb : Nat → Nat} {C a : Nat} {σ τ : ST} {n : Int}
theorem w_class (K : al_C X lb C a) (A : al_R X C a σ τ) (M : m_M (m_c X τ a) (τ.1 a 24).toInt n) (h9 : 1 ≤ m_c X τ a 9) {v : Int32} {p : Int} (hv : v.toInt = p) (hp : 0 ≤ p ∧ p < m_c X τ a 2) : (F_X0_trueWays X σ (q_rf X C 8) v).toInt = w_t (m_c X τ a) p ∧ (F_X0_allWays X σ (q_rf X C 8) v).toInt = w_l (m_c X τ a) p := by
  obtain ⟨kC, ka, S, lC, G8, G9, GM⟩ := id K
  obtain ⟨m2, s2, t2⟩ := mv_beg S.1 ka (rfl : m_c X τ a = m_c X τ a)
  obtain ⟨b0, b2, b4, b5, b6, b7, b9, b79⟩ := M.1.1.1
  have w : y_W X lb (q_rf X C 8) 1 σ σ (y_v X (q_rf X C 8) σ) := y_W.rf
  have one : (1 : Int32).toInt = 1 := rfl
  have n16 : ((y_gn 16 : Nat) : Int) = 80 := rfl
  have Rg := A.1.1
  have nb := w_n_b M.1.1 h9
  have f4 : (σ.1 (q_rf X C 8) 4).toInt = m_c X τ a 5 := (w.rd (id := 0) (by decide) 4 rfl).trans Rg.2.1.1
  have f0 : (σ.1 (q_rf X (q_rf X C 8) 2) 0).toInt = m_c X τ a 9 := (w.rd (id := 2) (by decide) 0 rfl).trans Rg.2.2.2.2.1.1
  have top := (Rg.2.2.2.2.1.2.2 (m_c X τ a 9 - 1) (by omega) (by omega)).2.2.1
  have ts : (F_X2_topSize X σ (q_rf X (q_rf X C 8) 2)).toInt = w_n (m_c X τ a) := by
    unfold F_X2_topSize
    rw [q_letE (σ.1 (q_rf X (q_rf X C 8) 2) 0), q_letE (σ.1 (q_rf X (q_rf X C 8) 2) 0 - 1), q_letE, y_getI S G8 w (id := 16) (r := q_rf X (q_rf X (q_rf X C 8) 2) 4) ⟨by decide, by decide⟩ rfl (i := m_c X τ a 9 - 1) (by rw [ar_sub, f0, one, ar_wr (by omega) (by omega)]) (by omega) (by rw [n16]; omega)]
    exact top
  have kn := (rg.know (X := X) (τ := τ) S G8 w Rg M.1.1 rfl (v1 := v) (v2 := σ.1 (q_rf X C 8) 4) hv f4 hp ⟨b5.1, by omega⟩).2.2.1
  have al := (an_all K A M m2 hv hp).1
  constructor
  · unfold F_X0_trueWays
    rw [q_letE (σ.1 (q_rf X C 8) 4), q_letE (F_X0_unknownTo X σ (q_rf X C 8) v (σ.1 (q_rf X C 8) 4)), q_letE (F_X2_topSize X σ (q_rf X (q_rf X C 8) 2)), q_letE]
    exact w_toTake kn ts (M.1.1.U_bd hp.1 hp.2 b5.1 (by omega)) ⟨by omega, nb.2⟩
  · unfold F_X0_allWays
    rw [q_letE (F_X0_allUnknownTo X σ (q_rf X C 8) v), q_letE (F_X2_topSize X σ (q_rf X (q_rf X C 8) 2)), q_letE]
    exact w_toTake al ts (w_V M.1.1 hp.1 hp.2 _ (by omega)) ⟨by omega, nb.2⟩
theorem w_model (K : al_C X lb C a) (A : al_R X C a σ τ) (M : m_M (m_c X τ a) (τ.1 a 24).toInt n) (h9 : 1 ≤ m_c X τ a 9) {τ2 : ST} (m2 : m_c X τ2 a = m_c X τ a) {v : Int32} {p : Int} (hv : v.toInt = p) (hp : 0 ≤ p ∧ p < m_c X τ a 2) : ((F_X12_blinds X τ2 a v).2.1 a 30).toInt = w_t (m_c X τ a) p ∧ ((F_X12_blinds X τ2 a v).2.1 a 31).toInt = w_l (m_c X τ a) p := by
  obtain ⟨kC, ka, S, lC, G8, G9, GM⟩ := id K
  obtain ⟨b0, b2, b4, b5, b6, b7, b9, b79⟩ := M.1.1.1
  have w : y_W X lb (q_rf X C 8) 1 σ σ (y_v X (q_rf X C 8) σ) := y_W.rf
  have one : (1 : Int32).toInt = 1 := rfl
  have e2 : (2 : Int32).toInt = 2 := rfl
  have Rg := A.1.1
  have nb := w_n_b M.1.1 h9
  have g5 : (τ2.1 (q_rf X a 20) (5 : Int32).toNatClampNeg).toInt = m_c X τ a 5 := gm_cell (A := 5) m2 rfl
  have g9 : (τ2.1 (q_rf X a 20) (9 : Int32).toNatClampNeg).toInt = m_c X τ a 9 := gm_cell (A := 9) m2 rfl
  have kn := (rg.know (X := X) (τ := τ2) S G8 w Rg M.1.1 m2 (v1 := v) (v2 := τ2.1 (q_rf X a 20) (5 : Int32).toNatClampNeg) hv g5 hp ⟨b5.1, by omega⟩).2.2.2
  have l1 : (τ2.1 (q_rf X a 20) (9 : Int32).toNatClampNeg - 1).toInt = m_c X τ a 9 - 1 := by rw [ar_sub, g9, one, ar_wr (by omega) (by omega)]
  have l2 := gm_laid (X := X) (τ := τ2) l1 ⟨by omega, by omega⟩
  have l3 : (τ2.1 (q_rf X a 20) (F_X12_laid X τ2 (τ2.1 (q_rf X a 20) (9 : Int32).toNatClampNeg - 1) + 2).toNatClampNeg).toInt = w_n (m_c X τ a) := gm_cell m2 (by rw [ar_add, l2, e2, ar_wr (by omega) (by omega)])
  unfold F_X12_blinds
  rw [q_letE (τ2.1 (q_rf X a 20) (9 : Int32).toNatClampNeg), q_letE (τ2.1 (q_rf X a 20) (9 : Int32).toNatClampNeg - 1), q_letE (F_X12_laid X τ2 (τ2.1 (q_rf X a 20) (9 : Int32).toNatClampNeg - 1)), q_letE (F_X12_laid X τ2 (τ2.1 (q_rf X a 20) (9 : Int32).toNatClampNeg - 1) + 2)]
  obtain ⟨z, hz⟩ : ∃ z, z = τ2.1 (q_rf X a 20) (F_X12_laid X τ2 (τ2.1 (q_rf X a 20) (9 : Int32).toNatClampNeg - 1) + 2).toNatClampNeg := ⟨_, rfl⟩
  rw [← hz] at l3 ⊢
  obtain ⟨u, hu⟩ : ∃ u, u = F_X12_unknownOf X τ2 a v (τ2.1 (q_rf X a 20) (5 : Int32).toNatClampNeg) := ⟨_, rfl⟩
  rw [← hu] at kn
  rw [q_letE z, q_letE (τ2.1 (q_rf X a 20) (5 : Int32).toNatClampNeg), ← hu, q_letE u, q_letE (F_X12_choose X τ2 u z)]
  obtain ⟨τ3, e3⟩ : ∃ t, t = q_sl τ2 a 30 (F_X12_choose X τ2 u z) := ⟨_, rfl⟩
  have m3 : m_c X τ3 a = m_c X τ a := by rw [e3]; exact m2
  have al := (an_all K A M m3 hv hp).2
  rw [← e3, q_letE τ3, q_letE (F_X12_unknownAll X τ3 a v), q_letE (F_X12_choose X τ3 (F_X12_unknownAll X τ3 a v) z), q_letE]
  constructor
  · have e : (q_sl τ3 a 31 (F_X12_choose X τ3 (F_X12_unknownAll X τ3 a v) z)).2.1 a 30 = τ3.2.1 a 30 := by
      show (if a = a ∧ (30 : Nat) = 31 then _ else τ3.2.1 a 30) = _
      rw [if_neg (fun h => absurd h.2 (by decide))]
    have e' : τ3.2.1 a 30 = F_X12_choose X τ2 u z := by rw [e3, sl_eq]
    rw [e, e']
    exact w_choose kn l3 (M.1.1.U_bd hp.1 hp.2 b5.1 (by omega)) ⟨by omega, nb.2⟩
  · rw [sl_eq]
    exact w_choose al l3 (w_V M.1.1 hp.1 hp.2 _ (by omega)) ⟨by omega, nb.2⟩
end QH
end
/-! FROM 59h.ready.lean.txt -/
section
/-! OBSERVERS: who is most ready to doubt -/
section QI
variable {X : XW} {lb : Nat → Nat} {C a : Nat} {σ τ : ST} {n : Int}
/-- good, behind numbers of the reference's own -/
theorem ob_goodS (K : al_C X lb C a) (A : al_R X C a σ τ) (M : m_M (m_c X τ a) (τ.1 a 24).toInt n) {z z' : Int32} (h : z.toInt = z'.toInt) {τ2 : ST} (h1 : τ2.1 = (q_si (q_si τ a 1 0) a 0 0).1) (h2 : ∀ b f, b ≠ a → τ2.2.1 b f = τ.2.1 b f) : ob_O X C a (q_bi (F_X11_good X σ C z) (fun r s => (r, s))) (z', τ2) := by
  obtain ⟨a1, a2, a3⟩ := ob_good K A M h
  refine ⟨a1, ?_, an_same K a3 h1 h2⟩
  show _ = (τ2.1 a 0).toInt
  rw [h1]
  exact a2
theorem lg_gt (x y : Int64) : 0 < (lg_cmp x y).toInt ↔ y.toInt < x.toInt := by
  have h := lg_cmp_gt x y
  rw [Int32.lt_iff_toInt_lt, Int64.lt_iff_toInt_lt] at h
  exact h
/-- worth: heap times what is won less what is lost -/
theorem w_worth (K : al_C X lb C a) (A : al_R X C a σ τ) (M : m_M (m_c X τ a) (τ.1 a 24).toInt n) (h9 : 1 ≤ m_c X τ a 9) {v : Int32} {p : Int} (hv : v.toInt = p) (hp : 0 ≤ p ∧ p < m_c X τ a 2) : (F_X0_worthTop X σ (q_rf X C 8) v).toInt = m_L (m_c X τ a) (m_c X τ a 9).toNat * w_w (m_c X τ a) p := by
  obtain ⟨kC, ka, S, lC, G8, G9, GM⟩ := id K
  have w : y_W X lb (q_rf X C 8) 1 σ σ (y_v X (q_rf X C 8) σ) := y_W.rf
  have two : (2 : Int64).toInt = 2 := rfl
  obtain ⟨c1, c2⟩ := w_class K A M h9 hv hp
  obtain ⟨b1, b2⟩ := w_tl_b M.1.1 h9 hp
  have b9 := M.1.1.1.2.2.2.2.2.2.1
  have l80 := M.1.1.L80 b9.1 (Int.le_refl _)
  have f1 : (σ.1 (q_rf X (q_rf X C 8) 2) 1).toInt = m_L (m_c X τ a) (m_c X τ a 9).toNat := (w.rd (id := 2) (by decide) 1 rfl).trans A.1.1.2.2.2.2.1.2.1
  have l0 := (M.1.1.A_bd (-1) 0 (m_c X τ a 9).toNat (by omega))
  have m := m_mulI (a := m_L (m_c X τ a) (m_c X τ a 9).toNat) (A := 80) (b := w_w (m_c X τ a) p + 4000000) (B := 6000000) (by omega) (by omega) (by unfold w_w; omega) (by unfold w_w; omega)
  have d := Int.mul_add (m_L (m_c X τ a) (m_c X τ a 9).toNat) (w_w (m_c X τ a) p) 4000000
  unfold F_X0_worthTop
  rw [q_letE (σ.1 (q_rf X (q_rf X C 8) 2) 1), q_letE, q_letE (F_X0_allWays X σ (q_rf X C 8) v), q_letE (F_X0_trueWays X σ (q_rf X C 8) v), q_letE, q_letE, q_letE]
  have e7 : ((2 : Int64) * F_X0_trueWays X σ (q_rf X C 8) v).toInt = 2 * w_t (m_c X τ a) p := by rw [ar_mull, two, c1, ar_vr (by omega) (by omega)]
  have e8 : (F_X0_allWays X σ (q_rf X C 8) v - (2 : Int64) * F_X0_trueWays X σ (q_rf X C 8) v).toInt = w_w (m_c X τ a) p := by rw [ar_subl, e7, c2, ar_vr (by omega) (by omega)]; rfl
  rw [ar_mull, ar_i2l, f1, e8, ar_vr (by omega) (by omega)]
theorem an_readyL (K : al_C X lb C a) (A : al_R X C a σ τ) (M : m_M (m_c X τ a) (τ.1 a 24).toInt n) (h7 : m_c X τ a 7 = 1) (h2 : 2 ≤ m_c X τ a 2) {f1 : Int32} (hf1 : f1.toInt = m_c X τ a 2) (fu : Nat) : ∀ (fv : Nat) (x y z : Int32) (w14 w15 : Int64) (τ1 : ST) (k : Int), (2147483647 - y.toInt).toNat < fv → y.toInt = k → 2 ≤ k → k ≤ m_c X τ a 2 → (0 ≤ x.toInt ∧ x.toInt < m_c X τ a 2) → z.toInt = (m_c X τ a 6 + k) % m_c X τ a 2 → pl_mq (m_c X τ a 6) z.toInt < fu → w14.toInt = w_w (m_c X τ a) x.toInt → w15.toInt = w_l (m_c X τ a) x.toInt → τ1.1 = (q_si (q_si τ a 1 0) a 0 0).1 → (∀ b f, b ≠ a → τ1.2.1 b f = τ.2.1 b f) → ob_O X C a (F_X11_ready_L54_1 X f1 σ C fv x y) (F_X12_ready_L57_1 X a fu x w14 w15 z τ1) := by
  obtain ⟨kC, ka, S, lC, G8, G9, GM⟩ := id K
  obtain ⟨m2, s2, t2⟩ := mv_beg S.1 ka (rfl : m_c X τ a = m_c X τ a)
  obtain ⟨b0, b2, b4, b5, b6, b7, b9, b79⟩ := M.1.1.1
  have w : y_W X lb (q_rf X C 8) 1 σ σ (y_v X (q_rf X C 8) σ) := y_W.rf
  have two : (2 : Int64).toInt = 2 := rfl
  have h9 : 1 ≤ m_c X τ a 9 := by omega
  have v5 : y_v X (q_rf X C 8) σ 0 5 = m_c X τ a 6 := by
    have z := A.1.1.2.1.2.1
    rw [if_neg (by omega)] at z
    exact z
  have f5 : (σ.1 (q_rf X C 8) 5).toInt = m_c X τ a 6 := (w.rd (id := 0) (by decide) 5 rfl).trans v5
  have nb := w_n_b M.1.1 h9
  have l80 := M.1.1.L80 b9.1 (Int.le_refl _)
  have lge : w_n (m_c X τ a) ≤ m_L (m_c X τ a) (m_c X τ a 9).toNat := by
    have e := m_L_succ (m_c X τ a) (m_c X τ a 9 - 1) (by omega)
    have e1 : m_c X τ a 9 - 1 + 1 = m_c X τ a 9 := by omega
    rw [e1] at e
    have z := (M.1.1.A_bd (-1) 0 (m_c X τ a 9 - 1).toNat (by omega))
    unfold w_n
    omega
  obtain ⟨L, hL⟩ : ∃ L, L = m_L (m_c X τ a) (m_c X τ a 9).toNat := ⟨_, rfl⟩
  induction fu with
  | zero => intro fv x y z w14 w15 τ1 k _ _ _ _ _ _ h; exact absurd h (Nat.not_lt_zero _)
  | succ fu ih =>
    intro fv x y z w14 w15 τ1 k hfv hy k2 kc hx hz hfu hw14 hw15 ht1 ht2
    obtain ⟨fv', efv⟩ : ∃ j, fv = j + 1 := ⟨fv - 1, by omega⟩
    subst efv
    have mt : m_c X τ1 a = m_c X τ a := (pl_mc (fun f => by rw [ht1])).trans m2
    have g6 : (τ1.1 (q_rf X a 20) (6 : Int32).toNatClampNeg).toInt = m_c X τ a 6 := gm_cell (A := 6) mt rfl
    have rnd := pl_round (p := m_c X τ a 6) (x := k) (m := m_c X τ a 2) ⟨by omega, b6.2.1⟩ ⟨by omega, kc⟩
    rw [F_X11_ready_L54_1_s, F_X12_ready_L57_1_s]
    unfold F_X11_ready_B54_1 F_X12_ready_B57_1
    rw [hy, hf1, q_letE (τ1.1 (q_rf X a 20) (6 : Int32).toNatClampNeg), g6, hz]
    by_cases q : k < m_c X τ a 2
    · have y1 : (y + 1).toInt = k + 1 := by rw [y_inc (by omega), hy]
      have pa := pl_after (X := X) S G8 (rfl : y_v X (q_rf X C 8) σ = _) A.1.1 M.1.1 (by omega) (x := σ.1 (q_rf X C 8) 5) (y := y) f5 hy ⟨by omega, b6.2.1⟩ ⟨by omega, by omega⟩
      obtain ⟨p, hp⟩ : ∃ p, p = (m_c X τ a 6 + k) % m_c X τ a 2 := ⟨_, rfl⟩
      rw [← hp] at pa rnd hz
      have pb := rnd.2
      have pe : ¬ p = m_c X τ a 6 := fun e => by have := rnd.1.mp e; omega
      obtain ⟨r, hr⟩ : ∃ r, r = F_X6_playerAfter X σ (q_rf X (q_rf X C 8) 0) (σ.1 (q_rf X C 8) 5) y := ⟨_, rfl⟩
      rw [← hr] at pa
      have c1 := w_worth K A M h9 pa pb
      have c2 := (w_class K A M h9 pa pb).2
      have d1 := w_worth K A M h9 (v := x) rfl hx
      have d2 := (w_class K A M h9 (v := x) rfl hx).2
      obtain ⟨u1, u2⟩ := w_tl_b M.1.1 h9 pb
      obtain ⟨t1, t2'⟩ := w_tl_b M.1.1 h9 hx
      have ww : w_w (m_c X τ a) p = w_l (m_c X τ a) p - 2 * w_t (m_c X τ a) p := rfl
      have wx : w_w (m_c X τ a) x.toInt = w_l (m_c X τ a) x.toInt - 2 * w_t (m_c X τ a) x.toInt := rfl
      obtain ⟨bk1, bk2, bk3⟩ := an_blinds (X := X) (a := a) τ1 z
      obtain ⟨v1, v2⟩ := w_model K A M h9 mt hz pb
      obtain ⟨τ3, e3⟩ : ∃ t, t = F_X12_blinds X τ1 a z := ⟨_, rfl⟩
      rw [← e3] at bk1 bk2 bk3 v1 v2
      have ht1' : τ3.1 = (q_si (q_si τ a 1 0) a 0 0).1 := bk1.trans ht1
      have ht2' : ∀ b f, b ≠ a → τ3.2.1 b f = τ.2.1 b f := fun b f hb => (bk3 b f hb).trans (ht2 b f hb)
      have mt3 : m_c X τ3 a = m_c X τ a := (pl_mc (fun f => by rw [ht1'])).trans m2
      have bq := gm_behindOf (X := X) mt3 ⟨by omega, b2.2⟩ hz pb
      have bq' : (F_X12_behindOf X τ3 a z).toInt = (m_c X τ a 6 + (k + 1)) % m_c X τ a 2 := by
        rw [bq, hp, pl_add1 (by omega) ⟨by omega, b6.2.1⟩ (by omega)]
      have mq : pl_mq (m_c X τ a 6) (F_X12_behindOf X τ3 a z).toInt < fu := by
        have s := pl_mqS (p := m_c X τ a 6) (q := p) (m := m_c X τ a 2) ⟨by omega, b6.2.1⟩ pb b2.2 pe
        rw [bq]
        rw [hz] at hfu
        omega
      have e25 : ((2 : Int64) * τ3.2.1 a 30).toInt = 2 * w_t (m_c X τ a) p := by rw [ar_mull, two, v1, ar_vr (by omega) (by omega)]
      have e26 : (τ3.2.1 a 31 - (2 : Int64) * τ3.2.1 a 30).toInt = w_w (m_c X τ a) p := by rw [ar_subl, e25, v2, ar_vr (by omega) (by omega)]; rfl
      have x0 : ¬ x.toInt < 0 := by omega
      -- products
      have P1 := m_mulI (a := w_w (m_c X τ a) p + 4000000) (A := 6000000) (b := w_l (m_c X τ a) x.toInt) (B := 2000000) (by omega) (by omega) t2'.1 t2'.2
      have P2 := m_mulI (a := w_w (m_c X τ a) x.toInt + 4000000) (A := 6000000) (b := w_l (m_c X τ a) p) (B := 2000000) (by omega) (by omega) u2.1 u2.2
      rw [Int.add_mul] at P1 P2
      obtain ⟨A1, hA1⟩ : ∃ A1, A1 = w_w (m_c X τ a) p * w_l (m_c X τ a) x.toInt := ⟨_, rfl⟩
      obtain ⟨A2, hA2⟩ : ∃ A2, A2 = w_w (m_c X τ a) x.toInt * w_l (m_c X τ a) p := ⟨_, rfl⟩
      rw [← hA1] at P1
      rw [← hA2] at P2
      have e31 : ((τ3.2.1 a 31 - (2 : Int64) * τ3.2.1 a 30) * w15).toInt = A1 := by rw [ar_mull, e26, hw15, ← hA1, ar_vr (by omega) (by omega)]
      have e33 : (w14 * τ3.2.1 a 31).toInt = A2 := by rw [ar_mull, hw14, v2, ← hA2, ar_vr (by omega) (by omega)]
      rw [← hL] at c1 d1 lge l80
      have Q1 := m_mulI (a := L) (A := 80) (b := A1 + 8000000000000) (B := 28000000000000) (by omega) (by omega) (by omega) (by omega)
      have Q2 := m_mulI (a := L) (A := 80) (b := A2 + 8000000000000) (B := 28000000000000) (by omega) (by omega) (by omega) (by omega)
      rw [Int.mul_add] at Q1 Q2
      have f25 : (F_X0_worthTop X σ (q_rf X C 8) r * F_X0_allWays X σ (q_rf X C 8) x).toInt = L * A1 := by
        rw [ar_mull, c1, d2, Int.mul_assoc, ← hA1, ar_vr (by omega) (by omega)]
      have f30 : (F_X0_worthTop X σ (q_rf X C 8) x * F_X0_allWays X σ (q_rf X C 8) r).toInt = L * A2 := by
        rw [ar_mull, d1, c2, Int.mul_assoc, ← hA2, ar_vr (by omega) (by omega)]
      have cmp1 := lg_gt (F_X0_worthTop X σ (q_rf X C 8) r * F_X0_allWays X σ (q_rf X C 8) x) (F_X0_worthTop X σ (q_rf X C 8) x * F_X0_allWays X σ (q_rf X C 8) r)
      have cmp2 := lg_gt ((τ3.2.1 a 31 - (2 : Int64) * τ3.2.1 a 30) * w15) (w14 * τ3.2.1 a 31)
      rw [f25, f30] at cmp1
      rw [e31, e33] at cmp2
      have ll : L * A2 < L * A1 ↔ A2 < A1 := ⟨fun h => Int.lt_of_mul_lt_mul_left h (by omega), fun h => Int.mul_lt_mul_of_pos_left h (by omega)⟩
      rw [ll] at cmp1
      have zx : z.toInt = r.toInt := hz.trans pa.symm
      have zr : z = r := Int32.toInt_inj.mp zx
      rw [if_pos q, q_letE (σ.1 (q_rf X C 8) 5), ← hr, q_letE r, q_letE (F_X0_worthTop X σ (q_rf X C 8) r), q_letE (F_X0_allWays X σ (q_rf X C 8) x), q_letE, q_letE (F_X0_worthTop X σ (q_rf X C 8) x), q_letE (F_X0_allWays X σ (q_rf X C 8) r), q_letE, q_letE]
      rw [← hp, if_neg pe, ← e3, q_letE τ3, q_letE (τ3.2.1 a 31), q_letE (τ3.2.1 a 30), q_letE ((2 : Int64) * τ3.2.1 a 30), q_letE (τ3.2.1 a 31 - (2 : Int64) * τ3.2.1 a 30), if_neg x0, q_letE ((τ3.2.1 a 31 - (2 : Int64) * τ3.2.1 a 30) * w15), q_letE (τ3.2.1 a 31), q_letE (w14 * τ3.2.1 a 31), q_letE (lg_cmp ((τ3.2.1 a 31 - (2 : Int64) * τ3.2.1 a 30) * w15) (w14 * τ3.2.1 a 31))]
      by_cases q2 : A2 < A1
      · rw [if_pos (cmp1.mpr q2), if_pos (cmp2.mpr q2), q_letE (y + 1), q_letE (τ3.2.1 a 31), q_letE (F_X12_behindOf X τ3 a z), ← zr]
        exact ih fv' z (y + 1) (F_X12_behindOf X τ3 a z) _ _ τ3 (k + 1) (by omega) y1 (by omega) (by omega) (by rw [hz]; exact pb) bq' mq (by rw [hz]; exact e26) (by rw [hz]; exact v2) ht1' ht2'
      · rw [if_neg (fun h => q2 (cmp1.mp h)), if_neg (fun h => q2 (cmp2.mp h)), q_letE (y + 1), q_letE (F_X12_behindOf X τ3 a z)]
        exact ih fv' x (y + 1) (F_X12_behindOf X τ3 a z) _ _ τ3 (k + 1) (by omega) y1 (by omega) (by omega) hx bq' mq hw14 hw15 ht1' ht2'
    · rw [if_neg q, if_pos (rnd.1.mpr (by omega))]
      unfold F_X11_ready_E128_2
      exact ob_goodS K A M rfl ht1 ht2
theorem ob_ready (K : al_C X lb C a) (A : al_R X C a σ τ) (M : m_M (m_c X τ a) (τ.1 a 24).toInt n) : ob_O X C a (F_X11_ready X σ C) (F_X12_ready X τ a) := by
  obtain ⟨kC, ka, S, lC, G8, G9, GM⟩ := id K
  obtain ⟨m2, s2, t2⟩ := mv_beg S.1 ka (rfl : m_c X τ a = m_c X τ a)
  obtain ⟨b0, b2, b4, b5, b6, b7, b9, b79⟩ := M.1.1.1
  have w : y_W X lb (q_rf X C 8) 1 σ σ (y_v X (q_rf X C 8) σ) := y_W.rf
  have two : (2 : Int64).toInt = 2 := rfl
  have one : (1 : Int32).toInt = 1 := rfl
  have e2 : (2 : Int32).toInt = 2 := rfl
  have s := A.1.1.2.1
  have f7 : (σ.1 (q_rf X C 8) 7).toInt = m_c X τ a 7 := (w.rd (id := 0) (by decide) 7 rfl).trans s.2.2.2
  have f4 : (σ.1 (q_rf X (q_rf X C 8) 0) 4).toInt = m_c X τ a 2 := (w.rd (id := 1) (by decide) 4 rfl).trans A.1.1.1.2.2.2.2.1
  have g7 : ((q_si (q_si τ a 1 0) a 0 0).1 (q_rf X a 20) (7 : Int32).toNatClampNeg).toInt = m_c X τ a 7 := gm_cell (A := 7) m2 rfl
  have g2 : ((q_si (q_si τ a 1 0) a 0 0).1 (q_rf X a 20) (2 : Int32).toNatClampNeg).toInt = m_c X τ a 2 := gm_cell (A := 2) m2 rfl
  have g6 : ((q_si (q_si τ a 1 0) a 0 0).1 (q_rf X a 20) (6 : Int32).toNatClampNeg).toInt = m_c X τ a 6 := gm_cell (A := 6) m2 rfl
  unfold F_X11_ready F_X12_ready
  rw [q_letE (σ.1 (q_rf X (q_rf X C 8) 0) 4), q_letE (σ.1 (q_rf X C 8) 7), f7, q_letE (q_si τ a 1 0), q_letE (q_si (q_si τ a 1 0) a 0 0), q_letE ((q_si (q_si τ a 1 0) a 0 0).1 (q_rf X a 20) (7 : Int32).toNatClampNeg), g7]
  by_cases q7 : m_c X τ a 7 = 0
  · rw [if_pos q7, if_pos q7]
    exact ob_none K A M 8
  · rw [if_neg q7, if_neg q7, f4, q_letE ((q_si (q_si τ a 1 0) a 0 0).1 (q_rf X a 20) (2 : Int32).toNatClampNeg), g2]
    by_cases q2 : m_c X τ a 2 < 2
    · rw [if_pos q2, if_pos q2]
      exact ob_none K A M 8
    · have h7 : m_c X τ a 7 = 1 := by omega
      have h9 : 1 ≤ m_c X τ a 9 := by omega
      have v5 : y_v X (q_rf X C 8) σ 0 5 = m_c X τ a 6 := by
        have z := s.2.1
        rw [if_neg (by omega)] at z
        exact z
      have f5 : (σ.1 (q_rf X C 8) 5).toInt = m_c X τ a 6 := (w.rd (id := 0) (by decide) 5 rfl).trans v5
      have pa := pl_after (X := X) S G8 (rfl : y_v X (q_rf X C 8) σ = _) A.1.1 M.1.1 (by omega) (x := σ.1 (q_rf X C 8) 5) (y := 1) f5 one ⟨by omega, b6.2.1⟩ ⟨by decide, by decide⟩
      obtain ⟨τ1, et⟩ : ∃ t, t = q_si (q_si τ a 1 0) a 0 0 := ⟨_, rfl⟩
      have hb : ∀ b f, b ≠ a → τ1.2.1 b f = τ.2.1 b f := fun b f _ => by rw [et]; rfl
      have ht1 : τ1.1 = (q_si (q_si τ a 1 0) a 0 0).1 := by rw [et]
      rw [← et] at g6 m2
      have bq := gm_behindOf (X := X) m2 ⟨by omega, b2.2⟩ g6 ⟨by omega, b6.2.1⟩
      obtain ⟨p, hp⟩ : ∃ p, p = (m_c X τ a 6 + 1) % m_c X τ a 2 := ⟨_, rfl⟩
      have rnd := pl_round (p := m_c X τ a 6) (x := 1) (m := m_c X τ a 2) ⟨by omega, b6.2.1⟩ ⟨by decide, by omega⟩
      rw [← hp] at bq pa rnd
      have pb := rnd.2
      have pe : ¬ p = m_c X τ a 6 := fun e => by have := rnd.1.mp e; omega
      rw [if_neg q2, if_neg q2, q_letE (σ.1 (q_rf X C 8) 5), q_letE (F_X6_playerAfter X σ (q_rf X (q_rf X C 8) 0) (σ.1 (q_rf X C 8) 5) 1), ← et, q_letE (τ1.1 (q_rf X a 20) (6 : Int32).toNatClampNeg), q_letE (F_X12_behindOf X τ1 a (τ1.1 (q_rf X a 20) (6 : Int32).toNatClampNeg))]
      obtain ⟨z, ez⟩ : ∃ z, z = F_X12_behindOf X τ1 a (τ1.1 (q_rf X a 20) (6 : Int32).toNatClampNeg) := ⟨_, rfl⟩
      rw [← ez] at bq ⊢
      obtain ⟨r, er⟩ : ∃ r, r = F_X6_playerAfter X σ (q_rf X (q_rf X C 8) 0) (σ.1 (q_rf X C 8) 5) 1 := ⟨_, rfl⟩
      rw [← er] at pa ⊢
      have zr : z = r := Int32.toInt_inj.mp (bq.trans pa.symm)
      rw [F_X12_ready_L57_1_s]
      unfold F_X12_ready_B57_1
      obtain ⟨bk1, bk2, bk3⟩ := an_blinds (X := X) (a := a) τ1 z
      obtain ⟨v1, v2⟩ := w_model K A M h9 m2 bq pb
      obtain ⟨u1, u2⟩ := w_tl_b M.1.1 h9 pb
      obtain ⟨τ3, e3⟩ : ∃ t, t = F_X12_blinds X τ1 a z := ⟨_, rfl⟩
      rw [← e3] at bk1 bk2 bk3 v1 v2
      have ht1' : τ3.1 = (q_si (q_si τ a 1 0) a 0 0).1 := bk1.trans ht1
      have mt3 : m_c X τ3 a = m_c X τ a := (pl_mc (fun f => by rw [bk1])).trans m2
      have bq3 := gm_behindOf (X := X) mt3 ⟨by omega, b2.2⟩ bq pb
      have e25 : ((2 : Int64) * τ3.2.1 a 30).toInt = 2 * w_t (m_c X τ a) p := by rw [ar_mull, two, v1, ar_vr (by omega) (by omega)]
      have e26 : (τ3.2.1 a 31 - (2 : Int64) * τ3.2.1 a 30).toInt = w_w (m_c X τ a) p := by rw [ar_subl, e25, v2, ar_vr (by omega) (by omega)]; rfl
      have mq : pl_mq (m_c X τ a 6) (F_X12_behindOf X τ3 a z).toInt < pl_mq (m_c X τ a 6) p := by
        have s := pl_mqS (p := m_c X τ a 6) (q := p) (m := m_c X τ a 2) ⟨by omega, b6.2.1⟩ pb b2.2 pe
        rw [bq3]
        exact s
      have fue : (m_c X τ a 6 - z.toInt + 20 * min 1 (max 0 (z.toInt - m_c X τ a 6))).toNat = pl_mq (m_c X τ a 6) p := by rw [bq]; rfl
      rw [q_letE (τ1.1 (q_rf X a 20) (6 : Int32).toNatClampNeg), g6, bq, if_neg pe, ← e3, q_letE τ3, q_letE (τ3.2.1 a 31), q_letE (τ3.2.1 a 30), q_letE ((2 : Int64) * τ3.2.1 a 30), q_letE (τ3.2.1 a 31 - (2 : Int64) * τ3.2.1 a 30), if_pos (by decide), q_letE (τ3.2.1 a 31), q_letE (F_X12_behindOf X τ3 a z), ← zr]
      exact an_readyL K A M h7 (by omega) f4 _ _ z 2 (F_X12_behindOf X τ3 a z) _ _ τ3 2 (Nat.lt_succ_self _) e2 (by decide) (by omega) (by rw [bq]; exact pb) (by rw [bq3, hp, pl_add1 (by omega) ⟨by omega, b6.2.1⟩ (by decide)]; rfl) mq (by rw [bq]; exact e26) (by rw [bq]; exact v2) ht1' (fun b f hb' => (bk3 b f hb').trans (hb b f hb'))
end QI
end
/-! FROM 59i.sayer.lean.txt -/
section
/-! OBSERVERS: who will say a kind first -/
theorem fa_hit {c : Int → Int} (hG : m_G c) (h3 : 0 ≤ c 3 ∧ c 3 ≤ 2) (h : c 3 ≠ 2) {v : Int} (hv : 0 ≤ v ∧ v < c 0) (s : Int) : ∃ t, s ≤ t ∧ t < s + c 0 ∧ fa_K c t = v := by
  have h0 := hG.1.1
  by_cases q : c 3 = 0
  · have a1 := Int.emod_nonneg (v - c 5 - s) (by omega : c 0 ≠ 0)
    have a2 := Int.emod_lt_of_pos (v - c 5 - s) (by omega : 0 < c 0)
    refine ⟨s + (v - c 5 - s) % c 0, by omega, by omega, ?_⟩
    unfold fa_K
    rw [if_neg h, if_pos q, ← Int.add_assoc, Int.add_emod_emod]
    have e : c 5 + s + (v - c 5 - s) = v := by omega
    rw [e]
    exact Int.emod_eq_of_lt hv.1 hv.2
  · have a1 := Int.emod_nonneg (c 5 - v - s) (by omega : c 0 ≠ 0)
    have a2 := Int.emod_lt_of_pos (c 5 - v - s) (by omega : 0 < c 0)
    refine ⟨s + (c 5 - v - s) % c 0, by omega, by omega, ?_⟩
    unfold fa_K
    have e0 : c 5 - (s + (c 5 - v - s) % c 0) = c 5 - s - (c 5 - v - s) % c 0 := by omega
    rw [if_neg h, if_neg q, e0, Int.sub_emod_emod]
    have e : c 5 - s - (c 5 - v - s) = v := by omega
    rw [e]
    exact Int.emod_eq_of_lt hv.1 hv.2
theorem fa_who {c : Int → Int} (hG : m_G c) (h2 : 1 ≤ c 2) {i : Int} (hi : 0 ≤ i) : fa_k c ((c 6 + c 7 + i) % c 2) (i / c 2) = fa_K c (i + c 7) := by
  unfold fa_k fa_w
  have e1 : (c 6 + c 7 + i) % c 2 - c 6 - c 7 = (c 6 + c 7 + i) % c 2 - (c 6 + c 7) := by omega
  have e2 : c 6 + c 7 + i - (c 6 + c 7) = i := by omega
  rw [e1, Int.emod_sub_emod, e2]
  have e3 := Int.mul_ediv_add_emod i (c 2)
  rw [Int.mul_comm] at e3
  congr 1
  omega
section QJ
variable {X : XW} {lb : Nat → Nat} {C a : Nat} {σ τ : ST} {n : Int}
theorem sy_eq (σ : ST) (v : Int32) (fu : Nat) : F_X11_sayer_L52_4 X σ C v fu = F_X11_sayer_L52_1 X σ C v fu := by
  induction fu with
  | zero => rfl
  | succ fu ih =>
    show F_X11_sayer_B52_4 X σ C v (F_X11_sayer_L52_4 X σ C v fu) = F_X11_sayer_B52_1 X σ C v (F_X11_sayer_L52_1 X σ C v fu)
    rw [ih]
    rfl
theorem sy_noC (K : al_C X lb C a) (A : al_R X C a σ τ) (M : m_M (m_c X τ a) (τ.1 a 24).toInt n) {v : Int32} (h : ∀ t : Int, fa_K (m_c X τ a) t ≠ v.toInt) (fu : Nat) : ∀ x : Int32, (2147483647 - x.toInt).toNat < fu → 0 ≤ x.toInt → F_X11_sayer_L52_1 X σ C v fu x = q_bi (F_X11_none X σ C 8) (fun r s => (r, s)) := by
  obtain ⟨kC, ka, S, lC, G8, G9, GM⟩ := id K
  have w : y_W X lb (q_rf X C 8) 1 σ σ (y_v X (q_rf X C 8) σ) := y_W.rf
  have h0 := M.1.1.1.1
  have f0 : (σ.1 (q_rf X (q_rf X C 8) 0) 0).toInt = m_c X τ a 0 := (w.rd (id := 1) (by decide) 0 rfl).trans A.1.1.1.1
  have f4 : (σ.1 (q_rf X C 8) 4).toInt = m_c X τ a 5 := (w.rd (id := 0) (by decide) 4 rfl).trans A.1.1.2.1.1
  induction fu with
  | zero => intro x h; exact absurd h (Nat.not_lt_zero _)
  | succ fu ih =>
    intro x hf x0
    rw [F_X11_sayer_L52_1_s]
    unfold F_X11_sayer_B52_1
    rw [q_letE (σ.1 (q_rf X (q_rf X C 8) 0) 0), f0]
    by_cases q : m_c X τ a 0 < x.toInt
    · rw [if_pos q]
      rfl
    · have e1 : (x + 1).toInt = x.toInt + 1 := y_inc (by omega)
      have ka' := fa_kindAfter S G8 (rfl : y_v X (q_rf X C 8) σ = _) A.1.1 M.1.1 (x := σ.1 (q_rf X C 8) 4) (y := x) f4 rfl ⟨x0, by omega⟩
      rw [if_neg q, q_letE (σ.1 (q_rf X C 8) 4), q_letE (F_X6_kindAfter X σ (q_rf X (q_rf X C 8) 0) (σ.1 (q_rf X C 8) 4) x), ka', if_neg (h x.toInt), q_letE (x + 1)]
      exact ih _ (by omega) (by omega)
/-- the reference's step: who, and what falls to them -/
theorem sy_stepM (K : al_C X lb C a) (A : al_R X C a σ τ) (M : m_M (m_c X τ a) (τ.1 a 24).toInt n) {τ2 : ST} (m2 : m_c X τ2 a = m_c X τ a) (v i : Int32) (h2 : 1 ≤ m_c X τ a 2) (i0 : 0 ≤ i.toInt) (ic : i.toInt < m_c X τ a 0 * m_c X τ a 2) (Bf : Int32 → Int32 × ST) : ∃ z : Int32, z.toInt = (m_c X τ a 6 + m_c X τ a 7 + i.toInt) % m_c X τ a 2 ∧ F_X12_sayer_B26_1 X τ2 a v Bf i = if fa_K (m_c X τ a) (i.toInt + m_c X τ a 7) = v.toInt then (z, τ2) else Bf (i + 1) := by
  obtain ⟨kC, ka, S, lC, G8, G9, GM⟩ := id K
  obtain ⟨b0, b2, b4, b5, b6, b7, b9, b79⟩ := M.1.1.1
  have one : (1 : Int32).toInt = 1 := rfl
  have mm := m_mulI (a := m_c X τ a 0) (A := 10) (b := m_c X τ a 2) (B := 6) (by omega) b0.2 (by omega) b2.2
  have g0 : (τ2.1 (q_rf X a 20) (0 : Int32).toNatClampNeg).toInt = m_c X τ a 0 := gm_cell (A := 0) m2 rfl
  have g2 : (τ2.1 (q_rf X a 20) (2 : Int32).toNatClampNeg).toInt = m_c X τ a 2 := gm_cell (A := 2) m2 rfl
  have g6 : (τ2.1 (q_rf X a 20) (6 : Int32).toNatClampNeg).toInt = m_c X τ a 6 := gm_cell (A := 6) m2 rfl
  have g7 : (τ2.1 (q_rf X a 20) (7 : Int32).toNatClampNeg).toInt = m_c X τ a 7 := gm_cell (A := 7) m2 rfl
  have z10 : (τ2.1 (q_rf X a 20) (0 : Int32).toNatClampNeg * τ2.1 (q_rf X a 20) (2 : Int32).toNatClampNeg).toInt = m_c X τ a 0 * m_c X τ a 2 := by rw [ar_mul, g0, g2, ar_wr (by omega) (by omega)]
  have md : ∀ (z : Int32) (y : Int), z.toInt = y → 0 ≤ y → (z % τ2.1 (q_rf X a 20) (2 : Int32).toNatClampNeg).toInt = y % m_c X τ a 2 := fun z y h1 h2 => by
    rw [Int32.toInt_mod, h1, g2, Int.tmod_eq_emod_of_nonneg h2]
  have dv := m_div (x := i) (y := τ2.1 (q_rf X a 20) (2 : Int32).toNatClampNeg) rfl i0 (by rw [g2]; omega)
  rw [g2] at dv
  have d60 : i.toInt / m_c X τ a 2 ≤ 60 := by
    have := Int.ediv_le_self (m_c X τ a 2) i0
    omega
  have w := fa_who M.1.1 h2 i0
  obtain ⟨p, hp⟩ : ∃ p, p = (m_c X τ a 6 + m_c X τ a 7 + i.toInt) % m_c X τ a 2 := ⟨_, rfl⟩
  have pb : 0 ≤ p ∧ p < m_c X τ a 2 := by
    rw [hp]
    exact ⟨Int.emod_nonneg _ (by omega), Int.emod_lt_of_pos _ (by omega)⟩
  rw [← hp] at w ⊢
  have J : ∀ z : Int32, z.toInt = p → F_X12_sayer_J91_3 X τ2 a i v Bf z = if fa_K (m_c X τ a) (i.toInt + m_c X τ a 7) = v.toInt then (z, τ2) else Bf (i + 1) := fun z hz => by
    unfold F_X12_sayer_J91_3
    have ft := fa_fallsTo S M.1.1 A.1.1.1.2.2.2.2.2 m2 (v := z) (x := i / τ2.1 (q_rf X a 20) (2 : Int32).toNatClampNeg) hz pb dv.2.2 ⟨by omega, by omega⟩
    rw [q_letE (τ2.1 (q_rf X a 20) (2 : Int32).toNatClampNeg), q_letE (i / τ2.1 (q_rf X a 20) (2 : Int32).toNatClampNeg), q_letE (F_X12_fallsTo X τ2 a z (i / τ2.1 (q_rf X a 20) (2 : Int32).toNatClampNeg)), ft, w, q_letE (i + 1)]
  unfold F_X12_sayer_B26_1
  rw [q_letE (τ2.1 (q_rf X a 20) (0 : Int32).toNatClampNeg), q_letE (τ2.1 (q_rf X a 20) (2 : Int32).toNatClampNeg), q_letE (τ2.1 (q_rf X a 20) (0 : Int32).toNatClampNeg * τ2.1 (q_rf X a 20) (2 : Int32).toNatClampNeg), z10, if_pos ic, q_letE (τ2.1 (q_rf X a 20) (7 : Int32).toNatClampNeg), g7]
  by_cases q7 : m_c X τ a 7 = 1
  · have e : (τ2.1 (q_rf X a 20) (6 : Int32).toNatClampNeg + 1 + i).toInt = m_c X τ a 6 + m_c X τ a 7 + i.toInt := by
      rw [ar_add, ar_add, g6, one, ar_wr (n := m_c X τ a 6 + 1) (by omega) (by omega), ar_wr (by omega) (by omega)]
      omega
    have z := (md _ _ e (by omega)).trans hp.symm
    refine ⟨_, z, ?_⟩
    rw [if_pos q7, q_letE (τ2.1 (q_rf X a 20) (6 : Int32).toNatClampNeg), q_letE (τ2.1 (q_rf X a 20) (6 : Int32).toNatClampNeg + 1), q_letE (τ2.1 (q_rf X a 20) (6 : Int32).toNatClampNeg + 1 + i), q_letE (τ2.1 (q_rf X a 20) (2 : Int32).toNatClampNeg), q_letE]
    exact J _ z
  · have e : (τ2.1 (q_rf X a 20) (6 : Int32).toNatClampNeg + i).toInt = m_c X τ a 6 + m_c X τ a 7 + i.toInt := by
      rw [ar_add, g6, ar_wr (by omega) (by omega)]
      omega
    have z := (md _ _ e (by omega)).trans hp.symm
    refine ⟨_, z, ?_⟩
    rw [if_neg q7, q_letE (τ2.1 (q_rf X a 20) (6 : Int32).toNatClampNeg), q_letE (τ2.1 (q_rf X a 20) (6 : Int32).toNatClampNeg + i), q_letE (τ2.1 (q_rf X a 20) (2 : Int32).toNatClampNeg), q_letE]
    exact J _ z
theorem sy_endM (M : m_M (m_c X τ a) (τ.1 a 24).toInt n) {τ2 : ST} (m2 : m_c X τ2 a = m_c X τ a) (v i : Int32) (ic : ¬ i.toInt < m_c X τ a 0 * m_c X τ a 2) (Bf : Int32 → Int32 × ST) : F_X12_sayer_B26_1 X τ2 a v Bf i = q_bi (F_X12_refuse X τ2 a 8) (fun r s => (r, s)) := by
  obtain ⟨b0, b2, b4, b5, b6, b7, b9, b79⟩ := M.1.1.1
  have mm := m_mulI (a := m_c X τ a 0) (A := 10) (b := m_c X τ a 2) (B := 6) (by omega) b0.2 (by omega) b2.2
  have g0 : (τ2.1 (q_rf X a 20) (0 : Int32).toNatClampNeg).toInt = m_c X τ a 0 := gm_cell (A := 0) m2 rfl
  have g2 : (τ2.1 (q_rf X a 20) (2 : Int32).toNatClampNeg).toInt = m_c X τ a 2 := gm_cell (A := 2) m2 rfl
  have z10 : (τ2.1 (q_rf X a 20) (0 : Int32).toNatClampNeg * τ2.1 (q_rf X a 20) (2 : Int32).toNatClampNeg).toInt = m_c X τ a 0 * m_c X τ a 2 := by rw [ar_mul, g0, g2, ar_wr (by omega) (by omega)]
  unfold F_X12_sayer_B26_1
  rw [q_letE (τ2.1 (q_rf X a 20) (0 : Int32).toNatClampNeg), q_letE (τ2.1 (q_rf X a 20) (2 : Int32).toNatClampNeg), q_letE (τ2.1 (q_rf X a 20) (0 : Int32).toNatClampNeg * τ2.1 (q_rf X a 20) (2 : Int32).toNatClampNeg), z10, if_neg ic]
  rfl
theorem sy_noM (K : al_C X lb C a) (A : al_R X C a σ τ) (M : m_M (m_c X τ a) (τ.1 a 24).toInt n) {τ2 : ST} (m2 : m_c X τ2 a = m_c X τ a) {v : Int32} (h2 : 1 ≤ m_c X τ a 2) (h : ∀ t : Int, fa_K (m_c X τ a) t ≠ v.toInt) (fu : Nat) : ∀ i : Int32, (2147483647 - i.toInt).toNat < fu → 0 ≤ i.toInt → F_X12_sayer_L26_1 X τ2 a v fu i = q_bi (F_X12_refuse X τ2 a 8) (fun r s => (r, s)) := by
  obtain ⟨b0, b2, b4, b5, b6, b7, b9, b79⟩ := M.1.1.1
  have mm := m_mulI (a := m_c X τ a 0) (A := 10) (b := m_c X τ a 2) (B := 6) (by omega) b0.2 (by omega) b2.2
  induction fu with
  | zero => intro i h; exact absurd h (Nat.not_lt_zero _)
  | succ fu ih =>
    intro i hf i0
    rw [F_X12_sayer_L26_1_s]
    by_cases q : i.toInt < m_c X τ a 0 * m_c X τ a 2
    · have e1 : (i + 1).toInt = i.toInt + 1 := y_inc (by omega)
      obtain ⟨z, -, e⟩ := sy_stepM K A M m2 v i h2 i0 q (F_X12_sayer_L26_1 X τ2 a v fu)
      rw [e, if_neg (h _)]
      exact ih _ (by omega) (by omega)
    · exact sy_endM M m2 v i q _
theorem sy_loop (K : al_C X lb C a) (A : al_R X C a σ τ) (M : m_M (m_c X τ a) (τ.1 a 24).toInt n) {v : Int32} (hv : 0 ≤ v.toInt ∧ v.toInt < m_c X τ a 0) (h2 : 1 ≤ m_c X τ a 2) (fu : Nat) : ∀ (fv : Nat) (x i : Int32), (2147483647 - x.toInt).toNat < fu → (2147483647 - i.toInt).toNat < fv → x.toInt = i.toInt + m_c X τ a 7 → 0 ≤ i.toInt → (∀ t : Int, m_c X τ a 7 ≤ t → t < x.toInt → fa_K (m_c X τ a) t ≠ v.toInt) → ob_O X C a (F_X11_sayer_L52_1 X σ C v fu x) (F_X12_sayer_L26_1 X (q_si (q_si τ a 1 0) a 0 0) a v fv i) := by
  obtain ⟨kC, ka, S, lC, G8, G9, GM⟩ := id K
  obtain ⟨m2, s2, t2⟩ := mv_beg S.1 ka (rfl : m_c X τ a = m_c X τ a)
  obtain ⟨b0, b2, b4, b5, b6, b7, b9, b79⟩ := M.1.1.1
  have w : y_W X lb (q_rf X C 8) 1 σ σ (y_v X (q_rf X C 8) σ) := y_W.rf
  have mm := m_mulI (a := m_c X τ a 0) (A := 10) (b := m_c X τ a 2 - 1) (B := 5) (by omega) b0.2 (by omega) (by omega)
  rw [Int.mul_sub, Int.mul_one] at mm
  have f0 : (σ.1 (q_rf X (q_rf X C 8) 0) 0).toInt = m_c X τ a 0 := (w.rd (id := 1) (by decide) 0 rfl).trans A.1.1.1.1
  have f4 : (σ.1 (q_rf X C 8) 4).toInt = m_c X τ a 5 := (w.rd (id := 0) (by decide) 4 rfl).trans A.1.1.2.1.1
  have v5 : y_v X (q_rf X C 8) σ 0 5 = m_c X τ a 6 := by
    have z := A.1.1.2.1.2.1
    rw [if_neg (by omega)] at z
    exact z
  have f5 : (σ.1 (q_rf X C 8) 5).toInt = m_c X τ a 6 := (w.rd (id := 0) (by decide) 5 rfl).trans v5
  induction fu with
  | zero => intro fv x i h; exact absurd h (Nat.not_lt_zero _)
  | succ fu ih =>
    intro fv x i hf hfv hx i0 hn
    by_cases q : i.toInt < m_c X τ a 0
    · obtain ⟨fv', efv⟩ : ∃ j, fv = j + 1 := ⟨fv - 1, by omega⟩
      subst efv
      have e1 : (x + 1).toInt = x.toInt + 1 := y_inc (by omega)
      have e2 : (i + 1).toInt = i.toInt + 1 := y_inc (by omega)
      have ka' := fa_kindAfter S G8 (rfl : y_v X (q_rf X C 8) σ = _) A.1.1 M.1.1 (x := σ.1 (q_rf X C 8) 4) (y := x) f4 rfl ⟨by omega, by omega⟩
      obtain ⟨z, hz, e⟩ := sy_stepM K A M m2 v i h2 i0 (by omega) (F_X12_sayer_L26_1 X (q_si (q_si τ a 1 0) a 0 0) a v fv')
      rw [F_X11_sayer_L52_1_s, F_X12_sayer_L26_1_s, e, ← hx]
      unfold F_X11_sayer_B52_1
      rw [q_letE (σ.1 (q_rf X (q_rf X C 8) 0) 0), f0, if_neg (by omega), q_letE (σ.1 (q_rf X C 8) 4), q_letE (F_X6_kindAfter X σ (q_rf X (q_rf X C 8) 0) (σ.1 (q_rf X C 8) 4) x), ka']
      by_cases q1 : fa_K (m_c X τ a) x.toInt = v.toInt
      · rw [if_pos q1, if_pos q1]
        unfold F_X11_sayer_E88_3
        have pa := pl_after (X := X) S G8 (rfl : y_v X (q_rf X C 8) σ = _) A.1.1 M.1.1 h2 (x := σ.1 (q_rf X C 8) 5) (y := x) f5 rfl ⟨by omega, b6.2.1⟩ ⟨by omega, by omega⟩
        rw [q_letE (σ.1 (q_rf X C 8) 5), q_letE (F_X6_playerAfter X σ (q_rf X (q_rf X C 8) 0) (σ.1 (q_rf X C 8) 5) x)]
        refine ob_good K A M ?_
        rw [pa, hz, hx]
        congr 1
        omega
      · rw [if_neg q1, if_neg q1, q_letE (x + 1)]
        refine ih fv' (x + 1) (i + 1) (by omega) (by omega) (by omega) (by omega) (fun t t1 t2 => ?_)
        by_cases ht : t = x.toInt
        · rw [ht]; exact q1
        · exact hn t t1 (by omega)
    · have all : ∀ t : Int, fa_K (m_c X τ a) t ≠ v.toInt := by
        by_cases q3 : m_c X τ a 3 = 2
        · intro t
          have z := hn (m_c X τ a 7) (by omega) (by omega)
          unfold fa_K at z ⊢
          rw [if_pos q3] at z ⊢
          exact z
        · obtain ⟨t, t1, t2, t3⟩ := fa_hit M.1.1 A.1.1.1.2.2.2.2.2 q3 hv (m_c X τ a 7)
          exact absurd t3 (hn t t1 (by omega))
      rw [sy_noC K A M all _ x hf (by omega), sy_noM K A M m2 h2 all _ i hfv i0]
      exact ob_none K A M 8
theorem ob_sayer (K : al_C X lb C a) (A : al_R X C a σ τ) (M : m_M (m_c X τ a) (τ.1 a 24).toInt n) (v : Int32) : ob_O X C a (F_X11_sayer X σ C v) (F_X12_sayer X τ a v) := by
  obtain ⟨kC, ka, S, lC, G8, G9, GM⟩ := id K
  obtain ⟨m2, s2, t2⟩ := mv_beg S.1 ka (rfl : m_c X τ a = m_c X τ a)
  obtain ⟨b0, b2, b4, b5, b6, b7, b9, b79⟩ := M.1.1.1
  have w : y_W X lb (q_rf X C 8) 1 σ σ (y_v X (q_rf X C 8) σ) := y_W.rf
  have z0 : (0 : Int32).toInt = 0 := rfl
  have one : (1 : Int32).toInt = 1 := rfl
  have kk := an_k K A M m2 v
  have f7 : (σ.1 (q_rf X C 8) 7).toInt = m_c X τ a 7 := (w.rd (id := 0) (by decide) 7 rfl).trans A.1.1.2.1.2.2.2
  have f4 : (σ.1 (q_rf X (q_rf X C 8) 0) 4).toInt = m_c X τ a 2 := (w.rd (id := 1) (by decide) 4 rfl).trans A.1.1.1.2.2.2.2.1
  unfold F_X11_sayer F_X12_sayer
  rw [q_letE (F_X11_isKind X σ C v), kk.1, q_letE (q_si τ a 1 0), q_letE (q_si (q_si τ a 1 0) a 0 0), q_letE (F_X12_isKindAt X (q_si (q_si τ a 1 0) a 0 0) a v), kk.2]
  by_cases q : 0 ≤ v.toInt ∧ v.toInt < m_c X τ a 0
  · rw [if_pos q, if_neg (by decide : ¬ (1 : Int) = 0), if_neg (by decide : ¬ (1 : Int) = 0), q_letE (σ.1 (q_rf X (q_rf X C 8) 0) 4), f4]
    by_cases q2 : m_c X τ a 2 = 0
    · rw [if_pos q2, F_X12_sayer_L26_1_s, sy_endM M m2 v 0 (by rw [q2, Int.mul_zero]; decide)]
      exact ob_none K A M 8
    · rw [if_neg q2, q_letE (σ.1 (q_rf X C 8) 7), f7]
      by_cases q7 : m_c X τ a 7 = 0
      · rw [if_pos q7]
        exact sy_loop K A M q (by omega) _ _ 0 0 (Nat.lt_succ_self _) (Nat.lt_succ_self _) (by rw [z0]; omega) (by decide) (fun t t1 t2 => by omega)
      · rw [if_neg q7, sy_eq]
        exact sy_loop K A M q (by omega) _ _ 1 0 (Nat.lt_succ_self _) (Nat.lt_succ_self _) (by rw [z0, one]; omega) (by decide) (fun t t1 t2 => by omega)
  · rw [if_neg q, if_pos rfl, if_pos rfl]
    exact ob_none K A M 2
end QJ
end
/-! FROM 59p.copyhand.lean.txt -/
section
/-! TRAYS: their forms in both; a hand copied (answer and status) -/
def ct_F (X : XW) (C a : Nat) (σ τ : ST) : Prop := ∀ i : Nat, i < 4 → (σ.1 (q_rf X (q_rf X C 3) i) 0).toInt = (τ.1 (q_rf X a 4) i).toInt ∧ (σ.1 (q_rf X (q_rf X C 3) i) 1).toInt = (τ.1 (q_rf X a 5) i).toInt
def ct_B (X : XW) (C : Nat) (σ : ST) : Prop := ∀ i : Nat, i < 4 → -1 ≤ (σ.1 (q_rf X (q_rf X C 3) i) 1).toInt ∧ (σ.1 (q_rf X (q_rf X C 3) i) 1).toInt ≤ 60
def ob_S (C a : Nat) (P Q : Int32 × ST) : Prop := P.1.toInt = Q.1.toInt ∧ (P.2.1 C 0).toInt = (Q.2.1 a 0).toInt
section QP
variable {X : XW} {lb : Nat → Nat} {C a r : Nat} {σ τ : ST} {n : Int}
theorem ob_O.s {P Q : Int32 × ST} (h : ob_O X C a P Q) : ob_S C a P Q := ⟨h.1, h.2.1⟩
theorem ct_at (v : Int32) : F_X11_trayAt X σ C v = if 0 ≤ v.toInt ∧ v.toInt < 4 then some (q_rf X (q_rf X C 3) v.toNatClampNeg) else none := by
  unfold F_X11_trayAt
  by_cases q : v.toInt < 0
  · rw [if_pos q, if_neg (by omega)]
  · rw [if_neg q]
    by_cases q2 : v.toInt < 4
    · rw [if_pos q2, if_pos (⟨by omega, q2⟩ : 0 ≤ v.toInt ∧ v.toInt < 4)]
    · rw [if_neg q2, if_neg (by omega)]
theorem ct_isTray (v : Int32) : (F_X12_isTray X τ a v).toInt = if 0 ≤ v.toInt ∧ v.toInt ≤ 3 then 1 else 0 := by
  have e0 : (0 : Int64).toInt = 0 := rfl
  have e3 : (3 : Int64).toInt = 3 := rfl
  unfold F_X12_isTray
  rw [q_letE v.toInt64, q_letE (F_X12_isIn X τ v.toInt64 (0 : Int64) (3 : Int64))]
  exact lk_in (X := X) v e0 e3
theorem ct_mis : (F_X10_isMissing X σ r).toInt = if (σ.1 r 1).toInt = -1 then 1 else 0 := by
  unfold F_X10_isMissing
  rw [q_letE (σ.1 r 1)]
  by_cases q : (σ.1 r 1).toInt = -1
  · rw [if_pos q, if_pos q]; rfl
  · rw [if_neg q, if_neg q]; rfl
theorem ct_has (b : -1 ≤ (σ.1 r 1).toInt ∧ (σ.1 r 1).toInt ≤ 60) (v1 v2 : Int32) : (F_X10_hasPlaces X σ r v1 v2).toInt = if 0 ≤ v2.toInt ∧ v2.toInt ≤ (σ.1 r 1).toInt ∧ 0 ≤ v1.toInt ∧ v1.toInt + v2.toInt ≤ (σ.1 r 1).toInt then 1 else 0 := by
  unfold F_X10_hasPlaces
  by_cases q1 : v2.toInt < 0
  · rw [if_pos q1, if_neg (by omega)]; rfl
  · rw [if_neg q1, q_letE (σ.1 r 1)]
    by_cases q2 : (σ.1 r 1).toInt < v2.toInt
    · rw [if_pos q2, if_neg (by omega)]; rfl
    · rw [if_neg q2]
      by_cases q3 : v1.toInt < 0
      · rw [if_pos q3, if_neg (by omega)]; rfl
      · have e : (σ.1 r 1 - v2).toInt = (σ.1 r 1).toInt - v2.toInt := by rw [ar_sub, ar_wr (by omega) (by omega)]
        rw [if_neg q3, q_letE (σ.1 r 1), q_letE (σ.1 r 1 - v2), e]
        by_cases q4 : (σ.1 r 1).toInt - v2.toInt < v1.toInt
        · rw [if_pos q4, if_neg (by omega)]; rfl
        · rw [if_neg q4, if_pos (⟨by omega, by omega, by omega, by omega⟩ : 0 ≤ v2.toInt ∧ v2.toInt ≤ (σ.1 r 1).toInt ∧ 0 ≤ v1.toInt ∧ v1.toInt + v2.toInt ≤ (σ.1 r 1).toInt)]; rfl
theorem ct_k (T : q_T X) (ha : q_kd X a = 12) : q_kd X (q_rf X a 4) = 30 ∧ q_kd X (q_rf X a 5) = 31 ∧ q_kd X (q_rf X a 6) = 32 :=
  ⟨(T.1 a 4 (by rw [ha]; decide)).trans (by rw [ha]; rfl), (T.1 a 5 (by rw [ha]; decide)).trans (by rw [ha]; rfl), (T.1 a 6 (by rw [ha]; decide)).trans (by rw [ha]; rfl)⟩
theorem cp_put (x : Int32) (y : Int64) : (F_X10_put X σ r x y).1 = σ.1 := by
  unfold F_X10_put
  split
  · rfl
  · split
    · rw [q_letE (F_X10_cut X σ r y), q_letE]; rfl
    · rfl
theorem cp_C {f v1 : Int32} (fu : Nat) : ∀ (x : Int32) (σ' : ST), (2147483647 - x.toInt).toNat < fu → ∃ σ'' : ST, F_X11_copyHand_L74_1 X f C v1 r fu x σ' = (f, q_si σ'' C 0 0) ∧ σ''.1 = σ'.1 := by
  have fb := ar_bd f
  induction fu with
  | zero => intro x σ' h; exact absurd h (Nat.not_lt_zero _)
  | succ fu ih =>
    intro x σ' h
    rw [F_X11_copyHand_L74_1_s]
    unfold F_X11_copyHand_B74_1
    by_cases q : x.toInt < f.toInt
    · have e1 : (x + 1).toInt = x.toInt + 1 := y_inc (by omega)
      rw [if_pos q, q_letE (F_X1_heldBy X σ' (q_rf X (q_rf X C 8) 1) v1 x), q_letE (F_X1_heldBy X σ' (q_rf X (q_rf X C 8) 1) v1 x).toInt64, q_letE (F_X10_put X σ' r x (F_X1_heldBy X σ' (q_rf X (q_rf X C 8) 1) v1 x).toInt64), q_letE (x + 1)]
      obtain ⟨s, e, k⟩ := ih (x + 1) (F_X10_put X σ' r x (F_X1_heldBy X σ' (q_rf X (q_rf X C 8) 1) v1 x).toInt64) (by omega)
      exact ⟨s, e, k.trans (cp_put _ _)⟩
    · rw [if_neg q]
      unfold F_X11_copyHand_E107_2
      rw [ob_pe, mv_good]
      exact ⟨σ', rfl, rfl⟩
theorem cp_M {g v1 v2 : Int32} (fu : Nat) : ∀ (x : Int32) (τ' : ST), (2147483647 - x.toInt).toNat < fu → τ'.1 (q_rf X a 20) 0 = g → ∃ τ'' : ST, F_X12_copyHand_L76_1 X a v2 v1 fu x τ' = (g, τ'') ∧ τ''.1 = τ'.1 := by
  have gb := ar_bd g
  have e0 : (0 : Int32).toNatClampNeg = 0 := rfl
  induction fu with
  | zero => intro x τ' h; exact absurd h (Nat.not_lt_zero _)
  | succ fu ih =>
    intro x τ' h hg
    rw [F_X12_copyHand_L76_1_s]
    unfold F_X12_copyHand_B76_1
    rw [e0, hg, q_letE g]
    by_cases q : x.toInt < g.toInt
    · have e1 : (x + 1).toInt = x.toInt + 1 := y_inc (by omega)
      rw [if_pos q, q_letE ((60 : Int32) * v2), q_letE ((60 : Int32) * v2 + x), q_letE (F_X12_handOf X τ' a v1 x), q_letE (F_X12_handOf X τ' a v1 x).toInt64, q_letE (q_sl τ' (q_rf X a 6) ((60 : Int32) * v2 + x).toNatClampNeg (F_X12_handOf X τ' a v1 x).toInt64), q_letE (x + 1)]
      obtain ⟨s, e, k⟩ := ih (x + 1) (q_sl τ' (q_rf X a 6) ((60 : Int32) * v2 + x).toNatClampNeg (F_X12_handOf X τ' a v1 x).toInt64) (by omega) hg
      exact ⟨s, e, k⟩
    · rw [if_neg q]
      unfold F_X12_copyHand_E110_2
      rw [e0, hg, q_letE g]
      exact ⟨τ', rfl, rfl⟩
theorem ob_copyHand (K : al_C X lb C a) (A : al_R X C a σ τ) (M : m_M (m_c X τ a) (τ.1 a 24).toInt n) (F : ct_F X C a σ τ) (B : ct_B X C σ) (v1 v2 : Int32) : ob_S C a (F_X11_copyHand X σ C v1 v2) (F_X12_copyHand X τ a v1 v2) := by
  obtain ⟨kC, ka, S, lC, G8, G9, GM⟩ := id K
  obtain ⟨m2, s2, t2⟩ := mv_beg S.1 ka (rfl : m_c X τ a = m_c X τ a)
  have w : y_W X lb (q_rf X C 8) 1 σ σ (y_v X (q_rf X C 8) σ) := y_W.rf
  obtain ⟨k30, k31, k32⟩ := ct_k S.1 ka
  have e0 : (0 : Int32).toNatClampNeg = 0 := rfl
  have z0 : (0 : Int32).toInt = 0 := rfl
  have h0 := M.1.1.1.1
  have none := fun k => (ob_none K A M k).s
  have pp := an_p K A M m2 v1
  have f0 : (σ.1 (q_rf X (q_rf X C 8) 0) 0).toInt = m_c X τ a 0 := (w.rd (id := 1) (by decide) 0 rfl).trans A.1.1.1.1
  have g0 : ((q_si (q_si τ a 1 0) a 0 0).1 (q_rf X a 20) 0).toInt = m_c X τ a 0 := gm_cell (A := 0) (i := 0) m2 rfl
  unfold F_X11_copyHand F_X12_copyHand
  rw [q_letE (F_X11_trayAt X σ C v2), ct_at, q_letE (q_si τ a 1 0), q_letE (q_si (q_si τ a 1 0) a 0 0), q_letE (F_X12_isTray X (q_si (q_si τ a 1 0) a 0 0) a v2), ct_isTray]
  by_cases q : 0 ≤ v2.toInt ∧ v2.toInt < 4
  · have i4 : v2.toNatClampNeg < 4 := by rw [ar_cl]; omega
    have Fi := (F v2.toNatClampNeg i4).2
    have Bi := B v2.toNatClampNeg i4
    obtain ⟨r, hr⟩ : ∃ r, r = q_rf X (q_rf X C 3) v2.toNatClampNeg := ⟨_, rfl⟩
    rw [← hr] at Fi Bi
    have f5 : (q_si (q_si τ a 1 0) a 0 0).1 (q_rf X a 5) v2.toNatClampNeg = τ.1 (q_rf X a 5) v2.toNatClampNeg := by
      rw [q_si_ne (m_ne k31 ka (by decide)), q_si_ne (m_ne k31 ka (by decide))]
    rw [if_pos q, if_pos (⟨q.1, by omega⟩ : 0 ≤ v2.toInt ∧ v2.toInt ≤ 3), on_s, ← hr, if_neg (by decide : ¬ (1 : Int) = 0), q_letE (F_X10_isMissing X σ r), ct_mis, q_letE ((q_si (q_si τ a 1 0) a 0 0).1 (q_rf X a 5) v2.toNatClampNeg), f5, ← Fi]
    by_cases qm : (σ.1 r 1).toInt = -1
    · rw [if_pos qm, if_neg (by decide : ¬ (1 : Int) = 0), if_pos (by omega : (σ.1 r 1).toInt < 0)]
      exact none 3
    · rw [if_neg qm, if_pos (rfl : (0 : Int) = 0), if_neg (by omega : ¬ (σ.1 r 1).toInt < 0), q_letE (F_X11_isPlayer X σ C v1), pp.1, q_letE (F_X12_isPlayerAt X (q_si (q_si τ a 1 0) a 0 0) a v1), pp.2]
      by_cases qp : 0 ≤ v1.toInt ∧ v1.toInt < m_c X τ a 2
      · rw [if_pos qp, if_neg (by decide : ¬ (1 : Int) = 0), if_neg (by decide : ¬ (1 : Int) = 0), q_letE (σ.1 (q_rf X (q_rf X C 8) 0) 0)]
        obtain ⟨f, hf⟩ : ∃ f, f = σ.1 (q_rf X (q_rf X C 8) 0) 0 := ⟨_, rfl⟩
        rw [← hf] at f0 ⊢
        rw [q_letE (F_X10_hasPlaces X σ r (0 : Int32) f), ct_has Bi, f0, z0, q_letE (τ.1 (q_rf X a 5) v2.toNatClampNeg), e0, q_letE ((q_si (q_si τ a 1 0) a 0 0).1 (q_rf X a 20) 0), ← Fi, g0]
        by_cases qh : (σ.1 r 1).toInt < m_c X τ a 0
        · rw [if_neg (by omega : ¬ (0 ≤ m_c X τ a 0 ∧ m_c X τ a 0 ≤ (σ.1 r 1).toInt ∧ (0 : Int) ≤ 0 ∧ 0 + m_c X τ a 0 ≤ (σ.1 r 1).toInt)), if_pos (rfl : (0 : Int) = 0), if_pos qh]
          exact none 4
        · rw [if_pos (⟨by omega, by omega, by omega, by omega⟩ : 0 ≤ m_c X τ a 0 ∧ m_c X τ a 0 ≤ (σ.1 r 1).toInt ∧ (0 : Int) ≤ 0 ∧ 0 + m_c X τ a 0 ≤ (σ.1 r 1).toInt), if_neg (by decide : ¬ (1 : Int) = 0), if_neg qh]
          obtain ⟨s', c1, c2⟩ := cp_C (X := X) (C := C) (r := r) (f := f) (v1 := v1) ((2147483647 - (0 : Int)).toNat + 1) 0 σ (by rw [z0]; exact Nat.lt_succ_self _)
          obtain ⟨t', d1, d2⟩ := cp_M (X := X) (a := a) (v1 := v1) (v2 := v2) ((2147483647 - (0 : Int)).toNat + 1) 0 (q_si (q_si τ a 1 0) a 0 0) (by rw [z0]; exact Nat.lt_succ_self _) rfl
          rw [c1, d1]
          refine ⟨?_, ?_⟩
          · show f.toInt = ((q_si (q_si τ a 1 0) a 0 0).1 (q_rf X a 20) 0).toInt
            rw [f0, g0]
          · show ((q_si s' C 0 0).1 C 0).toInt = (t'.1 a 0).toInt
            rw [si_eq, d2, s2]
      · rw [if_neg qp, if_pos (rfl : (0 : Int) = 0), if_pos (rfl : (0 : Int) = 0)]
        exact none 2
  · rw [if_neg q, if_neg (by omega : ¬ (0 ≤ v2.toInt ∧ v2.toInt ≤ 3)), on_n, if_pos (rfl : (0 : Int) = 0)]
    exact none 1
end QP
end
/-! FROM 59r.status.lean.txt -/
section
/-! STATUS: trays, liar, lies, waits leave the same status in both (their answers apart) -/
def st_E (C a : Nat) (s t : ST) : Prop := (s.1 C 0).toInt = (t.1 a 0).toInt
def st_0 (a : Nat) (R : Int32 × ST) : Prop := (R.2.1 a 0).toInt = 0
theorem st_let {α : Type} {a : Nat} {v : α} {k : α → Int32 × ST} (h : ∀ z, st_0 a (k z)) : st_0 a (q_let v k) := h v
section QS
variable {X : XW} {lb : Nat → Nat} {C a r : Nat} {σ τ : ST} {n : Int}
theorem st_no (k : Int32) : ob_S C a (q_bi (F_X11_no X σ C k) (fun r s => (r, s))) (q_bi (F_X12_no X τ a k) (fun r s => (r, s))) := by
  rw [ob_pe, ob_pe, mv_no, mv_noM]
  refine ⟨rfl, ?_⟩
  show ((q_si σ C 0 k).1 C 0).toInt = ((q_si τ a 0 k).1 a 0).toInt
  rw [si_eq, si_eq]
/-- tray -/
theorem st_trayL {v1 v3 : Int32} (fu : Nat) : ∀ (x : Int32) (τ' : ST), (2147483647 - x.toInt).toNat < fu → ∃ τ'' : ST, F_X12_tray_L74_1 X v3 v1 a fu x τ' = ((1 : Int32), τ'') ∧ τ''.1 = τ'.1 := by
  have vb := ar_bd v3
  induction fu with
  | zero => intro x τ' h; exact absurd h (Nat.not_lt_zero _)
  | succ fu ih =>
    intro x τ' h
    rw [F_X12_tray_L74_1_s]
    unfold F_X12_tray_B74_1
    by_cases q : x.toInt < v3.toInt
    · have e1 : (x + 1).toInt = x.toInt + 1 := y_inc (by omega)
      rw [if_pos q, q_letE ((60 : Int32) * v1), q_letE ((60 : Int32) * v1 + x), q_letE (q_sl τ' (q_rf X a 6) ((60 : Int32) * v1 + x).toNatClampNeg 0), q_letE (x + 1)]
      obtain ⟨s, e, k⟩ := ih (x + 1) (q_sl τ' (q_rf X a 6) ((60 : Int32) * v1 + x).toNatClampNeg 0) (by omega)
      exact ⟨s, e, k⟩
    · rw [if_neg q]
      exact ⟨τ', rfl, rfl⟩
theorem ob_tray (K : al_C X lb C a) (v1 v2 v3 : Int32) : ob_S C a (F_X11_tray X σ C v1 v2 v3) (F_X12_tray X τ a v1 v2 v3) := by
  obtain ⟨kC, ka, S, lC, G8, G9, GM⟩ := id K
  obtain ⟨k30, k31, k32⟩ := ct_k S.1 ka
  have z0 : (0 : Int32).toInt = 0 := rfl
  have no := fun k => st_no (X := X) (C := C) (a := a) (σ := σ) (τ := q_si (q_si τ a 1 0) a 0 0) k
  unfold F_X11_tray F_X12_tray
  rw [q_letE (F_X11_trayAt X σ C v1), ct_at, q_letE (q_si τ a 1 0), q_letE (q_si (q_si τ a 1 0) a 0 0)]
  by_cases q : 0 ≤ v1.toInt ∧ v1.toInt < 4
  · rw [if_pos q, on_s, if_neg (by omega : ¬ v1.toInt < 0), if_pos q.2]
    by_cases q1 : v2.toInt < 0
    · rw [if_pos q1, if_pos q1]; exact no 1
    rw [if_neg q1, if_neg q1]
    by_cases q2 : 3 < v2.toInt
    · rw [if_pos q2, if_pos q2]; exact no 1
    rw [if_neg q2, if_neg q2]
    by_cases q3 : 60 < v3.toInt
    · rw [if_pos q3, if_pos q3]; exact no 5
    rw [if_neg q3, if_neg q3]
    by_cases q4 : v3.toInt < 0
    · rw [if_pos q4, if_pos q4]; exact no 6
    rw [if_neg q4, if_neg q4]
    obtain ⟨σ4, e4⟩ : ∃ s, s = F_X10_make X σ (q_rf X (q_rf X C 3) v1.toNatClampNeg) v2 v3 := ⟨_, rfl⟩
    obtain ⟨τ4, f4⟩ : ∃ s, s = q_si (q_si (q_si (q_si τ a 1 0) a 0 0) (q_rf X a 4) v1.toNatClampNeg v2) (q_rf X a 5) v1.toNatClampNeg v3 := ⟨_, rfl⟩
    rw [q_letE (F_X10_make X σ (q_rf X (q_rf X C 3) v1.toNatClampNeg) v2 v3), ← e4, q_letE (q_si (q_si (q_si τ a 1 0) a 0 0) (q_rf X a 4) v1.toNatClampNeg v2), q_letE (q_si (q_si (q_si (q_si τ a 1 0) a 0 0) (q_rf X a 4) v1.toNatClampNeg v2) (q_rf X a 5) v1.toNatClampNeg v3), ← f4, ob_pe, mv_yes]
    have g4 : τ4.1 a 0 = 0 := by
      rw [f4, q_si_ne (m_ne ka k31 (by decide)), q_si_ne (m_ne ka k30 (by decide)), si_eq]
    obtain ⟨s, e, k⟩ := st_trayL (X := X) (a := a) (v1 := v1) (v3 := v3) ((2147483647 - (0 : Int32).toInt).toNat + 1) 0 τ4 (Nat.lt_succ_self _)
    rw [e]
    refine ⟨rfl, ?_⟩
    show ((q_si σ4 C 0 0).1 C 0).toInt = (s.1 a 0).toInt
    rw [si_eq, k, g4]
  · rw [if_neg q, on_n]
    by_cases q1 : v1.toInt < 0
    · rw [if_pos q1]; exact no 1
    · rw [if_neg q1, if_neg (by omega : ¬ v1.toInt < 4)]; exact no 1
/-- what is wrong with a place -/
theorem st_place (F : ct_F X C a σ τ) (B : ct_B X C σ) {v1 : Int32} (q : 0 ≤ v1.toInt ∧ v1.toInt < 4) (v2 : Int32) : F_X12_placed X τ a v1 v2 = F_X11_placeStatus X σ (q_rf X (q_rf X C 3) v1.toNatClampNeg) v2 ∧ ((F_X12_placed X τ a v1 v2).toInt = 0 ∨ (F_X12_placed X τ a v1 v2).toInt = 3 ∨ (F_X12_placed X τ a v1 v2).toInt = 4) := by
  have i4 : v1.toNatClampNeg < 4 := by rw [ar_cl]; omega
  have Fi := (F v1.toNatClampNeg i4).2
  have Bi := B v1.toNatClampNeg i4
  have one : (1 : Int32).toInt = 1 := rfl
  have z0 : (0 : Int32).toInt = 0 := rfl
  have z3 : (3 : Int32).toInt = 3 := rfl
  have z4 : (4 : Int32).toInt = 4 := rfl
  obtain ⟨r, hr⟩ : ∃ r, r = q_rf X (q_rf X C 3) v1.toNatClampNeg := ⟨_, rfl⟩
  rw [← hr] at Fi Bi ⊢
  unfold F_X12_placed F_X12_trayed F_X11_placeStatus
  rw [if_neg (by omega : ¬ v1.toInt < 0), if_pos q.2, q_letE (τ.1 (q_rf X a 5) v1.toNatClampNeg), ← Fi, q_letE (F_X10_isMissing X σ r), ct_mis]
  by_cases qm : (σ.1 r 1).toInt = -1
  · rw [if_pos qm, if_pos (by omega : (σ.1 r 1).toInt < 0), if_neg (by decide : ¬ (1 : Int) = 0), q_letE (3 : Int32), z3, if_pos (by decide : (0 : Int) < 3)]
    exact ⟨rfl, Or.inr (Or.inl z3)⟩
  · rw [if_neg qm, if_neg (by omega : ¬ (σ.1 r 1).toInt < 0), if_pos (rfl : (0 : Int) = 0), q_letE (0 : Int32), z0, if_neg (by decide : ¬ (0 : Int) < 0), q_letE (F_X10_hasPlaces X σ r v2 (1 : Int32)), ct_has Bi, one]
    by_cases q2 : v2.toInt < 0
    · rw [if_pos q2, if_neg (by omega : ¬ (0 ≤ (1 : Int) ∧ 1 ≤ (σ.1 r 1).toInt ∧ 0 ≤ v2.toInt ∧ v2.toInt + 1 ≤ (σ.1 r 1).toInt)), if_pos (rfl : (0 : Int) = 0)]
      exact ⟨rfl, Or.inr (Or.inr z4)⟩
    · rw [if_neg q2, q_letE (τ.1 (q_rf X a 5) v1.toNatClampNeg), ← Fi]
      by_cases q3 : v2.toInt < (σ.1 r 1).toInt
      · rw [if_pos q3, if_pos (⟨by omega, by omega, by omega, by omega⟩ : 0 ≤ (1 : Int) ∧ 1 ≤ (σ.1 r 1).toInt ∧ 0 ≤ v2.toInt ∧ v2.toInt + 1 ≤ (σ.1 r 1).toInt), if_neg (by decide : ¬ (1 : Int) = 0)]
        exact ⟨rfl, Or.inl z0⟩
      · rw [if_neg q3, if_neg (by omega : ¬ (0 ≤ (1 : Int) ∧ 1 ≤ (σ.1 r 1).toInt ∧ 0 ≤ v2.toInt ∧ v2.toInt + 1 ≤ (σ.1 r 1).toInt)), if_pos (rfl : (0 : Int) = 0)]
        exact ⟨rfl, Or.inr (Or.inr z4)⟩
theorem st_place0 {v1 : Int32} (q : ¬ (0 ≤ v1.toInt ∧ v1.toInt < 4)) (v2 : Int32) : F_X12_placed X τ a v1 v2 = 1 := by
  have one : (1 : Int32).toInt = 1 := rfl
  have t : F_X12_trayed X τ a v1 = 1 := by
    unfold F_X12_trayed
    by_cases q1 : v1.toInt < 0
    · rw [if_pos q1]
    · rw [if_neg q1, if_neg (by omega : ¬ v1.toInt < 4)]
  unfold F_X12_placed
  rw [q_letE (F_X12_trayed X τ a v1), t, one, if_pos (by decide : (0 : Int) < 1)]
theorem st_ct1 (K : al_C X lb C a) (F : ct_F X C a σ τ) : ct_F X C a σ (q_si τ a 1 0) := fun i hi => by
  obtain ⟨kC, ka, S, -⟩ := id K
  obtain ⟨k30, k31, k32⟩ := ct_k S.1 ka
  rw [q_si_ne (m_ne k30 ka (by decide)), q_si_ne (m_ne k31 ka (by decide))]
  exact F i hi
/-- write -/
theorem ob_write (K : al_C X lb C a) (F : ct_F X C a σ τ) (B : ct_B X C σ) (v1 v2 : Int32) (v3 : Int64) : ob_S C a (F_X11_write X σ C v1 v2 v3) (F_X12_write X τ a v1 v2 v3) := by
  have one : (1 : Int32).toInt = 1 := rfl
  unfold F_X11_write F_X12_write
  rw [q_letE (F_X11_trayAt X σ C v1), ct_at, q_letE (q_si τ a 1 0), q_letE (F_X12_placed X (q_si τ a 1 0) a v1 v2)]
  by_cases q : 0 ≤ v1.toInt ∧ v1.toInt < 4
  · obtain ⟨p1, p2⟩ := st_place (st_ct1 K F) B q v2
    rw [if_pos q, on_s]
    obtain ⟨r, hr⟩ : ∃ r, r = q_rf X (q_rf X C 3) v1.toNatClampNeg := ⟨_, rfl⟩
    rw [← hr] at p1 ⊢
    rw [q_letE (F_X11_placeStatus X σ r v2), ← p1]
    obtain ⟨w, hw⟩ : ∃ w, w = F_X12_placed X (q_si τ a 1 0) a v1 v2 := ⟨_, rfl⟩
    rw [← hw] at p2 ⊢
    rw [q_letE (q_si (q_si τ a 1 0) a 0 w), q_letE ((q_si (q_si τ a 1 0) a 0 w).1 a 0), si_eq]
    by_cases w0 : w.toInt = 0
    · have we : w = 0 := Int32.toInt_inj.mp w0
      rw [if_pos w0, if_neg (by omega : ¬ 0 < w.toInt), q_letE (F_X10_put X σ r v2 v3), ob_pe, mv_yes, q_letE ((60 : Int32) * v1), q_letE ((60 : Int32) * v1 + v2), q_letE ((q_si (q_si τ a 1 0) a 0 w).1 (q_rf X a 4) v1.toNatClampNeg), q_letE (F_X12_cut X (q_si (q_si τ a 1 0) a 0 w) ((q_si (q_si τ a 1 0) a 0 w).1 (q_rf X a 4) v1.toNatClampNeg) v3), q_letE]
      refine ⟨rfl, ?_⟩
      show ((q_si (F_X10_put X σ r v2 v3) C 0 0).1 C 0).toInt = ((q_si (q_si τ a 1 0) a 0 w).1 a 0).toInt
      rw [si_eq, si_eq, we]
    · rw [if_neg w0, if_pos (by omega : 0 < w.toInt), ob_pe, mv_no]
      refine ⟨rfl, ?_⟩
      show ((q_si σ C 0 w).1 C 0).toInt = ((q_si (q_si τ a 1 0) a 0 w).1 a 0).toInt
      rw [si_eq, si_eq]
  · rw [if_neg q, on_n, q_letE (F_X11_placeStatus_n X σ v2), st_place0 q, q_letE (q_si (q_si τ a 1 0) a 0 1), q_letE ((q_si (q_si τ a 1 0) a 0 1).1 a 0), si_eq, one, if_pos (by decide : (0 : Int) < 1), ob_pe, mv_no]
    refine ⟨rfl, ?_⟩
    show ((q_si σ C 0 (F_X11_placeStatus_n X σ v2)).1 C 0).toInt = ((q_si (q_si τ a 1 0) a 0 1).1 a 0).toInt
    rw [si_eq, si_eq]
    rfl
/-- read: the status alone -/
theorem st_read (K : al_C X lb C a) (F : ct_F X C a σ τ) (B : ct_B X C σ) (v1 v2 : Int32) : st_E C a (F_X11_read X σ C v1 v2).2 (F_X12_read X τ a v1 v2).2 := by
  have one : (1 : Int32).toInt = 1 := rfl
  unfold F_X11_read F_X12_read
  rw [q_letE (F_X11_trayAt X σ C v1), ct_at, q_letE (q_si τ a 1 0), q_letE (F_X12_placed X (q_si τ a 1 0) a v1 v2)]
  by_cases q : 0 ≤ v1.toInt ∧ v1.toInt < 4
  · obtain ⟨p1, p2⟩ := st_place (st_ct1 K F) B q v2
    rw [if_pos q, on_s]
    obtain ⟨r, hr⟩ : ∃ r, r = q_rf X (q_rf X C 3) v1.toNatClampNeg := ⟨_, rfl⟩
    rw [← hr] at p1 ⊢
    rw [q_letE (F_X11_placeStatus X σ r v2), ← p1]
    obtain ⟨w, hw⟩ : ∃ w, w = F_X12_placed X (q_si τ a 1 0) a v1 v2 := ⟨_, rfl⟩
    rw [← hw] at p2 ⊢
    rw [q_letE (q_si (q_si τ a 1 0) a 0 w), q_letE ((q_si (q_si τ a 1 0) a 0 w).1 a 0), si_eq]
    by_cases w0 : w.toInt = 0
    · have we : w = 0 := Int32.toInt_inj.mp w0
      rw [if_pos w0, if_neg (by omega : ¬ 0 < w.toInt), q_letE (q_si σ C 0 0), q_letE (F_X10_get X (q_si σ C 0 0) r v2), q_letE ((60 : Int32) * v1), q_letE ((60 : Int32) * v1 + v2), q_letE]
      show ((q_si σ C 0 0).1 C 0).toInt = ((q_si (q_si τ a 1 0) a 0 w).1 a 0).toInt
      rw [si_eq, si_eq, we]
    · rw [if_neg w0, if_pos (by omega : 0 < w.toInt), mv_none, q_biP (-1 : Int32) (q_si σ C 0 w), q_letE]
      show ((q_si σ C 0 w).1 C 0).toInt = ((q_si (q_si τ a 1 0) a 0 w).1 a 0).toInt
      rw [si_eq, si_eq]
  · rw [if_neg q, on_n, q_letE (F_X11_placeStatus_n X σ v2), st_place0 q, q_letE (q_si (q_si τ a 1 0) a 0 1), q_letE ((q_si (q_si τ a 1 0) a 0 1).1 a 0), si_eq, one, if_pos (by decide : (0 : Int) < 1), mv_none, q_biP (-1 : Int32) (q_si σ C 0 (F_X11_placeStatus_n X σ v2)), q_letE]
    show ((q_si σ C 0 (F_X11_placeStatus_n X σ v2)).1 C 0).toInt = ((q_si (q_si τ a 1 0) a 0 1).1 a 0).toInt
    rw [si_eq, si_eq]
    rfl
/-- waits, lies: the status alone -/
theorem st_waits (K : al_C X lb C a) (A : al_R X C a σ τ) (M : m_M (m_c X τ a) (τ.1 a 24).toInt n) (v : Int32) : st_E C a (F_X11_waits X σ C v).2 (F_X12_waits X τ a v).2 := by
  obtain ⟨kC, ka, S, lC, G8, G9, GM⟩ := id K
  obtain ⟨m2, s2, t2⟩ := mv_beg S.1 ka (rfl : m_c X τ a = m_c X τ a)
  have pp := an_p K A M m2 v
  unfold F_X11_waits F_X12_waits
  rw [q_letE (F_X11_isPlayer X σ C v), pp.1, q_letE (q_si τ a 1 0), q_letE (q_si (q_si τ a 1 0) a 0 0), q_letE (F_X12_isPlayerAt X (q_si (q_si τ a 1 0) a 0 0) a v), pp.2]
  by_cases q : 0 ≤ v.toInt ∧ v.toInt < m_c X τ a 2
  · rw [if_pos q, if_neg (by decide : ¬ (1 : Int) = 0), if_neg (by decide : ¬ (1 : Int) = 0), q_letE (F_X0_turnsAhead X σ (q_rf X C 8) v), q_letE (F_X12_waitsOf X (q_si (q_si τ a 1 0) a 0 0) a v), ob_pe, mv_good]
    show ((q_si σ C 0 0).1 C 0).toInt = ((q_si (q_si τ a 1 0) a 0 0).1 a 0).toInt
    rw [si_eq, si_eq]
  · rw [if_neg q, if_pos (rfl : (0 : Int) = 0), if_pos (rfl : (0 : Int) = 0)]
    exact (ob_none K A M 2).2.1
theorem st_lies (K : al_C X lb C a) (A : al_R X C a σ τ) (M : m_M (m_c X τ a) (τ.1 a 24).toInt n) (v : Int32) : st_E C a (F_X11_lies X σ C v).2 (F_X12_lies X τ a v).2 := by
  obtain ⟨kC, ka, S, lC, G8, G9, GM⟩ := id K
  obtain ⟨m2, s2, t2⟩ := mv_beg S.1 ka (rfl : m_c X τ a = m_c X τ a)
  have pp := an_k K A M m2 v
  unfold F_X11_lies F_X12_lies
  rw [q_letE (F_X11_isKind X σ C v), pp.1, q_letE (q_si τ a 1 0), q_letE (q_si (q_si τ a 1 0) a 0 0), q_letE (F_X12_isKindAt X (q_si (q_si τ a 1 0) a 0 0) a v), pp.2]
  by_cases q : 0 ≤ v.toInt ∧ v.toInt < m_c X τ a 0
  · rw [if_pos q, if_neg (by decide : ¬ (1 : Int) = 0), if_neg (by decide : ¬ (1 : Int) = 0), q_letE (F_X0_lyingOf X σ (q_rf X C 8) v), q_letE (F_X12_laidOf X (q_si (q_si τ a 1 0) a 0 0) a (-1) v), ob_pe, mv_good]
    show ((q_si σ C 0 0).1 C 0).toInt = ((q_si (q_si τ a 1 0) a 0 0).1 a 0).toInt
    rw [si_eq, si_eq]
  · rw [if_neg q, if_pos (rfl : (0 : Int) = 0), if_pos (rfl : (0 : Int) = 0)]
    exact (ob_none K A M 2).2.1
/-- liar: the status alone -/
theorem st_liarC (fu : Nat) : ∀ x p : Int32, (2147483647 - p.toInt).toNat < fu → 0 ≤ x.toInt → 0 ≤ p.toInt → st_0 C (F_X11_liar_L29_1 X σ C fu x p) := by
  induction fu with
  | zero => intro x p h; exact absurd h (Nat.not_lt_zero _)
  | succ fu ih =>
    intro x p h x0 p0
    rw [F_X11_liar_L29_1_s]
    unfold F_X11_liar_B29_1
    rw [q_letE (σ.1 (q_rf X (q_rf X C 8) 0) 4)]
    have fb := ar_bd (σ.1 (q_rf X (q_rf X C 8) 0) 4)
    by_cases q : p.toInt < (σ.1 (q_rf X (q_rf X C 8) 0) 4).toInt
    · have e1 : (p + 1).toInt = p.toInt + 1 := y_inc (by omega)
      have g1 : (2147483647 - (p + 1).toInt).toNat < fu := by rw [e1]; omega
      have g2 : 0 ≤ (p + 1).toInt := by omega
      rw [if_pos q]
      iterate 7 refine st_let (fun _ => ?_)
      split
      · rw [q_letE (p + 1)]
        exact ih _ _ g1 p0 g2
      · rw [q_letE (p + 1)]
        exact ih _ _ g1 x0 g2
    · rw [if_neg q]
      unfold F_X11_liar_E77_2 F_X11_goodOrNotThere
      rw [if_neg (by omega : ¬ x.toInt = -1), ob_pe, ob_pe, mv_good]
      show ((q_si σ C 0 0).1 C 0).toInt = 0
      rw [si_eq]
      rfl
theorem st_liarM {τ2 : ST} (s2 : τ2.1 a 0 = 0) (fu : Nat) : ∀ x p : Int32, (2147483647 - p.toInt).toNat < fu → (0 ≤ x.toInt ∨ p.toInt < (τ2.1 (q_rf X a 20) (2 : Int32).toNatClampNeg).toInt) → 0 ≤ p.toInt → st_0 a (F_X12_liar_L14_1 X τ2 a fu x p) := by
  obtain ⟨P, hP⟩ : ∃ P, P = τ2.1 (q_rf X a 20) (2 : Int32).toNatClampNeg := ⟨_, rfl⟩
  rw [← hP]
  have fb := ar_bd P
  induction fu with
  | zero => intro x p h; exact absurd h (Nat.not_lt_zero _)
  | succ fu ih =>
    intro x p h x0 p0
    rw [F_X12_liar_L14_1_s]
    unfold F_X12_liar_B14_1
    rw [← hP, q_letE P]
    by_cases q : p.toInt < P.toInt
    · have e1 : (p + 1).toInt = p.toInt + 1 := y_inc (by omega)
      have g1 : (2147483647 - (p + 1).toInt).toNat < fu := by rw [e1]; omega
      have g2 : 0 ≤ (p + 1).toInt := by omega
      rw [if_pos q]
      by_cases qx : x.toInt < 0
      · rw [if_pos qx, q_letE (p + 1)]
        exact ih _ _ g1 (Or.inl p0) g2
      · rw [if_neg qx]
        iterate 20 refine st_let (fun _ => ?_)
        split
        · rw [q_letE (p + 1)]
          exact ih _ _ g1 (Or.inl p0) g2
        · rw [q_letE (p + 1)]
          exact ih _ _ g1 (Or.inl (by omega)) g2
    · rw [if_neg q]
      unfold F_X12_liar_E120_2
      rw [if_neg (by omega : ¬ x.toInt < 0)]
      show (τ2.1 a 0).toInt = 0
      rw [s2]
      rfl
theorem st_liar (K : al_C X lb C a) (A : al_R X C a σ τ) (M : m_M (m_c X τ a) (τ.1 a 24).toInt n) : st_E C a (F_X11_liar X σ C).2 (F_X12_liar X τ a).2 := by
  obtain ⟨kC, ka, S, lC, G8, G9, GM⟩ := id K
  obtain ⟨m2, s2, t2⟩ := mv_beg S.1 ka (rfl : m_c X τ a = m_c X τ a)
  have w : y_W X lb (q_rf X C 8) 1 σ σ (y_v X (q_rf X C 8) σ) := y_W.rf
  have b2 := M.1.1.1.2.1
  have z0 : (0 : Int32).toInt = 0 := rfl
  have m1 : (-1 : Int32).toInt = -1 := rfl
  have one : (1 : Int32).toInt = 1 := rfl
  have f4 : (σ.1 (q_rf X (q_rf X C 8) 0) 4).toInt = m_c X τ a 2 := (w.rd (id := 1) (by decide) 4 rfl).trans A.1.1.1.2.2.2.2.1
  have g2 : ((q_si (q_si τ a 1 0) a 0 0).1 (q_rf X a 20) (2 : Int32).toNatClampNeg).toInt = m_c X τ a 2 := gm_cell (A := 2) m2 rfl
  unfold F_X11_liar F_X12_liar
  rw [q_letE (σ.1 (q_rf X (q_rf X C 8) 0) 4), f4, q_letE (q_si τ a 1 0), q_letE (q_si (q_si τ a 1 0) a 0 0)]
  by_cases q : m_c X τ a 2 = 0
  · rw [if_pos q, F_X11_liar_L29_3_s, F_X12_liar_L14_1_s]
    unfold F_X11_liar_B29_3 F_X12_liar_B14_1
    rw [q_letE (σ.1 (q_rf X (q_rf X C 8) 0) 4), f4, q_letE ((q_si (q_si τ a 1 0) a 0 0).1 (q_rf X a 20) (2 : Int32).toNatClampNeg), g2, one, z0, if_neg (by omega : ¬ (1 : Int) < m_c X τ a 2), if_neg (by omega : ¬ (0 : Int) < m_c X τ a 2)]
    unfold F_X11_liar_E77_4 F_X11_goodOrNotThere F_X12_liar_E120_2
    rw [m1, if_pos (rfl : (-1 : Int) = -1), if_pos (by decide : (-1 : Int) < 0), ob_pe]
    exact (ob_none K A M 8).2.1
  · rw [if_neg q]
    have c := st_liarC (X := X) (C := C) (σ := σ) ((2147483647 - (1 : Int32).toInt).toNat + 1) 0 1 (Nat.lt_succ_self _) (by decide) (by decide)
    have m := st_liarM (X := X) (a := a) s2 ((2147483647 - (0 : Int32).toInt).toNat + 1) (-1) 0 (Nat.lt_succ_self _) (Or.inr (by rw [g2, z0]; omega)) (by decide)
    exact Eq.trans c (Eq.symm m)
end QS
end
/-! FROM 59s.trays.lean.txt -/
section
/-! TRAYS: what they hold is the same in both -/
def tf (h : Nat → Nat → Int64) (N : Nat) (x e : Int) (v : Int → Int64) : Nat → Nat → Int64 := fun b g => if b = N ∧ x ≤ (g : Int) ∧ (g : Int) < e then v (g : Int) else h b g
theorem tf_0 {h : Nat → Nat → Int64} {N : Nat} {x e : Int} {v : Int → Int64} (q : e ≤ x) : tf h N x e v = h := by
  funext b g
  unfold tf
  rw [if_neg (fun z => by omega)]
theorem tf_s {h : Nat → Nat → Int64} {N i : Nat} {x e : Int} {v : Int → Int64} {w : Int64} (hx : x < e) (hi : (i : Int) = x) (hw : w = v x) : tf (fun b g => if b = N ∧ g = i then w else h b g) N (x + 1) e v = tf h N x e v := by
  funext b g
  unfold tf
  by_cases q : b = N ∧ x + 1 ≤ (g : Int) ∧ (g : Int) < e
  · rw [if_pos q, if_pos (⟨q.1, by omega, by omega⟩ : b = N ∧ x ≤ (g : Int) ∧ (g : Int) < e)]
  · rw [if_neg q]
    show (if b = N ∧ g = i then w else h b g) = _
    by_cases q2 : b = N ∧ g = i
    · have e2 : (g : Int) = x := by omega
      rw [if_pos q2, if_pos (⟨q2.1, by omega, by omega⟩ : b = N ∧ x ≤ (g : Int) ∧ (g : Int) < e), hw, e2]
    · rw [if_neg q2, if_neg (fun z => by omega)]
def ct_N (X : XW) (C a : Nat) (σ τ : ST) : Prop := ∀ i : Nat, i < 4 → ∀ k : Nat, (k : Int) < (σ.1 (q_rf X (q_rf X C 3) i) 1).toInt → σ.2.1 (q_rf X (q_rf X (q_rf X C 3) i) 2) k = τ.2.1 (q_rf X a 6) (60 * i + k)
def ct_Q (X : XW) (C a : Nat) (σ τ : ST) : Prop := ct_F X C a σ τ ∧ ct_N X C a σ τ
section QV
variable {X : XW} {lb : Nat → Nat} {C a r : Nat} {σ τ σ' τ' : ST} {n : Int}
theorem ct_kC (T : q_T X) (hC : q_kd X C = 11) {i : Nat} (hi : i < 4) : q_kd X (q_rf X C 3) = 23 ∧ q_rk 23 i ≠ 0 ∧ q_kd X (q_rf X (q_rf X C 3) i) = 10 ∧ q_kd X (q_rf X (q_rf X (q_rf X C 3) i) 2) = 21 := by
  have h : q_kd X (q_rf X C 3) = 23 := (T.1 C 3 (by rw [hC]; decide)).trans (by rw [hC]; rfl)
  have e : q_rk 23 i = 10 := by
    rcases (by omega : i = 0 ∨ i = 1 ∨ i = 2 ∨ i = 3) with e | e | e | e <;> subst e <;> rfl
  have k : q_kd X (q_rf X (q_rf X C 3) i) = 10 := (T.1 (q_rf X C 3) i (by rw [h, e]; decide)).trans (by rw [h, e])
  exact ⟨h, by rw [e]; decide, k, (T.1 _ 2 (by rw [k]; decide)).trans (by rw [k]; rfl)⟩
/-- the four trays, and their rows, are apart -/
theorem ct_ap (K : al_C X lb C a) {i j : Nat} (hi : i < 4) (hj : j < 4) (h : i ≠ j) : q_rf X (q_rf X C 3) i ≠ q_rf X (q_rf X C 3) j ∧ q_rf X (q_rf X (q_rf X C 3) i) 2 ≠ q_rf X (q_rf X (q_rf X C 3) j) 2 := by
  obtain ⟨kC, ka, S, lC, -⟩ := K
  have l3 : lb (q_rf X C 3) = 19 := (S.2.1 C 3 (by rw [kC]; decide)).trans (by rw [lC]; decide)
  have li : ∀ t : Nat, t < 4 → lb (q_rf X (q_rf X C 3) t) = 304 + t := fun t ht => by
    obtain ⟨k23, nz, k10, -⟩ := ct_kC S.1 kC ht
    have z := S.2.1 (q_rf X C 3) t (by rw [k23]; exact nz)
    rw [z, l3]
    rcases (by omega : t = 0 ∨ t = 1 ∨ t = 2 ∨ t = 3) with e | e | e | e <;> subst e <;> decide
  have ln : ∀ t : Nat, t < 4 → lb (q_rf X (q_rf X (q_rf X C 3) t) 2) = 4866 + 16 * t := fun t ht => by
    obtain ⟨k23, nz, k10, -⟩ := ct_kC S.1 kC ht
    have z := S.2.1 (q_rf X (q_rf X C 3) t) 2 (by rw [k10]; decide)
    rw [z, li t ht]
    rcases (by omega : t = 0 ∨ t = 1 ∨ t = 2 ∨ t = 3) with e | e | e | e <;> subst e <;> decide
  refine ⟨fun e => ?_, fun e => ?_⟩
  · have z := (li i hi).symm.trans ((congrArg lb e).trans (li j hj))
    omega
  · have z := (ln i hi).symm.trans ((congrArg lb e).trans (ln j hj))
    omega
theorem ct_Q.sC (K : al_C X lb C a) (h : ct_Q X C a σ τ) (f : Nat) (k : Int32) : ct_Q X C a (q_si σ C f k) τ := by
  obtain ⟨kC, ka, S, -⟩ := K
  refine ⟨fun i hi => ?_, fun i hi => ?_⟩
  · obtain ⟨-, -, k10, -⟩ := ct_kC S.1 kC hi
    rw [q_si_ne (m_ne k10 kC (by decide)), q_si_ne (m_ne k10 kC (by decide))]
    exact h.1 i hi
  · obtain ⟨-, -, k10, -⟩ := ct_kC S.1 kC hi
    rw [q_si_ne (m_ne k10 kC (by decide))]
    exact h.2 i hi
theorem ct_Q.sa (K : al_C X lb C a) (h : ct_Q X C a σ τ) (f : Nat) (k : Int32) : ct_Q X C a σ (q_si τ a f k) := by
  obtain ⟨kC, ka, S, -⟩ := K
  obtain ⟨k30, k31, k32⟩ := ct_k S.1 ka
  refine ⟨fun i hi => ?_, h.2⟩
  rw [q_si_ne (m_ne k30 ka (by decide)), q_si_ne (m_ne k31 ka (by decide))]
  exact h.1 i hi
theorem ct_Q.no (K : al_C X lb C a) (h : ct_Q X C a σ τ) (k k' : Int32) : ct_Q X C a (q_bi (F_X11_no X σ C k) (fun r s => (r, s))).2 (q_bi (F_X12_no X (q_si (q_si τ a 1 0) a 0 0) a k') (fun r s => (r, s))).2 := by
  rw [ob_pe, ob_pe, mv_no, mv_noM]
  exact (((h.sa K 1 0).sa K 0 0).sa K 0 k').sC K 0 k
theorem ct_Q.none (K : al_C X lb C a) (h : ct_Q X C a σ τ) (k k' : Int32) : ct_Q X C a (q_bi (F_X11_none X σ C k) (fun r s => (r, s))).2 (q_bi (F_X12_refuse X (q_si (q_si τ a 1 0) a 0 0) a k') (fun r s => (r, s))).2 := by
  rw [ob_pe, ob_pe, mv_none, mv_refuse]
  exact (((h.sa K 1 0).sa K 0 0).sa K 0 k').sC K 0 k
/-- a tray filled alike in both -/
theorem ct_fill (K : al_C X lb C a) (N : ct_N X C a σ τ) {t : Nat} (ht : t < 4) {m e : Int} (hm : m ≤ 60) (me : m ≤ e) {v : Int → Int64} (c : σ'.2.1 = tf σ.2.1 (q_rf X (q_rf X (q_rf X C 3) t) 2) 0 e v) (d : τ'.2.1 = tf τ.2.1 (q_rf X a 6) (60 * (t : Int)) (60 * (t : Int) + m) (fun g => v (g - 60 * (t : Int)))) (B : ∀ i, i < 4 → (σ'.1 (q_rf X (q_rf X C 3) i) 1).toInt ≤ 60) (o : ∀ i, i < 4 → i ≠ t → (σ'.1 (q_rf X (q_rf X C 3) i) 1).toInt = (σ.1 (q_rf X (q_rf X C 3) i) 1).toInt) (p : ∀ k : Int, m ≤ k → k < (σ'.1 (q_rf X (q_rf X C 3) t) 1).toInt → e ≤ k ∧ k < (σ.1 (q_rf X (q_rf X C 3) t) 1).toInt) : ct_N X C a σ' τ' := by
  intro i hi k hk
  have bi := B i hi
  rw [c, d]
  unfold tf
  by_cases q : i = t
  · subst q
    by_cases q1 : (k : Int) < m
    · have e1 : (((60 * i + k : Nat) : Int) - 60 * (i : Int)) = (k : Int) := by omega
      rw [if_pos (⟨rfl, by omega, by omega⟩ : q_rf X (q_rf X (q_rf X C 3) i) 2 = q_rf X (q_rf X (q_rf X C 3) i) 2 ∧ (0 : Int) ≤ (k : Int) ∧ (k : Int) < e), if_pos (⟨rfl, by omega, by omega⟩ : q_rf X a 6 = q_rf X a 6 ∧ 60 * (i : Int) ≤ ((60 * i + k : Nat) : Int) ∧ ((60 * i + k : Nat) : Int) < 60 * (i : Int) + m)]
      show v (k : Int) = v (((60 * i + k : Nat) : Int) - 60 * (i : Int))
      rw [e1]
    · obtain ⟨p1, p2⟩ := p (k : Int) (by omega) hk
      rw [if_neg (fun z => by have := z.2.2; omega), if_neg (fun z => by have := z.2.2; omega)]
      exact N i hi k p2
  · have ne := (ct_ap K hi ht q).2
    rw [o i hi q] at hk bi
    rw [if_neg (fun z => ne z.1), if_neg (fun z => by
      have z1 := z.2.1
      have z2 := z.2.2
      omega)]
    exact N i hi k hk
theorem gm_max (x y : Int32) : (F_J9_max_7cf53 X σ x y).toInt = if x.toInt < y.toInt then y.toInt else x.toInt := by
  unfold F_J9_max_7cf53
  split <;> rfl
theorem mk_L {T : Nat} (fu : Nat) : ∀ (x : Int32) (s : ST), (2147483647 - x.toInt).toNat < fu → 0 ≤ x.toInt → (F_X10_make_L21_1 X T fu x s).1 = s.1 ∧ (F_X10_make_L21_1 X T fu x s).2.1 = tf s.2.1 (q_rf X T 2) x.toInt 60 (fun _ => 0) := by
  induction fu with
  | zero => intro x s h; exact absurd h (Nat.not_lt_zero _)
  | succ fu ih =>
    intro x s h x0
    rw [F_X10_make_L21_1_s]
    unfold F_X10_make_B21_1
    by_cases q : x.toInt < 60
    · have e1 : (x + 1).toInt = x.toInt + 1 := y_inc (by omega)
      rw [if_pos q, q_letE (q_sl s (q_rf X T 2) x.toNatClampNeg 0), q_letE (x + 1)]
      have i := ih (x + 1) (q_sl s (q_rf X T 2) x.toNatClampNeg 0) (by omega) (by omega)
      refine ⟨i.1, i.2.trans ?_⟩
      rw [e1]
      exact tf_s (h := s.2.1) q (by rw [ar_cl]; omega) rfl
    · rw [if_neg q]
      exact ⟨rfl, (tf_0 (by omega)).symm⟩
theorem mk_all {T : Nat} (v2 v3 : Int32) (h3 : 0 ≤ v3.toInt ∧ v3.toInt ≤ 60) : (F_X10_make X σ T v2 v3).1 T 0 = v2 ∧ ((F_X10_make X σ T v2 v3).1 T 1).toInt = v3.toInt ∧ (∀ b f, b ≠ T → (F_X10_make X σ T v2 v3).1 b f = σ.1 b f) ∧ (F_X10_make X σ T v2 v3).2.1 = tf σ.2.1 (q_rf X T 2) 0 60 (fun _ => 0) := by
  have z0 : (0 : Int32).toInt = 0 := rfl
  have z60 : (60 : Int32).toInt = 60 := rfl
  have m1 := gm_min (X := X) (σ := q_si σ T 0 v2) v3 60
  have m2 := gm_max (X := X) (σ := q_si σ T 0 v2) 0 (F_J9_min_7cf53 X (q_si σ T 0 v2) v3 60)
  rw [z60, if_neg (by omega : ¬ (60 : Int) < v3.toInt)] at m1
  rw [m1, z0] at m2
  unfold F_X10_make
  rw [q_letE (q_si σ T 0 v2), q_letE (F_J9_min_7cf53 X (q_si σ T 0 v2) v3 60), q_letE (F_J9_max_7cf53 X (q_si σ T 0 v2) 0 (F_J9_min_7cf53 X (q_si σ T 0 v2) v3 60))]
  obtain ⟨w, hw⟩ : ∃ w, w = F_J9_max_7cf53 X (q_si σ T 0 v2) 0 (F_J9_min_7cf53 X (q_si σ T 0 v2) v3 60) := ⟨_, rfl⟩
  rw [← hw] at m2 ⊢
  rw [q_letE (q_si (q_si σ T 0 v2) T 1 w)]
  obtain ⟨l1, l2⟩ := mk_L (X := X) (T := T) ((2147483647 - (0 : Int32).toInt).toNat + 1) 0 (q_si (q_si σ T 0 v2) T 1 w) (Nat.lt_succ_self _) (by decide)
  rw [l1, l2, z0]
  refine ⟨?_, ?_, fun b f hb => ?_, rfl⟩
  · rw [si_f (by decide), si_eq]
  · rw [si_eq, m2]
    split <;> omega
  · rw [q_si_ne hb, q_si_ne hb]
theorem tr_L {v1 v3 : Int32} {t m : Int} (hv1 : v1.toInt = t) (ht : 0 ≤ t ∧ t < 4) (hv3 : v3.toInt = m) (hm : m ≤ 60) (fu : Nat) : ∀ (x : Int32) (s : ST), (2147483647 - x.toInt).toNat < fu → 0 ≤ x.toInt → ∃ s' : ST, F_X12_tray_L74_1 X v3 v1 a fu x s = ((1 : Int32), s') ∧ s'.1 = s.1 ∧ s'.2.1 = tf s.2.1 (q_rf X a 6) (60 * t + x.toInt) (60 * t + m) (fun _ => 0) := by
  have e60 : (60 : Int32).toInt = 60 := rfl
  induction fu with
  | zero => intro x s h; exact absurd h (Nat.not_lt_zero _)
  | succ fu ih =>
    intro x s h x0
    rw [F_X12_tray_L74_1_s]
    unfold F_X12_tray_B74_1
    by_cases q : x.toInt < v3.toInt
    · have e1 : (x + 1).toInt = x.toInt + 1 := y_inc (by omega)
      have ix : ((60 : Int32) * v1 + x).toInt = 60 * t + x.toInt := by rw [ar_add, ar_mul, e60, hv1, ar_wr (n := 60 * t) (by omega) (by omega), ar_wr (by omega) (by omega)]
      rw [if_pos q, q_letE ((60 : Int32) * v1), q_letE ((60 : Int32) * v1 + x), q_letE (q_sl s (q_rf X a 6) ((60 : Int32) * v1 + x).toNatClampNeg 0), q_letE (x + 1)]
      obtain ⟨s', c1, c2, c3⟩ := ih (x + 1) (q_sl s (q_rf X a 6) ((60 : Int32) * v1 + x).toNatClampNeg 0) (by omega) (by omega)
      refine ⟨s', c1, c2, c3.trans ?_⟩
      have e2 : 60 * t + (x + 1).toInt = 60 * t + x.toInt + 1 := by omega
      rw [e2]
      exact tf_s (h := s.2.1) (by omega) (by rw [ar_cl, ix]; omega) rfl
    · rw [if_neg q]
      exact ⟨s, rfl, rfl, (tf_0 (by omega)).symm⟩
/-- tray -/
theorem cn_tray (K : al_C X lb C a) (Q : ct_Q X C a σ τ) (B : ct_B X C σ) (v1 v2 v3 : Int32) : ct_Q X C a (F_X11_tray X σ C v1 v2 v3).2 (F_X12_tray X τ a v1 v2 v3).2 := by
  obtain ⟨kC, ka, S, lC, G8, G9, GM⟩ := id K
  obtain ⟨k30, k31, k32⟩ := ct_k S.1 ka
  have z0 : (0 : Int32).toInt = 0 := rfl
  have no := fun k => Q.no K k k
  have Q2 : ct_Q X C a σ (q_si (q_si τ a 1 0) a 0 0) := (Q.sa K 1 0).sa K 0 0
  unfold F_X11_tray F_X12_tray
  rw [q_letE (F_X11_trayAt X σ C v1), ct_at, q_letE (q_si τ a 1 0), q_letE (q_si (q_si τ a 1 0) a 0 0)]
  by_cases q : 0 ≤ v1.toInt ∧ v1.toInt < 4
  · rw [if_pos q, on_s, if_neg (by omega : ¬ v1.toInt < 0), if_pos q.2]
    by_cases q1 : v2.toInt < 0
    · rw [if_pos q1, if_pos q1]; exact no 1
    rw [if_neg q1, if_neg q1]
    by_cases q2 : 3 < v2.toInt
    · rw [if_pos q2, if_pos q2]; exact no 1
    rw [if_neg q2, if_neg q2]
    by_cases q3 : 60 < v3.toInt
    · rw [if_pos q3, if_pos q3]; exact no 5
    rw [if_neg q3, if_neg q3]
    by_cases q4 : v3.toInt < 0
    · rw [if_pos q4, if_pos q4]; exact no 6
    rw [if_neg q4, if_neg q4]
    obtain ⟨t, ht⟩ : ∃ t, t = v1.toNatClampNeg := ⟨_, rfl⟩
    have tv : v1.toInt = (t : Int) := by rw [ht, ar_cl]; omega
    have t4 : t < 4 := by omega
    rw [← ht]
    obtain ⟨τ2, e2⟩ : ∃ s, s = q_si (q_si τ a 1 0) a 0 0 := ⟨_, rfl⟩
    rw [← e2] at Q2 ⊢
    obtain ⟨c0, c1, c2, c3⟩ := mk_all (X := X) (σ := σ) (T := q_rf X (q_rf X C 3) t) v2 v3 ⟨by omega, by omega⟩
    rw [q_letE (F_X10_make X σ (q_rf X (q_rf X C 3) t) v2 v3)]
    obtain ⟨σ4, e4⟩ : ∃ s, s = F_X10_make X σ (q_rf X (q_rf X C 3) t) v2 v3 := ⟨_, rfl⟩
    rw [← e4] at c0 c1 c2 c3 ⊢
    obtain ⟨s', d1, d2, d3⟩ := tr_L (X := X) (a := a) tv ⟨by omega, by omega⟩ (rfl : v3.toInt = v3.toInt) (by omega) ((2147483647 - (0 : Int32).toInt).toNat + 1) 0 (q_si (q_si τ2 (q_rf X a 4) t v2) (q_rf X a 5) t v3) (Nat.lt_succ_self _) (by decide)
    rw [q_letE (q_si τ2 (q_rf X a 4) t v2), q_letE (q_si (q_si τ2 (q_rf X a 4) t v2) (q_rf X a 5) t v3), ob_pe, mv_yes, d1]
    have pl : ∀ i, i < 4 → i ≠ t → (σ4.1 (q_rf X (q_rf X C 3) i) 1).toInt = (σ.1 (q_rf X (q_rf X C 3) i) 1).toInt := fun i hi ne => by rw [c2 _ 1 (ct_ap K hi t4 ne).1]
    have R : ct_Q X C a σ4 s' := by
      refine ⟨fun i hi => ?_, ?_⟩
      · rw [d2]
        by_cases e : i = t
        · subst e
          rw [c0, c1, si_eq, q_si_ne (m_ne k30 k31 (by decide)), si_eq]
          exact ⟨rfl, rfl⟩
        · rw [c2 _ 0 (ct_ap K hi t4 e).1, c2 _ 1 (ct_ap K hi t4 e).1, q_si_ne (m_ne k30 k31 (by decide)), si_f e, si_f e, q_si_ne (m_ne k31 k30 (by decide))]
          exact Q2.1 i hi
      · refine ct_fill K Q2.2 t4 (m := v3.toInt) (e := 60) (by omega) (by omega) (v := fun _ => 0) c3 ?_ (fun i hi => ?_) pl (fun k k0 k1 => by rw [c1] at k1; omega)
        · rw [d3, z0, Int.add_zero]
          rfl
        · by_cases e : i = t
          · subst e; rw [c1]; omega
          · rw [pl i hi e]; exact (B i hi).2
    exact R.sC K 0 0
  · rw [if_neg q, on_n]
    by_cases q1 : v1.toInt < 0
    · rw [if_pos q1]; exact no 1
    · rw [if_neg q1, if_neg (by omega : ¬ v1.toInt < 4)]; exact no 1
/-- a number cut to a tray's width -/
theorem cn_cut {v0 : Int32} {s t : ST} (h : (s.1 r 0).toInt = v0.toInt) (v : Int64) : F_X10_cut X s r v = F_X12_cut X t v0 v := by
  unfold F_X10_cut F_X12_cut
  rw [q_letE (s.1 r 0), h]
theorem cn_small {s : ST} {y : Int32} (h : 0 ≤ y.toInt ∧ y.toInt ≤ 80) : F_X10_cut X s r y.toInt64 = Int64.ofInt y.toInt := by
  have e0 : Int64.ofInt y.toInt = y.toInt64 := by
    have z := Int64.ofInt_toInt y.toInt64
    rw [Int32.toInt_toInt64] at z
    exact z
  have e1 : y.toInt64.toInt32.toInt = y.toInt := by rw [Int64.toInt_toInt32, Int32.toInt_toInt64, Int.bmod_eq_of_le (by omega) (by omega)]
  rw [e0]
  unfold F_X10_cut
  rw [q_letE (s.1 r 0)]
  split
  · rw [q_letE, q_letE, q_letE]
    refine Int64.toInt_inj.mp ?_
    rw [Int32.toInt_toInt64, Int32.toInt_toInt64, Int8.toInt_toInt32, Int32.toInt_toInt8, e1, Int.bmod_eq_of_le (by omega) (by omega)]
  · split
    · rw [q_letE, q_letE, q_letE]
      refine Int64.toInt_inj.mp ?_
      rw [Int32.toInt_toInt64, Int32.toInt_toInt64, Int16.toInt_toInt32, Int32.toInt_toInt16, e1, Int.bmod_eq_of_le (by omega) (by omega)]
    · split
      · rw [q_letE, q_letE]
        refine Int64.toInt_inj.mp ?_
        rw [Int32.toInt_toInt64, Int32.toInt_toInt64, e1]
      · rfl
/-- write -/
theorem cn_write (K : al_C X lb C a) (Q : ct_Q X C a σ τ) (B : ct_B X C σ) (v1 v2 : Int32) (v3 : Int64) : ct_Q X C a (F_X11_write X σ C v1 v2 v3).2 (F_X12_write X τ a v1 v2 v3).2 := by
  have one : (1 : Int32).toInt = 1 := rfl
  have e60 : (60 : Int32).toInt = 60 := rfl
  obtain ⟨kC, ka, S, lC, G8, G9, GM⟩ := id K
  obtain ⟨k30, k31, k32⟩ := ct_k S.1 ka
  unfold F_X11_write F_X12_write
  rw [q_letE (F_X11_trayAt X σ C v1), ct_at, q_letE (q_si τ a 1 0), q_letE (F_X12_placed X (q_si τ a 1 0) a v1 v2)]
  by_cases q : 0 ≤ v1.toInt ∧ v1.toInt < 4
  · obtain ⟨p1, p2⟩ := st_place (st_ct1 K Q.1) B q v2
    obtain ⟨t, ht⟩ : ∃ t, t = v1.toNatClampNeg := ⟨_, rfl⟩
    have tv : v1.toInt = (t : Int) := by rw [ht, ar_cl]; omega
    have t4 : t < 4 := by omega
    have Bt := B t t4
    have Ft := Q.1 t t4
    rw [← ht] at p1
    rw [if_pos q, on_s, ← ht]
    have ph : (F_X11_placeStatus X σ (q_rf X (q_rf X C 3) t) v2).toInt = 0 → 0 ≤ v2.toInt ∧ v2.toInt < (σ.1 (q_rf X (q_rf X C 3) t) 1).toInt := by
      unfold F_X11_placeStatus
      rw [q_letE (F_X10_isMissing X σ (q_rf X (q_rf X C 3) t)), ct_mis, q_letE (F_X10_hasPlaces X σ (q_rf X (q_rf X C 3) t) v2 1), ct_has Bt, one]
      intro z
      by_cases m1 : (σ.1 (q_rf X (q_rf X C 3) t) 1).toInt = -1
      · rw [if_pos m1, if_neg (by decide : ¬ (1 : Int) = 0)] at z
        exact absurd z (by decide)
      · rw [if_neg m1, if_pos (rfl : (0 : Int) = 0)] at z
        by_cases m2 : 0 ≤ (1 : Int) ∧ 1 ≤ (σ.1 (q_rf X (q_rf X C 3) t) 1).toInt ∧ 0 ≤ v2.toInt ∧ v2.toInt + 1 ≤ (σ.1 (q_rf X (q_rf X C 3) t) 1).toInt
        · omega
        · rw [if_neg m2, if_pos (rfl : (0 : Int) = 0)] at z
          exact absurd z (by decide)
    rw [q_letE (F_X11_placeStatus X σ (q_rf X (q_rf X C 3) t) v2), ← p1]
    rw [← p1] at ph
    obtain ⟨w, hw⟩ : ∃ w, w = F_X12_placed X (q_si τ a 1 0) a v1 v2 := ⟨_, rfl⟩
    rw [← hw] at p2 ph ⊢
    have Q4 : ct_Q X C a σ (q_si (q_si τ a 1 0) a 0 w) := (Q.sa K 1 0).sa K 0 w
    rw [q_letE (q_si (q_si τ a 1 0) a 0 w), q_letE ((q_si (q_si τ a 1 0) a 0 w).1 a 0), si_eq]
    by_cases w0 : w.toInt = 0
    · obtain ⟨h0, h1⟩ := ph w0
      have ix : ((60 : Int32) * v1 + v2).toInt = 60 * (t : Int) + v2.toInt := by rw [ar_add, ar_mul, e60, tv, ar_wr (n := 60 * (t : Int)) (by omega) (by omega), ar_wr (by omega) (by omega)]
      obtain ⟨τ4, e4⟩ : ∃ s, s = q_si (q_si τ a 1 0) a 0 w := ⟨_, rfl⟩
      rw [← e4] at Q4 ⊢
      have cu := cn_cut (X := X) (r := q_rf X (q_rf X C 3) t) (s := σ) (t := τ4) (v0 := τ4.1 (q_rf X a 4) t) (Q4.1 t t4).1 v3
      rw [if_pos w0, if_neg (by omega : ¬ 0 < w.toInt), q_letE (F_X10_put X σ (q_rf X (q_rf X C 3) t) v2 v3), ob_pe, mv_yes, q_letE ((60 : Int32) * v1), q_letE ((60 : Int32) * v1 + v2), q_letE (τ4.1 (q_rf X a 4) t), q_letE (F_X12_cut X τ4 (τ4.1 (q_rf X a 4) t) v3), ← cu, q_letE]
      have pu : F_X10_put X σ (q_rf X (q_rf X C 3) t) v2 v3 = q_sl σ (q_rf X (q_rf X (q_rf X C 3) t) 2) v2.toNatClampNeg (F_X10_cut X σ (q_rf X (q_rf X C 3) t) v3) := by
        unfold F_X10_put
        rw [if_neg (by omega : ¬ v2.toInt < 0), if_pos (by omega : v2.toInt < 60), q_letE (F_X10_cut X σ (q_rf X (q_rf X C 3) t) v3), q_letE]
      rw [pu]
      obtain ⟨u, hu⟩ : ∃ u, u = F_X10_cut X σ (q_rf X (q_rf X C 3) t) v3 := ⟨_, rfl⟩
      rw [← hu]
      have R : ct_Q X C a (q_sl σ (q_rf X (q_rf X (q_rf X C 3) t) 2) v2.toNatClampNeg u) (q_sl τ4 (q_rf X a 6) ((60 : Int32) * v1 + v2).toNatClampNeg u) := by
        refine ⟨Q4.1, fun i hi k hk => ?_⟩
        have bi := (B i hi).2
        have hk' : (k : Int) < (σ.1 (q_rf X (q_rf X C 3) i) 1).toInt := hk
        show (if q_rf X (q_rf X (q_rf X C 3) i) 2 = q_rf X (q_rf X (q_rf X C 3) t) 2 ∧ k = v2.toNatClampNeg then u else σ.2.1 (q_rf X (q_rf X (q_rf X C 3) i) 2) k) = if q_rf X a 6 = q_rf X a 6 ∧ 60 * i + k = ((60 : Int32) * v1 + v2).toNatClampNeg then u else τ4.2.1 (q_rf X a 6) (60 * i + k)
        have c1 : (v2.toNatClampNeg : Int) = v2.toInt := by rw [ar_cl]; omega
        have c2 : (((60 : Int32) * v1 + v2).toNatClampNeg : Int) = 60 * (t : Int) + v2.toInt := by rw [ar_cl, ix]; omega
        by_cases e : i = t
        · subst e
          by_cases e2 : k = v2.toNatClampNeg
          · rw [if_pos ⟨rfl, e2⟩, if_pos ⟨rfl, by omega⟩]
          · rw [if_neg (fun z => e2 z.2), if_neg (fun z => e2 (by have := z.2; omega))]
            exact Q4.2 i hi k hk'
        · rw [if_neg (fun z => (ct_ap K hi t4 e).2 z.1), if_neg (fun z => by have := z.2; omega)]
          exact Q4.2 i hi k hk'
      exact R.sC K 0 0
    · rw [if_neg w0, if_pos (by omega : 0 < w.toInt), ob_pe, mv_no]
      exact Q4.sC K 0 w
  · rw [if_neg q, on_n, q_letE (F_X11_placeStatus_n X σ v2), st_place0 q, q_letE (q_si (q_si τ a 1 0) a 0 1), q_letE ((q_si (q_si τ a 1 0) a 0 1).1 a 0), si_eq, one, if_pos (by decide : (0 : Int) < 1), ob_pe, mv_no]
    exact ((Q.sa K 1 0).sa K 0 1).sC K 0 _
end QV
end
/-! FROM 59t.trays2.lean.txt -/
section
/-! TRAYS: a hand copied, numbers poured, read -/
section QW
variable {X : XW} {lb : Nat → Nat} {C a r : Nat} {σ τ σ' τ' : ST} {n : Int}
theorem ch_C {f v1 : Int32} {v : Int → Int64} (hf : f.toInt ≤ 60) (hv : ∀ x : Int32, 0 ≤ x.toInt → x.toInt < f.toInt → ∀ s : ST, s.1 = σ.1 → F_X10_cut X s r (F_X1_heldBy X s (q_rf X (q_rf X C 8) 1) v1 x).toInt64 = v x.toInt) (fu : Nat) : ∀ (x : Int32) (s : ST), (2147483647 - x.toInt).toNat < fu → 0 ≤ x.toInt → s.1 = σ.1 → ∃ s' : ST, F_X11_copyHand_L74_1 X f C v1 r fu x s = (f, q_si s' C 0 0) ∧ s'.1 = σ.1 ∧ s'.2.1 = tf s.2.1 (q_rf X r 2) x.toInt f.toInt v := by
  induction fu with
  | zero => intro x s h; exact absurd h (Nat.not_lt_zero _)
  | succ fu ih =>
    intro x s h x0 hs
    rw [F_X11_copyHand_L74_1_s]
    unfold F_X11_copyHand_B74_1
    by_cases q : x.toInt < f.toInt
    · have e1 : (x + 1).toInt = x.toInt + 1 := y_inc (by omega)
      have pv := hv x x0 q s hs
      rw [if_pos q, q_letE (F_X1_heldBy X s (q_rf X (q_rf X C 8) 1) v1 x), q_letE (F_X1_heldBy X s (q_rf X (q_rf X C 8) 1) v1 x).toInt64]
      obtain ⟨y, hy⟩ : ∃ y, y = (F_X1_heldBy X s (q_rf X (q_rf X C 8) 1) v1 x).toInt64 := ⟨_, rfl⟩
      rw [← hy] at pv ⊢
      have pu : F_X10_put X s r x y = q_sl s (q_rf X r 2) x.toNatClampNeg (v x.toInt) := by
        unfold F_X10_put
        rw [if_neg (by omega : ¬ x.toInt < 0), if_pos (by omega : x.toInt < 60), q_letE (F_X10_cut X s r y), q_letE, pv]
      rw [q_letE (F_X10_put X s r x y), q_letE (x + 1), pu]
      obtain ⟨s', c1, c2, c3⟩ := ih (x + 1) (q_sl s (q_rf X r 2) x.toNatClampNeg (v x.toInt)) (by omega) (by omega) hs
      refine ⟨s', c1, c2, c3.trans ?_⟩
      rw [e1]
      exact tf_s (h := s.2.1) q (by rw [ar_cl]; omega) rfl
    · rw [if_neg q]
      unfold F_X11_copyHand_E107_2
      rw [ob_pe, mv_good]
      exact ⟨s, rfl, hs, (tf_0 (by omega)).symm⟩
theorem ch_M {g v1 v2 : Int32} {t : Int} {v : Int → Int64} (ht : v2.toInt = t) (h4 : 0 ≤ t ∧ t < 4) (hg : τ.1 (q_rf X a 20) 0 = g) (hf : g.toInt ≤ 60) (hv : ∀ x : Int32, 0 ≤ x.toInt → x.toInt < g.toInt → ∀ s : ST, s.1 = τ.1 → (F_X12_handOf X s a v1 x).toInt64 = v x.toInt) (fu : Nat) : ∀ (x : Int32) (s : ST), (2147483647 - x.toInt).toNat < fu → 0 ≤ x.toInt → s.1 = τ.1 → ∃ s' : ST, F_X12_copyHand_L76_1 X a v2 v1 fu x s = (g, s') ∧ s'.1 = τ.1 ∧ s'.2.1 = tf s.2.1 (q_rf X a 6) (60 * t + x.toInt) (60 * t + g.toInt) (fun k => v (k - 60 * t)) := by
  have e0 : (0 : Int32).toNatClampNeg = 0 := rfl
  have e60 : (60 : Int32).toInt = 60 := rfl
  induction fu with
  | zero => intro x s h; exact absurd h (Nat.not_lt_zero _)
  | succ fu ih =>
    intro x s h x0 hs
    have hg' : s.1 (q_rf X a 20) 0 = g := by rw [hs]; exact hg
    rw [F_X12_copyHand_L76_1_s]
    unfold F_X12_copyHand_B76_1
    rw [e0, hg', q_letE g]
    by_cases q : x.toInt < g.toInt
    · have e1 : (x + 1).toInt = x.toInt + 1 := y_inc (by omega)
      have ix : ((60 : Int32) * v2 + x).toInt = 60 * t + x.toInt := by rw [ar_add, ar_mul, e60, ht, ar_wr (n := 60 * t) (by omega) (by omega), ar_wr (by omega) (by omega)]
      have pv := hv x x0 q s hs
      rw [if_pos q, q_letE ((60 : Int32) * v2), q_letE ((60 : Int32) * v2 + x), q_letE (F_X12_handOf X s a v1 x), q_letE (F_X12_handOf X s a v1 x).toInt64, pv, q_letE (q_sl s (q_rf X a 6) ((60 : Int32) * v2 + x).toNatClampNeg (v x.toInt)), q_letE (x + 1)]
      obtain ⟨s', c1, c2, c3⟩ := ih (x + 1) (q_sl s (q_rf X a 6) ((60 : Int32) * v2 + x).toNatClampNeg (v x.toInt)) (by omega) (by omega) hs
      refine ⟨s', c1, c2, c3.trans ?_⟩
      have e2 : 60 * t + (x + 1).toInt = 60 * t + x.toInt + 1 := by omega
      have e3 : 60 * t + x.toInt - 60 * t = x.toInt := by omega
      rw [e2]
      exact tf_s (h := s.2.1) (by omega) (by rw [ar_cl, ix]; omega) (by rw [e3])
    · rw [if_neg q]
      unfold F_X12_copyHand_E110_2
      rw [e0, hg', q_letE g]
      exact ⟨s, rfl, hs, (tf_0 (by omega)).symm⟩
/-- the value of a cell read in a state with the same ints -/
theorem ch_h1 {s : ST} (h : s.1 = σ.1) (g : Nat) (x y : Int32) : F_X1_heldBy X s g x y = F_X1_heldBy X σ g x y := by
  unfold F_X1_heldBy F_X5_get
  rw [h]
theorem ch_h2 {s : ST} (h : s.1 = τ.1) (x y : Int32) : F_X12_handOf X s a x y = F_X12_handOf X τ a x y := by
  unfold F_X12_handOf
  rw [h]
theorem cn_copyHand (K : al_C X lb C a) (A : al_R X C a σ τ) (M : m_M (m_c X τ a) (τ.1 a 24).toInt n) (Q : ct_Q X C a σ τ) (B : ct_B X C σ) (v1 v2 : Int32) : ct_Q X C a (F_X11_copyHand X σ C v1 v2).2 (F_X12_copyHand X τ a v1 v2).2 := by
  obtain ⟨kC, ka, S, lC, G8, G9, GM⟩ := id K
  obtain ⟨m2, s2, t2⟩ := mv_beg S.1 ka (rfl : m_c X τ a = m_c X τ a)
  have w : y_W X lb (q_rf X C 8) 1 σ σ (y_v X (q_rf X C 8) σ) := y_W.rf
  obtain ⟨k30, k31, k32⟩ := ct_k S.1 ka
  have e0 : (0 : Int32).toNatClampNeg = 0 := rfl
  have z0 : (0 : Int32).toInt = 0 := rfl
  have h0 := M.1.1.1.1
  have b2 := M.1.1.1.2.1
  have none := fun k => Q.none K k k
  have pp := an_p K A M m2 v1
  have f0 : (σ.1 (q_rf X (q_rf X C 8) 0) 0).toInt = m_c X τ a 0 := (w.rd (id := 1) (by decide) 0 rfl).trans A.1.1.1.1
  have g0 : ((q_si (q_si τ a 1 0) a 0 0).1 (q_rf X a 20) 0).toInt = m_c X τ a 0 := gm_cell (A := 0) (i := 0) m2 rfl
  have hh := fun {x : Int32} (p : 0 ≤ v1.toInt ∧ v1.toInt < 6) (k : 0 ≤ x.toInt ∧ x.toInt < 10) => an_held K A M m2 (x := v1) (y := x) rfl rfl p k
  have Q2 : ct_Q X C a σ (q_si (q_si τ a 1 0) a 0 0) := (Q.sa K 1 0).sa K 0 0
  unfold F_X11_copyHand F_X12_copyHand
  rw [q_letE (F_X11_trayAt X σ C v2), ct_at, q_letE (q_si τ a 1 0), q_letE (q_si (q_si τ a 1 0) a 0 0), q_letE (F_X12_isTray X (q_si (q_si τ a 1 0) a 0 0) a v2), ct_isTray]
  by_cases q : 0 ≤ v2.toInt ∧ v2.toInt < 4
  · obtain ⟨t, ht⟩ : ∃ t, t = v2.toNatClampNeg := ⟨_, rfl⟩
    have tv : v2.toInt = (t : Int) := by rw [ht, ar_cl]; omega
    have t4 : t < 4 := by omega
    have Fi := (Q2.1 t t4).2
    have Bi := B t t4
    obtain ⟨τ2, e2⟩ : ∃ s, s = q_si (q_si τ a 1 0) a 0 0 := ⟨_, rfl⟩
    rw [← e2] at m2 s2 g0 none pp hh Q2 Fi ⊢
    rw [if_pos q, if_pos (⟨q.1, by omega⟩ : 0 ≤ v2.toInt ∧ v2.toInt ≤ 3), on_s, ← ht, if_neg (by decide : ¬ (1 : Int) = 0), q_letE (F_X10_isMissing X σ (q_rf X (q_rf X C 3) t)), ct_mis, q_letE (τ2.1 (q_rf X a 5) t), ← Fi]
    by_cases qm : (σ.1 (q_rf X (q_rf X C 3) t) 1).toInt = -1
    · rw [if_pos qm, if_neg (by decide : ¬ (1 : Int) = 0), if_pos (by omega : (σ.1 (q_rf X (q_rf X C 3) t) 1).toInt < 0)]
      exact none 3
    · rw [if_neg qm, if_pos (rfl : (0 : Int) = 0), if_neg (by omega : ¬ (σ.1 (q_rf X (q_rf X C 3) t) 1).toInt < 0), q_letE (F_X11_isPlayer X σ C v1), pp.1, q_letE (F_X12_isPlayerAt X τ2 a v1), pp.2]
      by_cases qp : 0 ≤ v1.toInt ∧ v1.toInt < m_c X τ a 2
      · rw [if_pos qp, if_neg (by decide : ¬ (1 : Int) = 0), if_neg (by decide : ¬ (1 : Int) = 0), q_letE (σ.1 (q_rf X (q_rf X C 8) 0) 0)]
        obtain ⟨f, hf⟩ : ∃ f, f = σ.1 (q_rf X (q_rf X C 8) 0) 0 := ⟨_, rfl⟩
        rw [← hf] at f0 ⊢
        rw [q_letE (F_X10_hasPlaces X σ (q_rf X (q_rf X C 3) t) (0 : Int32) f), ct_has Bi, f0, z0, q_letE (τ2.1 (q_rf X a 5) t), e0, q_letE (τ2.1 (q_rf X a 20) 0), ← Fi, g0]
        by_cases qh : (σ.1 (q_rf X (q_rf X C 3) t) 1).toInt < m_c X τ a 0
        · rw [if_neg (by omega : ¬ (0 ≤ m_c X τ a 0 ∧ m_c X τ a 0 ≤ (σ.1 (q_rf X (q_rf X C 3) t) 1).toInt ∧ (0 : Int) ≤ 0 ∧ 0 + m_c X τ a 0 ≤ (σ.1 (q_rf X (q_rf X C 3) t) 1).toInt)), if_pos (rfl : (0 : Int) = 0), if_pos qh]
          exact none 4
        · rw [if_pos (⟨by omega, by omega, by omega, by omega⟩ : 0 ≤ m_c X τ a 0 ∧ m_c X τ a 0 ≤ (σ.1 (q_rf X (q_rf X C 3) t) 1).toInt ∧ (0 : Int) ≤ 0 ∧ 0 + m_c X τ a 0 ≤ (σ.1 (q_rf X (q_rf X C 3) t) 1).toInt), if_neg (by decide : ¬ (1 : Int) = 0), if_neg qh]
          have val : ∀ x : Int32, 0 ≤ x.toInt → x.toInt < m_c X τ a 0 → F_X1_heldBy X σ (q_rf X (q_rf X C 8) 1) v1 x = F_X12_handOf X τ2 a v1 x ∧ 0 ≤ (F_X12_handOf X τ2 a v1 x).toInt ∧ (F_X12_handOf X τ2 a v1 x).toInt ≤ 80 ∧ (F_X12_handOf X τ2 a v1 x).toInt = m_c X τ a (34 + 10 * v1.toInt + x.toInt) := fun x x0 x1 => by
            obtain ⟨y1, y2⟩ := hh (x := x) ⟨qp.1, by omega⟩ ⟨x0, by omega⟩
            have hb := M.1.1.h80 (p := v1.toInt) (k := x.toInt) qp.1 (by omega) x0 (by omega)
            exact ⟨Int32.toInt_inj.mp (y1.trans y2.symm), by omega, by omega, y2⟩
          obtain ⟨s', c1, c2, c3⟩ := ch_C (X := X) (C := C) (σ := σ) (r := q_rf X (q_rf X C 3) t) (f := f) (v1 := v1) (v := fun k => Int64.ofInt (m_c X τ a (34 + 10 * v1.toInt + k))) (by omega) (fun x x0 x1 s hs => by
            obtain ⟨y1, y2, y3, y4⟩ := val x x0 (by omega)
            rw [ch_h1 hs, y1, cn_small ⟨y2, y3⟩, y4]) ((2147483647 - (0 : Int)).toNat + 1) 0 σ (by rw [z0]; exact Nat.lt_succ_self _) (by decide) rfl
          obtain ⟨t', d1, d2, d3⟩ := ch_M (X := X) (a := a) (τ := τ2) (v1 := v1) (v2 := v2) (v := fun k => Int64.ofInt (m_c X τ a (34 + 10 * v1.toInt + k))) tv ⟨by omega, by omega⟩ (rfl : τ2.1 (q_rf X a 20) 0 = τ2.1 (q_rf X a 20) 0) (by omega) (fun x x0 x1 s hs => by
            obtain ⟨y1, y2, y3, y4⟩ := val x x0 (by omega)
            have z := Int64.ofInt_toInt (F_X12_handOf X τ2 a v1 x).toInt64
            rw [Int32.toInt_toInt64] at z
            rw [ch_h2 hs, ← z, y4]) ((2147483647 - (0 : Int)).toNat + 1) 0 τ2 (by rw [z0]; exact Nat.lt_succ_self _) (by decide) rfl
          rw [c1, d1]
          have R : ct_Q X C a s' t' := by
            refine ⟨fun i hi => ?_, ?_⟩
            · rw [c2, d2]
              exact Q2.1 i hi
            · refine ct_fill K Q2.2 t4 (m := f.toInt) (e := f.toInt) (by omega) (Int.le_refl _) (v := fun k => Int64.ofInt (m_c X τ a (34 + 10 * v1.toInt + k))) ?_ ?_ (fun i hi => ?_) (fun i hi _ => by rw [c2]) (fun k k0 k1 => by rw [c2] at k1; exact ⟨k0, k1⟩)
              · rw [c3, z0]
              · rw [d3, z0, Int.add_zero, g0, f0]
              · rw [c2]
                exact (B i hi).2
          exact R.sC K 0 0
      · rw [if_neg qp, if_pos (rfl : (0 : Int) = 0), if_pos (rfl : (0 : Int) = 0)]
        exact none 2
  · rw [if_neg q, if_neg (by omega : ¬ (0 ≤ v2.toInt ∧ v2.toInt ≤ 3)), on_n, if_pos (rfl : (0 : Int) = 0)]
    exact none 1
/-- read: the number and the status -/
theorem ob_read (K : al_C X lb C a) (Q : ct_Q X C a σ τ) (B : ct_B X C σ) (v1 v2 : Int32) : (F_X11_read X σ C v1 v2).1 = (F_X12_read X τ a v1 v2).1 := by
  have one : (1 : Int32).toInt = 1 := rfl
  have e60 : (60 : Int32).toInt = 60 := rfl
  have em : (-1 : Int32).toInt64 = -1 := rfl
  unfold F_X11_read F_X12_read
  rw [q_letE (F_X11_trayAt X σ C v1), ct_at, q_letE (q_si τ a 1 0), q_letE (F_X12_placed X (q_si τ a 1 0) a v1 v2)]
  by_cases q : 0 ≤ v1.toInt ∧ v1.toInt < 4
  · obtain ⟨p1, p2⟩ := st_place (st_ct1 K Q.1) B q v2
    obtain ⟨t, ht⟩ : ∃ t, t = v1.toNatClampNeg := ⟨_, rfl⟩
    have tv : v1.toInt = (t : Int) := by rw [ht, ar_cl]; omega
    have t4 : t < 4 := by omega
    have Bt := B t t4
    rw [← ht] at p1
    rw [if_pos q, on_s, ← ht]
    have ph : (F_X11_placeStatus X σ (q_rf X (q_rf X C 3) t) v2).toInt = 0 → 0 ≤ v2.toInt ∧ v2.toInt < (σ.1 (q_rf X (q_rf X C 3) t) 1).toInt := by
      unfold F_X11_placeStatus
      rw [q_letE (F_X10_isMissing X σ (q_rf X (q_rf X C 3) t)), ct_mis, q_letE (F_X10_hasPlaces X σ (q_rf X (q_rf X C 3) t) v2 1), ct_has Bt, one]
      intro z
      by_cases m1 : (σ.1 (q_rf X (q_rf X C 3) t) 1).toInt = -1
      · rw [if_pos m1, if_neg (by decide : ¬ (1 : Int) = 0)] at z
        exact absurd z (by decide)
      · rw [if_neg m1, if_pos (rfl : (0 : Int) = 0)] at z
        by_cases m2 : 0 ≤ (1 : Int) ∧ 1 ≤ (σ.1 (q_rf X (q_rf X C 3) t) 1).toInt ∧ 0 ≤ v2.toInt ∧ v2.toInt + 1 ≤ (σ.1 (q_rf X (q_rf X C 3) t) 1).toInt
        · omega
        · rw [if_neg m2, if_pos (rfl : (0 : Int) = 0)] at z
          exact absurd z (by decide)
    rw [q_letE (F_X11_placeStatus X σ (q_rf X (q_rf X C 3) t) v2), ← p1]
    rw [← p1] at ph
    obtain ⟨w, hw⟩ : ∃ w, w = F_X12_placed X (q_si τ a 1 0) a v1 v2 := ⟨_, rfl⟩
    rw [← hw] at p2 ph ⊢
    have Q4 : ct_Q X C a σ (q_si (q_si τ a 1 0) a 0 w) := (Q.sa K 1 0).sa K 0 w
    rw [q_letE (q_si (q_si τ a 1 0) a 0 w), q_letE ((q_si (q_si τ a 1 0) a 0 w).1 a 0), si_eq]
    obtain ⟨τ4, e4⟩ : ∃ s, s = q_si (q_si τ a 1 0) a 0 w := ⟨_, rfl⟩
    rw [← e4] at Q4 ⊢
    by_cases w0 : w.toInt = 0
    · obtain ⟨h0, h1⟩ := ph w0
      have ix : ((60 : Int32) * v1 + v2).toInt = 60 * (t : Int) + v2.toInt := by rw [ar_add, ar_mul, e60, tv, ar_wr (n := 60 * (t : Int)) (by omega) (by omega), ar_wr (by omega) (by omega)]
      have c2 : ((60 : Int32) * v1 + v2).toNatClampNeg = 60 * t + v2.toNatClampNeg := by rw [ar_cl, ar_cl, ix]; omega
      rw [if_pos w0, if_neg (by omega : ¬ 0 < w.toInt), q_letE (q_si σ C 0 0), q_letE (F_X10_get X (q_si σ C 0 0) (q_rf X (q_rf X C 3) t) v2), q_letE ((60 : Int32) * v1), q_letE ((60 : Int32) * v1 + v2), q_letE]
      show F_X10_get X (q_si σ C 0 0) (q_rf X (q_rf X C 3) t) v2 = τ4.2.1 (q_rf X a 6) ((60 : Int32) * v1 + v2).toNatClampNeg
      unfold F_X10_get
      rw [if_neg (by omega : ¬ v2.toInt < 0), if_pos (by omega : v2.toInt < 60), q_letE, c2]
      exact Q4.2 t t4 v2.toNatClampNeg (by rw [ar_cl]; omega)
    · rw [if_neg w0, if_pos (by omega : 0 < w.toInt), mv_none, q_biP (-1 : Int32) (q_si σ C 0 w), q_letE]
      exact em
  · rw [if_neg q, on_n, q_letE (F_X11_placeStatus_n X σ v2), st_place0 q, q_letE (q_si (q_si τ a 1 0) a 0 1), q_letE ((q_si (q_si τ a 1 0) a 0 1).1 a 0), si_eq, one, if_pos (by decide : (0 : Int) < 1), mv_none, q_biP (-1 : Int32) (q_si σ C 0 (F_X11_placeStatus_n X σ v2)), q_letE]
    exact em
/-- pour: what is moved, in the reference, upwards and downwards -/
def pf (h : Nat → Nat → Int64) (N : Nat) (x e d : Int) : Nat → Nat → Int64 := fun b g => if b = N ∧ x ≤ (g : Int) ∧ (g : Int) < e then h N ((g : Int) - d).toNat else h b g
theorem pf_0 {h : Nat → Nat → Int64} {N : Nat} {x e d : Int} (q : e ≤ x) : pf h N x e d = h := by
  funext b g
  unfold pf
  rw [if_neg (fun z => by omega)]
/-- one more above -/
theorem pf_up {h : Nat → Nat → Int64} {N i j : Nat} {x e d : Int} (h0 : x ≤ e) (hi : (i : Int) = e) (hj : (j : Int) = e - d) (ap : (j : Int) < x ∨ e ≤ (j : Int)) : (fun b g => if b = N ∧ g = i then pf h N x e d N j else pf h N x e d b g) = pf h N x (e + 1) d := by
  funext b g
  have v : pf h N x e d N j = h N j := by
    unfold pf
    rw [if_neg (fun z => by omega)]
  rw [v]
  unfold pf
  by_cases q : b = N ∧ g = i
  · have e1 : ((g : Int) - d).toNat = j := by omega
    rw [if_pos q, if_pos (⟨q.1, by omega, by omega⟩ : b = N ∧ x ≤ (g : Int) ∧ (g : Int) < e + 1), e1]
  · rw [if_neg q]
    by_cases q2 : b = N ∧ x ≤ (g : Int) ∧ (g : Int) < e
    · rw [if_pos q2, if_pos (⟨q2.1, q2.2.1, by omega⟩ : b = N ∧ x ≤ (g : Int) ∧ (g : Int) < e + 1)]
    · rw [if_neg q2, if_neg (fun z => by omega)]
/-- one more below -/
theorem pf_dn {h : Nat → Nat → Int64} {N i j : Nat} {x e d : Int} (h0 : x ≤ e) (hi : (i : Int) = x - 1) (hj : (j : Int) = x - 1 - d) (ap : (j : Int) < x ∨ e ≤ (j : Int)) : (fun b g => if b = N ∧ g = i then pf h N x e d N j else pf h N x e d b g) = pf h N (x - 1) e d := by
  funext b g
  have v : pf h N x e d N j = h N j := by
    unfold pf
    rw [if_neg (fun z => by omega)]
  rw [v]
  unfold pf
  by_cases q : b = N ∧ g = i
  · have e1 : ((g : Int) - d).toNat = j := by omega
    rw [if_pos q, if_pos (⟨q.1, by omega, by omega⟩ : b = N ∧ x - 1 ≤ (g : Int) ∧ (g : Int) < e), e1]
  · rw [if_neg q]
    by_cases q2 : b = N ∧ x ≤ (g : Int) ∧ (g : Int) < e
    · rw [if_pos q2, if_pos (⟨q2.1, by omega, q2.2.2⟩ : b = N ∧ x - 1 ≤ (g : Int) ∧ (g : Int) < e)]
    · rw [if_neg q2, if_neg (fun z => by omega)]
theorem po_up {v1 v2 v3 v4 v5 : Int32} {S D m : Int} {h : Nat → Nat → Int64} (hS : 60 * v1.toInt + v2.toInt = S) (hD : 60 * v3.toInt + v4.toInt = D) (h1 : 0 ≤ v1.toInt ∧ v1.toInt < 4) (h3 : 0 ≤ v3.toInt ∧ v3.toInt < 4) (h2 : 0 ≤ v2.toInt) (h4 : 0 ≤ v4.toInt) (hm : v5.toInt = m) (b2 : v2.toInt + m ≤ 60) (b4 : v4.toInt + m ≤ 60) (ap : D ≤ S ∨ S + m ≤ D) (fu : Nat) : ∀ (x : Int32) (s : ST), (2147483647 - x.toInt).toNat < fu → 0 ≤ x.toInt → x.toInt ≤ m ∨ m < 0 → s.1 = τ.1 → s.2.1 = pf h (q_rf X a 6) D (D + x.toInt) (D - S) → ∃ s' : ST, F_X12_pour_L158_1 X v5 v3 v4 v1 v2 a fu x s = ((1 : Int32), s') ∧ s'.1 = τ.1 ∧ (0 ≤ m → s'.2.1 = pf h (q_rf X a 6) D (D + m) (D - S)) := by
  have e60 : (60 : Int32).toInt = 60 := rfl
  induction fu with
  | zero => intro x s h; exact absurd h (Nat.not_lt_zero _)
  | succ fu ih =>
    intro x s hx x0 xm hs hl
    rw [F_X12_pour_L158_1_s]
    unfold F_X12_pour_B158_1
    by_cases q : x.toInt < v5.toInt
    · have e1 : (x + 1).toInt = x.toInt + 1 := y_inc (by omega)
      have id_ : ((60 : Int32) * v3 + v4 + x).toInt = D + x.toInt := by rw [ar_add, ar_add, ar_mul, e60, ar_wr (n := 60 * v3.toInt) (by omega) (by omega), ar_wr (n := 60 * v3.toInt + v4.toInt) (by omega) (by omega), ar_wr (by omega) (by omega)]; omega
      have is_ : ((60 : Int32) * v1 + v2 + x).toInt = S + x.toInt := by rw [ar_add, ar_add, ar_mul, e60, ar_wr (n := 60 * v1.toInt) (by omega) (by omega), ar_wr (n := 60 * v1.toInt + v2.toInt) (by omega) (by omega), ar_wr (by omega) (by omega)]; omega
      obtain ⟨i, hi⟩ : ∃ i, i = ((60 : Int32) * v3 + v4 + x).toNatClampNeg := ⟨_, rfl⟩
      obtain ⟨j, hj⟩ : ∃ j, j = ((60 : Int32) * v1 + v2 + x).toNatClampNeg := ⟨_, rfl⟩
      have iv : (i : Int) = D + x.toInt := by rw [hi, ar_cl, id_]; omega
      have jv : (j : Int) = S + x.toInt := by rw [hj, ar_cl, is_]; omega
      rw [if_pos q, if_pos (rfl : (0 : Int) = 0), q_letE ((60 : Int32) * v3), q_letE ((60 : Int32) * v3 + v4), q_letE ((60 : Int32) * v3 + v4 + x), q_letE ((60 : Int32) * v1), q_letE ((60 : Int32) * v1 + v2), q_letE ((60 : Int32) * v1 + v2 + x), ← hi, ← hj, q_letE (s.2.1 (q_rf X a 6) j), q_letE (q_sl s (q_rf X a 6) i (s.2.1 (q_rf X a 6) j)), q_letE (x + 1)]
      refine ih (x + 1) (q_sl s (q_rf X a 6) i (s.2.1 (q_rf X a 6) j)) (by omega) (by omega) (Or.inl (by omega)) hs ?_
      have e3 : D + (x + 1).toInt = D + x.toInt + 1 := by omega
      rw [e3, ← pf_up (h := h) (N := q_rf X a 6) (i := i) (j := j) (x := D) (e := D + x.toInt) (d := D - S) (by omega) iv (by omega) (by omega), ← hl]
      rfl
    · rw [if_neg q]
      refine ⟨s, rfl, hs, fun m0 => ?_⟩
      have e3 : x.toInt = m := by omega
      rw [hl, e3]
theorem po_dn {v1 v2 v3 v4 v5 : Int32} {S D m : Int} {h : Nat → Nat → Int64} (hS : 60 * v1.toInt + v2.toInt = S) (hD : 60 * v3.toInt + v4.toInt = D) (h1 : 0 ≤ v1.toInt ∧ v1.toInt < 4) (h3 : 0 ≤ v3.toInt ∧ v3.toInt < 4) (h2 : 0 ≤ v2.toInt) (h4 : 0 ≤ v4.toInt) (hm : v5.toInt = m) (m0 : 0 ≤ m) (b2 : v2.toInt + m ≤ 60) (b4 : v4.toInt + m ≤ 60) (ap : S ≤ D ∨ D + m ≤ S) (fu : Nat) : ∀ (x : Int32) (s : ST), (2147483647 - x.toInt).toNat < fu → 0 ≤ x.toInt → x.toInt ≤ m → s.1 = τ.1 → s.2.1 = pf h (q_rf X a 6) (D + m - x.toInt) (D + m) (D - S) → ∃ s' : ST, F_X12_pour_L158_3 X v5 v3 v4 v1 v2 a fu x s = ((1 : Int32), s') ∧ s'.1 = τ.1 ∧ s'.2.1 = pf h (q_rf X a 6) D (D + m) (D - S) := by
  have e60 : (60 : Int32).toInt = 60 := rfl
  have one : (1 : Int32).toInt = 1 := rfl
  induction fu with
  | zero => intro x s h; exact absurd h (Nat.not_lt_zero _)
  | succ fu ih =>
    intro x s hx x0 xm hs hl
    rw [F_X12_pour_L158_3_s]
    unfold F_X12_pour_B158_3
    by_cases q : x.toInt < v5.toInt
    · have e1 : (x + 1).toInt = x.toInt + 1 := y_inc (by omega)
      have in_ : (v5 - 1 - x).toInt = m - 1 - x.toInt := by rw [ar_sub, ar_sub, one, hm, ar_wr (n := m - 1) (by omega) (by omega), ar_wr (by omega) (by omega)]
      have id_ : ((60 : Int32) * v3 + v4 + (v5 - 1 - x)).toInt = D + (m - 1 - x.toInt) := by rw [ar_add, ar_add, ar_mul, e60, in_, ar_wr (n := 60 * v3.toInt) (by omega) (by omega), ar_wr (n := 60 * v3.toInt + v4.toInt) (by omega) (by omega), ar_wr (by omega) (by omega)]; omega
      have is_ : ((60 : Int32) * v1 + v2 + (v5 - 1 - x)).toInt = S + (m - 1 - x.toInt) := by rw [ar_add, ar_add, ar_mul, e60, in_, ar_wr (n := 60 * v1.toInt) (by omega) (by omega), ar_wr (n := 60 * v1.toInt + v2.toInt) (by omega) (by omega), ar_wr (by omega) (by omega)]; omega
      obtain ⟨i, hi⟩ : ∃ i, i = ((60 : Int32) * v3 + v4 + (v5 - 1 - x)).toNatClampNeg := ⟨_, rfl⟩
      obtain ⟨j, hj⟩ : ∃ j, j = ((60 : Int32) * v1 + v2 + (v5 - 1 - x)).toNatClampNeg := ⟨_, rfl⟩
      have iv : (i : Int) = D + m - x.toInt - 1 := by rw [hi, ar_cl, id_]; omega
      have jv : (j : Int) = S + (m - 1 - x.toInt) := by rw [hj, ar_cl, is_]; omega
      rw [if_pos q, if_neg (by decide : ¬ (1 : Int) = 0), q_letE (v5 - (1 : Int32)), q_letE (v5 - (1 : Int32) - x), q_letE ((60 : Int32) * v3), q_letE ((60 : Int32) * v3 + v4), q_letE ((60 : Int32) * v3 + v4 + (v5 - 1 - x)), q_letE ((60 : Int32) * v1), q_letE ((60 : Int32) * v1 + v2), q_letE ((60 : Int32) * v1 + v2 + (v5 - 1 - x)), ← hi, ← hj, q_letE (s.2.1 (q_rf X a 6) j), q_letE (q_sl s (q_rf X a 6) i (s.2.1 (q_rf X a 6) j)), q_letE (x + 1)]
      refine ih (x + 1) (q_sl s (q_rf X a 6) i (s.2.1 (q_rf X a 6) j)) (by omega) (by omega) (by omega) hs ?_
      have e3 : D + m - (x + 1).toInt = D + m - x.toInt - 1 := by omega
      rw [e3, ← pf_dn (h := h) (N := q_rf X a 6) (i := i) (j := j) (x := D + m - x.toInt) (e := D + m) (d := D - S) (by omega) iv (by omega) (by omega), ← hl]
      rfl
    · rw [if_neg q]
      refine ⟨s, rfl, hs, ?_⟩
      have e3 : D + m - x.toInt = D := by omega
      rw [hl, e3]
end QW
end
/-! FROM 59u.pour.lean.txt -/
section
/-! TRAYS: numbers poured, called -/
section QZ
variable {X : XW} {lb : Nat → Nat} {C a : Nat} {σ τ : ST} {n : Int}
/-- both have moved the numbers -/
theorem po_N (K : al_C X lb C a) {σ' τ' : ST} (N : ct_N X C a σ τ) (B : ct_B X C σ) {t1 t3 : Nat} (h1 : t1 < 4) (h3 : t3 < 4) {i j m : Int} (i0 : 0 ≤ i) (j0 : 0 ≤ j) (m0 : 0 ≤ m) (bi : i + m ≤ (σ.1 (q_rf X (q_rf X C 3) t1) 1).toInt) (bj : j + m ≤ (σ.1 (q_rf X (q_rf X C 3) t3) 1).toInt) (e1 : σ'.1 = σ.1) (c : ∀ k : Nat, σ'.2.1 (q_rf X (q_rf X (q_rf X C 3) t3) 2) k = if j ≤ (k : Int) ∧ (k : Int) < j + m then σ.2.1 (q_rf X (q_rf X (q_rf X C 3) t1) 2) ((k : Int) - j + i).toNat else σ.2.1 (q_rf X (q_rf X (q_rf X C 3) t3) 2) k) (c' : ∀ b, b ≠ q_rf X (q_rf X (q_rf X C 3) t3) 2 → σ'.2.1 b = σ.2.1 b) (d : τ'.2.1 = pf τ.2.1 (q_rf X a 6) (60 * (t3 : Int) + j) (60 * (t3 : Int) + j + m) (60 * (t3 : Int) + j - (60 * (t1 : Int) + i))) : ct_N X C a σ' τ' := by
  intro q hq k hk
  rw [e1] at hk
  have bq := (B q hq).2
  have b1 := (B t1 h1).2
  have b3 := (B t3 h3).2
  rw [d]
  unfold pf
  by_cases e : q = t3
  · subst e
    rw [c]
    by_cases z : j ≤ (k : Int) ∧ (k : Int) < j + m
    · have w := N t1 h1 ((k : Int) - j + i).toNat (by omega)
      have e2 : (((60 * q + k : Nat) : Int) - (60 * (q : Int) + j - (60 * (t1 : Int) + i))).toNat = 60 * t1 + ((k : Int) - j + i).toNat := by omega
      rw [if_pos z, if_pos (⟨rfl, by omega, by omega⟩ : q_rf X a 6 = q_rf X a 6 ∧ 60 * (q : Int) + j ≤ ((60 * q + k : Nat) : Int) ∧ ((60 * q + k : Nat) : Int) < 60 * (q : Int) + j + m), e2]
      exact w
    · rw [if_neg z, if_neg (fun y => by
        have y1 := y.2.1
        have y2 := y.2.2
        omega)]
      exact N q hq k hk
  · rw [c' _ (ct_ap K hq h3 e).2, if_neg (fun y => by
      have y1 := y.2.1
      have y2 := y.2.2
      omega)]
    exact N q hq k hk
theorem cn_pour (K : al_C X lb C a) (Q : ct_Q X C a σ τ) (B : ct_B X C σ) (v1 v2 v3 v4 v5 : Int32) : ob_S C a (F_X11_pour X σ C v1 v2 v3 v4 v5) (F_X12_pour X τ a v1 v2 v3 v4 v5) ∧ ct_Q X C a (F_X11_pour X σ C v1 v2 v3 v4 v5).2 (F_X12_pour X τ a v1 v2 v3 v4 v5).2 := by
  obtain ⟨kC, ka, S, lC, G8, G9, GM⟩ := id K
  obtain ⟨k30, k31, k32⟩ := ct_k S.1 ka
  have z0 : (0 : Int32).toInt = 0 := rfl
  have s2 : (q_si (q_si τ a 1 0) a 0 0).1 a 0 = 0 := si_eq _ _ _ _
  have no : ∀ k : Int32, ob_S C a (q_bi (F_X11_no X σ C k) (fun r s => (r, s))) (q_bi (F_X12_no X (q_si (q_si τ a 1 0) a 0 0) a k) (fun r s => (r, s))) ∧ ct_Q X C a (q_bi (F_X11_no X σ C k) (fun r s => (r, s))).2 (q_bi (F_X12_no X (q_si (q_si τ a 1 0) a 0 0) a k) (fun r s => (r, s))).2 := fun k => ⟨st_no k, Q.no K k k⟩
  have Q2 : ct_Q X C a σ (q_si (q_si τ a 1 0) a 0 0) := (Q.sa K 1 0).sa K 0 0
  unfold F_X11_pour F_X12_pour
  rw [q_letE (F_X11_trayAt X σ C v1), ct_at, q_letE (q_si τ a 1 0), q_letE (q_si (q_si τ a 1 0) a 0 0)]
  obtain ⟨τ2, e2⟩ : ∃ s, s = q_si (q_si τ a 1 0) a 0 0 := ⟨_, rfl⟩
  rw [← e2] at s2 no Q2 ⊢
  by_cases q1 : 0 ≤ v1.toInt ∧ v1.toInt < 4
  · rw [if_pos q1, on_s, q_letE (F_X11_trayAt X σ C v3), ct_at, if_neg (by omega : ¬ v1.toInt < 0), if_pos q1.2]
    by_cases q3 : 0 ≤ v3.toInt ∧ v3.toInt < 4
    · obtain ⟨t1, ht1⟩ : ∃ t, t = v1.toNatClampNeg := ⟨_, rfl⟩
      obtain ⟨t3, ht3⟩ : ∃ t, t = v3.toNatClampNeg := ⟨_, rfl⟩
      have tv1 : v1.toInt = (t1 : Int) := by rw [ht1, ar_cl]; omega
      have tv3 : v3.toInt = (t3 : Int) := by rw [ht3, ar_cl]; omega
      have h1 : t1 < 4 := by omega
      have h3 : t3 < 4 := by omega
      obtain ⟨S1, F1⟩ := Q2.1 t1 h1
      obtain ⟨S3, F3⟩ := Q2.1 t3 h3
      have B1 := B t1 h1
      have B3 := B t3 h3
      rw [if_pos q3, on_s, if_neg (by omega : ¬ v3.toInt < 0), if_pos q3.2, ← ht1, ← ht3]
      obtain ⟨T1, hT1⟩ : ∃ t, t = q_rf X (q_rf X C 3) t1 := ⟨_, rfl⟩
      obtain ⟨T3, hT3⟩ : ∃ t, t = q_rf X (q_rf X C 3) t3 := ⟨_, rfl⟩
      rw [← hT1] at S1 F1 B1 ⊢
      rw [← hT3] at S3 F3 B3 ⊢
      rw [q_letE (F_X10_isMissing X σ T1), ct_mis, q_letE (τ2.1 (q_rf X a 5) t1), ← F1]
      by_cases m1 : (σ.1 T1 1).toInt = -1
      · rw [if_pos m1, if_neg (by decide : ¬ (1 : Int) = 0), if_pos (by omega : (σ.1 T1 1).toInt < 0)]
        exact no 3
      rw [if_neg m1, if_pos (rfl : (0 : Int) = 0), if_neg (by omega : ¬ (σ.1 T1 1).toInt < 0), q_letE (F_X10_isMissing X σ T3), ct_mis, q_letE (τ2.1 (q_rf X a 5) t3), ← F3]
      by_cases m3 : (σ.1 T3 1).toInt = -1
      · rw [if_pos m3, if_neg (by decide : ¬ (1 : Int) = 0), if_pos (by omega : (σ.1 T3 1).toInt < 0)]
        exact no 3
      rw [if_neg m3, if_pos (rfl : (0 : Int) = 0), if_neg (by omega : ¬ (σ.1 T3 1).toInt < 0), q_letE (σ.1 T1 0), q_letE (σ.1 T3 0), q_letE (τ2.1 (q_rf X a 4) t1), q_letE (τ2.1 (q_rf X a 4) t3), ← S1, ← S3]
      by_cases qs : (σ.1 T1 0).toInt = (σ.1 T3 0).toInt
      · rw [if_pos qs, if_pos qs]
        by_cases q5 : v5.toInt < 0
        · rw [if_pos q5, if_pos q5]
          exact no 6
        rw [if_neg q5, if_neg q5, q_letE (F_X10_hasPlaces X σ T1 v2 v5), ct_has B1]
        have y1 : (v2.toInt64 + v5.toInt64).toInt = v2.toInt + v5.toInt := by
          have := ar_bd v2
          have := ar_bd v5
          rw [ar_addl, ar_i2l, ar_i2l, ar_vr (by omega) (by omega)]
        have y3 : (v4.toInt64 + v5.toInt64).toInt = v4.toInt + v5.toInt := by
          have := ar_bd v4
          have := ar_bd v5
          rw [ar_addl, ar_i2l, ar_i2l, ar_vr (by omega) (by omega)]
        have g1 : ¬ 0 < (lg_cmp (v2.toInt64 + v5.toInt64) (τ2.1 (q_rf X a 5) t1).toInt64).toInt ↔ v2.toInt + v5.toInt ≤ (σ.1 T1 1).toInt := by
          rw [lg_gt, y1, ar_i2l, ← F1]
          omega
        have g3 : ¬ 0 < (lg_cmp (v4.toInt64 + v5.toInt64) (τ2.1 (q_rf X a 5) t3).toInt64).toInt ↔ v4.toInt + v5.toInt ≤ (σ.1 T3 1).toInt := by
          rw [lg_gt, y3, ar_i2l, ← F3]
          omega
        by_cases p1 : 0 ≤ v5.toInt ∧ v5.toInt ≤ (σ.1 T1 1).toInt ∧ 0 ≤ v2.toInt ∧ v2.toInt + v5.toInt ≤ (σ.1 T1 1).toInt
        · rw [if_pos p1, if_neg (by decide : ¬ (1 : Int) = 0), if_neg (by omega : ¬ v2.toInt < 0), q_letE (F_X10_hasPlaces X σ T3 v4 v5), ct_has B3]
          by_cases p3 : 0 ≤ v5.toInt ∧ v5.toInt ≤ (σ.1 T3 1).toInt ∧ 0 ≤ v4.toInt ∧ v4.toInt + v5.toInt ≤ (σ.1 T3 1).toInt
          · rw [if_pos p3, if_neg (by decide : ¬ (1 : Int) = 0), if_neg (by omega : ¬ v4.toInt < 0), q_letE v2.toInt64, q_letE v5.toInt64, q_letE (v2.toInt64 + v5.toInt64), q_letE (τ2.1 (q_rf X a 5) t1), q_letE (τ2.1 (q_rf X a 5) t1).toInt64, q_letE (lg_cmp (v2.toInt64 + v5.toInt64) (τ2.1 (q_rf X a 5) t1).toInt64), if_neg (g1.mpr p1.2.2.2), q_letE v4.toInt64, q_letE v5.toInt64, q_letE (v4.toInt64 + v5.toInt64), q_letE (τ2.1 (q_rf X a 5) t3), q_letE (τ2.1 (q_rf X a 5) t3).toInt64, q_letE (lg_cmp (v4.toInt64 + v5.toInt64) (τ2.1 (q_rf X a 5) t3).toInt64), if_neg (g3.mpr p3.2.2.2)]
            have cf : F_X10_copyFrom X σ T3 T1 v2 v4 v5 = q_cpyl σ (q_rf X T3 2) (q_rf X T1 2) v2 v4 v5 := by
              unfold F_X10_copyFrom
              rw [q_letE (F_X10_hasPlaces X σ T1 v2 v5), ct_has B1, if_pos p1, if_neg (by decide : ¬ (1 : Int) = 0), q_letE (F_X10_hasPlaces X σ T3 v4 v5), ct_has B3, if_pos p3, if_neg (by decide : ¬ (1 : Int) = 0), q_letE]
            rw [q_letE (F_X10_copyFrom X σ T3 T1 v2 v4 v5), cf, ob_pe, mv_yes]
            have fin : ∀ s' : ST, s'.1 = τ2.1 → s'.2.1 = pf τ2.2.1 (q_rf X a 6) (60 * (t3 : Int) + v4.toInt) (60 * (t3 : Int) + v4.toInt + v5.toInt) (60 * (t3 : Int) + v4.toInt - (60 * (t1 : Int) + v2.toInt)) → ob_S C a ((1 : Int32), q_si (q_cpyl σ (q_rf X T3 2) (q_rf X T1 2) v2 v4 v5) C 0 0) ((1 : Int32), s') ∧ ct_Q X C a ((1 : Int32), q_si (q_cpyl σ (q_rf X T3 2) (q_rf X T1 2) v2 v4 v5) C 0 0).2 ((1 : Int32), s').2 := fun s' f1 f2 => by
              refine ⟨⟨rfl, ?_⟩, ?_⟩
              · show ((q_si (q_cpyl σ (q_rf X T3 2) (q_rf X T1 2) v2 v4 v5) C 0 0).1 C 0).toInt = (s'.1 a 0).toInt
                rw [si_eq, f1, s2]
              · have R : ct_Q X C a (q_cpyl σ (q_rf X T3 2) (q_rf X T1 2) v2 v4 v5) s' := by
                  refine ⟨fun i hi => ?_, ?_⟩
                  · rw [f1]
                    exact Q2.1 i hi
                  · refine po_N K (i := v2.toInt) (j := v4.toInt) (m := v5.toInt) Q2.2 B h1 h3 p1.2.2.1 p3.2.2.1 p1.1 (by rw [← hT1]; exact p1.2.2.2) (by rw [← hT3]; exact p3.2.2.2) rfl (fun k => ?_) (fun b hb => ?_) f2
                    · rw [← hT1, ← hT3]
                      show (if q_rf X T3 2 = q_rf X T3 2 then va_cpy (σ.2.1 (q_rf X T1 2)) (σ.2.1 (q_rf X T3 2)) v2.toNatClampNeg v4.toNatClampNeg v5.toNatClampNeg k else σ.2.1 (q_rf X T3 2) k) = _
                      rw [if_pos rfl]
                      unfold va_cpy
                      have c2 : (v2.toNatClampNeg : Int) = v2.toInt := by rw [ar_cl]; omega
                      have c4 : (v4.toNatClampNeg : Int) = v4.toInt := by rw [ar_cl]; omega
                      have c5 : (v5.toNatClampNeg : Int) = v5.toInt := by rw [ar_cl]; omega
                      by_cases z : v4.toInt ≤ (k : Int) ∧ (k : Int) < v4.toInt + v5.toInt
                      · have e9 : v2.toNatClampNeg + (k - v4.toNatClampNeg) = ((k : Int) - v4.toInt + v2.toInt).toNat := by omega
                        rw [if_pos z, if_pos (⟨by omega, by omega⟩ : v4.toNatClampNeg ≤ k ∧ k < v4.toNatClampNeg + v5.toNatClampNeg), e9]
                      · rw [if_neg z, if_neg (fun y => by omega)]
                    · rw [← hT3] at hb
                      funext g
                      show (if b = q_rf X T3 2 then _ else σ.2.1 b g) = σ.2.1 b g
                      rw [if_neg hb]
                exact R.sC K 0 0
            by_cases qd : v2.toInt < v4.toInt
            · obtain ⟨s', d1, d2, d3⟩ := po_dn (X := X) (a := a) (τ := τ2) (h := τ2.2.1) (v1 := v1) (v2 := v2) (v3 := v3) (v4 := v4) (v5 := v5) (S := 60 * (t1 : Int) + v2.toInt) (D := 60 * (t3 : Int) + v4.toInt) (m := v5.toInt) (by omega) (by omega) q1 q3 p1.2.2.1 p3.2.2.1 rfl p1.1 (by omega) (by omega) (by omega) ((2147483647 - (0 : Int32).toInt).toNat + 1) 0 τ2 (Nat.lt_succ_self _) (by decide) (by rw [z0]; exact p1.1) rfl (by rw [z0, Int.sub_zero, pf_0 (Int.le_refl _)])
              rw [if_pos qd, d1]
              exact fin s' d2 d3
            · obtain ⟨s', d1, d2, d3⟩ := po_up (X := X) (a := a) (τ := τ2) (h := τ2.2.1) (v1 := v1) (v2 := v2) (v3 := v3) (v4 := v4) (v5 := v5) (S := 60 * (t1 : Int) + v2.toInt) (D := 60 * (t3 : Int) + v4.toInt) (m := v5.toInt) (by omega) (by omega) q1 q3 p1.2.2.1 p3.2.2.1 rfl (by omega) (by omega) (by omega) ((2147483647 - (0 : Int32).toInt).toNat + 1) 0 τ2 (Nat.lt_succ_self _) (by decide) (Or.inl (by rw [z0]; exact p1.1)) rfl (by rw [z0, Int.add_zero, pf_0 (Int.le_refl _)])
              rw [if_neg qd, d1]
              exact fin s' d2 (d3 p1.1)
          · rw [if_neg p3, if_pos (rfl : (0 : Int) = 0)]
            by_cases n4 : v4.toInt < 0
            · rw [if_pos n4]
              exact no 4
            · rw [if_neg n4, q_letE v2.toInt64, q_letE v5.toInt64, q_letE (v2.toInt64 + v5.toInt64), q_letE (τ2.1 (q_rf X a 5) t1), q_letE (τ2.1 (q_rf X a 5) t1).toInt64, q_letE (lg_cmp (v2.toInt64 + v5.toInt64) (τ2.1 (q_rf X a 5) t1).toInt64), if_neg (g1.mpr p1.2.2.2), q_letE v4.toInt64, q_letE v5.toInt64, q_letE (v4.toInt64 + v5.toInt64), q_letE (τ2.1 (q_rf X a 5) t3), q_letE (τ2.1 (q_rf X a 5) t3).toInt64, q_letE (lg_cmp (v4.toInt64 + v5.toInt64) (τ2.1 (q_rf X a 5) t3).toInt64)]
              by_cases n5 : 0 < (lg_cmp (v4.toInt64 + v5.toInt64) (τ2.1 (q_rf X a 5) t3).toInt64).toInt
              · rw [if_pos n5]
                exact no 4
              · have := g3.mp n5
                exact absurd ⟨by omega, by omega, by omega, by omega⟩ p3
        · rw [if_neg p1, if_pos (rfl : (0 : Int) = 0)]
          by_cases n2 : v2.toInt < 0
          · rw [if_pos n2]
            exact no 4
          rw [if_neg n2]
          by_cases n4 : v4.toInt < 0
          · rw [if_pos n4]
            exact no 4
          rw [if_neg n4, q_letE v2.toInt64, q_letE v5.toInt64, q_letE (v2.toInt64 + v5.toInt64), q_letE (τ2.1 (q_rf X a 5) t1), q_letE (τ2.1 (q_rf X a 5) t1).toInt64, q_letE (lg_cmp (v2.toInt64 + v5.toInt64) (τ2.1 (q_rf X a 5) t1).toInt64)]
          by_cases n5 : 0 < (lg_cmp (v2.toInt64 + v5.toInt64) (τ2.1 (q_rf X a 5) t1).toInt64).toInt
          · rw [if_pos n5]
            exact no 4
          · have := g1.mp n5
            exact absurd ⟨by omega, by omega, by omega, by omega⟩ p1
      · rw [if_neg qs, if_neg qs]
        exact no 11
    · rw [if_neg q3, on_n]
      by_cases n3 : v3.toInt < 0
      · rw [if_pos n3]
        exact no 1
      · rw [if_neg n3, if_neg (by omega : ¬ v3.toInt < 4)]
        exact no 1
  · rw [if_neg q1, on_n, q_letE (F_X11_trayAt X σ C v3), ct_at]
    have cl : q_on (if 0 ≤ v3.toInt ∧ v3.toInt < 4 then some (q_rf X (q_rf X C 3) v3.toNatClampNeg) else none) (q_bi (F_X11_no X σ C (1 : Int32)) (fun r s => (r, s))) (fun _ => q_bi (F_X11_no X σ C (1 : Int32)) (fun r s => (r, s))) = q_bi (F_X11_no X σ C (1 : Int32)) (fun r s => (r, s)) := by
      split <;> rfl
    rw [cl]
    by_cases n1 : v1.toInt < 0
    · rw [if_pos n1]
      exact no 1
    · rw [if_neg n1, if_neg (by omega : ¬ v1.toInt < 4)]
      exact no 1
end QZ
end
