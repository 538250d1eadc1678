/-! OBSERVERS: honestly, rid, lastKind, mustLie, soonest -/
section QE
variable {X : XW} {lb : Nat → Nat} {g o C a : Nat} {σ τ : ST} {V : Nat → Int → Int} {c : Int → Int} {n : Int}
/-- what the reference writes as it looks ahead -/
def fo_S (X : XW) (a : Nat) (b f : Nat) : Prop := b = q_rf X a 32 ∨ b = a ∧ (f = 33 ∨ f = 34 ∨ f = 35)
/-- what the reference holds ahead of turn r -/
def fo_M (X : XW) (a : Nat) (τ1 : ST) (c : Int → Int) (p : Int) (r : Nat) : Prop := (∀ j : Int, 0 ≤ j → j < 10 → (τ1.1 (q_rf X a 32) j.toNat).toInt = (fo c p r).1 j) ∧ (τ1.1 a 33).toInt = (fo c p r).2.1 ∧ (τ1.1 a 34).toInt = (fo c p r).2.2.1 ∧ (τ1.1 a 35).toInt = (fo c p r).2.2.2
theorem fo_k32 (hT : q_T X) (ha : q_kd X a = 12) : q_rf X a 32 ≠ a ∧ q_rf X a 32 ≠ q_rf X a 20 := by
  have k32 : q_kd X (q_rf X a 32) = 38 := (hT.1 a 32 (by rw [ha]; decide)).trans (by rw [ha]; rfl)
  exact ⟨m_ne k32 ha (by decide), m_ne k32 (tb_k hT ha).1 (by decide)⟩
theorem fo_Sc (hT : q_T X) (ha : q_kd X a = 12) {τ1 : ST} (h : tkl (fo_S X a) (fun _ _ => False) τ τ1) : m_c X τ1 a = m_c X τ a := pl_mc (fun f => h.1 _ f (by
  rintro (z | ⟨z, -⟩)
  · exact (fo_k32 hT ha).2 z.symm
  · exact (m_ne (tb_k hT ha).1 ha (by decide)) z))
theorem fo_ML (Y : y_S X lb) (ha : q_kd X a = 12) (hG : m_G c) (h3 : 0 ≤ c 3 ∧ c 3 ≤ 2) (hc : m_c X τ a = c) {v1 v2 : Int32} {p : Int} {t : Nat} (hv : v1.toInt = p) (hp : 0 ≤ p ∧ p < c 2) (h2 : v2.toInt = (t : Int)) (ht : t ≤ 60) (fu : Nat) : ∀ (y x : Int32) (τ1 : ST) (r : Nat), (2147483647 - x.toInt).toNat < fu → x.toInt = (r : Int) → r ≤ t → y.toInt = m_S c (34 + 10 * p) 10 - (fo c p r).2.1 → tkl (fo_S X a) (fun _ _ => False) τ τ1 → fo_M X a τ1 c p r → ∃ (z : Int32) (τ2 : ST), F_X12_honestFor_L50_3 X v2 a v1 fu y x τ1 = (z, τ2) ∧ z.toInt = m_S c (34 + 10 * p) 10 - (fo c p t).2.1 ∧ tkl (fo_S X a) (fun _ _ => False) τ τ2 ∧ fo_M X a τ2 c p t := by
  have b2 := hG.1.2.1
  have b4 := hG.1.2.2.1
  have h0 := hG.1.1
  have hp6 : 0 ≤ p ∧ p < 6 := ⟨hp.1, by omega⟩
  obtain ⟨n32, n320⟩ := fo_k32 Y.1 ha
  have s80 := hG.S80 (p := p) (k := 10) hp6.1 hp6.2 (by decide) (by decide)
  have z10 : m_S c (34 + 10 * p) (10 : Int).toNat = m_S c (34 + 10 * p) 10 := rfl
  induction fu with
  | zero => intro y x τ1 r h; exact absurd h (Nat.not_lt_zero _)
  | succ fu ih =>
    intro y x τ1 r hf hx hr hy T F
    obtain ⟨F32, F33, F34, F35⟩ := F
    rw [F_X12_honestFor_L50_3_s]
    unfold F_X12_honestFor_B50_3
    rw [h2, hx]
    by_cases q : (r : Int) < (t : Int)
    · obtain ⟨i1, i2, i3, i4, i5, i6⟩ := fo_inv hG hp6 r
      have mc1 : m_c X τ1 a = c := (fo_Sc Y.1 ha T).trans hc
      have fk := fa_fallsTo Y hG h3 mc1 hv hp (x := x) hx ⟨by omega, by omega⟩
      have kb : 0 ≤ fa_k c p (r : Int) ∧ fa_k c p (r : Int) < c 0 := fa_K_b hG _
      obtain ⟨k, hk⟩ : ∃ k, k = fa_k c p (r : Int) := ⟨_, rfl⟩
      rw [← hk] at fk kb
      rw [if_pos q, q_letE (F_X12_fallsTo X τ1 a v1 x)]
      obtain ⟨u, eu⟩ : ∃ u, u = F_X12_fallsTo X τ1 a v1 x := ⟨_, rfl⟩
      rw [← eu] at fk ⊢
      have un : u.toNatClampNeg = k.toNat := by rw [ar_cl, fk]
      have g4 : (τ1.1 (q_rf X a 20) (4 : Int32).toNatClampNeg).toInt = c 4 := gm_cell (A := 4) mc1 rfl
      have g32 : (τ1.1 (q_rf X a 32) k.toNat).toInt = (fo c p r).1 k := F32 k kb.1 (by omega)
      have rk := i1 k kb.1 (by omega)
      have nb := fo_m_b (m := c 4) b4.1 rk.1
      have g19 : (F_J9_min_7cf53 X τ1 (τ1.1 (q_rf X a 20) (4 : Int32).toNatClampNeg) (τ1.1 (q_rf X a 32) k.toNat)).toInt = fo_m (c 4) ((fo c p r).1 k) := by
        rw [gm_min, g32, g4]
        rfl
      rw [q_letE (τ1.1 (q_rf X a 20) (4 : Int32).toNatClampNeg), un, q_letE (τ1.1 (q_rf X a 32) k.toNat), q_letE (F_J9_min_7cf53 X τ1 (τ1.1 (q_rf X a 20) (4 : Int32).toNatClampNeg) (τ1.1 (q_rf X a 32) k.toNat))]
      obtain ⟨z, ez⟩ : ∃ z, z = F_J9_min_7cf53 X τ1 (τ1.1 (q_rf X a 20) (4 : Int32).toNatClampNeg) (τ1.1 (q_rf X a 32) k.toNat) := ⟨_, rfl⟩
      rw [← ez] at g19 ⊢
      obtain ⟨m, hm⟩ : ∃ m, m = fo_m (c 4) ((fo c p r).1 k) := ⟨_, rfl⟩
      rw [← hm] at g19 nb
      have st : fo c p (r + 1) = (fun j => if j = k then (fo c p r).1 j - m else (fo c p r).1 j, (fo c p r).2.1 + m, (if 0 < m then k else (fo c p r).2.2.1), if m = 0 ∧ (fo c p r).2.1 < m_S c (34 + 10 * p) 10 ∧ (fo c p r).2.2.2 < 0 then (r : Int) else (fo c p r).2.2.2) := by
        rw [hm, hk]
        rfl
      have nS : 0 ≤ m_S (fo c p r).1 0 10 := m_S_nn (fun j j0 j1 => (i1 j j0 (by omega)).1)
      have x1 : (x + 1).toInt = ((r + 1 : Nat) : Int) := by rw [y_inc (by omega), hx]; omega
      -- the turn's end
      have tail : ∀ τ3 : ST, tkl (fo_S X a) (fun _ _ => False) τ τ3 → (∀ f, τ3.1 (q_rf X a 32) f = τ1.1 (q_rf X a 32) f) → (τ3.1 a 33).toInt = (fo c p r).2.1 → (τ3.1 a 34).toInt = (fo c p r).2.2.1 → (τ3.1 a 35).toInt = (fo c p (r + 1)).2.2.2 → ∃ (z' : Int32) (τ2 : ST), F_X12_honestFor_J105_5 X a u z y x (F_X12_honestFor_L50_3 X v2 a v1 fu) τ3 = (z', τ2) ∧ z'.toInt = m_S c (34 + 10 * p) 10 - (fo c p t).2.1 ∧ tkl (fo_S X a) (fun _ _ => False) τ τ2 ∧ fo_M X a τ2 c p t := by
        intro τ3 T3 k32 k33 k34 k35
        have e22 : (τ3.1 (q_rf X a 32) k.toNat).toInt = (fo c p r).1 k := by rw [k32]; exact g32
        have e23 : (τ3.1 (q_rf X a 32) k.toNat - z).toInt = (fo c p r).1 k - m := by rw [ar_sub, e22, g19, ar_wr (by omega) (by omega)]
        unfold F_X12_honestFor_J105_5
        rw [un, q_letE (τ3.1 (q_rf X a 32) k.toNat), q_letE (τ3.1 (q_rf X a 32) k.toNat - z), q_letE (q_si τ3 (q_rf X a 32) k.toNat (τ3.1 (q_rf X a 32) k.toNat - z))]
        obtain ⟨τ4, e4⟩ : ∃ s, s = q_si τ3 (q_rf X a 32) k.toNat (τ3.1 (q_rf X a 32) k.toNat - z) := ⟨_, rfl⟩
        have a4 : ∀ f, τ4.1 a f = τ3.1 a f := fun f => by rw [e4]; exact q_si_ne (Ne.symm n32) f
        have T4 : tkl (fo_S X a) (fun _ _ => False) τ τ4 := by rw [e4]; exact T3.si _ (Or.inl rfl)
        have r4 : ∀ j : Int, 0 ≤ j → j < 10 → (τ4.1 (q_rf X a 32) j.toNat).toInt = (fo c p (r + 1)).1 j := fun j j0 j1 => by
          rw [e4, st]
          show (if q_rf X a 32 = q_rf X a 32 ∧ j.toNat = k.toNat then τ3.1 (q_rf X a 32) k.toNat - z else τ3.1 (q_rf X a 32) j.toNat).toInt = if j = k then (fo c p r).1 j - m else (fo c p r).1 j
          by_cases e : j = k
          · rw [if_pos ⟨rfl, by rw [e]⟩, if_pos e, e23, e]
          · rw [if_neg (fun z => e (by have := z.2; omega)), if_neg e, k32]
            exact F32 j j0 j1
        rw [← e4]
        have e25 : (τ4.1 a 33).toInt = (fo c p r).2.1 := by rw [a4]; exact k33
        have e26 : (τ4.1 a 33 + z).toInt = (fo c p (r + 1)).2.1 := by
          rw [ar_add, e25, g19, ar_wr (by omega) (by omega), st]
        rw [q_letE (τ4.1 a 33), q_letE (τ4.1 a 33 + z), q_letE (q_si τ4 a 33 (τ4.1 a 33 + z)), q_letE (y - z), g19]
        obtain ⟨τ5, e5⟩ : ∃ s, s = q_si τ4 a 33 (τ4.1 a 33 + z) := ⟨_, rfl⟩
        have a5 : ∀ f, f ≠ 33 → τ5.1 a f = τ3.1 a f := fun f h => by rw [e5, si_f h]; exact a4 f
        have T5 : tkl (fo_S X a) (fun _ _ => False) τ τ5 := by rw [e5]; exact T4.si _ (Or.inr ⟨rfl, Or.inl rfl⟩)
        have r5 : ∀ f, τ5.1 (q_rf X a 32) f = τ4.1 (q_rf X a 32) f := fun f => by rw [e5]; exact q_si_ne n32 f
        have s5 : (τ5.1 a 33).toInt = (fo c p (r + 1)).2.1 := by rw [e5, si_eq]; exact e26
        rw [← e5]
        have yz : (y - z).toInt = m_S c (34 + 10 * p) 10 - (fo c p (r + 1)).2.1 := by
          rw [ar_sub, hy, g19, ar_wr (by omega) (by omega), st]
          show _ = m_S c (34 + 10 * p) 10 - ((fo c p r).2.1 + m)
          omega
        by_cases qm : 0 < m
        · rw [if_pos qm, q_letE (q_si τ5 a 34 u), q_letE (x + 1)]
          refine ih (y - z) (x + 1) _ (r + 1) (by omega) x1 (by omega) yz (T5.si _ (Or.inr ⟨rfl, Or.inr (Or.inl rfl)⟩)) ⟨fun j j0 j1 => ?_, ?_, ?_, ?_⟩
          · rw [q_si_ne n32, r5]; exact r4 j j0 j1
          · rw [si_f (by decide)]; exact s5
          · rw [si_eq, st, fk]
            show k = if 0 < m then k else (fo c p r).2.2.1
            rw [if_pos qm]
          · rw [si_f (by decide), a5 35 (by decide)]; exact k35
        · rw [if_neg qm, q_letE (τ5.1 a 34), pl_same, q_letE τ5, q_letE (x + 1)]
          refine ih (y - z) (x + 1) _ (r + 1) (by omega) x1 (by omega) yz T5 ⟨fun j j0 j1 => ?_, s5, ?_, ?_⟩
          · rw [r5]; exact r4 j j0 j1
          · rw [a5 34 (by decide), k34, st]
            show _ = if 0 < m then k else (fo c p r).2.2.1
            rw [if_neg qm]
          · rw [a5 35 (by decide)]; exact k35
      have lie : (fo c p (r + 1)).2.2.2 = if m = 0 ∧ (fo c p r).2.1 < m_S c (34 + 10 * p) 10 ∧ (fo c p r).2.2.2 < 0 then (r : Int) else (fo c p r).2.2.2 := by rw [st]
      rw [g19]
      by_cases qm : m = 0
      · rw [if_pos qm]
        by_cases qy : 0 < y.toInt
        · rw [if_pos qy, q_letE (τ1.1 a 35), F35]
          by_cases ql : (fo c p r).2.2.2 < 0
          · rw [if_pos ql, q_letE (q_si τ1 a 35 x)]
            refine tail _ (T.si _ (Or.inr ⟨rfl, Or.inr (Or.inr rfl)⟩)) (fun f => q_si_ne n32 f) (by rw [si_f (by decide)]; exact F33) (by rw [si_f (by decide)]; exact F34) ?_
            rw [si_eq, hx, lie, if_pos ⟨qm, by omega, ql⟩]
          · rw [if_neg ql]
            exact tail τ1 T (fun _ => rfl) F33 F34 (by rw [lie, if_neg (fun z => ql z.2.2)]; exact F35)
        · rw [if_neg qy]
          exact tail τ1 T (fun _ => rfl) F33 F34 (by rw [lie, if_neg (fun z => by omega)]; exact F35)
      · rw [if_neg qm]
        exact tail τ1 T (fun _ => rfl) F33 F34 (by rw [lie, if_neg (fun z => qm z.1)]; exact F35)
    · have e : r = t := by omega
      rw [if_neg q, ← e]
      exact ⟨y, τ1, rfl, hy, T, F32, F33, F34, F35⟩
theorem fo_MK (Y : y_S X lb) (ha : q_kd X a = 12) (hG : m_G c) (hc : m_c X τ a = c) {v1 v2 : Int32} {p : Int} (hv : v1.toInt = p) (hp : 0 ≤ p ∧ p < 6) (fu : Nat) : ∀ (x : Int32) (τ1 : ST), (2147483647 - x.toInt).toNat < fu → 0 ≤ x.toInt → x.toInt ≤ 10 → tkl (fo_S X a) (fun _ _ => False) τ τ1 → (∀ j : Int, 0 ≤ j → j < x.toInt → (τ1.1 (q_rf X a 32) j.toNat).toInt = c (34 + 10 * p + j)) → ∃ τ2 : ST, F_X12_honestFor_L2_1 X a v1 v2 fu x τ1 = F_X12_honestFor_E26_5 X τ2 a v1 v2 ∧ tkl (fo_S X a) (fun _ _ => False) τ τ2 ∧ ∀ j : Int, 0 ≤ j → j < 10 → (τ2.1 (q_rf X a 32) j.toNat).toInt = c (34 + 10 * p + j) := by
  obtain ⟨n32, n320⟩ := fo_k32 Y.1 ha
  induction fu with
  | zero => intro x τ1 h; exact absurd h (Nat.not_lt_zero _)
  | succ fu ih =>
    intro x τ1 hf x0 x1 T hz
    rw [F_X12_honestFor_L2_1_s]
    unfold F_X12_honestFor_B2_1
    by_cases q : x.toInt < 10
    · have e1 : (x + 1).toInt = x.toInt + 1 := y_inc (by omega)
      have mc1 : m_c X τ1 a = c := (fo_Sc Y.1 ha T).trans hc
      have hh := gm_handOf (X := X) (a := a) mc1 (y := x) hv rfl hp ⟨x0, q⟩
      rw [if_pos q, q_letE (F_X12_handOf X τ1 a v1 x), q_letE (q_si τ1 (q_rf X a 32) x.toNatClampNeg (F_X12_handOf X τ1 a v1 x)), q_letE (x + 1)]
      refine ih (x + 1) _ (by omega) (by omega) (by omega) (T.si _ (Or.inl rfl)) (fun j j0 j1 => ?_)
      show (if q_rf X a 32 = q_rf X a 32 ∧ j.toNat = x.toNatClampNeg then F_X12_handOf X τ1 a v1 x else τ1.1 (q_rf X a 32) j.toNat).toInt = _
      by_cases e : j = x.toInt
      · rw [if_pos ⟨rfl, by rw [ar_cl, e]⟩, hh, e]
      · rw [if_neg (fun z => e (by have := z.2; rw [ar_cl] at this; omega))]
        exact hz j j0 (by omega)
    · rw [if_neg q]
      exact ⟨τ1, rfl, T, fun j j0 j1 => hz j j0 (by omega)⟩
/-- the reference looks ahead -/
theorem fo_model (Y : y_S X lb) (ha : q_kd X a = 12) (hG : m_G c) (h3 : 0 ≤ c 3 ∧ c 3 ≤ 2) (hc : m_c X τ a = c) {v1 v2 : Int32} {p : Int} {t : Nat} (hv : v1.toInt = p) (hp : 0 ≤ p ∧ p < c 2) (h2 : v2.toInt = (t : Int)) (ht : t ≤ 60) : ∃ (z : Int32) (τ2 : ST), F_X12_honestFor X τ a v1 v2 = (z, τ2) ∧ z.toInt = m_S c (34 + 10 * p) 10 - (fo c p t).2.1 ∧ tkl (fo_S X a) (fun _ _ => False) τ τ2 ∧ fo_M X a τ2 c p t := by
  have b2 := hG.1.2.1
  have hp6 : 0 ≤ p ∧ p < 6 := ⟨hp.1, by omega⟩
  have z0 : (0 : Int32).toInt = 0 := rfl
  obtain ⟨n32, n320⟩ := fo_k32 Y.1 ha
  unfold F_X12_honestFor
  obtain ⟨τ2, e2, T2, k2⟩ := fo_MK (v2 := v2) Y ha hG hc hv hp6 ((2147483647 - (0 : Int32).toInt).toNat + 1) 0 τ (Nat.lt_succ_self _) (by decide) (by decide) tkl.rf (fun j j0 j1 => by rw [z0] at j1; omega)
  have mc2 : m_c X τ2 a = c := (fo_Sc Y.1 ha T2).trans hc
  have cu := gm_cardsOf (X := X) mc2 hG hv hp6
  rw [e2]
  unfold F_X12_honestFor_E26_5
  rw [q_letE (F_X12_cardsOf X τ2 a v1), q_letE (q_si τ2 a 33 0), q_letE (q_si (q_si τ2 a 33 0) a 34 (-1)), q_letE (q_si (q_si (q_si τ2 a 33 0) a 34 (-1)) a 35 (-1))]
  refine fo_ML Y ha hG h3 hc hv hp h2 ht _ _ 0 _ 0 (Nat.lt_succ_self _) z0 (Nat.zero_le _) ?_ (((T2.si _ (Or.inr ⟨rfl, Or.inl rfl⟩)).si _ (Or.inr ⟨rfl, Or.inr (Or.inl rfl)⟩)).si _ (Or.inr ⟨rfl, Or.inr (Or.inr rfl)⟩)) ⟨fun j j0 j1 => ?_, ?_, ?_, ?_⟩
  · rw [cu]
    show _ = m_S c (34 + 10 * p) 10 - 0
    omega
  · rw [q_si_ne n32, q_si_ne n32, q_si_ne n32]
    exact k2 j j0 j1
  · rw [si_f (by decide), si_f (by decide), si_eq]; rfl
  · rw [si_f (by decide), si_eq]; rfl
  · rw [si_eq]; rfl
/-- rid, in the reference -/
theorem fo_ridL (Y : y_S X lb) (ha : q_kd X a = 12) (hG : m_G c) (h3 : 0 ≤ c 3 ∧ c 3 ≤ 2) (hc : m_c X τ a = c) {v1 : Int32} {p : Int} (hv : v1.toInt = p) (hp : 0 ≤ p ∧ p < c 2) (fu : Nat) : ∀ (x : Int32) (τ1 : ST) (r : Nat), (2147483647 - x.toInt).toNat < fu → x.toInt = (r : Int) → r ≤ 61 → (∀ k : Nat, k < r → (fo c p k).2.1 ≠ m_S c (34 + 10 * p) 10) → tkl (fo_S X a) (fun _ _ => False) τ τ1 → ∃ (z : Int32) (τ2 : ST), F_X12_ridOf_L2_1 X a v1 fu x τ1 = (z, τ2) ∧ z.toInt = fo_r c p 60 ∧ tkl (fo_S X a) (fun _ _ => False) τ τ2 ∧ (fo_r c p 60 ≠ -1 → (τ2.1 a 34).toInt = (fo c p 60).2.2.1) := by
  have b2 := hG.1.2.1
  have hp6 : 0 ≤ p ∧ p < 6 := ⟨hp.1, by omega⟩
  induction fu with
  | zero => intro x τ1 r h; exact absurd h (Nat.not_lt_zero _)
  | succ fu ih =>
    intro x τ1 r hf hx hr hn T
    rw [F_X12_ridOf_L2_1_s]
    unfold F_X12_ridOf_B2_1
    rw [hx]
    by_cases q : (60 : Int) < (r : Int)
    · have e : fo_r c p 60 = -1 := (fo_r_s (c := c) (p := p) 60).1.mpr (fun k hk => hn k (by omega))
      rw [if_pos q]
      exact ⟨-1, τ1, rfl, e.symm, T, fun h => absurd e h⟩
    · have mc1 : m_c X τ1 a = c := (fo_Sc Y.1 ha T).trans hc
      obtain ⟨z, τ2, e2, e3, T2, F⟩ := fo_model Y ha hG h3 mc1 hv hp (v2 := x) (t := r) hx (by omega)
      rw [if_neg q, e2, q_biP z τ2, e3]
      by_cases q2 : m_S c (34 + 10 * p) 10 - (fo c p r).2.1 = 0
      · have s : (fo c p r).2.1 = m_S c (34 + 10 * p) 10 := by omega
        have ne : fo_r c p r ≠ -1 := fun h => (fo_r_s (c := c) (p := p) r).1.mp h r (Nat.le_refl r) s
        have ev : fo_r c p r = (r : Int) := by
          have i := (fo_r_s (c := c) (p := p) r).2 ne
          by_cases w : fo_r c p r < (r : Int)
          · exact absurd i.2.2.1 (hn _ (by omega))
          · omega
        obtain ⟨d1, d2⟩ := fo_done hG hp6 (r := r) (t := 60) (by omega) ne
        rw [if_pos q2]
        exact ⟨x, τ2, rfl, by rw [d2, ev, hx], T.tr T2, fun _ => by rw [d1]; exact F.2.2.1⟩
      · have x1 : (x + 1).toInt = ((r + 1 : Nat) : Int) := by rw [y_inc (by omega), hx]; omega
        rw [if_neg q2, q_letE (x + 1)]
        refine ih (x + 1) τ2 (r + 1) (by omega) x1 (by omega) (fun k hk => ?_) (T.tr T2)
        by_cases e : k = r
        · rw [e]; omega
        · exact hn k (by omega)
theorem fo_rid (Y : y_S X lb) (ha : q_kd X a = 12) (hG : m_G c) (h3 : 0 ≤ c 3 ∧ c 3 ≤ 2) (hc : m_c X τ a = c) {v1 : Int32} {p : Int} (hv : v1.toInt = p) (hp : 0 ≤ p ∧ p < c 2) : ∃ (z : Int32) (τ2 : ST), F_X12_ridOf X τ a v1 = (z, τ2) ∧ z.toInt = fo_r c p 60 ∧ tkl (fo_S X a) (fun _ _ => False) τ τ2 ∧ (fo_r c p 60 ≠ -1 → (τ2.1 a 34).toInt = (fo c p 60).2.2.1) :=
  fo_ridL Y ha hG h3 hc hv hp _ 0 τ 0 (Nat.lt_succ_self _) rfl (by decide) (fun k hk => absurd hk (Nat.not_lt_zero _)) tkl.rf
/-- both behind a look ahead -/
theorem fo_al (K : al_C X lb C a) (A : al_R X C a σ τ) (M : m_M (m_c X τ a) (τ.1 a 24).toInt n) {σ2 τ2 : ST} (h1 : tkl (fs_C X C) (fun _ _ => False) σ σ2) (h2 : tkl (fo_S X a) (fun _ _ => False) (q_si (q_si τ a 1 0) a 0 0) τ2) (k : Int32) (z z' : Int32) (hz : z.toInt = z'.toInt) : ob_O X C a (z, q_si σ2 C 0 k) (z', q_si τ2 a 0 k) ∧ (k = 0 → ob_O X C a (z, q_si σ2 C 0 k) (z', τ2)) := by
  obtain ⟨kC, ka, S, lC, G8, G9, GM⟩ := id K
  obtain ⟨m2, s2, t2⟩ := mv_beg S.1 ka (rfl : m_c X τ a = m_c X τ a)
  obtain ⟨n32, n320⟩ := fo_k32 S.1 ka
  have nt : ∀ f, f ≠ 33 → f ≠ 34 → f ≠ 35 → τ2.1 a f = (q_si (q_si τ a 1 0) a 0 0).1 a f := fun f h3 h4 h5 => h2.1 a f (by
    rintro (z | ⟨-, z⟩)
    · exact n32 z.symm
    · omega)
  have mc2 : m_c X τ2 a = m_c X τ a := (fo_Sc S.1 ka h2).trans m2
  have B : al_R X C a (q_si σ2 C 0 k) τ := A.fs K M (h1.tr (fs_C0 k))
  have w23 : ∀ {τ3 : ST}, τ3.2 = τ2.2 → m_wd X τ3 a = m_wd X τ a := fun {τ3} h => by
    funext j
    show (τ3.2.1 (q_rf X a 23) j.toNat).toInt = (τ.2.1 (q_rf X a 23) j.toNat).toInt
    rw [h, h2.2.1 _ _ (fun z => z)]
    rfl
  have e24 : τ2.1 a 24 = τ.1 a 24 := by rw [nt 24 (by decide) (by decide) (by decide), si_f (by decide), si_f (by decide)]
  refine ⟨⟨hz, ?_, B.fr K M rfl ((mv_cell S.1 ka 0 k).trans mc2) B.1.1 pl_fix.rf (fun _ _ _ => rfl) rfl ?_ (w23 rfl)⟩, fun h0 => ⟨hz, ?_, B.fr K M rfl mc2 B.1.1 pl_fix.rf (fun _ _ _ => rfl) rfl e24 (w23 rfl)⟩⟩
  · show ((q_si σ2 C 0 k).1 C 0).toInt = ((q_si τ2 a 0 k).1 a 0).toInt
    rw [si_eq, si_eq]
  · rw [si_f (by decide)]; exact e24
  · show ((q_si σ2 C 0 k).1 C 0).toInt = (τ2.1 a 0).toInt
    rw [si_eq, nt 0 (by decide) (by decide) (by decide), s2, h0]
theorem ob_honestly (K : al_C X lb C a) (A : al_R X C a σ τ) (M : m_M (m_c X τ a) (τ.1 a 24).toInt n) (v x : Int32) : ob_O X C a (F_X11_honestly X σ C v x) (F_X12_honestly X τ a v x) := by
  obtain ⟨kC, ka, S, lC, G8, G9, GM⟩ := id K
  obtain ⟨m2, s2, t2⟩ := mv_beg S.1 ka (rfl : m_c X τ a = m_c X τ a)
  have pp := an_p K A M m2 v
  have fs := an_fore K A M m2 v x
  have e0 : (0 : Int64).toInt = 0 := rfl
  have e60 : (60 : Int64).toInt = 60 := rfl
  have i3 : (F_X12_isIn X (q_si (q_si τ a 1 0) a 0 0) x.toInt64 (0 : Int64) (60 : Int64)).toInt = if 0 ≤ x.toInt ∧ x.toInt ≤ 60 then 1 else 0 := lk_in (X := X) x e0 e60
  unfold F_X11_honestly F_X12_honestly
  rw [q_letE (F_X11_forecastStatus X σ C v x), q_letE (q_si τ a 1 0), q_letE (q_si (q_si τ a 1 0) a 0 0), q_letE (F_X12_isPlayerAt X (q_si (q_si τ a 1 0) a 0 0) a v), pp.2]
  obtain ⟨k, hk⟩ : ∃ k, k = F_X11_forecastStatus X σ C v x := ⟨_, rfl⟩
  rw [← hk] at fs ⊢
  by_cases q : 0 ≤ v.toInt ∧ v.toInt < m_c X τ a 2
  · rw [if_neg (not_not_intro q)] at fs
    rw [if_pos q, if_neg (by decide : ¬ (1 : Int) = 0), q_letE x.toInt64, q_letE (F_X12_isIn X (q_si (q_si τ a 1 0) a 0 0) x.toInt64 (0 : Int64) (60 : Int64)), i3]
    by_cases q2 : 0 ≤ x.toInt ∧ x.toInt ≤ 60
    · rw [if_neg (not_not_intro q2)] at fs
      have et : x.toInt = ((x.toInt.toNat : Nat) : Int) := by omega
      obtain ⟨V2, w2, c11, c12, c13, c14, -⟩ := fo_class S G8 (rfl : y_v X (q_rf X C 8) σ = _) A.1.1 M.1.1 (v1 := v) (v2 := x) rfl q et (by omega)
      obtain ⟨z, τ2, e2, e3, T2, F⟩ := fo_model S ka M.1.1 A.1.1.1.2.2.2.2.2 m2 (v1 := v) (v2 := x) rfl q et (by omega)
      rw [if_pos fs, q_letE (F_X0_foresee X σ (q_rf X C 8) v x), q_letE, ob_pe, mv_good, if_pos q2, if_neg (by decide : ¬ (1 : Int) = 0), e2, q_biP z τ2, q_letE (τ2.1 a 33)]
      exact (fo_al K A M (fs_Cs v x) T2 0 _ _ (((w2.rd (id := 0) (by decide) 11 rfl).trans c11).trans F.2.1.symm)).2 rfl
    · rw [if_pos q2] at fs
      have k5 : k = 5 := Int32.toInt_inj.mp (fs.trans rfl)
      rw [k5, if_neg (by decide : ¬ (5 : Int32).toInt = 0), if_neg q2, if_pos rfl]
      exact ob_none K A M 5
  · rw [if_pos q] at fs
    have k2 : k = 2 := Int32.toInt_inj.mp (fs.trans rfl)
    rw [k2, if_neg (by decide : ¬ (2 : Int32).toInt = 0), if_neg q, if_pos rfl]
    exact ob_none K A M 2
/-- good, or not there, behind a look ahead -/
theorem fo_gn (K : al_C X lb C a) (A : al_R X C a σ τ) (M : m_M (m_c X τ a) (τ.1 a 24).toInt n) {σ2 τ2 : ST} (h1 : tkl (fs_C X C) (fun _ _ => False) σ σ2) (h2 : tkl (fo_S X a) (fun _ _ => False) (q_si (q_si τ a 1 0) a 0 0) τ2) {z z' : Int32} (hz : z.toInt = z'.toInt) (hb : -1 ≤ z.toInt) : ob_O X C a (q_bi (F_X11_goodOrNotThere X σ2 C z) (fun r s => (r, s))) (if z'.toInt < 0 then q_bi (F_X12_refuse X τ2 a 8) (fun r s => (r, s)) else (z', τ2)) := by
  rw [ob_pe]
  unfold F_X11_goodOrNotThere
  by_cases q : z.toInt = -1
  · rw [if_pos q, if_pos (by omega), ob_pe, mv_none, ob_pe, mv_refuse]
    exact (fo_al K A M h1 h2 8 (-1) (-1) rfl).1
  · rw [if_neg q, if_neg (by omega), ob_pe, mv_good]
    exact (fo_al K A M h1 h2 0 _ _ hz).2 rfl
theorem fo_r_b {p : Int} (r : Nat) : -1 ≤ fo_r c p r := by
  by_cases q : fo_r c p r = -1
  · omega
  · have := ((fo_r_s (c := c) (p := p) r).2 q).1
    omega
theorem ob_rid (K : al_C X lb C a) (A : al_R X C a σ τ) (M : m_M (m_c X τ a) (τ.1 a 24).toInt n) (v : Int32) : ob_O X C a (F_X11_rid X σ C v) (F_X12_rid X τ a v) := by
  obtain ⟨kC, ka, S, lC, G8, G9, GM⟩ := id K
  obtain ⟨m2, s2, t2⟩ := mv_beg S.1 ka (rfl : m_c X τ a = m_c X τ a)
  have pp := an_p K A M m2 v
  unfold F_X11_rid F_X12_rid
  rw [q_letE (F_X11_isPlayer X σ C v), pp.1, q_letE (q_si τ a 1 0), q_letE (q_si (q_si τ a 1 0) a 0 0), q_letE (F_X12_isPlayerAt X (q_si (q_si τ a 1 0) a 0 0) a v), pp.2]
  by_cases q : 0 ≤ v.toInt ∧ v.toInt < m_c X τ a 2
  · obtain ⟨V2, w2, c11, c12, c13, c14, -⟩ := fo_class S G8 (rfl : y_v X (q_rf X C 8) σ = _) A.1.1 M.1.1 (v1 := v) (v2 := 60) (t := 60) rfl q rfl (by decide)
    obtain ⟨z, τ2, e2, e3, T2, F⟩ := fo_rid S ka M.1.1 A.1.1.1.2.2.2.2.2 m2 (v1 := v) rfl q
    have f12 : ((F_X0_foresee X σ (q_rf X C 8) v 60).1 (q_rf X C 8) 12).toInt = fo_r (m_c X τ a) v.toInt 60 := (w2.rd (id := 0) (by decide) 12 rfl).trans c12
    rw [if_pos q, if_neg (by decide : ¬ (1 : Int) = 0), if_neg (by decide : ¬ (1 : Int) = 0), q_letE (F_X0_foresee X σ (q_rf X C 8) v 60), q_letE, e2, q_biP z τ2]
    exact fo_gn K A M (fs_Cs v 60) T2 (f12.trans e3.symm) (by rw [f12]; exact fo_r_b 60)
  · rw [if_neg q, if_pos rfl, if_pos rfl]
    exact ob_none K A M 2
theorem ob_mustLie (K : al_C X lb C a) (A : al_R X C a σ τ) (M : m_M (m_c X τ a) (τ.1 a 24).toInt n) (v : Int32) : ob_O X C a (F_X11_mustLie X σ C v) (F_X12_mustLie X τ a v) := by
  obtain ⟨kC, ka, S, lC, G8, G9, GM⟩ := id K
  obtain ⟨m2, s2, t2⟩ := mv_beg S.1 ka (rfl : m_c X τ a = m_c X τ a)
  have b2 := M.1.1.1.2.1
  have pp := an_p K A M m2 v
  unfold F_X11_mustLie F_X12_mustLie
  rw [q_letE (F_X11_isPlayer X σ C v), pp.1, q_letE (q_si τ a 1 0), q_letE (q_si (q_si τ a 1 0) a 0 0), q_letE (F_X12_isPlayerAt X (q_si (q_si τ a 1 0) a 0 0) a v), pp.2]
  by_cases q : 0 ≤ v.toInt ∧ v.toInt < m_c X τ a 2
  · obtain ⟨V2, w2, c11, c12, c13, c14, -⟩ := fo_class S G8 (rfl : y_v X (q_rf X C 8) σ = _) A.1.1 M.1.1 (v1 := v) (v2 := 60) (t := 60) rfl q rfl (by decide)
    obtain ⟨z, τ2, e2, e3, T2, F⟩ := fo_model S ka M.1.1 A.1.1.1.2.2.2.2.2 m2 (v1 := v) (v2 := 60) (t := 60) rfl q rfl (by decide)
    have f14 : ((F_X0_foresee X σ (q_rf X C 8) v 60).1 (q_rf X C 8) 14).toInt = (fo (m_c X τ a) v.toInt 60).2.2.2 := (w2.rd (id := 0) (by decide) 14 rfl).trans c14
    have i5 := (fo_inv M.1.1 (p := v.toInt) ⟨q.1, by omega⟩ 60).2.2.2.2.1
    rw [if_pos q, if_neg (by decide : ¬ (1 : Int) = 0), if_neg (by decide : ¬ (1 : Int) = 0), q_letE (F_X0_foresee X σ (q_rf X C 8) v 60), q_letE, e2, q_biP z τ2, q_letE (τ2.1 a 35), q_letE (τ2.1 a 35)]
    exact fo_gn K A M (fs_Cs v 60) T2 (f14.trans F.2.2.2.symm) (by rw [f14]; omega)
  · rw [if_neg q, if_pos rfl, if_pos rfl]
    exact ob_none K A M 2
theorem ob_lastKind (K : al_C X lb C a) (A : al_R X C a σ τ) (M : m_M (m_c X τ a) (τ.1 a 24).toInt n) (v : Int32) : ob_O X C a (F_X11_lastKind X σ C v) (F_X12_lastKind X τ a v) := by
  obtain ⟨kC, ka, S, lC, G8, G9, GM⟩ := id K
  obtain ⟨m2, s2, t2⟩ := mv_beg S.1 ka (rfl : m_c X τ a = m_c X τ a)
  have b2 := M.1.1.1.2.1
  have pp := an_p K A M m2 v
  unfold F_X11_lastKind F_X12_lastKind
  rw [q_letE (F_X11_isPlayer X σ C v), pp.1, q_letE (q_si τ a 1 0), q_letE (q_si (q_si τ a 1 0) a 0 0), q_letE (F_X12_isPlayerAt X (q_si (q_si τ a 1 0) a 0 0) a v), pp.2]
  by_cases q : 0 ≤ v.toInt ∧ v.toInt < m_c X τ a 2
  · have hp6 : 0 ≤ v.toInt ∧ v.toInt < 6 := ⟨q.1, by omega⟩
    obtain ⟨V2, w2, c11, c12, c13, c14, -⟩ := fo_class S G8 (rfl : y_v X (q_rf X C 8) σ = _) A.1.1 M.1.1 (v1 := v) (v2 := 60) (t := 60) rfl q rfl (by decide)
    obtain ⟨z, τ2, e2, e3, T2, F⟩ := fo_rid S ka M.1.1 A.1.1.1.2.2.2.2.2 m2 (v1 := v) rfl q
    have f12 : ((F_X0_foresee X σ (q_rf X C 8) v 60).1 (q_rf X C 8) 12).toInt = fo_r (m_c X τ a) v.toInt 60 := (w2.rd (id := 0) (by decide) 12 rfl).trans c12
    have f13 : ((F_X0_foresee X σ (q_rf X C 8) v 60).1 (q_rf X C 8) 13).toInt = (fo (m_c X τ a) v.toInt 60).2.2.1 := (w2.rd (id := 0) (by decide) 13 rfl).trans c13
    obtain ⟨i1, i2, i3, i4, i5, i6⟩ := fo_inv M.1.1 hp6 60
    have cd := gm_cardsOf (X := X) (a := a) m2 M.1.1 (rfl : v.toInt = _) hp6
    rw [if_pos q, if_neg (by decide : ¬ (1 : Int) = 0), if_neg (by decide : ¬ (1 : Int) = 0), q_letE (F_X0_foresee X σ (q_rf X C 8) v 60), q_letE ((F_X0_foresee X σ (q_rf X C 8) v 60).1 (q_rf X C 8) 12), f12, q_letE (F_X12_cardsOf X (q_si (q_si τ a 1 0) a 0 0) a v), cd]
    have none8 : ∀ (τ3 : ST), tkl (fo_S X a) (fun _ _ => False) (q_si (q_si τ a 1 0) a 0 0) τ3 → ∀ y : Int32, y.toInt = -1 → ob_O X C a (q_bi (F_X11_goodOrNotThere X (F_X0_foresee X σ (q_rf X C 8) v 60) C y) (fun r s => (r, s))) (q_bi (F_X12_refuse X τ3 a 8) (fun r s => (r, s))) := fun τ3 T3 y hy => by
      have z := fo_gn K A M (fs_Cs v 60) T3 (z := y) (z' := y) rfl (by omega)
      rw [if_pos (by omega)] at z
      exact z
    by_cases qc : m_S (m_c X τ a) (34 + 10 * v.toInt) 10 = 0
    · have e : fo_r (m_c X τ a) v.toInt 60 = 0 := by
        have i := fo_r_stay (c := m_c X τ a) (p := v.toInt) (r := 0) (by show (if m_S (m_c X τ a) (34 + 10 * v.toInt) 10 = 0 then (0 : Int) else -1) ≠ -1; rw [if_pos qc]; decide) 60
        rw [Nat.zero_add] at i
        rw [i]
        show (if m_S (m_c X τ a) (34 + 10 * v.toInt) 10 = 0 then (0 : Int) else -1) = 0
        rw [if_pos qc]
      have d := (fo_done M.1.1 hp6 (r := 0) (t := 60) (by decide) (by show (if m_S (m_c X τ a) (34 + 10 * v.toInt) 10 = 0 then (0 : Int) else -1) ≠ -1; rw [if_pos qc]; decide)).1
      have l : (fo (m_c X τ a) v.toInt 60).2.2.1 = -1 := by rw [d]; rfl
      rw [if_pos qc, e, if_neg (by decide : ¬ (0 : Int) = -1), q_letE]
      exact none8 _ tkl.rf _ (f13.trans l)
    · rw [if_neg qc, e2, q_biP z τ2, e3]
      by_cases qr : fo_r (m_c X τ a) v.toInt 60 = -1
      · rw [if_pos qr, if_pos (by omega : fo_r (m_c X τ a) v.toInt 60 < 0)]
        exact none8 τ2 T2 _ rfl
      · have rb := (fo_r_s (c := m_c X τ a) (p := v.toInt) 60).2 qr
        have d := fo_done M.1.1 hp6 (r := (fo_r (m_c X τ a) v.toInt 60).toNat) (t := 60) (by omega) (fun h => (fo_r_s (c := m_c X τ a) (p := v.toInt) (fo_r (m_c X τ a) v.toInt 60).toNat).1.mp h _ (Nat.le_refl _) rb.2.2.1)
        have s60 : (fo (m_c X τ a) v.toInt 60).2.1 = m_S (m_c X τ a) (34 + 10 * v.toInt) 10 := by rw [d.1]; exact rb.2.2.1
        have l := i6 (by omega)
        have z := fo_gn K A M (fs_Cs v 60) T2 (z := (F_X0_foresee X σ (q_rf X C 8) v 60).1 (q_rf X C 8) 13) (z' := τ2.1 a 34) (f13.trans (F qr).symm) (by rw [f13]; omega)
        rw [if_neg (by rw [F qr]; omega)] at z
        rw [if_neg qr, if_neg (by omega : ¬ fo_r (m_c X τ a) v.toInt 60 < 0), q_letE, q_letE (τ2.1 a 34)]
        exact z
  · rw [if_neg q, if_pos rfl, if_pos rfl]
    exact ob_none K A M 2
end QE
