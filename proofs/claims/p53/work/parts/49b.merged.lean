/-! FROM 49b.merged.lean.txt -/
section
/-! FROM 49o.all.lean.txt -/
/-! THE ROUND IN BOTH; ALL THAT BOTH KEEP -/
/-- a step of the reference and a line of the class -/
def st_l (V : Nat → Int → Int) (c : Int → Int) (s l : Int) : Prop :=
  (c (656 + 9 * s) = 0 ∧ V 18 l = 0) ∨
  (c (656 + 9 * s) = 1 ∧ V 18 l = 1 ∧ V 20 l = c (656 + 9 * s + 1) ∧ V 22 l = c (656 + 9 * s + 2)) ∨
  (c (656 + 9 * s) = 2 ∧ V 18 l = 2 ∧ V 20 l = c (656 + 9 * s + 1) ∧ V 22 l = c (656 + 9 * s + 2)) ∨
  (c (656 + 9 * s) = 5 ∧ V 18 l = 3) ∨
  (c (656 + 9 * s) = 4 ∧ V 18 l = 4 ∧ V 22 l = c (656 + 9 * s + 1) ∧ 1 ≤ c (656 + 9 * s + 1) ∧ c (656 + 9 * s + 1) ≤ 99) ∨
  (c (656 + 9 * s) = 3 ∧ c (656 + 9 * s + 6) = 0 ∧ V 18 l = 5 ∧ V 20 l = c (656 + 9 * s + 1) ∧ V 21 l = c (656 + 9 * s + 7) ∧ V 22 l = c (656 + 9 * s + 2)) ∨
  (c (656 + 9 * s) = 3 ∧ c (656 + 9 * s + 6) = 1 ∧ V 18 l = 6 ∧ V 21 l = c (656 + 9 * s + 7) ∧ V 22 l = c (656 + 9 * s + 2)) ∨
  (c (656 + 9 * s) = 3 ∧ c (656 + 9 * s + 6) = 2 ∧ V 18 l = 7 ∧ V 20 l = c (656 + 9 * s + 1) ∧ V 21 l = c (656 + 9 * s + 7) ∧ V 22 l = c (656 + 9 * s + 2)) ∨
  (c (656 + 9 * s) = 3 ∧ c (656 + 9 * s + 6) = 3 ∧ V 18 l = 8)
/-- the steps from s up to e are the lines from l up to l' -/
def fl (V : Nat → Int → Int) (c : Int → Int) : Nat → Int → Int → Int → Int → Prop
  | 0, s, e, l, l' => s = e ∧ l = l'
  | n + 1, s, e, l, l' => (s = e ∧ l = l') ∨ (s < e ∧ st_l V c s l ∧ ((c (656 + 9 * s) ≠ 3 ∧ c (656 + 9 * s) ≠ 4 ∧ c (656 + 9 * s + 8) = s + 1 ∧ fl V c n (s + 1) e (l + 1) l') ∨ ((c (656 + 9 * s) = 3 ∨ c (656 + 9 * s) = 4) ∧ ∃ m b : Int, c (656 + 9 * s + 8) = b ∧ V 18 m = 9 ∧ V 19 m = l ∧ V 19 l = m ∧ fl V c n (s + 1) b (l + 1) m ∧ fl V c n b e (m + 1) l')))
theorem fl_le {V : Nat → Int → Int} {c : Int → Int} (n : Nat) : ∀ {s e l l' : Int}, fl V c n s e l l' → s ≤ e ∧ l ≤ l' := by
  induction n with
  | zero => intro s e l l' h; have h' : s = e ∧ l = l' := h; omega
  | succ n ih =>
    intro s e l l' h
    rcases h with h | ⟨h1, h2, h3⟩
    · omega
    · rcases h3 with ⟨-, -, -, h3⟩ | ⟨-, m, b, h4, h5, h6, h7, h8, h9⟩
      · have := ih h3; omega
      · have := ih h8
        have := ih h9
        omega
theorem fl_rf (V : Nat → Int → Int) (c : Int → Int) (n : Nat) (s l : Int) : fl V c n s s l l := by
  cases n with
  | zero => exact ⟨rfl, rfl⟩
  | succ n => exact Or.inl ⟨rfl, rfl⟩
theorem fl_s {V : Nat → Int → Int} {c : Int → Int} (n : Nat) : ∀ {s e l l' : Int}, fl V c n s e l l' → fl V c (n + 1) s e l l' := by
  induction n with
  | zero => intro s e l l' h; exact Or.inl h
  | succ n ih =>
    intro s e l l' h
    rcases h with h | ⟨h1, h2, h3⟩
    · exact Or.inl h
    · refine Or.inr ⟨h1, h2, ?_⟩
      rcases h3 with ⟨a1, a2, a3, h3⟩ | ⟨a1, m, b, h4, h5, h6, h7, h8, h9⟩
      · exact Or.inl ⟨a1, a2, a3, ih h3⟩
      · exact Or.inr ⟨a1, m, b, h4, h5, h6, h7, ih h8, ih h9⟩
theorem fl_up {V : Nat → Int → Int} {c : Int → Int} {n : Nat} (k : Nat) {s e l l' : Int} (h : fl V c n s e l l') : fl V c (n + k) s e l l' := by
  induction k with
  | zero => exact h
  | succ k ih => exact fl_s _ ih
theorem fl_app {V : Nat → Int → Int} {c : Int → Int} {k : Nat} {e l' : Int} (n : Nat) : ∀ {s b l m : Int}, fl V c n s b l m → fl V c k b e m l' → fl V c (n + k) s e l l' := by
  induction n with
  | zero =>
    intro s b l m h1 h2
    have h' : s = b ∧ l = m := h1
    rw [h'.1, h'.2, Nat.zero_add]
    exact h2
  | succ n ih =>
    intro s b l m h1 h2
    have ek : n + 1 + k = n + k + 1 := by omega
    rw [ek]
    rcases h1 with h1 | ⟨a1, a2, a3⟩
    · rw [h1.1, h1.2]
      have z := fl_up (n + 1) h2
      have e2 : k + (n + 1) = n + k + 1 := by omega
      rw [e2] at z
      exact z
    · have lb := fl_le k h2
      refine Or.inr ⟨by omega, a2, ?_⟩
      rcases a3 with ⟨b1, b2, b3, h3⟩ | ⟨b1, m', b', h4, h5, h6, h7, h8, h9⟩
      · exact Or.inl ⟨b1, b2, b3, ih h3 h2⟩
      · exact Or.inr ⟨b1, m', b', h4, h5, h6, h7, fl_up k h8, ih h9 h2⟩
theorem st_l.x {V V' : Nat → Int → Int} {c c' : Int → Int} {s l : Int} (hs : 0 ≤ s ∧ s < 30) (hl : 0 ≤ l ∧ l < 60) (hV : ∀ (id : Nat) (i : Int), 18 ≤ id → id < 23 → 0 ≤ i → i < 60 → V' id i = V id i) (hc : ∀ j : Int, 654 ≤ j → j < 930 → c' j = c j) (h : st_l V c s l) : st_l V' c' s l := by
  unfold st_l at h ⊢
  rw [hV 18 l (by decide) (by decide) hl.1 hl.2, hV 20 l (by decide) (by decide) hl.1 hl.2, hV 21 l (by decide) (by decide) hl.1 hl.2, hV 22 l (by decide) (by decide) hl.1 hl.2, hc (656 + 9 * s) (by omega) (by omega), hc (656 + 9 * s + 1) (by omega) (by omega), hc (656 + 9 * s + 2) (by omega) (by omega), hc (656 + 9 * s + 6) (by omega) (by omega), hc (656 + 9 * s + 7) (by omega) (by omega)]
  exact h
theorem fl_x {V V' : Nat → Int → Int} {c c' : Int → Int} (hV : ∀ (id : Nat) (i : Int), 18 ≤ id → id < 23 → 0 ≤ i → i < 60 → V' id i = V id i) (hc : ∀ j : Int, 654 ≤ j → j < 930 → c' j = c j) (n : Nat) : ∀ {s e l l' : Int}, 0 ≤ s → e ≤ 30 → 0 ≤ l → l' ≤ 60 → fl V c n s e l l' → fl V' c' n s e l l' := by
  induction n with
  | zero => intro s e l l' _ _ _ _ h; exact h
  | succ n ih =>
    intro s e l l' s0 e0 l0 l1 h
    rcases h with h | ⟨a1, a2, a3⟩
    · exact Or.inl h
    · rcases a3 with ⟨b1, b2, b3, h3⟩ | ⟨b1, m, b, h4, h5, h6, h7, h8, h9⟩
      · have le := fl_le n h3
        refine Or.inr ⟨a1, a2.x ⟨s0, by omega⟩ ⟨l0, by omega⟩ hV hc, Or.inl ⟨?_, ?_, ?_, ih (by omega) e0 (by omega) l1 h3⟩⟩
        · rw [hc _ (by omega) (by omega)]; exact b1
        · rw [hc _ (by omega) (by omega)]; exact b2
        · rw [hc _ (by omega) (by omega)]; exact b3
      · have le8 := fl_le n h8
        have le9 := fl_le n h9
        refine Or.inr ⟨a1, a2.x ⟨s0, by omega⟩ ⟨l0, by omega⟩ hV hc, Or.inr ⟨?_, m, b, ?_, ?_, ?_, ?_, ih (by omega) (by omega) (by omega) (by omega) h8, ih (by omega) e0 (by omega) l1 h9⟩⟩
        · rw [hc _ (by omega) (by omega)]; exact b1
        · rw [hc _ (by omega) (by omega)]; exact h4
        · rw [hV 18 m (by decide) (by decide) (by omega) (by omega)]; exact h5
        · rw [hV 19 m (by decide) (by decide) (by omega) (by omega)]; exact h6
        · rw [hV 19 l (by decide) (by decide) (by omega) (by omega)]; exact h7
def rs (V : Nat → Int → Int) (c : Int → Int) : Prop := V 3 0 = c 654 ∧ (c 654 = 0 ∨ c 654 = 1) ∧ V 3 1 = c 655 ∧ (0 ≤ V 3 2 ∧ V 3 2 ≤ 60) ∧ ∃ n : Nat, fl V c n 0 (c 655) 0 (V 3 2)
theorem rs.x {V V' : Nat → Int → Int} {c c' : Int → Int} (h : rs V c) (hG : m_G c) (hV : ∀ (id : Nat) (i : Int), y_in y_all id i → V' id i = V id i) (hc : ∀ j : Int, 654 ≤ j → j < 930 → c' j = c j) : rs V' c' := by
  obtain ⟨h1, h2, h3, h4, n, h5⟩ := h
  have cell : ∀ (id f : Nat), (id, f) ∈ y_all → f ≠ 99 → V' id (f : Int) = V id (f : Int) := fun id f h h9 => hV id _ ⟨(id, f), h, rfl, Or.inr ⟨h9, rfl⟩⟩
  have row : ∀ (id : Nat) (i : Int), (id, 99) ∈ y_all → 0 ≤ i → i < ((y_gn id : Nat) : Int) → V' id i = V id i := fun id i h i0 i1 => hV id i ⟨(id, 99), h, rfl, Or.inl ⟨rfl, i0, i1⟩⟩
  have e0 : V' 3 0 = V 3 0 := cell 3 0 (by decide) (by decide)
  have e1 : V' 3 1 = V 3 1 := cell 3 1 (by decide) (by decide)
  have e2 : V' 3 2 = V 3 2 := cell 3 2 (by decide) (by decide)
  have q := hG.2.2.2.2.2.1
  refine ⟨?_, ?_, ?_, ?_, n, ?_⟩
  · rw [e0, hc 654 (by decide) (by decide)]; exact h1
  · rw [hc 654 (by decide) (by decide)]; exact h2
  · rw [e1, hc 655 (by decide) (by decide)]; exact h3
  · rw [e2]; exact h4
  · rw [e2, hc 655 (by decide) (by decide)]
    refine fl_x (fun id i i0 i1 j0 j1 => ?_) hc n (by decide) q.2 (by decide) h4.2 h5
    have mem : ∀ k : Nat, 18 ≤ k → k < 23 → (k, 99) ∈ y_all ∧ y_gn k = 60 := by
      intro k k0 k1
      rcases (by omega : k = 18 ∨ k = 19 ∨ k = 20 ∨ k = 21 ∨ k = 22) with e | e | e | e | e <;> subst e <;> decide
    have m := mem id i0 i1
    exact row id i m.1 j0 (by rw [m.2]; exact j1)
/-- a game, its names, its round -/
def rb (V : Nat → Int → Int) (c w : Int → Int) : Prop := rg V c ∧ y_nm V w 0 (c 2) ∧ rs V c
theorem y_nm.x {V V' : Nat → Int → Int} {w w' : Int → Int} {P : Int} (h : y_nm V w 0 P) (hP : P ≤ 6) (hV : ∀ (id : Nat) (i : Int), y_in y_all id i → V' id i = V id i) (hw : ∀ j : Int, 0 ≤ j → j < 6 → w' j = w j) : y_nm V' w' 0 P := by
  have row : ∀ (id : Nat) (i : Int), (id, 99) ∈ y_all → 0 ≤ i → i < ((y_gn id : Nat) : Int) → V' id i = V id i := fun id i h i0 i1 => hV id i ⟨(id, 99), h, rfl, Or.inl ⟨rfl, i0, i1⟩⟩
  have n5 : ((y_gn 5 : Nat) : Int) = 48 := rfl
  have n6 : ((y_gn 6 : Nat) : Int) = 6 := rfl
  intro p p0 p1
  obtain ⟨a1, a2, a3⟩ := h p p0 p1
  have e6 : V' 6 p = V 6 p := row 6 p (by decide) p0 (by omega)
  have e5 : ∀ i : Int, 0 ≤ i → i < V 6 p → V' 5 (8 * p + i) = V 5 (8 * p + i) := fun i i0 i1 => row 5 _ (by decide) (by omega) (by omega)
  rw [e6]
  refine ⟨a1, fun i i0 i1 => by rw [e5 i i0 i1]; exact a2 i i0 i1, ?_⟩
  rw [hw _ (by omega) (by omega), a3]
  refine tx_wv_ext (fun i hi => ?_)
  show V 5 (8 * p + (0 + (i : Int))) = V' 5 (8 * p + (0 + (i : Int)))
  rw [e5 _ (by omega) (by omega)]
theorem rb.x {V V' : Nat → Int → Int} {c c' w w' : Int → Int} (h : rb V c w) (hG : m_G c) (hV : ∀ (id : Nat) (i : Int), y_in y_all id i → V' id i = V id i) (hc : ∀ j : Int, 0 ≤ j → j < 930 → c' j = c j) (hw : ∀ j : Int, 0 ≤ j → j < 6 → w' j = w j) : rb V' c' w' := by
  refine ⟨h.1.x hG hV (fun j a b => hc j a (by omega)), ?_, h.2.2.x hG hV (fun j a b => hc j (by omega) b)⟩
  rw [hc 2 (by decide) (by decide)]
  exact h.2.1.x hG.1.2.1.2 hV hw
/-- all that both keep: game, names, round, and the marks; the class read in σ, the reference in τ -/
def al_R (X : XW) (C a : Nat) (σ τ : ST) : Prop :=
  rb (y_v X (q_rf X C 8) σ) (m_c X τ a) (m_wd X τ a) ∧ (σ.1 C 11).toInt = (τ.1 a 24).toInt ∧ (0 ≤ (σ.1 C 11).toInt ∧ (σ.1 C 11).toInt ≤ 3) ∧ ∀ b : Nat, 1 ≤ b → (b : Int) ≤ (σ.1 C 11).toInt → rb (y_v X (q_rf X (q_rf X C 10) (b - 1)) σ) (fun j => m_c X τ a (930 * (b : Int) + j)) (fun j => m_wd X τ a (6 * (b : Int) + j))
def al_C (X : XW) (lb : Nat → Nat) (C a : Nat) : Prop := q_kd X C = 11 ∧ q_kd X a = 12 ∧ y_S X lb ∧ lb C = 1 ∧ y_G X lb (q_rf X C 8) 1 ∧ y_G X lb (q_rf X C 9) 2 ∧ ∀ i : Nat, i < 3 → y_G X lb (q_rf X (q_rf X C 10) i) (3 + i)
theorem al_Cmk {X : XW} {lb : Nat → Nat} {C a : Nat} (S : y_S X lb) (hC : q_kd X C = 11) (ha : q_kd X a = 12) (h1 : lb C = 1) : al_C X lb C a := by
  obtain ⟨T, L, N⟩ := id S
  have k8 : q_kd X (q_rf X C 8) = 1 := (T.1 C 8 (by rw [hC]; decide)).trans (by rw [hC]; rfl)
  have l8 : lb (q_rf X C 8) = 8192 * 1 + 1 := (L C 8 (by rw [hC]; decide)).trans (by rw [h1]; decide)
  have k9 : q_kd X (q_rf X C 9) = 1 := (T.1 C 9 (by rw [hC]; decide)).trans (by rw [hC]; rfl)
  have l9 : lb (q_rf X C 9) = 8192 * 2 + 1 := (L C 9 (by rw [hC]; decide)).trans (by rw [h1]; decide)
  have k10 : q_kd X (q_rf X C 10) = 24 := (T.1 C 10 (by rw [hC]; decide)).trans (by rw [hC]; rfl)
  have l10 : lb (q_rf X C 10) = 26 := (L C 10 (by rw [hC]; decide)).trans (by rw [h1]; decide)
  refine ⟨hC, ha, S, h1, ⟨k8, l8, by decide⟩, ⟨k9, l9, by decide⟩, fun i hi => ?_⟩
  have nz : q_rk (q_kd X (q_rf X C 10)) i ≠ 0 := by
    rw [k10]
    rcases (by omega : i = 0 ∨ i = 1 ∨ i = 2) with e | e | e <;> subst e <;> decide
  refine ⟨(T.1 (q_rf X C 10) i nz).trans ?_, (L (q_rf X C 10) i nz).trans ?_, by omega⟩
  · rw [k10]
    rcases (by omega : i = 0 ∨ i = 1 ∨ i = 2) with e | e | e <;> subst e <;> rfl
  · rw [l10]
    rcases (by omega : i = 0 ∨ i = 1 ∨ i = 2) with e | e | e <;> subst e <;> decide
/-- a game whose owner's cells stand is the same -/
theorem y_v.k {X : XW} {lb : Nat → Nat} {g o : Nat} {σ σ' : ST} (S : y_S X lb) (G : y_G X lb g o) (h : ∀ b, lb b / 8192 = o → ∀ f, σ'.1 b f = σ.1 b f) : y_v X g σ' = y_v X g σ := by
  funext id i
  unfold y_v
  by_cases q : id < 25 ∧ 0 ≤ i
  · rw [if_pos q, if_pos q, h _ (y_own S G q.1)]
  · rw [if_neg q, if_neg q]
section GO
variable {X : XW} {lb : Nat → Nat} {C a : Nat} {σ τ σ' τ' : ST} {V : Nat → Int → Int} {c : Int → Int}
/-- a call that moves the game alone -/
theorem al_R.mv {n : Int} (K : al_C X lb C a) (A : al_R X C a σ τ) (M : m_M (m_c X τ a) (τ.1 a 24).toInt n) (h : mv_R X lb C a σ σ' τ τ' (y_v X (q_rf X C 8) σ) (m_c X τ a)) : al_R X C a σ' τ' := by
  obtain ⟨kC, ka, S, lC, G8, G9, GM⟩ := K
  obtain ⟨⟨A1, A1b, A1c⟩, A2, A3, A4⟩ := A
  obtain ⟨V', c', v1, m1, R', fV, fc, fr, fC, f2, ft⟩ := h
  have k20 := (tb_k S.1 ka).1
  have k23 := (tb_k S.1 ka).2.2.1
  have k28 : q_kd X (q_rf X a 28) = 39 := (S.1.1 a 28 (by rw [ka]; decide)).trans (by rw [ka]; rfl)
  have k29 : q_kd X (q_rf X a 29) = 40 := (S.1.1 a 29 (by rw [ka]; decide)).trans (by rw [ka]; rfl)
  have w1 : m_wd X τ' a = m_wd X τ a := by
    funext j
    exact congrArg Int64.toInt (ft.2.1 _ _ (fun z => z))
  have e24 : τ'.1 a 24 = τ.1 a 24 := ft.1 a 24 (fun z => by
    rcases z with z | z | z | z
    · exact m_ne k20 ka (by decide) z.symm
    · exact absurd z.2 (by decide)
    · exact m_ne k28 ka (by decide) z.symm
    · exact m_ne k29 ka (by decide) z.symm)
  have e11 : σ'.1 C 11 = σ.1 C 11 := fC 11 (by decide)
  refine ⟨⟨?_, ?_, ?_⟩, by rw [e11, e24]; exact A2, by rw [e11]; exact A3, fun b b1 b2 => ?_⟩
  · rw [v1, m1]; exact R'
  · rw [v1, m1, w1, fc 2 (by decide) (by decide)]
    intro p p0 p1
    obtain ⟨a1, a2, a3⟩ := A1b p p0 p1
    rw [fV 6 p (by decide)]
    refine ⟨a1, fun i i0 i1 => by rw [fV 5 _ (by decide)]; exact a2 i i0 i1, ?_⟩
    rw [a3]
    refine tx_wv_ext (fun i hi => ?_)
    show y_v X (q_rf X C 8) σ 5 (8 * p + (0 + (i : Int))) = V' 5 (8 * p + (0 + (i : Int)))
    rw [fV 5 _ (by decide)]
  · rw [v1, m1]
    obtain ⟨h1, h2, h3, h4, n, h5⟩ := A1c
    have q := M.1.1.2.2.2.2.2.1
    refine ⟨?_, ?_, ?_, ?_, n, ?_⟩
    · rw [fV 3 0 (by decide), fc 654 (by decide) (by decide)]; exact h1
    · rw [fc 654 (by decide) (by decide)]; exact h2
    · rw [fV 3 1 (by decide), fc 655 (by decide) (by decide)]; exact h3
    · rw [fV 3 2 (by decide)]; exact h4
    · rw [fV 3 2 (by decide), fc 655 (by decide) (by decide)]
      exact fl_x (fun id i i0 i1 j0 j1 => fV id i (by omega)) (fun j j0 j1 => fc j (by omega) (by omega)) n (by decide) q.2 (by decide) h4.2 h5
  · rw [e11] at b2
    have z := A4 b b1 b2
    have gv : y_v X (q_rf X (q_rf X C 10) (b - 1)) σ' = y_v X (q_rf X (q_rf X C 10) (b - 1)) σ := y_v.k S (GM (b - 1) (by omega)) (fun x hx f => fr x (by omega) (fun e => by rw [e, lC] at hx; omega) f)
    refine z.x (M.2 (b : Int) (by omega) (by rw [A2] at b2; exact b2)).1 (fun id i _ => by rw [gv]) (fun j j0 j1 => ?_) (fun j j0 j1 => by rw [w1])
    show m_c X τ' a (930 * (b : Int) + j) = m_c X τ a (930 * (b : Int) + j)
    rw [m1]
    exact fc _ (by omega) (by omega)
/-- a game copied is the same -/
theorem y_C.cp {g1 g o : Nat} {ρ ρ' : ST} (h : y_C X lb g1 o g ρ ρ' y_all) : (∀ b, lb b / 8192 ≠ o → ∀ f, ρ'.1 b f = ρ.1 b f) ∧ ρ'.2 = ρ.2 ∧ ∀ (id : Nat) (i : Int), y_in y_all id i → y_v X g1 ρ' id i = y_v X g ρ id i := by
  obtain ⟨V1, w, e⟩ := h
  refine ⟨w.1, w.2.1, fun id i hi => ?_⟩
  rw [w.2.2]
  exact e id i hi
theorem on_s {α : Type} (r : Nat) (x : α) (k : Nat → α) : q_on (some r) x k = k r := rfl
theorem on_n {α : Type} (x : α) (k : Nat → α) : q_on none x k = x := rfl
theorem al_mark {n : Int} (K : al_C X lb C a) (A : al_R X C a σ τ) (M : m_M (m_c X τ a) (τ.1 a 24).toInt n) : ∃ (z : Int32) (σ' : ST) (z' : Int32) (τ' : ST), F_X11_mark X σ C = (z, σ') ∧ F_X12_mark X τ a = (z', τ') ∧ z.toInt = z'.toInt ∧ (σ'.1 C 0).toInt = (τ'.1 a 0).toInt ∧ al_R X C a σ' τ' := by
  obtain ⟨kC, ka, S, lC, G8, G9, GM⟩ := id K
  obtain ⟨A1, A2, A3, A4⟩ := id A
  have k20 := (tb_k S.1 ka).1
  have k23 := (tb_k S.1 ka).2.2.1
  have na0 : a ≠ q_rf X a 20 := Ne.symm (m_ne k20 ka (by decide))
  have hC1 : ∀ o, 1 ≤ o → lb C / 8192 ≠ o := fun o ho => by omega
  obtain ⟨m2, s2, t2⟩ := mv_beg S.1 ka (rfl : m_c X τ a = m_c X τ a)
  obtain ⟨k, hk⟩ : ∃ k, k = (σ.1 C 11).toInt := ⟨_, rfl⟩
  rw [← hk] at A2 A3 A4
  have f24 : (q_si (q_si τ a 1 0) a 0 0).1 a 24 = τ.1 a 24 := by rw [si_f (by decide), si_f (by decide)]
  have w2 : m_wd X (q_si (q_si τ a 1 0) a 0 0) a = m_wd X τ a := rfl
  unfold F_X11_mark F_X12_mark F_X11_markAt
  rw [q_letE (σ.1 C 11), q_letE (q_si τ a 1 0), q_letE (q_si (q_si τ a 1 0) a 0 0)]
  obtain ⟨τ2, e2⟩ : ∃ t, t = q_si (q_si τ a 1 0) a 0 0 := ⟨_, rfl⟩
  rw [← e2] at m2 s2 t2 f24 w2 ⊢
  rw [q_letE (τ2.1 a 24), f24, ← A2, ← hk, if_neg (by omega : ¬ k < 0)]
  by_cases q3 : k = 3
  · rw [if_neg (by omega : ¬ k < 3), if_pos q3, q_letE, on_n, mv_none, mv_refuse]
    refine ⟨-1, _, -1, _, rfl, rfl, rfl, by rw [si_eq, si_eq], A.mv K M ?_⟩
    exact mv_mk S G8 (by omega) y_W.rf A1.1 (fun _ _ _ => rfl) (fun _ _ _ => rfl) 7 ((mv_cell S.1 ka 0 7).trans m2) (t2.si _ (Or.inr (Or.inl ⟨rfl, Or.inl rfl⟩)))
  · rw [if_pos (by omega : k < 3), if_neg q3, q_letE, on_s]
    have hf : (σ.1 C 11).toNatClampNeg = k.toNat := by rw [ar_cl, ← hk]
    rw [hf]
    have one : (1 : Int32).toInt = 1 := rfl
    have zero : (0 : Int32).toInt = 0 := rfl
    -- the class
    obtain ⟨ow, o2, oV⟩ := (tb_copy (σ := σ) (g := q_rf X C 8) S (GM k.toNat (by omega)) G8 (by omega)).cp
    rw [q_letE (F_X0_copyFrom X σ (q_rf X (q_rf X C 10) k.toNat) (q_rf X C 8))]
    obtain ⟨σ1, e1⟩ : ∃ t, t = F_X0_copyFrom X σ (q_rf X (q_rf X C 10) k.toNat) (q_rf X C 8) := ⟨_, rfl⟩
    rw [← e1] at ow o2 oV ⊢
    have f11 : σ1.1 C 11 = σ.1 C 11 := ow C (hC1 _ (by omega)) 11
    obtain ⟨u, hu⟩ : ∃ u, u = σ1.1 C 11 + 1 := ⟨_, rfl⟩
    have uv : u.toInt = k + 1 := by rw [hu, ar_add, f11, one, ← hk, ar_wr (by omega) (by omega)]
    rw [q_letE (σ1.1 C 11), ← hu, q_letE u, q_letE (q_si σ1 C 11 u), q_letE ((q_si σ1 C 11 u).1 C 11), si_eq, mv_good]
    -- the reference
    have f24' : (τ2.1 a 24).toInt = k := by rw [f24]; exact A2.symm
    obtain ⟨v, hv⟩ : ∃ v, v = τ2.1 a 24 + 1 := ⟨_, rfl⟩
    have vv : v.toInt = k + 1 := by rw [hv, ar_add, f24', one, ar_wr (by omega) (by omega)]
    have hv' : τ.1 a 24 + 1 = v := by rw [hv, f24]
    rw [q_letE (τ.1 a 24), hv', q_letE v, q_letE (q_si τ2 a 24 v), q_letE ((q_si τ2 a 24 v).1 a 24), si_eq]
    have m3 : m_c X (q_si τ2 a 24 v) a = m_c X τ a := (mv_cell S.1 ka 24 v).trans m2
    have w3 : m_wd X (q_si τ2 a 24 v) a = m_wd X τ a := w2
    obtain ⟨tc, mc, wc⟩ := tm_copy (X := X) (τ := q_si τ2 a 24 v) S.1 ka (v1 := 0) (v2 := v) (s := 0) (d := k + 1) rfl vv ⟨by decide, by decide⟩ ⟨by omega, by omega⟩ (by omega)
    rw [m3] at mc
    rw [w3] at wc
    have s3 : (q_si τ2 a 24 v).1 a 0 = 0 := by rw [si_f (by decide), s2]
    have v3 : (q_si τ2 a 24 v).1 a 24 = v := si_eq _ _ _ _
    obtain ⟨τ3, e3⟩ : ∃ t, t = q_si τ2 a 24 v := ⟨_, rfl⟩
    rw [← e3] at tc mc wc s3 v3 ⊢
    rw [q_letE (F_X12_copy X τ3 a 0 v)]
    obtain ⟨τ4, e4⟩ : ∃ t, t = F_X12_copy X τ3 a 0 v := ⟨_, rfl⟩
    rw [← e4] at tc mc wc ⊢
    have g24 : τ4.1 a 24 = v := (tc.1 a 24 na0).trans v3
    rw [q_letE (τ4.1 a 24), g24]
    refine ⟨u, _, v, τ4, rfl, rfl, by rw [uv, vv], ?_, ?_, ?_, ?_, fun b b1 b2 => ?_⟩
    · rw [si_eq, tc.1 a 0 na0, s3]
    · have gv : y_v X (q_rf X C 8) (q_si (q_si σ1 C 11 u) C 0 0) = y_v X (q_rf X C 8) σ := y_v.k S G8 (fun x hx f => by
        have nx : x ≠ C := fun e => by rw [e, lC] at hx; omega
        rw [q_si_ne nx, q_si_ne nx]
        exact ow x (by omega) f)
      rw [gv]
      exact A1.x M.1.1 (fun _ _ _ => rfl) (fun j j0 j1 => by rw [mc j j0, if_neg (by omega)]) (fun j j0 j1 => by rw [wc j j0, if_neg (by omega)])
    · rw [si_f (by decide), si_eq, uv, g24, vv]
    · rw [si_f (by decide), si_eq, uv]; omega
    · rw [si_f (by decide), si_eq, uv] at b2
      by_cases eb : (b : Int) = k + 1
      · have eb' : b - 1 = k.toNat := by omega
        refine A1.x M.1.1 (fun id i hi => ?_) (fun j j0 j1 => ?_) (fun j j0 j1 => ?_)
        · rw [eb', ← oV id i hi]
          refine congrFun (congrFun (y_v.k S (GM k.toNat (by omega)) (fun x hx f => ?_)) id) i
          have nx : x ≠ C := fun e => by rw [e, lC] at hx; omega
          rw [q_si_ne nx, q_si_ne nx]
        · show m_c X τ4 a (930 * (b : Int) + j) = _
          rw [eb, mc _ (by omega), if_pos (by omega)]
          congr 1
          omega
        · show m_wd X τ4 a (6 * (b : Int) + j) = _
          rw [eb, wc _ (by omega), if_pos (by omega)]
          congr 1
          omega
      · refine (A4 b b1 (by omega)).x (M.2 (b : Int) (by omega) (by rw [← A2]; omega)).1 (fun id i _ => ?_) (fun j j0 j1 => ?_) (fun j j0 j1 => ?_)
        · refine congrFun (congrFun (y_v.k S (GM (b - 1) (by omega)) (fun x hx f => ?_)) id) i
          have nx : x ≠ C := fun e => by rw [e, lC] at hx; omega
          rw [q_si_ne nx, q_si_ne nx]
          exact ow x (by omega) f
        · show m_c X τ4 a (930 * (b : Int) + j) = _
          rw [mc _ (by omega), if_neg (by omega)]
        · show m_wd X τ4 a (6 * (b : Int) + j) = _
          rw [wc _ (by omega), if_neg (by omega)]
theorem al_back {n : Int} (K : al_C X lb C a) (A : al_R X C a σ τ) (M : m_M (m_c X τ a) (τ.1 a 24).toInt n) : ∃ (z : Int32) (σ' : ST) (z' : Int32) (τ' : ST), F_X11_back X σ C = (z, σ') ∧ F_X12_back X τ a = (z', τ') ∧ z.toInt = z'.toInt ∧ (σ'.1 C 0).toInt = (τ'.1 a 0).toInt ∧ al_R X C a σ' τ' := by
  obtain ⟨kC, ka, S, lC, G8, G9, GM⟩ := id K
  obtain ⟨A1, A2, A3, A4⟩ := id A
  have k20 := (tb_k S.1 ka).1
  have k23 := (tb_k S.1 ka).2.2.1
  have na0 : a ≠ q_rf X a 20 := Ne.symm (m_ne k20 ka (by decide))
  have hC1 : ∀ o, 1 ≤ o → lb C / 8192 ≠ o := fun o ho => by omega
  obtain ⟨m2, s2, t2⟩ := mv_beg S.1 ka (rfl : m_c X τ a = m_c X τ a)
  obtain ⟨k, hk⟩ : ∃ k, k = (σ.1 C 11).toInt := ⟨_, rfl⟩
  rw [← hk] at A2 A3 A4
  have one : (1 : Int32).toInt = 1 := rfl
  have f24 : (q_si (q_si τ a 1 0) a 0 0).1 a 24 = τ.1 a 24 := by rw [si_f (by decide), si_f (by decide)]
  have w2 : m_wd X (q_si (q_si τ a 1 0) a 0 0) a = m_wd X τ a := rfl
  unfold F_X11_back F_X12_back F_X11_markAt
  rw [q_letE (σ.1 C 11), q_letE (q_si τ a 1 0), q_letE (q_si (q_si τ a 1 0) a 0 0)]
  obtain ⟨τ2, e2⟩ : ∃ t, t = q_si (q_si τ a 1 0) a 0 0 := ⟨_, rfl⟩
  rw [← e2] at m2 s2 t2 f24 w2 ⊢
  have i1 : (σ.1 C 11 - 1).toInt = k - 1 := by rw [ar_sub, one, ← hk, ar_wr (by omega) (by omega)]
  rw [q_letE (σ.1 C 11 - 1), q_letE (τ2.1 a 24), f24, ← A2, i1]
  by_cases q0 : k = 0
  · rw [if_pos (by omega : k - 1 < 0), if_pos q0, q_letE, on_n, mv_none, mv_refuse]
    refine ⟨-1, _, -1, _, rfl, rfl, rfl, by rw [si_eq, si_eq], A.mv K M ?_⟩
    exact mv_mk S G8 (by omega) y_W.rf A1.1 (fun _ _ _ => rfl) (fun _ _ _ => rfl) 8 ((mv_cell S.1 ka 0 8).trans m2) (t2.si _ (Or.inr (Or.inl ⟨rfl, Or.inl rfl⟩)))
  · rw [if_neg (by omega : ¬ k - 1 < 0), if_pos (by omega : k - 1 < 3), if_neg q0, q_letE, on_s]
    have hf : (σ.1 C 11 - 1).toNatClampNeg = (k - 1).toNat := by rw [ar_cl, i1]
    rw [hf]
    have ek : (k - 1).toNat = k.toNat - 1 := by omega
    rw [ek]
    -- the class
    obtain ⟨ow, o2, oV⟩ := (tb_copy (σ := σ) (g := q_rf X (q_rf X C 10) (k.toNat - 1)) S G8 (GM (k.toNat - 1) (by omega)) (by omega)).cp
    rw [q_letE (F_X0_copyFrom X σ (q_rf X C 8) (q_rf X (q_rf X C 10) (k.toNat - 1)))]
    obtain ⟨σ1, e1⟩ : ∃ t, t = F_X0_copyFrom X σ (q_rf X C 8) (q_rf X (q_rf X C 10) (k.toNat - 1)) := ⟨_, rfl⟩
    rw [← e1] at ow o2 oV ⊢
    have f11 : σ1.1 C 11 = σ.1 C 11 := ow C (hC1 _ (by omega)) 11
    obtain ⟨u, hu⟩ : ∃ u, u = σ1.1 C 11 - 1 := ⟨_, rfl⟩
    have uv : u.toInt = k - 1 := by rw [hu, f11, i1]
    rw [q_letE (σ1.1 C 11), ← hu, q_letE u, q_letE (q_si σ1 C 11 u), q_letE ((q_si σ1 C 11 u).1 C 11), si_eq, mv_good]
    -- the reference
    have f24' : (τ.1 a 24).toInt = k := A2.symm
    obtain ⟨tc, mc, wc⟩ := tm_copy (X := X) (τ := τ2) S.1 ka (v1 := τ.1 a 24) (v2 := 0) (s := k) (d := 0) f24' rfl ⟨by omega, by omega⟩ ⟨by decide, by decide⟩ q0
    rw [m2] at mc
    rw [w2] at wc
    rw [q_letE (τ.1 a 24), q_letE (F_X12_copy X τ2 a (τ.1 a 24) 0)]
    obtain ⟨τ3, e3⟩ : ∃ t, t = F_X12_copy X τ2 a (τ.1 a 24) 0 := ⟨_, rfl⟩
    rw [← e3] at tc mc wc ⊢
    have g24 : τ3.1 a 24 = τ.1 a 24 := (tc.1 a 24 na0).trans f24
    obtain ⟨v, hv⟩ : ∃ v, v = τ3.1 a 24 - 1 := ⟨_, rfl⟩
    have vv : v.toInt = k - 1 := by rw [hv, ar_sub, g24, one, f24', ar_wr (by omega) (by omega)]
    rw [q_letE (τ3.1 a 24), ← hv, q_letE v, q_letE (q_si τ3 a 24 v), q_letE ((q_si τ3 a 24 v).1 a 24), si_eq]
    have m4 : m_c X (q_si τ3 a 24 v) a = m_c X τ3 a := mv_cell S.1 ka 24 v
    have w4 : m_wd X (q_si τ3 a 24 v) a = m_wd X τ3 a := rfl
    have Mk := (M.2 k (by omega) (by rw [f24']; omega)).1
    have Ak := A4 k.toNat (by omega) (by omega)
    have ekk : ((k.toNat : Nat) : Int) = k := by omega
    rw [ekk] at Ak
    refine ⟨u, _, v, _, rfl, rfl, by rw [uv, vv], ?_, ?_, ?_, ?_, fun b b1 b2 => ?_⟩
    · rw [si_eq, si_f (by decide), tc.1 a 0 na0, s2]
    · rw [m4, w4]
      refine Ak.x Mk (fun id i hi => ?_) (fun j j0 j1 => ?_) (fun j j0 j1 => ?_)
      · rw [← oV id i hi]
        refine congrFun (congrFun (y_v.k S G8 (fun x hx f => ?_)) id) i
        have nx : x ≠ C := fun e => by rw [e, lC] at hx; omega
        rw [q_si_ne nx, q_si_ne nx]
      · rw [mc j j0, if_pos (by omega)]
        congr 1
        omega
      · rw [wc j j0, if_pos (by omega)]
        congr 1
        omega
    · rw [si_f (by decide), si_eq, uv, si_eq, vv]
    · rw [si_f (by decide), si_eq, uv]; omega
    · rw [si_f (by decide), si_eq, uv] at b2
      rw [m4, w4]
      refine (A4 b b1 (by omega)).x (M.2 (b : Int) (by omega) (by rw [← A2]; omega)).1 (fun id i _ => ?_) (fun j j0 j1 => ?_) (fun j j0 j1 => ?_)
      · refine congrFun (congrFun (y_v.k S (GM (b - 1) (by omega)) (fun x hx f => ?_)) id) i
        have nx : x ≠ C := fun e => by rw [e, lC] at hx; omega
        rw [q_si_ne nx, q_si_ne nx]
        exact ow x (by omega) f
      · show m_c X τ3 a (930 * (b : Int) + j) = _
        rw [mc _ (by omega), if_neg (by omega)]
      · show m_wd X τ3 a (6 * (b : Int) + j) = _
        rw [wc _ (by omega), if_neg (by omega)]
end GO

/-! FROM 49p.tableF.lean.txt -/
/-! TABLE: what it leaves alone -/
section TNF
variable {X : XW} {lb : Nat → Nat} {C a : Nat} {σ τ : ST} {m : Int} {B : Int → Int}
theorem tb_tableF (Cl : tb_Cls X lb C a) (h5 : (σ.1 C 5).toInt = m) (h8 : (τ.1 a 8).toInt = m) (hm : 0 ≤ m ∧ m ≤ 900) (hB : ∀ p : Int, 0 ≤ p → p < m → (σ.1 (q_rf X C 4) p.toNat).toInt = B p ∧ -128 ≤ B p ∧ B p ≤ 127) (hB2 : ∀ p : Int, 0 ≤ p → p < m → (τ.1 (q_rf X a 7) p.toNat).toInt = B p) (v : Int32) :
    ∃ (z : Int32) (σ' : ST) (z' : Int32) (τ' : ST), F_X11_table X σ C v = (z, σ') ∧ F_X12_table X τ a v = (z', τ') ∧ z.toInt = z'.toInt ∧ (σ'.1 C 0).toInt = (τ'.1 a 0).toInt ∧ tb_Out X C a σ τ v m z σ' τ' ∧ ∀ b, lb b / 8192 = 3 ∨ lb b / 8192 = 4 ∨ lb b / 8192 = 5 → ∀ f, σ'.1 b f = σ.1 b f := by
  obtain ⟨kC, ka, Y, H, G1, hTl, hUl, hlC⟩ := Cl
  have z0 : (0 : Int32).toInt = 0 := rfl
  have m1 : ((-1) : Int32).toInt = -1 := rfl
  have e900 : (900 : Int32).toInt = 900 := rfl
  have ku : q_kd X (q_rf X a 7) = 33 := (tb_k Y.1 ka).2.2.2
  have nU : q_rf X a 7 ≠ a := m_ne ku ka (by decide)
  obtain ⟨D, hD⟩ : ∃ D, D = q_rf X C 12 := ⟨_, rfl⟩
  obtain ⟨T, hT⟩ : ∃ T, T = q_rf X C 4 := ⟨_, rfl⟩
  obtain ⟨g, hg⟩ : ∃ g, g = q_rf X D 8 := ⟨_, rfl⟩
  obtain ⟨g1, hg1⟩ : ∃ g, g = q_rf X C 8 := ⟨_, rfl⟩
  rw [← hD, ← hT, ← hg] at H
  rw [← hT] at hTl hB
  rw [← hg1] at G1
  have kD : q_kd X D = 9 := H.1
  have kT : q_kd X T = 22 := H.2.2.2.2.2.2.2.2
  have nTD : T ≠ D := m_ne kT kD (by decide)
  have nCD : C ≠ D := m_ne kC kD (by decide)
  have nCA : C ≠ tb_T X D := m_ne kC H.2.2.2.2.2.2.1 (by decide)
  have hC6 : lb C / 8192 ≠ 6 := by omega
  have hC1 : lb C / 8192 ≠ 1 := by omega
  have hD1 : lb D / 8192 ≠ 1 := by have := H.2.2.2.1; omega
  -- the reference begins
  have t2 : tkl (fun b f => b = a ∧ (f = 0 ∨ f = 1)) (fun _ _ => False) τ (q_si (q_si τ a 1 0) a 0 0) := (tkl.rf.si _ ⟨rfl, Or.inr rfl⟩).si _ ⟨rfl, Or.inl rfl⟩
  have d8 : ((q_si (q_si τ a 1 0) a 0 0).1 a 8).toInt = m := by rw [si_f (by decide), si_f (by decide)]; exact h8
  have d0 : (q_si (q_si τ a 1 0) a 0 0).1 a 0 = 0 := si_eq _ _ _ _
  unfold F_X11_table F_X12_table F_X12_opens F_X12_no F_X11_none F_X11_good
  rw [q_letE (q_si τ a 1 0), q_letE (q_si (q_si τ a 1 0) a 0 0)]
  obtain ⟨τ2, e2⟩ : ∃ s, s = q_si (q_si τ a 1 0) a 0 0 := ⟨_, rfl⟩
  rw [← e2] at t2 d8 d0 ⊢
  have no5 : tkl (fun b f => b = a ∧ (f = 0 ∨ f = 1)) (fun _ _ => False) τ (q_si τ2 a 0 5) := t2.si _ ⟨rfl, Or.inl rfl⟩
  have st5 : ((q_si σ C 0 5).1 C 0).toInt = ((q_si τ2 a 0 5).1 a 0).toInt := by rw [si_eq, si_eq]
  have tc5 : tk (fun b f => b = C ∧ f = 0) σ (q_si σ C 0 5) := tk.rf.si _ ⟨rfl, rfl⟩
  have fr5 : ∀ b, lb b / 8192 = 3 ∨ lb b / 8192 = 4 ∨ lb b / 8192 = 5 → ∀ f, (q_si σ C 0 5).1 b f = σ.1 b f := fun b hb f => tc5.1 b f (fun z => by
    rw [z.1] at hb
    omega)
  have hD0 := H.2.2.2.1
  have hA0 := H.2.2.2.2.2.1
  by_cases q1 : v.toInt < 0
  · rw [if_pos q1, if_pos q1, q_letE, q_biP, q_letE, q_biP, q_biP, if_pos (by decide : (0 : Int32).toInt = 0)]
    exact ⟨-1, _, -1, _, rfl, rfl, rfl, st5, Or.inl ⟨Or.inl q1, tc5, no5⟩, fr5⟩
  · rw [if_neg q1, if_neg q1, q_letE (σ.1 C 5), h5, q_letE (τ2.1 a 8), d8]
    by_cases q2 : m < v.toInt
    · rw [if_pos q2, if_pos q2, q_letE, q_biP, q_letE, q_biP, q_biP, if_pos (by decide : (0 : Int32).toInt = 0)]
      exact ⟨-1, _, -1, _, rfl, rfl, rfl, st5, Or.inl ⟨Or.inr q2, tc5, no5⟩, fr5⟩
    · rw [if_neg q2, if_neg q2, e900, if_neg (by omega : ¬ (900 : Int) < v.toInt)]
      rw [q_letE (q_si τ2 a 9 v), q_letE (q_si (q_si τ2 a 9 v) a 8 0), q_letE (q_si (q_si (q_si τ2 a 9 v) a 8 0) a 16 0), q_letE (q_si (q_si (q_si (q_si τ2 a 9 v) a 8 0) a 16 0) a 12 0)]
      have t3 : tkl (fun b f => b = a ∧ (f = 9 ∨ f = 8 ∨ f = 16 ∨ f = 12)) (fun _ _ => False) τ2 (q_si (q_si (q_si (q_si τ2 a 9 v) a 8 0) a 16 0) a 12 0) := (((tkl.rf.si _ ⟨rfl, Or.inl rfl⟩).si _ ⟨rfl, Or.inr (Or.inl rfl)⟩).si _ ⟨rfl, Or.inr (Or.inr (Or.inl rfl))⟩).si _ ⟨rfl, Or.inr (Or.inr (Or.inr rfl))⟩
      have c9 : (q_si (q_si (q_si (q_si τ2 a 9 v) a 8 0) a 16 0) a 12 0).1 a 9 = v := by rw [si_f (by decide), si_f (by decide), si_f (by decide), si_eq]
      have c8 : (q_si (q_si (q_si (q_si τ2 a 9 v) a 8 0) a 16 0) a 12 0).1 a 8 = 0 := by rw [si_f (by decide), si_f (by decide), si_eq]
      have c16 : (q_si (q_si (q_si (q_si τ2 a 9 v) a 8 0) a 16 0) a 12 0).1 a 16 = 0 := by rw [si_f (by decide), si_eq]
      have c12 : (q_si (q_si (q_si (q_si τ2 a 9 v) a 8 0) a 16 0) a 12 0).1 a 12 = 0 := si_eq _ _ _ _
      obtain ⟨τ3, e3⟩ : ∃ s, s = q_si (q_si (q_si (q_si τ2 a 9 v) a 8 0) a 16 0) a 12 0 := ⟨_, rfl⟩
      rw [← e3] at t3 c9 c8 c16 c12 ⊢
      have c0 : τ3.1 a 0 = 0 := by rw [t3.1 a 0 (fun q => absurd q.2 (by decide)), d0]
      have M0 : tm_E X τ3 a v.toInt B := ⟨by rw [c9], ⟨by omega, by omega⟩, nU, fun p p0 p1 => by
        rw [t3.1 _ _ (fun q => nU q.1), t2.1 _ _ (fun q => nU q.1)]
        exact ⟨hB2 p p0 (by omega), (hB p p0 (by omega)).2⟩⟩
      obtain ⟨z, σ8, τ8, f1, f2, Gf, Pf, out⟩ := tb_takes Y H ka hTl nTD (v := v) rfl ⟨by omega, by omega⟩ (fun p p0 p1 => hB p p0 (by omega)) M0 (by rw [c16]; rfl) (by rw [c12]; rfl) (by rw [c0]; rfl) (by rw [c8]; rfl)
      rw [q_letE (F_X12_next X τ3 a), q_biP (1 : Int32) (F_X12_next X τ3 a), if_neg (by decide : ¬ (1 : Int32).toInt = 0), f2, ← hD, ← hT, ← hg1, f1, q_biP z σ8]
      have C8 : ∀ f, σ8.1 C f = σ.1 C f := Gf.1 C hC6 nCD nCA
      -- the class ends its reading
      unfold F_X11_endReading
      rw [q_letE (q_si σ8 C 5 0), q_letE ((q_si σ8 C 5 0).1 D 6), q_letE (q_si (q_si σ8 C 5 0) C 6 ((q_si σ8 C 5 0).1 D 6)), q_letE ((q_si (q_si σ8 C 5 0) C 6 ((q_si σ8 C 5 0).1 D 6)).1 D 7), q_letE (q_si (q_si (q_si σ8 C 5 0) C 6 ((q_si σ8 C 5 0).1 D 6)) C 7 ((q_si (q_si σ8 C 5 0) C 6 ((q_si σ8 C 5 0).1 D 6)).1 D 7))]
      have t9 : tk (fun b f => b = C ∧ (f = 5 ∨ f = 6 ∨ f = 7)) σ8 (q_si (q_si (q_si σ8 C 5 0) C 6 ((q_si σ8 C 5 0).1 D 6)) C 7 ((q_si (q_si σ8 C 5 0) C 6 ((q_si σ8 C 5 0).1 D 6)).1 D 7)) := ((tk.rf.si _ ⟨rfl, Or.inl rfl⟩).si _ ⟨rfl, Or.inr (Or.inl rfl)⟩).si _ ⟨rfl, Or.inr (Or.inr rfl)⟩
      have g5 : (q_si (q_si (q_si σ8 C 5 0) C 6 ((q_si σ8 C 5 0).1 D 6)) C 7 ((q_si (q_si σ8 C 5 0) C 6 ((q_si σ8 C 5 0).1 D 6)).1 D 7)).1 C 5 = 0 := by rw [si_f (by decide), si_f (by decide), si_eq]
      have g6 : (q_si (q_si (q_si σ8 C 5 0) C 6 ((q_si σ8 C 5 0).1 D 6)) C 7 ((q_si (q_si σ8 C 5 0) C 6 ((q_si σ8 C 5 0).1 D 6)).1 D 7)).1 C 6 = σ8.1 D 6 := by rw [si_f (by decide), si_eq, q_si_ne (Ne.symm nCD)]
      have g7 : (q_si (q_si (q_si σ8 C 5 0) C 6 ((q_si σ8 C 5 0).1 D 6)) C 7 ((q_si (q_si σ8 C 5 0) C 6 ((q_si σ8 C 5 0).1 D 6)).1 D 7)).1 C 7 = σ8.1 D 7 := by rw [si_eq, q_si_ne (Ne.symm nCD), q_si_ne (Ne.symm nCD)]
      obtain ⟨σ9, e9⟩ : ∃ s, s = q_si (q_si (q_si σ8 C 5 0) C 6 ((q_si σ8 C 5 0).1 D 6)) C 7 ((q_si (q_si σ8 C 5 0) C 6 ((q_si σ8 C 5 0).1 D 6)).1 D 7) := ⟨_, rfl⟩
      rw [← e9] at t9 g5 g6 g7 ⊢
      rw [q_letE σ9]
      have vw : ∀ (h o : Nat), y_G X lb h o → o ≠ 0 → ∀ id, id < 25 → ∀ f, σ9.1 (y_gA X h id) f = σ8.1 (y_gA X h id) f := fun h o G ho id hid f => t9.1 _ _ (fun q => by
        have := y_own Y G hid
        rw [q.1] at this
        omega)
      rcases out with ⟨o1, V, r, c, w, t, f9, f10, I⟩ | ⟨o1, o2⟩
      · obtain ⟨S, M, K, h0, Rr⟩ := I
        obtain ⟨zz, τ9, x1, x2, x3, x4, x5, x6, x7⟩ := tm_end1 (X := X) Y.1 ka h0
        rw [x1, if_neg (by omega : ¬ z.toInt = 0), ← hg]
        have cp : y_C X lb g1 1 g σ9 (F_X0_copyFrom X σ9 g1 g) y_all := tb_copy Y G1 H.2.2.1 (by decide)
        rw [q_letE (F_X0_copyFrom X σ9 g1 g)]
        obtain ⟨σ10, e10⟩ : ∃ s, s = F_X0_copyFrom X σ9 g1 g := ⟨_, rfl⟩
        rw [← e10] at cp ⊢
        obtain ⟨V1, W, hV⟩ := cp
        have vg : y_v X g σ9 = V := by
          rw [← S.2.1]
          funext id i
          unfold y_v
          by_cases q : id < 25 ∧ 0 ≤ i
          · rw [if_pos q, if_pos q, vw g 6 H.2.2.1 (by decide) id q.1]
          · rw [if_neg q, if_neg q]
        have p4 : (σ10.1 (q_rf X g1 0) 4).toInt = c 3722 := by
          have z1 := y_v_rdn (X := X) (g := g1) (σ := σ10) (id := 1) (by decide) 4
          rw [W.2.2] at z1
          refine z1.trans ?_
          have z2 := hV 1 ((4 : Nat) : Int) ⟨(1, 4), by decide, rfl, Or.inr ⟨by decide, rfl⟩⟩
          rw [z2, vg]
          exact Rr.b.2.2.1
        have C10 : ∀ f, σ10.1 C f = σ9.1 C f := W.1 C hC1
        have nCg : ∀ id, id < 25 → C ≠ y_gA X g1 id := fun id hid => y_gA_ne Y G1 hid hC1
        rw [q_letE (σ10.1 (q_rf X g1 0) 4), q_letE (q_si σ10 C 0 0), q_biP]
        have c5 : (q_si σ10 C 0 0).1 C 5 = 0 := by rw [si_f (by decide), C10, g5]
        have c6 : (q_si σ10 C 0 0).1 C 6 = σ8.1 D 6 := by rw [si_f (by decide), C10, g6]
        have c7 : (q_si σ10 C 0 0).1 C 7 = σ8.1 D 7 := by rw [si_f (by decide), C10, g7]
        have k67 := K.2.2.2.2.2.2.2.2
        have n20 : a ≠ q_rf X a 20 := Ne.symm (m_ne (tb_k Y.1 ka).1 ka (by decide))
        have a08 : ∀ f, f ≠ 10 → f ≠ 11 → τ9.1 a f = τ8.1 a f := fun f q1 q2 => x5.1 a f (fun q => by
          rcases q with q | q
          · exact n20 q
          · omega)
        have cc : ∀ j : Int, 0 ≤ j → j < 3720 → c j = m_c X τ a j := fun j a1 a2 => by
          rw [← M.2.1, Pf.1 j a1 a2]
          exact congrArg Int32.toInt ((t3.1 _ _ (fun q => n20 q.1.symm)).trans (t2.1 _ _ (fun q => n20 q.1.symm)))
        have ww : ∀ j : Int, 0 ≤ j → j < 24 → w j = m_wd X τ a j := fun j a1 a2 => by
          rw [← M.2.2.1, Pf.2.1 j a1 a2]
          exact congrArg Int64.toInt ((t3.2.1 _ _ (fun q => q)).trans (t2.2.1 _ _ (fun q => q)))
        rw [M.2.1] at x2 x6
        rw [M.2.2.1] at x7
        refine ⟨_, _, zz, τ9, rfl, rfl, p4.trans x2.symm, ?_, Or.inr ⟨⟨by omega, by omega⟩, by rw [c5]; rfl, ?_, ?_, ?_, Or.inr ⟨?_, V, r, c, w, t, Rr, cc, ww, p4, fun id i hi => ?_, x6, x7⟩⟩, fun b hb f => ?_⟩
        · rw [si_eq, a08 0 (by decide) (by decide), M.2.2.2.2.2.2.1]
          rfl
        · rw [a08 8 (by decide) (by decide)]
          exact M.2.2.2.2.2.2.2
        · rw [c6, x3]
          exact k67.1
        · rw [c7, x4]
          exact k67.2
        · rw [c6]
          exact k67.1
        · have z1 := hV id i hi
          rw [vg] at z1
          rw [← hg1, ← z1, ← W.2.2]
          unfold y_v
          by_cases q : id < 25 ∧ 0 ≤ i
          · rw [if_pos q, if_pos q, q_si_ne (Ne.symm (nCg id q.1))]
          · rw [if_neg q, if_neg q]
        · have nb : b ≠ C := fun z => by
            rw [z] at hb
            omega
          rw [q_si_ne nb, W.1 b (by omega) f, t9.1 b f (fun z => nb z.1), Gf.1 b (by omega) (fun z => by
            rw [z] at hb
            omega) (fun z => by
            rw [z] at hb
            omega)]
      · obtain ⟨τ9, x1, x2, x3, x4, x5⟩ := tm_end0 (X := X) o2.2.1
        rw [x1, if_pos o1, q_letE, q_biP]
        have n20 : a ≠ q_rf X a 20 := Ne.symm (m_ne (tb_k Y.1 ka).1 ka (by decide))
        refine ⟨_, _, _, τ9, rfl, rfl, rfl, ?_, Or.inr ⟨⟨by omega, by omega⟩, ?_, ?_, ?_, ?_, Or.inl ⟨rfl, ?_, fun j a1 a2 => ?_, fun j a1 a2 => ?_⟩⟩, fun b hb f => ?_⟩
        · rw [si_eq, x4]
          rfl
        · rw [si_f (by decide), g5]
          rfl
        · rw [x5.1 a 8 (fun q => absurd q.2 (by decide)), Pf.2.2.2, c8]
          rfl
        · rw [si_f (by decide), g6, x2]
          exact o2.1
        · rw [si_f (by decide), g7, x3]
          exact o2.2.2
        · funext id i
          unfold y_v
          by_cases q : id < 25 ∧ 0 ≤ i
          · have own := y_own Y G1 q.1
            rw [if_pos q, if_pos q, ← hg1, q_si_ne (fun z => by rw [z] at own; omega), vw g1 1 G1 (by decide) id q.1, Gf.1 _ (by omega) (fun z => by rw [z] at own; omega) (fun z => by
              rw [z] at own
              have := H.2.2.2.2.2.1
              omega)]
          · rw [if_neg q, if_neg q]
        · have y1 : m_c X τ9 a j = m_c X τ8 a j := congrArg Int32.toInt (x5.1 _ _ (fun q => n20 q.1.symm))
          rw [y1, Pf.1 j a1 a2]
          exact congrArg Int32.toInt ((t3.1 _ _ (fun q => n20 q.1.symm)).trans (t2.1 _ _ (fun q => n20 q.1.symm)))
        · have y1 : m_wd X τ9 a j = m_wd X τ8 a j := congrArg Int64.toInt (x5.2.1 _ _ (fun q => q))
          rw [y1, Pf.2.1 j a1 a2]
          exact congrArg Int64.toInt ((t3.2.1 _ _ (fun q => q)).trans (t2.2.1 _ _ (fun q => q)))
        · have nb : b ≠ C := fun z => by
            rw [z] at hb
            omega
          rw [q_si_ne nb, t9.1 b f (fun z => nb z.1), Gf.1 b (by omega) (fun z => by
            rw [z] at hb
            omega) (fun z => by
            rw [z] at hb
            omega)]
end TNF

/-! FROM 49q.altable.lean.txt -/
/-! A TABLE: all stays the same -/
/-- a new game -/
theorem rb.new {V : Nat → Int → Int} {r c w t c' w' : Int → Int} (h : tb_R V r c w t) (hc : ∀ j : Int, 0 ≤ j → j < 930 → c' j = m_fin c (3720 + j)) (hw : ∀ j : Int, 0 ≤ j → j < 6 → w' j = w (24 + j)) : rb V c' w' := by
  obtain ⟨⟨⟨n1, n2, n3, n4, n5⟩, n6, n7, n8, n9⟩, ⟨z1, z2, z3, z4, z5, z6, z7, z8, z9, z10, z11⟩, nm, ⟨h1, h2, h3⟩, mn, k1, k2, k3⟩ := h
  obtain ⟨b0, b1, b2, b3, b4, x5, x42, x54, xs, x14, xk⟩ := mn
  have d : ∀ j : Int, 0 ≤ j → j < 930 → j ≠ 6 → j ≠ 8 → c' j = c (3720 + j) := fun j j0 j1 j6 j8 => by
    rw [hc j j0 j1]
    unfold m_fin
    rw [m_up_ne (by omega), m_up_ne (by omega)]
  have d8 : c' 8 = -1 := by
    rw [hc 8 (by decide) (by decide)]
    unfold m_fin
    rw [m_up_ne (by decide)]
    exact m_up_eq _ _ _
  have d6 : c' 6 = if c 3722 = 0 then -1 else 0 := by
    rw [hc 6 (by decide) (by decide)]
    exact m_up_eq _ _ _
  have e2 : c' 2 = c 3722 := d 2 (by decide) (by decide) (by decide) (by decide)
  have e9 : c' 9 = 0 := (d 9 (by decide) (by decide) (by decide) (by decide)).trans (x5 3729 (by decide) (by decide))
  have n9' : (c' 9).toNat = 0 := by rw [e9]; rfl
  have hand : ∀ j : Int, 0 ≤ j → j < 60 → c' (34 + j) = c (3754 + j) := fun j j0 j1 => by
    rw [d _ (by omega) (by omega) (by omega) (by omega)]
    congr 1
    omega
  refine ⟨⟨⟨?_, ?_, ?_, ?_, ?_, ?_⟩, ⟨?_, ?_, ⟨?_, ?_⟩, ?_⟩, fun p p0 p1 => ⟨?_, ?_, ?_, ?_⟩, ⟨fun j j0 j1 => ?_, fun p p0 p1 => ?_⟩, ⟨?_, ?_, fun k k0 kk => by omega⟩, ⟨fun p k p0 p1 k0 kk => ?_, fun k k0 kk => ?_⟩⟩, ?_, ⟨?_, ?_, ?_, ?_, 0, ?_⟩⟩
  · rw [d 0 (by decide) (by decide) (by decide) (by decide)]; exact n1
  · rw [d 1 (by decide) (by decide) (by decide) (by decide)]; exact n2
  · rw [d 3 (by decide) (by decide) (by decide) (by decide)]; exact n3
  · rw [d 4 (by decide) (by decide) (by decide) (by decide)]; exact n4
  · rw [e2]; exact n5
  · rw [d 3 (by decide) (by decide) (by decide) (by decide)]; exact b3
  · rw [d 5 (by decide) (by decide) (by decide) (by decide)]; exact z3.trans (x5 3725 (by decide) (by decide)).symm
  · rw [e2, d6, z4]
    by_cases q : c 3722 = 0
    · rw [if_pos q]
    · rw [if_neg q, if_neg q]
  · rw [d8]; exact z5
  · rw [d8]; decide
  · rw [d 7 (by decide) (by decide) (by decide) (by decide)]; exact z6.trans (x5 3727 (by decide) (by decide)).symm
  · rw [d _ (by omega) (by omega) (by omega) (by omega)]
    have z := (n9 p p0 p1).1
    have e : (3730 : Int) + p = 3720 + (10 + p) := by omega
    rw [e] at z
    exact z
  · rw [d _ (by omega) (by omega) (by omega) (by omega)]
    have z := (n9 p p0 p1).2
    have e : (3736 : Int) + p = 3720 + (16 + p) := by omega
    rw [e] at z
    exact z
  · rw [d _ (by omega) (by omega) (by omega) (by omega), (z2 p p0 p1).1]
    exact (x42 _ (by omega) (by omega)).symm
  · rw [d _ (by omega) (by omega) (by omega) (by omega), (z2 p p0 p1).2]
    exact (x42 _ (by omega) (by omega)).symm
  · rw [hand j j0 j1]; exact n7 j j0 j1
  · rw [n8 p p0 p1]
    have sh : ∀ n : Nat, n ≤ 10 → m_S c (3754 + 10 * p) n = m_S c' (34 + 10 * p) n := by
      intro n
      induction n with
      | zero => intro _; rfl
      | succ n ih =>
        intro hn
        show m_S c (3754 + 10 * p) n + c (3754 + 10 * p + (n : Int)) = m_S c' (34 + 10 * p) n + c' (34 + 10 * p + (n : Int))
        have e1 : (34 : Int) + 10 * p + (n : Int) = 34 + (10 * p + (n : Int)) := by omega
        have e3 : (3754 : Int) + 10 * p + (n : Int) = 3754 + (10 * p + (n : Int)) := by omega
        rw [ih (by omega), e1, hand _ (by omega) (by omega), e3]
    exact sh 10 (Nat.le_refl 10)
  · rw [e9]; exact z7
  · rw [n9', z8]; rfl
  · rw [n9', z1 _ (by omega) (by omega)]; rfl
  · rw [n6 k k0 kk]
    unfold m_I
    have m0 : m_A c' (-1) k 0 = 0 := rfl
    rw [n9', m0, e2, m_sum_e]
    have hz : ∀ p : Int, 0 ≤ p → p < 6 → c 3722 ≤ p → c (3754 + 10 * p + k) = 0 := fun p p0 p1 p2 => by
      have y := (h1 (10 * p + k) (by omega) (by omega)).2 (h3 (10 * p + k) (by omega) (by omega) (by omega))
      have e : (3754 : Int) + (10 * p + k) = 3754 + 10 * p + k := by omega
      rw [e] at y
      exact y
    have hp : ∀ p : Int, 0 ≤ p → p < 6 → c' (34 + 10 * p + k) = c (3754 + 10 * p + k) := fun p p0 p1 => by
      have e1 : (34 : Int) + 10 * p + k = 34 + (10 * p + k) := by omega
      have e3 : (3754 : Int) + 10 * p + k = 3754 + (10 * p + k) := by omega
      rw [e1, hand _ (by omega) (by omega), e3]
    have q0 := hp 0 (by decide) (by decide)
    have q1 := hp 1 (by decide) (by decide)
    have q2 := hp 2 (by decide) (by decide)
    have q3 := hp 3 (by decide) (by decide)
    have q4 := hp 4 (by decide) (by decide)
    have q5 := hp 5 (by decide) (by decide)
    have y0 := hz 0 (by decide) (by decide)
    have y1 := hz 1 (by decide) (by decide)
    have y2 := hz 2 (by decide) (by decide)
    have y3 := hz 3 (by decide) (by decide)
    have y4 := hz 4 (by decide) (by decide)
    have y5 := hz 5 (by decide) (by decide)
    have P0 : m_P c' k 0 = 0 := rfl
    have P1 : m_P c' k 1 = m_P c' k 0 + c' (34 + 10 * 0 + k) := rfl
    have P2 : m_P c' k 2 = m_P c' k 1 + c' (34 + 10 * 1 + k) := rfl
    have P3 : m_P c' k 3 = m_P c' k 2 + c' (34 + 10 * 2 + k) := rfl
    have P4 : m_P c' k 4 = m_P c' k 3 + c' (34 + 10 * 3 + k) := rfl
    have P5 : m_P c' k 5 = m_P c' k 4 + c' (34 + 10 * 4 + k) := rfl
    have P6 : m_P c' k 6 = m_P c' k 5 + c' (34 + 10 * 5 + k) := rfl
    clear hp hz hand d hc hw h1 h3 x5 x42 x54 xs x14 xk n6 n7 n8 n9 z1 z2 nm h2
    rcases (by omega : c 3722 = 0 ∨ c 3722 = 1 ∨ c 3722 = 2 ∨ c 3722 = 3 ∨ c 3722 = 4 ∨ c 3722 = 5 ∨ c 3722 = 6) with e | e | e | e | e | e | e
    · rw [e] at y0 y1 y2 y3 y4 y5 ⊢
      show _ = 0 + m_P c' k 0
      omega
    · rw [e] at y0 y1 y2 y3 y4 y5 ⊢
      show _ = 0 + m_P c' k 1
      omega
    · rw [e] at y0 y1 y2 y3 y4 y5 ⊢
      show _ = 0 + m_P c' k 2
      omega
    · rw [e] at y0 y1 y2 y3 y4 y5 ⊢
      show _ = 0 + m_P c' k 3
      omega
    · rw [e] at y0 y1 y2 y3 y4 y5 ⊢
      show _ = 0 + m_P c' k 4
      omega
    · rw [e] at y0 y1 y2 y3 y4 y5 ⊢
      show _ = 0 + m_P c' k 5
      omega
    · rw [e] at y0 y1 y2 y3 y4 y5 ⊢
      show _ = 0 + m_P c' k 6
      omega
  · rw [e2]
    intro p p0 p1
    obtain ⟨a1, a2, a3⟩ := nm p p0 p1
    refine ⟨a1, a2, ?_⟩
    rw [hw _ (by omega) (by omega), Int.zero_add]
    exact a3
  · rw [d 654 (by decide) (by decide) (by decide) (by decide)]; exact z9.trans (x14 _ (by decide) (by decide)).symm
  · rw [d 654 (by decide) (by decide) (by decide) (by decide)]; exact Or.inl (x14 _ (by decide) (by decide))
  · rw [d 655 (by decide) (by decide) (by decide) (by decide)]; exact z10.trans (x14 _ (by decide) (by decide)).symm
  · rw [z11]; omega
  · rw [d 655 (by decide) (by decide) (by decide) (by decide), z11]
    exact ⟨(x14 _ (by decide) (by decide)).symm, rfl⟩
section GQ
variable {X : XW} {lb : Nat → Nat} {C a : Nat} {σ τ : ST} {n m : Int} {B : Int → Int}
theorem al_table (K : al_C X lb C a) (h9 : q_ln X (q_rf X a 7) = 900) (A : al_R X C a σ τ) (M : m_M (m_c X τ a) (τ.1 a 24).toInt n) (h5 : (σ.1 C 5).toInt = m) (h8 : (τ.1 a 8).toInt = m) (hm : 0 ≤ m ∧ m ≤ 900) (hB : ∀ p : Int, 0 ≤ p → p < m → (σ.1 (q_rf X C 4) p.toNat).toInt = B p ∧ -128 ≤ B p ∧ B p ≤ 127) (hB2 : ∀ p : Int, 0 ≤ p → p < m → (τ.1 (q_rf X a 7) p.toNat).toInt = B p) (v : Int32) :
    ∃ (z : Int32) (σ' : ST) (z' : Int32) (τ' : ST), F_X11_table X σ C v = (z, σ') ∧ F_X12_table X τ a v = (z', τ') ∧ z.toInt = z'.toInt ∧ (σ'.1 C 0).toInt = (τ'.1 a 0).toInt ∧ tb_Out X C a σ τ v m z σ' τ' ∧ (m_G (m_c X τ' a) → σ'.1 C 11 = σ.1 C 11 → τ'.1 a 24 = τ.1 a 24 → al_R X C a σ' τ') := by
  obtain ⟨kC, ka, S, lC, G8, G9, GM⟩ := id K
  obtain ⟨z, σ', z', τ', x1, x2, x3, x4, out, fr⟩ := tb_tableF (y_Cls S kC ka lC h9) h5 h8 hm hB hB2 v
  refine ⟨z, σ', z', τ', x1, x2, x3, x4, out, fun hG' e11 e24 => ?_⟩
  obtain ⟨A1, A2, A3, A4⟩ := A
  -- marks stand
  have mk : (∀ j : Int, 930 ≤ j → j < 3720 → m_c X τ' a j = m_c X τ a j) → (∀ j : Int, 6 ≤ j → j < 24 → m_wd X τ' a j = m_wd X τ a j) → ∀ b : Nat, 1 ≤ b → (b : Int) ≤ (σ'.1 C 11).toInt → rb (y_v X (q_rf X (q_rf X C 10) (b - 1)) σ') (fun j => m_c X τ' a (930 * (b : Int) + j)) (fun j => m_wd X τ' a (6 * (b : Int) + j)) := by
    intro hc hw b b1 b2
    rw [e11] at b2
    have gv : y_v X (q_rf X (q_rf X C 10) (b - 1)) σ' = y_v X (q_rf X (q_rf X C 10) (b - 1)) σ := y_v.k S (GM (b - 1) (by omega)) (fun x hx f => fr x (by omega) f)
    refine (A4 b b1 b2).x (M.2 (b : Int) (by omega) (by rw [A2] at b2; exact b2)).1 (fun id i _ => by rw [gv]) (fun j j0 j1 => ?_) (fun j j0 j1 => ?_)
    · exact hc _ (by omega) (by omega)
    · exact hw _ (by omega) (by omega)
  refine ⟨?_, by rw [e11, e24]; exact A2, by rw [e11]; exact A3, ?_⟩
  · rcases out with ⟨-, t1, t2⟩ | ⟨-, -, -, -, -, ⟨-, o1, o2, o3⟩ | ⟨-, V, r, c, w, t, Rr, o1, o2, o3, o4, o5, o6⟩⟩
    · have gv : y_v X (q_rf X C 8) σ' = y_v X (q_rf X C 8) σ := y_v.k S G8 (fun x hx f => t1.1 x f (fun z => by
        rw [z.1] at hx
        omega))
      have k20 := (tb_k S.1 ka).1
      have gc : m_c X τ' a = m_c X τ a := by
        funext j
        exact congrArg Int32.toInt (t2.1 _ _ (fun z => m_ne k20 ka (by decide) z.1))
      have gw : m_wd X τ' a = m_wd X τ a := by
        funext j
        exact congrArg Int64.toInt (t2.2.1 _ _ (fun z => z))
      rw [gv, gc, gw]
      exact A1
    · rw [o1]
      exact A1.x M.1.1 (fun _ _ _ => rfl) (fun j j0 j1 => o2 j j0 (by omega)) (fun j j0 j1 => o3 j j0 (by omega))
    · have N := rb.new (c' := m_c X τ' a) (w' := m_wd X τ' a) Rr (fun j j0 j1 => by rw [o5 j j0, if_pos j1]) (fun j j0 j1 => by rw [o6 j j0, if_pos j1])
      exact N.x hG' (fun id i hi => o4 id i hi) (fun _ _ _ => rfl) (fun _ _ _ => rfl)
  · rcases out with ⟨-, t1, t2⟩ | ⟨-, -, -, -, -, ⟨-, o1, o2, o3⟩ | ⟨-, V, r, c, w, t, Rr, o1, o2, o3, o4, o5, o6⟩⟩
    · have k20 := (tb_k S.1 ka).1
      exact mk (fun j _ _ => congrArg Int32.toInt (t2.1 _ _ (fun z => m_ne k20 ka (by decide) z.1))) (fun j _ _ => congrArg Int64.toInt (t2.2.1 _ _ (fun z => z)))
    · exact mk (fun j j0 j1 => o2 j (by omega) j1) (fun j j0 j1 => o3 j (by omega) j1)
    · refine mk (fun j j0 j1 => ?_) (fun j j0 j1 => ?_)
      · rw [o5 j (by omega), if_neg (by omega), ← o1 j (by omega) j1]
        unfold m_fin
        rw [m_up_ne (by omega), m_up_ne (by omega)]
      · rw [o6 j (by omega), if_neg (by omega)]
        exact o2 j (by omega) j1
end GQ

/-! FROM 49r.rdround.lean.txt -/
/-! A ROUND BEING READ: the class's reader R with its script -/
def rdA (X : XW) (R id : Nat) : Nat := match id with
  | 0 => q_rf X R 8
  | 1 => q_rf X (q_rf X (q_rf X R 8) 3) 0
  | 2 => q_rf X (q_rf X (q_rf X R 8) 4) 0
  | 3 => q_rf X (q_rf X (q_rf X R 8) 5) 0
  | 4 => q_rf X (q_rf X (q_rf X R 8) 6) 0
  | 5 => q_rf X (q_rf X (q_rf X R 8) 7) 0
  | 6 => q_rf X (q_rf X R 9) 0
  | _ => q_rf X R 8
def rdL (id : Nat) : Nat := match id with | 0 => 472 | 1 => 120880 | 2 => 120896 | 3 => 120912 | 4 => 120928 | 5 => 120944 | 6 => 7568 | _ => 0
def rdN (id : Nat) : Nat := match id with | 6 => 3 | _ => 60
def rd_D (X : XW) (lb : Nat → Nat) (R T : Nat) : Prop := q_kd X R = 4 ∧ lb R = 29 ∧ q_kd X T = 22 ∧ lb T = 20 ∧ ∀ id, id < 7 → lb (rdA X R id) = rdL id ∧ (1 ≤ id → q_ln X (rdA X R id) = rdN id ∧ q_kd X (rdA X R id) = 20)
theorem rd_Dmk {X : XW} {lb : Nat → Nat} {C : Nat} (S : y_S X lb) (hC : q_kd X C = 11) (h1 : lb C = 1) : rd_D X lb (q_rf X C 13) (q_rf X C 4) := by
  obtain ⟨T, L, N⟩ := id S
  have kR : q_kd X (q_rf X C 13) = 4 := (T.1 C 13 (by rw [hC]; decide)).trans (by rw [hC]; rfl)
  have lR : lb (q_rf X C 13) = 29 := (L C 13 (by rw [hC]; decide)).trans (by rw [h1]; decide)
  have kT : q_kd X (q_rf X C 4) = 22 := (T.1 C 4 (by rw [hC]; decide)).trans (by rw [hC]; rfl)
  have lT : lb (q_rf X C 4) = 20 := (L C 4 (by rw [hC]; decide)).trans (by rw [h1]; decide)
  have kS : q_kd X (q_rf X (q_rf X C 13) 8) = 8 := (T.1 _ 8 (by rw [kR]; decide)).trans (by rw [kR]; rfl)
  have lS : lb (q_rf X (q_rf X C 13) 8) = 472 := (L _ 8 (by rw [kR]; decide)).trans (by rw [lR]; decide)
  have kO : q_kd X (q_rf X (q_rf X C 13) 9) = 5 := (T.1 _ 9 (by rw [kR]; decide)).trans (by rw [kR]; rfl)
  have lO : lb (q_rf X (q_rf X C 13) 9) = 473 := (L _ 9 (by rw [kR]; decide)).trans (by rw [lR]; decide)
  refine ⟨kR, lR, kT, lT, fun id hid => ?_⟩
  have row : ∀ f, f = 3 ∨ f = 4 ∨ f = 5 ∨ f = 6 ∨ f = 7 → lb (q_rf X (q_rf X (q_rf X (q_rf X C 13) 8) f) 0) = 120832 + 16 * f ∧ q_ln X (q_rf X (q_rf X (q_rf X (q_rf X C 13) 8) f) 0) = 60 ∧ q_kd X (q_rf X (q_rf X (q_rf X (q_rf X C 13) 8) f) 0) = 20 := by
    intro f hf
    have kr : q_kd X (q_rf X (q_rf X (q_rf X C 13) 8) f) = 5 := (T.1 _ f (by rw [kS]; rcases hf with e | e | e | e | e <;> subst e <;> decide)).trans (by rw [kS]; rcases hf with e | e | e | e | e <;> subst e <;> rfl)
    have lr : lb (q_rf X (q_rf X (q_rf X C 13) 8) f) = 7552 + f := (L _ f (by rw [kS]; rcases hf with e | e | e | e | e <;> subst e <;> decide)).trans (by rw [lS]; rcases hf with e | e | e | e | e <;> subst e <;> decide)
    refine ⟨(L _ 0 (by rw [kr]; decide)).trans (by rw [lr]; rcases hf with e | e | e | e | e <;> subst e <;> decide), (N _ f (by rw [kS]; rcases hf with e | e | e | e | e <;> subst e <;> rfl)).trans (by rw [kS]; rcases hf with e | e | e | e | e <;> subst e <;> rfl), (T.1 _ 0 (by rw [kr]; decide)).trans (by rw [kr]; rfl)⟩
  rcases (by omega : id = 0 ∨ id = 1 ∨ id = 2 ∨ id = 3 ∨ id = 4 ∨ id = 5 ∨ id = 6) with e | e | e | e | e | e | e
  · subst e
    exact ⟨lS, fun h => absurd h (by decide)⟩
  · subst e
    exact ⟨(row 3 (by decide)).1, fun _ => (row 3 (by decide)).2⟩
  · subst e
    exact ⟨(row 4 (by decide)).1, fun _ => (row 4 (by decide)).2⟩
  · subst e
    exact ⟨(row 5 (by decide)).1, fun _ => (row 5 (by decide)).2⟩
  · subst e
    exact ⟨(row 6 (by decide)).1, fun _ => (row 6 (by decide)).2⟩
  · subst e
    exact ⟨(row 7 (by decide)).1, fun _ => (row 7 (by decide)).2⟩
  · subst e
    exact ⟨(L _ 0 (by rw [kO]; decide)).trans (by rw [lO]; decide), fun _ => ⟨(N _ 9 (by rw [kR]; rfl)).trans (by rw [kR]; rfl), (T.1 _ 0 (by rw [kO]; decide)).trans (by rw [kO]; rfl)⟩⟩
theorem rdL_inj : ∀ i, i < 7 → ∀ j, j < 7 → rdL i = rdL j → i = j := by decide
theorem rdL_o : ∀ i, i < 7 → (rdL i / 8192 = 0 ∨ rdL i / 8192 = 14) ∧ rdL i ≠ 29 ∧ rdL i ≠ 20 ∧ rdL i ≠ 1 := by decide
theorem rd_D.inj {X : XW} {lb : Nat → Nat} {R T : Nat} (D : rd_D X lb R T) {i j : Nat} (hi : i < 7) (hj : j < 7) (h : rdA X R i = rdA X R j) : i = j := by
  have a := (D.2.2.2.2 i hi).1
  rw [h, (D.2.2.2.2 j hj).1] at a
  exact (rdL_inj j hj i hi a).symm
theorem rd_D.nR {X : XW} {lb : Nat → Nat} {R T : Nat} (D : rd_D X lb R T) {i : Nat} (hi : i < 7) : rdA X R i ≠ R ∧ rdA X R i ≠ T := by
  have a := (D.2.2.2.2 i hi).1
  have b := rdL_o i hi
  refine ⟨fun e => ?_, fun e => ?_⟩
  · rw [e, D.2.1] at a
    exact b.2.1 a.symm
  · rw [e, D.2.2.2.1] at a
    exact b.2.2.1 a.symm
def rv (X : XW) (R : Nat) (σ : ST) : Nat → Int → Int := fun id i => if id < 7 ∧ 0 ≤ i then (σ.1 (rdA X R id) i.toNat).toInt else 0
/-- the class's side: text, script, depth -/
def rd_S (X : XW) (R T : Nat) (σ : ST) (n : Int) (B : Int → Int) (U : Nat → Int → Int) (dp : Int) : Prop := tc_E X σ R T n B ∧ rv X R σ = U ∧ (σ.1 R 10).toInt = dp
def rd_F (X : XW) (R : Nat) (σ σ' : ST) : Prop := (∀ b, b ≠ R → (∀ i, i < 7 → b ≠ rdA X R i) → ∀ f, σ'.1 b f = σ.1 b f) ∧ (∀ f, ¬ (2 ≤ f ∧ f ≤ 7) → f ≠ 10 → σ'.1 R f = σ.1 R f) ∧ σ'.2 = σ.2
theorem rd_F.rf {X : XW} {R : Nat} {σ : ST} : rd_F X R σ σ := ⟨fun _ _ _ _ => rfl, fun _ _ _ => rfl, rfl⟩
theorem rd_F.tr {X : XW} {R : Nat} {σ σ1 σ2 : ST} (h : rd_F X R σ σ1) (k : rd_F X R σ1 σ2) : rd_F X R σ σ2 := ⟨fun b b1 b2 f => (k.1 b b1 b2 f).trans (h.1 b b1 b2 f), fun f f1 f2 => (k.2.1 f f1 f2).trans (h.2.1 f f1 f2), k.2.2.trans h.2.2⟩
/-- the reference's side: text, table, words, steps -/
def rd_M (X : XW) (a : Nat) (τ : ST) (n : Int) (B c w : Int → Int) (s : Int) : Prop := tm_E X τ a n B ∧ m_c X τ a = c ∧ m_wd X τ a = w ∧ (τ.1 a 27).toInt = s ∧ (τ.1 a 0).toInt = 0 ∧ (τ.1 a 8).toInt = 0
section RD
variable {X : XW} {lb : Nat → Nat} {R T a g : Nat} {σ τ σ' τ' : ST} {n dp s : Int} {B c w : Int → Int} {U V : Nat → Int → Int}
theorem rv_n {id : Nat} (h : id < 7) (f : Nat) : (σ.1 (rdA X R id) f).toInt = rv X R σ id (f : Int) := by
  unfold rv
  rw [if_pos ⟨h, Int.natCast_nonneg f⟩]
  rfl
theorem rd_S.rd (D : rd_D X lb R T) (S : rd_S X R T σ n B U dp) (h : tk (tc_S2 R) σ σ') : rd_S X R T σ' n B U dp ∧ rd_F X R σ σ' := by
  obtain ⟨s1, s2, s3⟩ := S
  refine ⟨⟨s1.k2 h, ?_, ?_⟩, fun b b1 _ f => h.1 b f (fun q => b1 q.1), fun f f1 _ => h.1 R f (fun q => f1 q.2), h.2⟩
  · rw [← s2]
    funext id i
    unfold rv
    by_cases q : id < 7 ∧ 0 ≤ i
    · rw [if_pos q, if_pos q, h.1 _ _ (fun z => (D.nR q.1).1 z.1)]
    · rw [if_neg q, if_neg q]
  · rw [h.1 R 10 (fun q => absurd q.2.2 (by decide))]; exact s3
theorem rv_up (D : rd_D X lb R T) {id : Nat} (hid : id < 7) (f : Nat) (v : Int32) : rv X R (q_si σ (rdA X R id) f v) = y_up (rv X R σ) id (f : Int) v.toInt := by
  funext k i
  show (if k < 7 ∧ 0 ≤ i then ((q_si σ (rdA X R id) f v).1 (rdA X R k) i.toNat).toInt else 0) = if k = id ∧ i = (f : Int) then v.toInt else if k < 7 ∧ 0 ≤ i then (σ.1 (rdA X R k) i.toNat).toInt else 0
  by_cases q : k = id ∧ i = (f : Int)
  · rw [if_pos q, if_pos ⟨by omega, by omega⟩, q.1, q.2]
    have e : ((f : Int)).toNat = f := by omega
    rw [e, si_eq]
  · rw [if_neg q]
    by_cases q2 : k < 7 ∧ 0 ≤ i
    · rw [if_pos q2, if_pos q2]
      by_cases q3 : k = id
      · rw [q3, si_f (by omega)]
      · rw [q_si_ne (fun z => q3 (D.inj q2.1 hid z))]
    · rw [if_neg q2, if_neg q2]
theorem rd_S.cell (D : rd_D X lb R T) (S : rd_S X R T σ n B U dp) {id : Nat} (hid : id < 7) (f : Nat) (v : Int32) : rd_S X R T (q_si σ (rdA X R id) f v) n B (y_up U id (f : Int) v.toInt) dp ∧ rd_F X R σ (q_si σ (rdA X R id) f v) := by
  obtain ⟨s1, s2, s3⟩ := S
  have nR := D.nR hid
  have k : tk (fun b g => b = rdA X R id ∧ g = f) σ (q_si σ (rdA X R id) f v) := tk.rf.si _ ⟨rfl, rfl⟩
  refine ⟨⟨s1.k k (fun b g q => ⟨fun e => nR.2 (q.1.symm.trans e), fun e => nR.1 (q.1.symm.trans e.1)⟩), ?_, ?_⟩, fun b b1 b2 f => k.1 b f (fun q => b2 id hid q.1), fun f _ _ => k.1 R f (fun q => nR.1 q.1.symm), k.2⟩
  · rw [rv_up D hid, s2]
  · rw [q_si_ne (Ne.symm nR.1)]; exact s3
theorem rw_set {r : Nat} (Y : y_S X lb) (x v : Int32) {N : Nat} (hN : q_ln X (q_rf X r 0) = N) (h0 : 0 ≤ x.toInt) (h1 : x.toInt < (N : Int)) : F_X5_set X σ r x v = q_si σ (q_rf X r 0) x.toNatClampNeg v := by
  have hl := y_len Y (q_rf X r 0)
  rw [hN] at hl
  simp only [F_X5_set, ↓q_letE]
  rw [hl, if_neg (by omega), if_pos h1]
theorem rw_get {r : Nat} (Y : y_S X lb) (x : Int32) {N : Nat} (hN : q_ln X (q_rf X r 0) = N) (h0 : 0 ≤ x.toInt) (h1 : x.toInt < (N : Int)) : F_X5_get X σ r x = σ.1 (q_rf X r 0) x.toNatClampNeg := by
  have hl := y_len Y (q_rf X r 0)
  rw [hN] at hl
  simp only [F_X5_get, ↓q_letE]
  rw [hl, if_neg (by omega), if_pos h1]
theorem rd_S.set (Y : y_S X lb) (D : rd_D X lb R T) (S : rd_S X R T σ n B U dp) {id r : Nat} (hid : 1 ≤ id ∧ id < 7) (hr : q_rf X r 0 = rdA X R id) {x : Int32} {i : Int} (hx : x.toInt = i) (v : Int32) (h0 : 0 ≤ i) (h1 : i < ((rdN id : Nat) : Int)) : rd_S X R T (F_X5_set X σ r x v) n B (y_up U id i v.toInt) dp ∧ rd_F X R σ (F_X5_set X σ r x v) := by
  have hN := ((D.2.2.2.2 id hid.2).2 hid.1).1
  rw [rw_set Y x v (N := rdN id) (by rw [hr]; exact hN) (by omega) (by omega), hr]
  have z := S.cell D hid.2 x.toNatClampNeg v
  have e : ((x.toNatClampNeg : Nat) : Int) = i := by rw [ar_cl]; omega
  rw [e] at z
  exact z
theorem rd_S.get (Y : y_S X lb) (D : rd_D X lb R T) (S : rd_S X R T σ n B U dp) {id r : Nat} (hid : 1 ≤ id ∧ id < 7) (hr : q_rf X r 0 = rdA X R id) {x : Int32} {i : Int} (hx : x.toInt = i) (h0 : 0 ≤ i) (h1 : i < ((rdN id : Nat) : Int)) : (F_X5_get X σ r x).toInt = U id i := by
  have hN := ((D.2.2.2.2 id hid.2).2 hid.1).1
  rw [rw_get Y x (N := rdN id) (by rw [hr]; exact hN) (by omega) (by omega), hr, rv_n hid.2, S.2.1]
  have e : ((x.toNatClampNeg : Nat) : Int) = i := by rw [ar_cl]; omega
  rw [e]
theorem rd_S.dep (D : rd_D X lb R T) (S : rd_S X R T σ n B U dp) (v : Int32) : rd_S X R T (q_si σ R 10 v) n B U v.toInt ∧ rd_F X R σ (q_si σ R 10 v) := by
  obtain ⟨s1, s2, s3⟩ := S
  have k : tk (fun b g => b = R ∧ g = 10) σ (q_si σ R 10 v) := tk.rf.si _ ⟨rfl, rfl⟩
  refine ⟨⟨s1.k k (fun b g q => ⟨fun e => s1.2.2.2.1 (e.symm.trans q.1), fun e => absurd q.2 (by rw [e.2]; decide)⟩), ?_, by rw [si_eq]⟩, fun b b1 _ f => k.1 b f (fun q => b1 q.1), fun f _ f2 => k.1 R f (fun q => f2 q.2), k.2⟩
  rw [← s2]
  funext id i
  unfold rv
  by_cases q : id < 7 ∧ 0 ≤ i
  · rw [if_pos q, if_pos q, q_si_ne (D.nR q.1).1]
  · rw [if_neg q, if_neg q]
/-- the games stand -/
theorem rd_F.v {o : Nat} (Y : y_S X lb) (D : rd_D X lb R T) (G : y_G X lb g o) (ho : o ≤ 6) (h : rd_F X R σ σ') : y_v X g σ' = y_v X g σ := by
  have o1 := G.2.2
  refine y_v.k Y G (fun b hb f => h.1 b (fun e => ?_) (fun i hi e => ?_) f)
  · rw [e, D.2.1] at hb
    omega
  · rw [e, (D.2.2.2.2 i hi).1] at hb
    have := (rdL_o i hi).1
    omega
/-! the reference's steps -/
theorem rd_M.rd (hT : q_T X) (ha : q_kd X a = 12) (M : rd_M X a τ n B c w s) (h : tkl (tn_S2 a) (tn_L a) τ τ') : rd_M X a τ' n B c w s := by
  obtain ⟨m1, m2, m3, m5, m6, m7⟩ := M
  obtain ⟨k1, k2, k3, k4⟩ := tb_k hT ha
  refine ⟨m1.k2 h, ?_, ?_, ?_, ?_, ?_⟩
  · rw [← m2]; funext j
    exact congrArg Int32.toInt (h.1 _ _ (fun q => m_ne k1 ha (by decide) q.1))
  · rw [← m3]; funext j
    exact congrArg Int64.toInt (h.2.1 _ _ (fun q => m_ne k3 ha (by decide) q.1))
  · rw [h.1 a 27 (fun q => absurd q.2.2 (by decide))]; exact m5
  · rw [h.1 a 0 (fun q => absurd q.2.1 (by decide))]; exact m6
  · rw [h.1 a 8 (fun q => absurd q.2.1 (by decide))]; exact m7
theorem rd_M.cw (hT : q_T X) (ha : q_kd X a = 12) (M : rd_M X a τ n B c w s) {i v : Int32} {A : Int} (hi : i.toInt = A) (hA : 1 ≤ A) : rd_M X a (q_si τ (q_rf X a 20) i.toNatClampNeg v) n B (m_up c A v.toInt) w s ∧ tl_same a τ (q_si τ (q_rf X a 20) i.toNatClampNeg v) := by
  obtain ⟨m1, m2, m3, m5, m6, m7⟩ := M
  obtain ⟨k1, k2, k3, k4⟩ := tb_k hT ha
  have na : a ≠ q_rf X a 20 := Ne.symm (m_ne k1 ha (by decide))
  have k : tkl (fun b f => b = q_rf X a 20) (fun _ _ => False) τ (q_si τ (q_rf X a 20) i.toNatClampNeg v) := tkl.rf.si _ rfl
  refine ⟨⟨m1.k k (fun b f q => ⟨fun e => m_ne k1 k4 (by decide) (q.symm.trans e), fun e => na (e.1.symm.trans q)⟩), ?_, m3, ?_, ?_, ?_⟩, fun f _ _ => k.1 a f na, rfl⟩
  · rw [m_c_up A hA hi, m2]
  · rw [k.1 a 27 na]; exact m5
  · rw [k.1 a 0 na]; exact m6
  · rw [k.1 a 8 na]; exact m7
theorem rd_M.ns (hT : q_T X) (ha : q_kd X a = 12) (M : rd_M X a τ n B c w s) (v : Int32) : rd_M X a (q_si τ a 27 v) n B c w v.toInt ∧ tl_same a τ (q_si τ a 27 v) := by
  obtain ⟨m1, m2, m3, m5, m6, m7⟩ := M
  obtain ⟨k1, k2, k3, k4⟩ := tb_k hT ha
  have k : tkl (fun b f => b = a ∧ f = 27) (fun _ _ => False) τ (q_si τ a 27 v) := tkl.rf.si _ ⟨rfl, rfl⟩
  refine ⟨⟨m1.k k (fun b f q => ⟨fun e => m_ne k4 ha (by decide) (e.symm.trans q.1), fun e => absurd q.2 (by rw [e.2]; decide)⟩), ?_, m3, ?_, ?_, ?_⟩, fun f _ f2 => k.1 a f (fun q => by have := q.2; omega), rfl⟩
  · rw [mv_cell hT ha 27 v]; exact m2
  · rw [si_eq]
  · rw [si_f (by decide)]; exact m6
  · rw [si_f (by decide)]; exact m7
theorem rd_same {id : Nat} (D : rd_D X lb R T) (hid : id < 7) (f : Nat) (v : Int32) : tl_sameC R σ (q_si σ (rdA X R id) f v) := fun _ _ _ => q_si_ne (Ne.symm (D.nR hid).1) _
theorem rd_sameS (Y : y_S X lb) (D : rd_D X lb R T) {id r : Nat} (hid : 1 ≤ id ∧ id < 7) (hr : q_rf X r 0 = rdA X R id) {x : Int32} (v : Int32) (h0 : 0 ≤ x.toInt) (h1 : x.toInt < ((rdN id : Nat) : Int)) : tl_sameC R σ (F_X5_set X σ r x v) := by
  have hN := ((D.2.2.2.2 id hid.2).2 hid.1).1
  rw [rw_set Y x v (N := rdN id) (by rw [hr]; exact hN) h0 h1, hr]
  exact rd_same D hid.2 _ v
theorem rd_sameD (v : Int32) : tl_sameC R σ (q_si σ R 10 v) := fun _ _ h => si_f (by omega) R
end RD

/-! FROM 49s.operands.lean.txt -/
/-! A ROUND BEING READ: operands -/
def rd_T (X : XW) (a : Nat) (b f : Nat) : Prop := b = q_rf X a 20 ∨ b = a ∧ 12 ≤ f ∧ (f ≤ 18 ∨ f = 27)
/-- both read the same, at the same place, without a fault -/
def rd_I (X : XW) (R T a g : Nat) (n : Int) (B : Int → Int) (Vg : Nat → Int → Int) (w : Int → Int) (σ τ : ST) (U : Nat → Int → Int) (dp : Int) (c : Int → Int) (s : Int) : Prop := rd_S X R T σ n B U dp ∧ rd_M X a τ n B c w s ∧ tl_K σ R τ a B n ∧ (τ.1 a 12).toInt = 0 ∧ y_v X g σ = Vg
def rd_Fr (X : XW) (R a : Nat) (σ σ' τ τ' : ST) : Prop := rd_F X R σ σ' ∧ tkl (rd_T X a) (tn_L a) τ τ' ∧ ∀ j : Int, 0 ≤ j → j < 3720 → m_c X τ' a j = m_c X τ a j
theorem rd_Fr.rf {X : XW} {R a : Nat} {σ τ : ST} : rd_Fr X R a σ σ τ τ := ⟨rd_F.rf, tkl.rf, fun _ _ _ => rfl⟩
theorem rd_Fr.tr {X : XW} {R a : Nat} {σ σ1 σ2 τ τ1 τ2 : ST} (h : rd_Fr X R a σ σ1 τ τ1) (k : rd_Fr X R a σ1 σ2 τ1 τ2) : rd_Fr X R a σ σ2 τ τ2 := ⟨h.1.tr k.1, h.2.1.tr k.2.1, fun j a b => (k.2.2 j a b).trans (h.2.2 j a b)⟩
section RO
variable {X : XW} {lb : Nat → Nat} {R T a g : Nat} {σ τ σ' τ' : ST} {n dp s l W : Int} {B c w : Int → Int} {U Vg : Nat → Int → Int}
theorem rd_T2 : ∀ b f, tn_S2 a b f → rd_T X a b f := fun b f h => Or.inr ⟨h.1, h.2.1, Or.inl h.2.2⟩
/-- a step of both readers -/
theorem rd_Fr.rd (hT : q_T X) (ha : q_kd X a = 12) (D : rd_D X lb R T) (S : rd_S X R T σ n B U dp) (h : tk (tc_S2 R) σ σ') (k : tkl (tn_S2 a) (tn_L a) τ τ') : rd_Fr X R a σ σ' τ τ' := by
  refine ⟨(S.rd D h).2, k.mono rd_T2 (fun _ _ z => z), fun j _ _ => ?_⟩
  have k1 := (tb_k hT ha).1
  exact congrArg Int32.toInt (k.1 _ _ (fun q => m_ne k1 ha (by decide) q.1))
/-- a row of the class, a cell of the reference -/
theorem rd_Fr.cw (hT : q_T X) (ha : q_kd X a = 12) (h : rd_F X R σ σ') {i v : Int32} {A : Int} (hi : i.toInt = A) (hA : 3720 ≤ A) : rd_Fr X R a σ σ' τ (q_si τ (q_rf X a 20) i.toNatClampNeg v) := by
  refine ⟨h, tkl.rf.si _ (Or.inl rfl), fun j j0 j1 => ?_⟩
  rw [m_c_up A (by omega) hi, m_up_ne (by omega)]
theorem rd_Fr.cl (h : rd_F X R σ σ') : rd_Fr X R a σ σ' τ τ := ⟨h, tkl.rf, fun _ _ _ => rfl⟩
theorem tl_F.tab (hT : q_T X) (ha : q_kd X a = 12) (h : tl_F σ R τ a) (i : Nat) (v : Int32) : tl_F σ R (q_si τ (q_rf X a 20) i v) a := by
  have na : a ≠ q_rf X a 20 := Ne.symm (m_ne (tb_k hT ha).1 ha (by decide))
  unfold tl_F
  rw [q_si_ne na, q_si_ne na]
  exact h
theorem tl_F.row (Y : y_S X lb) (D : rd_D X lb R T) (h : tl_F σ R τ a) {id r : Nat} (hid : 1 ≤ id ∧ id < 7) (hr : q_rf X r 0 = rdA X R id) {x : Int32} (v : Int32) (h0 : 0 ≤ x.toInt) (h1 : x.toInt < ((rdN id : Nat) : Int)) : tl_F (F_X5_set X σ r x v) R τ a := by
  have z := rd_sameS (σ := σ) Y D hid hr v h0 h1
  unfold tl_F
  rw [z 6 (by decide) (by decide), z 7 (by decide) (by decide)]
  exact h
/-- a player's name -/
theorem op_player (Y : y_S X lb) (D : rd_D X lb R T) (ha : q_kd X a = 12) (G : y_G X lb g 1) (I : rd_I X R T a g n B Vg w σ τ U dp c s) (hP6 : 0 ≤ c 2 ∧ c 2 ≤ 6) (hP : Vg 1 4 = c 2) (N : y_nm Vg w 0 (c 2)) {v x : Int32} (hv : v.toInt = l) (hl : 0 ≤ l ∧ l < 60) (hx : x.toInt = W) (hW : 3720 ≤ W) :
    ∃ (z y : Int32) (σ1 τ1 : ST), F_X3_passPlayer X σ R (q_rf X g 0) = (z, σ1) ∧ F_X12_readTold X τ a 0 = (y, τ1) ∧
      ((z.toInt ≠ -1 ∧ rd_I X R T a g n B Vg w (F_X5_set X σ1 (q_rf X (q_rf X R 8) 5) v z) (q_si τ1 (q_rf X a 20) x.toNatClampNeg y) (y_up U 3 l z.toInt) dp (m_up c W z.toInt) s ∧ rd_Fr X R a σ (F_X5_set X σ1 (q_rf X (q_rf X R 8) 5) v z) τ (q_si τ1 (q_rf X a 20) x.toNatClampNeg y) ∧ (τ.1 a 16).toInt ≤ ((q_si τ1 (q_rf X a 20) x.toNatClampNeg y).1 a 15).toInt) ∨
       (z.toInt = -1 ∧ tl_F σ1 R (q_si τ1 (q_rf X a 20) x.toNatClampNeg y) a ∧ rd_Fr X R a σ σ1 τ (q_si τ1 (q_rf X a 20) x.toNatClampNeg y))) := by
  obtain ⟨S, M, K, h0, hV⟩ := I
  have w0 : y_W X lb g 1 σ σ Vg := by
    rw [← hV]; exact y_W.rf
  have nm : y_nm Vg (m_wd X τ a) (6 * 0) (c 2) := by
    rw [M.2.2.1]
    exact N
  obtain ⟨z, y, σ1, τ1, e1, e2, ⟨o1, o2, o3⟩, v1, v2⟩ := tl_passPlayer Y G w0 S.1 M.1 K h0 (v := 0) (bl := 0) rfl ⟨by decide, by decide⟩ (P := c 2) (by rw [M.2.1]; rfl) hP6 hP nm
  obtain ⟨S1, f1⟩ := S.rd D o1
  have M1 := M.rd Y.1 ha o2
  have fr1 := rd_Fr.rd (σ' := σ1) (τ' := τ1) Y.1 ha D S o1 o2
  have n3 : ((rdN 3 : Nat) : Int) = 60 := rfl
  refine ⟨z, y, σ1, τ1, e1, e2, ?_⟩
  rcases o3 with ⟨q1, K1, h1, g1⟩ | ⟨q1, F1⟩
  · obtain ⟨ev, y0, y1⟩ := v1 q1
    obtain ⟨S2, f2⟩ := S1.set Y D (id := 3) (r := q_rf X (q_rf X R 8) 5) ⟨by decide, by decide⟩ rfl hv z hl.1 (by rw [n3]; exact hl.2)
    obtain ⟨M2, sm2⟩ := M1.cw Y.1 ha (i := x) (v := y) hx (by omega)
    have sc := rd_sameS (σ := σ1) Y D (id := 3) (r := q_rf X (q_rf X R 8) 5) ⟨by decide, by decide⟩ rfl (x := v) z (by omega) (by rw [n3]; omega)
    rw [← ev] at M2
    have fr2 := fr1.tr (rd_Fr.cw (τ := τ1) (v := y) Y.1 ha f2 hx hW)
    refine Or.inl ⟨q1, ⟨S2, M2, K1.same sc sm2, ?_, ?_⟩, fr2, ?_⟩
    · rw [sm2.1 12 (by decide) (by decide)]; exact h1
    · rw [fr2.1.v Y D G (by decide), hV]
    · rw [sm2.1 15 (by decide) (by decide)]; exact g1
  · have qz : z.toInt = -1 := Classical.not_not.mp q1
    exact Or.inr ⟨qz, F1.tab Y.1 ha _ _, fr1.tr (rd_Fr.cw Y.1 ha rd_F.rf hx hW)⟩
/-- a number -/
theorem op_num (Y : y_S X lb) (D : rd_D X lb R T) (ha : q_kd X a = 12) (G : y_G X lb g 1) (I : rd_I X R T a g n B Vg w σ τ U dp c s) (lo hi : Int32) (hlo : 0 ≤ lo.toInt) {v x : Int32} (hv : v.toInt = l) (hl : 0 ≤ l ∧ l < 60) (hx : x.toInt = W) (hW : 3720 ≤ W) :
    ∃ (z y : Int32) (σ1 τ1 : ST), F_X3_passNumber X σ R lo hi = (z, σ1) ∧ F_X12_count X τ a lo hi = (y, τ1) ∧
      ((z.toInt ≠ -1 ∧ rd_I X R T a g n B Vg w (F_X5_set X σ1 (q_rf X (q_rf X R 8) 7) v z) (q_si τ1 (q_rf X a 20) x.toNatClampNeg y) (y_up U 5 l z.toInt) dp (m_up c W z.toInt) s ∧ rd_Fr X R a σ (F_X5_set X σ1 (q_rf X (q_rf X R 8) 7) v z) τ (q_si τ1 (q_rf X a 20) x.toNatClampNeg y) ∧ (τ.1 a 16).toInt ≤ ((q_si τ1 (q_rf X a 20) x.toNatClampNeg y).1 a 15).toInt ∧ lo.toInt ≤ z.toInt ∧ z.toInt ≤ hi.toInt) ∨
       (z.toInt = -1 ∧ tl_F (F_X5_set X σ1 (q_rf X (q_rf X R 8) 7) v z) R (q_si τ1 (q_rf X a 20) x.toNatClampNeg y) a ∧ rd_Fr X R a σ (F_X5_set X σ1 (q_rf X (q_rf X R 8) 7) v z) τ (q_si τ1 (q_rf X a 20) x.toNatClampNeg y))) := by
  obtain ⟨S, M, K, h0, hV⟩ := I
  obtain ⟨z, y, σ1, τ1, e1, e2, ⟨o1, o2, o3⟩, v1, v2⟩ := tl_passNum S.1 M.1 K h0 lo hi hlo
  obtain ⟨S1, f1⟩ := S.rd D o1
  have M1 := M.rd Y.1 ha o2
  have fr1 := rd_Fr.rd (σ' := σ1) (τ' := τ1) Y.1 ha D S o1 o2
  have n5 : ((rdN 5 : Nat) : Int) = 60 := rfl
  obtain ⟨S2, f2⟩ := S1.set Y D (id := 5) (r := q_rf X (q_rf X R 8) 7) ⟨by decide, by decide⟩ rfl hv z hl.1 (by rw [n5]; exact hl.2)
  have fr2 := fr1.tr (rd_Fr.cw (τ := τ1) (v := y) Y.1 ha f2 hx hW)
  refine ⟨z, y, σ1, τ1, e1, e2, ?_⟩
  rcases o3 with ⟨q1, K1, h1, g1⟩ | ⟨q1, F1⟩
  · obtain ⟨ev, y0, y1⟩ := v1 q1
    obtain ⟨M2, sm2⟩ := M1.cw Y.1 ha (i := x) (v := y) hx (by omega)
    have sc := rd_sameS (σ := σ1) Y D (id := 5) (r := q_rf X (q_rf X R 8) 7) ⟨by decide, by decide⟩ rfl (x := v) z (by omega) (by rw [n5]; omega)
    rw [← ev] at M2
    refine Or.inl ⟨q1, ⟨S2, M2, K1.same sc sm2, ?_, ?_⟩, fr2, ?_, by omega, by omega⟩
    · rw [sm2.1 12 (by decide) (by decide)]; exact h1
    · rw [fr2.1.v Y D G (by decide), hV]
    · rw [sm2.1 15 (by decide) (by decide)]; exact g1
  · have qz : z.toInt = -1 := Classical.not_not.mp q1
    exact Or.inr ⟨qz, (F1.row Y D (id := 5) (r := q_rf X (q_rf X R 8) 7) ⟨by decide, by decide⟩ rfl z (by omega) (by rw [n5]; omega)).tab Y.1 ha _ _, fr2⟩
/-- what came of it: the class's answer, both states; Q says what was read -/
def rd_O (X : XW) (R T a g : Nat) (n : Int) (B : Int → Int) (Vg : Nat → Int → Int) (w : Int → Int) (dp s : Int) (σ τ : ST) (z : Int32) (σ' τ' : ST) (Q : (Nat → Int → Int) → (Int → Int) → Prop) : Prop :=
  rd_Fr X R a σ σ' τ τ' ∧ ((z.toInt = 1 ∧ (∃ (U' : Nat → Int → Int) (c' : Int → Int), rd_I X R T a g n B Vg w σ' τ' U' dp c' s ∧ Q U' c') ∧ (τ.1 a 15).toInt ≤ (τ'.1 a 15).toInt) ∨ (z.toInt = 0 ∧ tl_F σ' R τ' a))
/-- nothing but one line and one step are written -/
def rd_1 (U U' : Nat → Int → Int) (c c' : Int → Int) (l W : Int) : Prop := (∀ (id : Nat) (i : Int), id = 0 ∨ id = 2 ∨ id = 6 ∨ i ≠ l → U' id i = U id i) ∧ ∀ j : Int, j ≤ W ∨ W + 8 ≤ j → c' j = c j
theorem rd_out (X : XW) (R T a g : Nat) (v : Int32) (τ0 : ST) (h : 0 < (τ0.1 a 12).toInt) (x : Int32) : q_bi (F_X12_count X τ0 a 0 16) (fun r_11 σ_12 => q_let (q_si σ_12 (q_rf X a 20) x.toNatClampNeg r_11 : ST) (fun σ_13 => σ_13)) = q_si τ0 (q_rf X a 20) x.toNatClampNeg 0 := by
  rw [tm_count2 h, q_biP, q_letE]
/-- lies and doubts -/
theorem op_bends (Y : y_S X lb) (D : rd_D X lb R T) (ha : q_kd X a = 12) (G : y_G X lb g 1) (I : rd_I X R T a g n B Vg w σ τ U dp c s) (hP6 : 0 ≤ c 2 ∧ c 2 ≤ 6) (hP : Vg 1 4 = c 2) (N : y_nm Vg w 0 (c 2)) {v x : Int32} (hv : v.toInt = l) (hl : 0 ≤ l ∧ l < 60) (hx : x.toInt = W) (hW : 3720 ≤ W ∧ W ≤ 5000) (hk : c W = 1 ∨ c W = 2) (hU : U 1 l = c W) :
    ∃ (z : Int32) (σ' : ST), F_X4_readOperands X σ R v (q_rf X g 0) = (z, σ') ∧ rd_O X R T a g n B Vg w dp s σ τ z σ' (F_X12_readRest X τ a x) (fun U' c' => rd_1 U U' c c' l W ∧ U' 1 l = U 1 l ∧ U' 3 l = c' (W + 1) ∧ U' 5 l = c' (W + 2)) := by
  have I0 := I
  obtain ⟨S, M, K, h0, hV⟩ := I
  have one : (1 : Int32).toInt = 1 := rfl
  have two : (2 : Int32).toInt = 2 := rfl
  have n1 : ((rdN 1 : Nat) : Int) = 60 := rfl
  have r1 : (F_X5_get X σ (q_rf X (q_rf X R 8) 3) v).toInt = c W := (S.get Y D (id := 1) (r := q_rf X (q_rf X R 8) 3) ⟨by decide, by decide⟩ rfl hv hl.1 (by rw [n1]; exact hl.2)).trans hU
  have f1 : (τ.1 (q_rf X a 20) x.toNatClampNeg).toInt = c W := gm_cell M.2.1 hx
  have i1 : (x + 1).toInt = W + 1 := by rw [ar_add, hx, one, ar_wr (by omega) (by omega)]
  have i2 : (x + 2).toInt = W + 2 := by rw [ar_add, hx, two, ar_wr (by omega) (by omega)]
  obtain ⟨z, y, σ1, τ1, e1, e2, o⟩ := op_player Y D ha G I0 hP6 hP N hv hl i1 (by omega)
  -- the reference, for lies and for doubts
  have ref : F_X12_readRest X τ a x = q_bi (F_X12_count X (q_si τ1 (q_rf X a 20) (x + 1).toNatClampNeg y) a 0 16) (fun r_11 σ_12 => q_let (q_si σ_12 (q_rf X a 20) (x + 2).toNatClampNeg r_11 : ST) (fun σ_13 => σ_13)) := by
    unfold F_X12_readRest
    rw [q_letE (τ.1 (q_rf X a 20) x.toNatClampNeg), f1]
    rcases hk with hk | hk
    · rw [if_pos hk, q_letE (x + 1), e2, q_biP y τ1, q_letE (q_si τ1 (q_rf X a 20) (x + 1).toNatClampNeg y), q_letE (x + 2)]
    · rw [if_neg (by omega : ¬ c W = 1), if_pos hk, q_letE (x + 1), e2, q_biP y τ1, q_letE (q_si τ1 (q_rf X a 20) (x + 1).toNatClampNeg y), q_letE (x + 2)]
  -- the class
  obtain ⟨r, hr⟩ : ∃ r, r = F_X5_get X σ (q_rf X (q_rf X R 8) 3) v := ⟨_, rfl⟩
  rw [← hr] at r1
  have hn : ∀ σ0 : ST, (F_X8_hasName X σ0 r).toInt = 1 := fun σ0 => by
    unfold F_X8_hasName
    rw [r1]
    rcases hk with hk | hk
    · rw [if_pos hk]; rfl
    · rw [if_neg (by omega), if_pos hk]; rfl
  have hh : ∀ σ0 : ST, (F_X8_hasComparison X σ0 r).toInt = 0 := fun σ0 => by
    unfold F_X8_hasComparison F_X8_isWhen
    rw [r1, if_pos (by omega), q_letE, if_pos (by decide)]
    rfl
  have hi : ∀ σ0 : ST, F_X8_highest X σ0 r = 16 := fun σ0 => by
    unfold F_X8_highest
    rw [r1]
    rcases hk with hk | hk
    · rw [if_pos hk]
    · rw [if_neg (by omega), if_pos hk]
  unfold F_X4_readOperands
  rw [q_letE (F_X5_get X σ (q_rf X (q_rf X R 8) 3) v), ← hr, q_letE (F_X8_hasName X σ r), hn σ, if_neg (by decide : ¬ (1 : Int) = 0), e1, q_biP z σ1, ref]
  rcases o with ⟨q1, I2, fr2, g2⟩ | ⟨q1, F1, fr1⟩
  · rw [if_neg q1, q_letE (F_X5_set X σ1 (q_rf X (q_rf X R 8) 5) v z)]
    obtain ⟨σ2, h2⟩ : ∃ t, t = F_X5_set X σ1 (q_rf X (q_rf X R 8) 5) v z := ⟨_, rfl⟩
    obtain ⟨τ2, u2⟩ : ∃ t, t = q_si τ1 (q_rf X a 20) (x + 1).toNatClampNeg y := ⟨_, rfl⟩
    rw [← h2] at I2 fr2 ⊢
    rw [← u2] at I2 fr2 g2 ⊢
    obtain ⟨z3, y3, σ3, τ3, e3, e4, o⟩ := op_num Y D ha G I2 0 16 (by decide) hv hl i2 (by omega)
    unfold F_X4_readOperands_J47_1
    rw [q_letE (F_X8_hasComparison X σ2 r), hh σ2, if_pos rfl, q_letE (F_X8_highest X σ2 r), hi σ2, if_neg (by decide : ¬ (16 : Int32).toInt = -1), r1, if_neg (by omega : ¬ c W = 4), e3, q_biP z3 σ3, e4, q_biP y3 τ3, q_letE (F_X5_set X σ3 (q_rf X (q_rf X R 8) 7) v z3), q_letE (q_si τ3 (q_rf X a 20) (x + 2).toNatClampNeg y3)]
    have k2 := I2.2.2.1.b
    have k0 := K.b
    rcases o with ⟨q3, I4, fr4, g4, -⟩ | ⟨q3, F3, fr3⟩
    · rw [if_neg q3]
      refine ⟨1, _, rfl, fr2.tr fr4, Or.inl ⟨rfl, ⟨_, _, I4, ⟨fun id i h => ?_, fun j h => ?_⟩, ?_, ?_, ?_⟩, by omega⟩⟩
      · rw [y_up_ne (by omega), y_up_ne (by omega)]
      · rw [m_up_ne (by omega), m_up_ne (by omega)]
      · rw [y_up_ne (Or.inl (by decide)), y_up_ne (Or.inl (by decide))]
      · rw [y_up_ne (Or.inl (by decide)), y_up_eq, m_up_ne (by omega), m_up_eq]
      · rw [y_up_eq, m_up_eq]
    · rw [if_pos q3]
      exact ⟨0, _, rfl, fr2.tr fr3, Or.inr ⟨rfl, F3⟩⟩
  · rw [if_pos q1, rd_out X R T a g v _ F1.2.1]
    exact ⟨0, _, rfl, fr1.tr (rd_Fr.cw Y.1 ha rd_F.rf i2 (by omega)), Or.inr ⟨rfl, F1.tab Y.1 ha _ _⟩⟩
/-- a loop's number -/
theorem op_loop (Y : y_S X lb) (D : rd_D X lb R T) (ha : q_kd X a = 12) (G : y_G X lb g 1) (I : rd_I X R T a g n B Vg w σ τ U dp c s) {v x : Int32} (hv : v.toInt = l) (hl : 0 ≤ l ∧ l < 60) (hx : x.toInt = W) (hW : 3720 ≤ W ∧ W ≤ 5000) (hk : c W = 4) (hU : U 1 l = 4) :
    ∃ (z : Int32) (σ' : ST), F_X4_readOperands X σ R v (q_rf X g 0) = (z, σ') ∧ rd_O X R T a g n B Vg w dp s σ τ z σ' (F_X12_readRest X τ a x) (fun U' c' => rd_1 U U' c c' l W ∧ U' 1 l = U 1 l ∧ U' 5 l = c' (W + 1) ∧ 1 ≤ c' (W + 1) ∧ c' (W + 1) ≤ 99) := by
  have I0 := I
  obtain ⟨S, M, K, h0, hV⟩ := I
  have one : (1 : Int32).toInt = 1 := rfl
  have n1 : ((rdN 1 : Nat) : Int) = 60 := rfl
  have r1 : (F_X5_get X σ (q_rf X (q_rf X R 8) 3) v).toInt = 4 := (S.get Y D (id := 1) (r := q_rf X (q_rf X R 8) 3) ⟨by decide, by decide⟩ rfl hv hl.1 (by rw [n1]; exact hl.2)).trans hU
  have f1 : (τ.1 (q_rf X a 20) x.toNatClampNeg).toInt = 4 := (gm_cell M.2.1 hx).trans hk
  have i1 : (x + 1).toInt = W + 1 := by rw [ar_add, hx, one, ar_wr (by omega) (by omega)]
  obtain ⟨r, hr⟩ : ∃ r, r = F_X5_get X σ (q_rf X (q_rf X R 8) 3) v := ⟨_, rfl⟩
  rw [← hr] at r1
  have hn : (F_X8_hasName X σ r).toInt = 0 := by
    unfold F_X8_hasName
    rw [r1]
    rfl
  have hh : (F_X8_hasComparison X σ r).toInt = 0 := by
    unfold F_X8_hasComparison F_X8_isWhen
    rw [r1, if_pos (by decide), q_letE, if_pos (by decide)]
    rfl
  have hi : F_X8_highest X σ r = 99 := by
    unfold F_X8_highest
    rw [r1]
    rfl
  obtain ⟨z3, y3, σ3, τ3, e3, e4, o⟩ := op_num Y D ha G I0 1 99 (by decide) hv hl i1 (by omega)
  unfold F_X4_readOperands F_X12_readRest
  rw [q_letE (F_X5_get X σ (q_rf X (q_rf X R 8) 3) v), ← hr, q_letE (F_X8_hasName X σ r), hn, if_pos rfl, q_letE (τ.1 (q_rf X a 20) x.toNatClampNeg), f1, if_neg (by decide : ¬ (4 : Int) = 1), if_neg (by decide : ¬ (4 : Int) = 2), if_neg (by decide : ¬ (4 : Int) = 3), if_pos rfl, q_letE (x + 1)]
  unfold F_X4_readOperands_J47_1
  rw [q_letE (F_X8_hasComparison X σ r), hh, if_pos rfl, q_letE (F_X8_highest X σ r), hi, if_neg (by decide : ¬ (99 : Int32).toInt = -1), r1, if_pos rfl, e3, q_biP z3 σ3, e4, q_biP y3 τ3, q_letE (F_X5_set X σ3 (q_rf X (q_rf X R 8) 7) v z3), q_letE (q_si τ3 (q_rf X a 20) (x + 1).toNatClampNeg y3)]
  have k0 := K.b
  rcases o with ⟨q3, I4, fr4, g4, lo⟩ | ⟨q3, F3, fr3⟩
  · rw [if_neg q3]
    refine ⟨1, _, rfl, fr4, Or.inl ⟨rfl, ⟨_, _, I4, ⟨fun id i h => ?_, fun j h => ?_⟩, ?_, ?_, ?_⟩, by omega⟩⟩
    · rw [y_up_ne (by omega)]
    · rw [m_up_ne (by omega)]
    · rw [y_up_ne (Or.inl (by decide))]
    · rw [y_up_eq, m_up_eq]
    · rw [m_up_eq]
      exact lo
  · rw [if_pos q3]
    exact ⟨0, _, rfl, fr3, Or.inr ⟨rfl, F3⟩⟩
/-- turn and stop have none -/
theorem op_none (Y : y_S X lb) (D : rd_D X lb R T) (I : rd_I X R T a g n B Vg w σ τ U dp c s) {v x : Int32} (hv : v.toInt = l) (hl : 0 ≤ l ∧ l < 60) (hx : x.toInt = W) (hk : c W = 0 ∧ U 1 l = 0 ∨ c W = 5 ∧ U 1 l = 3) :
    ∃ (z : Int32) (σ' : ST), F_X4_readOperands X σ R v (q_rf X g 0) = (z, σ') ∧ rd_O X R T a g n B Vg w dp s σ τ z σ' (F_X12_readRest X τ a x) (fun U' c' => rd_1 U U' c c' l W ∧ U' 1 l = U 1 l) := by
  have I0 := I
  obtain ⟨S, M, K, h0, hV⟩ := I
  have n1 : ((rdN 1 : Nat) : Int) = 60 := rfl
  have r1 : (F_X5_get X σ (q_rf X (q_rf X R 8) 3) v).toInt = U 1 l := S.get Y D (id := 1) (r := q_rf X (q_rf X R 8) 3) ⟨by decide, by decide⟩ rfl hv hl.1 (by rw [n1]; exact hl.2)
  have f1 : (τ.1 (q_rf X a 20) x.toNatClampNeg).toInt = c W := gm_cell M.2.1 hx
  obtain ⟨r, hr⟩ : ∃ r, r = F_X5_get X σ (q_rf X (q_rf X R 8) 3) v := ⟨_, rfl⟩
  rw [← hr] at r1
  have hn : (F_X8_hasName X σ r).toInt = 0 := by
    unfold F_X8_hasName
    rcases hk with ⟨_, hk⟩ | ⟨_, hk⟩ <;> rw [r1, hk] <;> rfl
  have hh : (F_X8_hasComparison X σ r).toInt = 0 := by
    unfold F_X8_hasComparison F_X8_isWhen
    rw [r1, if_pos (by omega), q_letE, if_pos (by decide)]
    rfl
  have hi : F_X8_highest X σ r = -1 := by
    unfold F_X8_highest
    rcases hk with ⟨_, hk⟩ | ⟨_, hk⟩ <;> rw [r1, hk] <;> rfl
  unfold F_X4_readOperands F_X12_readRest
  rw [q_letE (F_X5_get X σ (q_rf X (q_rf X R 8) 3) v), ← hr, q_letE (F_X8_hasName X σ r), hn, if_pos rfl, q_letE (τ.1 (q_rf X a 20) x.toNatClampNeg), f1, if_neg (by omega : ¬ c W = 1), if_neg (by omega : ¬ c W = 2), if_neg (by omega : ¬ c W = 3), if_neg (by omega : ¬ c W = 4)]
  unfold F_X4_readOperands_J47_1
  rw [q_letE (F_X8_hasComparison X σ r), hh, if_pos rfl, q_letE (F_X8_highest X σ r), hi, if_pos (by decide : (-1 : Int32).toInt = -1)]
  exact ⟨1, σ, rfl, rd_Fr.rf, Or.inl ⟨rfl, ⟨U, c, I0, ⟨fun _ _ _ => rfl, fun _ _ => rfl⟩, rfl⟩, Int.le_refl _⟩⟩
end RO

/-! FROM 49t.whens.lean.txt -/
/-! A ROUND BEING READ: a when's test -/
theorem is_sg {X : XW} {τ : ST} {a : Nat} (v : Int32) : (F_X12_isSign X τ a v).toInt = if (τ.1 a 14).toInt = 3 ∧ (τ.1 a 17).toInt = v.toInt then 1 else 0 := by
  unfold F_X12_isSign
  rw [q_letE]
  by_cases q : (τ.1 a 14).toInt = 3
  · rw [if_pos q, q_letE]
    by_cases q2 : (τ.1 a 17).toInt = v.toInt
    · rw [if_pos q2, if_pos ⟨q, q2⟩]; rfl
    · rw [if_neg q2, if_neg (fun z => q2 z.2)]; rfl
  · rw [if_neg q, if_neg (fun z => q z.1)]; rfl
noncomputable def tl_q (X : XW) (a : Nat) (x r : Int32) (τ5 : ST) : ST := q_let (x + (2 : Int32) : Int32) (fun z => if r.toInt = 2 then q_bi (F_X12_count X τ5 a (0 : Int32) (999 : Int32)) (fun p q => q_let (q_si q (q_rf X a 20) z.toNatClampNeg p : ST) (fun u => u)) else q_bi (F_X12_count X τ5 a (0 : Int32) (80 : Int32)) (fun p q => q_let (q_si q (q_rf X a 20) z.toNatClampNeg p : ST) (fun u => u)))
theorem tl_q2 {X : XW} {a : Nat} {τ5 : ST} (h : 0 < (τ5.1 a 12).toInt) (x r : Int32) : tl_q X a x r τ5 = q_si τ5 (q_rf X a 20) (x + 2).toNatClampNeg 0 := by
  unfold tl_q
  rw [q_letE]
  by_cases q : r.toInt = 2
  · rw [if_pos q, tm_count2 h, q_biP, q_letE]
  · rw [if_neg q, tm_count2 h, q_biP, q_letE]
section RT
variable {X : XW} {lb : Nat → Nat} {R T a g : Nat} {σ τ σ' τ' : ST} {n dp s l W : Int} {B c w : Int → Int} {U Vg : Nat → Int → Int}
theorem cmp_ref (hT : q_T X) (ha : q_kd X a = 12) (h0 : (τ.1 a 12).toInt = 0) (x r : Int32) (hr : r.toInt ≠ 3) (sg : (τ.1 a 14).toInt = 3 → (τ.1 a 17).toInt = 59 ∨ (τ.1 a 17).toInt = 60 ∨ (τ.1 a 17).toInt = 61 ∨ (τ.1 a 17).toInt = 62) :
    ((τ.1 a 14).toInt = 3 ∧ (τ.1 a 17).toInt ≠ 59 → F_X12_readTest_J50_2 X a r x τ = tl_q X a x r (F_X12_next X (q_si τ (q_rf X a 20) (x + 7).toNatClampNeg (τ.1 a 17)) a)) ∧
    (¬ ((τ.1 a 14).toInt = 3 ∧ (τ.1 a 17).toInt ≠ 59) → ∃ v : Int32, F_X12_readTest_J50_2 X a r x τ = tl_q X a x r (F_X12_wrong X (q_si τ (q_rf X a 20) (x + 7).toNatClampNeg v) a)) := by
  have na : a ≠ q_rf X a 20 := Ne.symm (m_ne (tb_k hT ha).1 ha (by decide))
  have e60 : (60 : Int32).toInt = 60 := rfl
  have e61 : (61 : Int32).toInt = 61 := rfl
  have e62 : (62 : Int32).toInt = 62 := rfl
  have st : ∀ (v : Int32) (f : Nat), (q_si τ (q_rf X a 20) (x + 7).toNatClampNeg v).1 a f = τ.1 a f := fun v f => q_si_ne na f
  have isg : ∀ (v u : Int32), (F_X12_isSign X (q_si τ (q_rf X a 20) (x + 7).toNatClampNeg v) a u).toInt = if (τ.1 a 14).toInt = 3 ∧ (τ.1 a 17).toInt = u.toInt then 1 else 0 := fun v u => by
    rw [is_sg, st, st]
  have is1 : ∀ (v u : Int32), (τ.1 a 14).toInt = 3 ∧ (τ.1 a 17).toInt = u.toInt → (F_X12_isSign X (q_si τ (q_rf X a 20) (x + 7).toNatClampNeg v) a u).toInt = 1 := fun v u h => by rw [isg, if_pos h]
  have is0 : ∀ (v u : Int32), ¬ ((τ.1 a 14).toInt = 3 ∧ (τ.1 a 17).toInt = u.toInt) → (F_X12_isSign X (q_si τ (q_rf X a 20) (x + 7).toNatClampNeg v) a u).toInt = 0 := fun v u h => by rw [isg, if_neg h]
  have m1 : ∀ v : Int32, F_X12_must X (q_si τ (q_rf X a 20) (x + 7).toNatClampNeg v) a 1 = F_X12_next X (q_si τ (q_rf X a 20) (x + 7).toNatClampNeg v) a := fun v => tm_must1 (by rw [st]; exact h0) (by decide)
  have m0 : ∀ v : Int32, F_X12_must X (q_si τ (q_rf X a 20) (x + 7).toNatClampNeg v) a 0 = F_X12_wrong X (q_si τ (q_rf X a 20) (x + 7).toNatClampNeg v) a := fun v => tm_must0 (by rw [st]; exact h0) rfl
  unfold F_X12_readTest_J50_2
  rw [q_letE (τ.1 a 12), h0, if_neg (by decide : ¬ (0 : Int) < 0), if_neg hr, q_letE (x + 7), q_letE (τ.1 a 14)]
  by_cases q3 : (τ.1 a 14).toInt = 3
  · have sg' := sg q3
    rw [if_pos q3, q_letE (τ.1 a 17), q_letE (q_si τ (q_rf X a 20) (x + 7).toNatClampNeg (τ.1 a 17)), q_letE (F_X12_isSign X (q_si τ (q_rf X a 20) (x + 7).toNatClampNeg (τ.1 a 17)) a 60)]
    constructor
    · rintro ⟨-, q59⟩
      by_cases q60 : (τ.1 a 17).toInt = 60
      · rw [is1 _ 60 ⟨q3, q60⟩, if_neg (by decide : ¬ (1 : Int) = 0), q_letE (F_X12_must X (q_si τ (q_rf X a 20) (x + 7).toNatClampNeg (τ.1 a 17)) a 1), m1]
        rfl
      · rw [is0 _ 60 (fun z => q60 z.2), if_pos rfl, q_letE (F_X12_isSign X (q_si τ (q_rf X a 20) (x + 7).toNatClampNeg (τ.1 a 17)) a 62)]
        by_cases q62 : (τ.1 a 17).toInt = 62
        · rw [is1 _ 62 ⟨q3, q62⟩, if_neg (by decide : ¬ (1 : Int) = 0), q_letE (F_X12_must X (q_si τ (q_rf X a 20) (x + 7).toNatClampNeg (τ.1 a 17)) a 1), m1]
          rfl
        · rw [is0 _ 62 (fun z => q62 z.2), if_pos rfl, q_letE (F_X12_isSign X (q_si τ (q_rf X a 20) (x + 7).toNatClampNeg (τ.1 a 17)) a 61), is1 _ 61 ⟨q3, by omega⟩, if_neg (by decide : ¬ (1 : Int) = 0), q_letE (F_X12_must X (q_si τ (q_rf X a 20) (x + 7).toNatClampNeg (τ.1 a 17)) a 1), m1]
          rfl
    · intro q59
      have q59' : (τ.1 a 17).toInt = 59 := Classical.not_not.mp (fun z => q59 ⟨q3, z⟩)
      refine ⟨τ.1 a 17, ?_⟩
      rw [is0 _ 60 (by omega), if_pos rfl, q_letE (F_X12_isSign X (q_si τ (q_rf X a 20) (x + 7).toNatClampNeg (τ.1 a 17)) a 62), is0 _ 62 (by omega), if_pos rfl, q_letE (F_X12_isSign X (q_si τ (q_rf X a 20) (x + 7).toNatClampNeg (τ.1 a 17)) a 61), is0 _ 61 (by omega), if_pos rfl, q_letE (F_X12_must X (q_si τ (q_rf X a 20) (x + 7).toNatClampNeg (τ.1 a 17)) a 0), m0]
      rfl
  · refine ⟨fun z => absurd z.1 q3, fun _ => ⟨0, ?_⟩⟩
    rw [if_neg q3, q_letE (q_si τ (q_rf X a 20) (x + 7).toNatClampNeg 0), q_letE (F_X12_isSign X (q_si τ (q_rf X a 20) (x + 7).toNatClampNeg 0) a 60), is0 _ 60 (fun z => q3 z.1), if_pos rfl, q_letE (F_X12_isSign X (q_si τ (q_rf X a 20) (x + 7).toNatClampNeg 0) a 62), is0 _ 62 (fun z => q3 z.1), if_pos rfl, q_letE (F_X12_isSign X (q_si τ (q_rf X a 20) (x + 7).toNatClampNeg 0) a 61), is0 _ 61 (fun z => q3 z.1), if_pos rfl, q_letE (F_X12_must X (q_si τ (q_rf X a 20) (x + 7).toNatClampNeg 0) a 0), m0]
    rfl
/-- what must be compared, and with which number -/
theorem op_cmp (Y : y_S X lb) (D : rd_D X lb R T) (ha : q_kd X a = 12) (G : y_G X lb g 1) (I : rd_I X R T a g n B Vg w σ τ U dp c s) {v x r t : Int32} (hv : v.toInt = l) (hl : 0 ≤ l ∧ l < 60) (hx : x.toInt = W) (hW : 3720 ≤ W ∧ W ≤ 5000) (ht : 0 ≤ t.toInt ∧ t.toInt ≤ 2) (hr : r.toInt = 5 + t.toInt) :
    ∃ (z : Int32) (σ' : ST), F_X4_readOperands_J47_1 X r R v σ = (z, σ') ∧ rd_O X R T a g n B Vg w dp s σ τ z σ' (F_X12_readTest_J50_2 X a t x τ) (fun U' c' => rd_1 U U' c c' l W ∧ U' 1 l = U 1 l ∧ U' 3 l = U 3 l ∧ c' (W + 1) = c (W + 1) ∧ c' (W + 6) = c (W + 6) ∧ U' 4 l = c' (W + 7) ∧ U' 5 l = c' (W + 2)) := by
  have I0 := I
  obtain ⟨S, M, K, h0, hV⟩ := I
  have kb := K.b
  have nb := S.1.2.2.1
  obtain ⟨k1, k2, k3, k4, k5, k6, k7, k8⟩ := id K
  have two : (2 : Int32).toInt = 2 := rfl
  have e7 : (7 : Int32).toInt = 7 := rfl
  have n4 : ((rdN 4 : Nat) : Int) = 60 := rfl
  have i2 : (x + 2).toInt = W + 2 := by rw [ar_add, hx, two, ar_wr (by omega) (by omega)]
  have i7 : (x + 7).toInt = W + 7 := by rw [ar_add, hx, e7, ar_wr (by omega) (by omega)]
  -- a sign is one of four
  have sgn : (τ.1 a 14).toInt = 3 → (τ.1 a 17).toInt = 59 ∨ (τ.1 a 17).toInt = 60 ∨ (τ.1 a 17).toInt = 61 ∨ (τ.1 a 17).toInt = 62 := fun q => by
    rw [k6.1 q]
    rcases k5 with z | z | z | z
    · omega
    · omega
    · rcases z.2.2.2 with z | z <;> omega
    · rcases z.2.2.2.2 with y | y
      · have y1 := y.1
        unfold tx_sg at y1
        omega
      · omega
  obtain ⟨c1, c2⟩ := cmp_ref (X := X) (τ := τ) Y.1 ha h0 x t (by omega) sgn
  have hh : (F_X8_hasComparison X σ r).toInt = 1 := by
    unfold F_X8_hasComparison F_X8_isWhen
    rw [if_neg (by omega), if_neg (by have e8 : (8 : Int32).toInt = 8 := rfl; omega), q_letE, if_neg (by decide), if_neg (by omega)]
    rfl
  have hh' : ∀ σ0 : ST, F_X8_highest X σ0 r = if t.toInt = 2 then 999 else 80 := fun σ0 => by
    unfold F_X8_highest
    rw [if_neg (by omega), if_neg (by omega), if_neg (by omega), if_neg (by omega)]
    by_cases q : t.toInt = 0
    · rw [if_pos (by omega), if_neg (by omega)]
    · rw [if_neg (by omega)]
      by_cases q2 : t.toInt = 1
      · rw [if_pos (by omega), if_neg (by omega)]
      · rw [if_neg (by omega), if_pos (by omega), if_pos (by omega)]
  unfold F_X4_readOperands_J47_1
  rw [q_letE (F_X8_hasComparison X σ r), hh, if_neg (by decide : ¬ (1 : Int) = 0), q_letE (F_X3_signAt X σ R 0), q_letE (σ.1 R 4), k3]
  by_cases q : (τ.1 a 14).toInt = 3 ∧ (τ.1 a 17).toInt ≠ 59
  · have sg := tc_sig S.1 k1 ⟨k7, by omega⟩ (v := 0) (i := 0) rfl ⟨by decide, by decide⟩
    rw [Int.add_zero, tx_D_in k7 (by omega), ← k6.1 q.1] at sg
    rw [if_pos q.1, sg, if_neg q.2, q_letE (F_X5_set X σ (q_rf X (q_rf X R 8) 6) v (F_X3_signAt X σ R 0)), c1 q]
    obtain ⟨sv, hsv⟩ : ∃ t, t = F_X3_signAt X σ R 0 := ⟨_, rfl⟩
    rw [← hsv] at sg ⊢
    obtain ⟨S1, f1⟩ := S.set Y D (id := 4) (r := q_rf X (q_rf X R 8) 6) ⟨by decide, by decide⟩ rfl hv sv hl.1 (by rw [n4]; exact hl.2)
    obtain ⟨M1, sm1⟩ := M.cw Y.1 ha (i := x + 7) (v := τ.1 a 17) i7 (by omega)
    have sc := rd_sameS (σ := σ) Y D (id := 4) (r := q_rf X (q_rf X R 8) 6) ⟨by decide, by decide⟩ rfl (x := v) sv (by omega) (by rw [n4]; omega)
    have K1 := K.same sc sm1
    have fr1 := rd_Fr.cw (τ := τ) (v := τ.1 a 17) Y.1 ha f1 i7 (by omega)
    obtain ⟨σ1, h1⟩ : ∃ t, t = F_X5_set X σ (q_rf X (q_rf X R 8) 6) v sv := ⟨_, rfl⟩
    obtain ⟨τ1, u1⟩ : ∃ t, t = q_si τ (q_rf X a 20) (x + 7).toNatClampNeg (τ.1 a 17) := ⟨_, rfl⟩
    rw [← h1] at S1 f1 K1 fr1 ⊢
    rw [← u1] at M1 sm1 K1 fr1 ⊢
    obtain ⟨x1, x2, K2, g2⟩ := tl_adv2 S1.1 M1.1 K1
    obtain ⟨S2, f2⟩ := S1.rd D x1.S2
    have M2 := M1.rd Y.1 ha x2.S2
    have fr2 := fr1.tr (rd_Fr.rd (τ := τ1) Y.1 ha D S1 x1.S2 x2.S2)
    have h02 : ((F_X12_next X τ1 a).1 a 12).toInt = 0 := by
      rw [tn_12 x2, sm1.1 12 (by decide) (by decide)]; exact h0
    obtain ⟨σ2, h2⟩ : ∃ t, t = F_X3_advance X σ1 R := ⟨_, rfl⟩
    obtain ⟨τ2, u2⟩ : ∃ t, t = F_X12_next X τ1 a := ⟨_, rfl⟩
    rw [q_letE (F_X3_advance X σ1 R), ← h2, ← u2]
    rw [← h2] at S2 f2 K2 fr2
    rw [← u2] at M2 K2 fr2 h02 g2
    have V2 : y_v X g σ2 = Vg := by rw [fr2.1.v Y D G (by decide), hV]
    have k2b := K2.b
    have e16 : τ1.1 a 16 = τ.1 a 16 := sm1.1 16 (by decide) (by decide)
    rw [q_letE (F_X8_highest X σ2 r), hh' σ2]
    unfold tl_q
    rw [q_letE (x + 2)]
    -- the number
    have fin : ∀ hi : Int32, hi.toInt ≠ -1 → ∃ (z : Int32) (σ' : ST), q_bi (F_X3_passNumber X σ2 R (0 : Int32) hi) (fun r_43 σ_44 => q_let (F_X5_set X σ_44 (q_rf X (q_rf X R 8) 7) v r_43 : ST) (fun σ_46 => if r_43.toInt = (-1) then ((0 : Int32), σ_46) else ((1 : Int32), σ_46))) = (z, σ') ∧ rd_O X R T a g n B Vg w dp s σ τ z σ' (q_bi (F_X12_count X τ2 a (0 : Int32) hi) (fun p q => q_let (q_si q (q_rf X a 20) (x + 2).toNatClampNeg p : ST) (fun u => u))) (fun U' c' => rd_1 U U' c c' l W ∧ U' 1 l = U 1 l ∧ U' 3 l = U 3 l ∧ c' (W + 1) = c (W + 1) ∧ c' (W + 6) = c (W + 6) ∧ U' 4 l = c' (W + 7) ∧ U' 5 l = c' (W + 2)) := by
      intro hi _
      obtain ⟨z3, y3, σ3, τ3, e3, e4, o⟩ := op_num Y D ha G ⟨S2, M2, K2, h02, V2⟩ 0 hi (by decide) hv hl i2 (by omega)
      rw [e3, q_biP z3 σ3, e4, q_biP y3 τ3, q_letE (F_X5_set X σ3 (q_rf X (q_rf X R 8) 7) v z3), q_letE (q_si τ3 (q_rf X a 20) (x + 2).toNatClampNeg y3)]
      rcases o with ⟨q3, I4, fr4, g4, -⟩ | ⟨q3, F3, fr3⟩
      · rw [if_neg q3]
        refine ⟨1, _, rfl, fr2.tr fr4, Or.inl ⟨rfl, ⟨_, _, I4, ⟨fun id i h => ?_, fun j h => ?_⟩, ?_, ?_, ?_, ?_, ?_, ?_⟩, by rw [e16] at g2; omega⟩⟩
        · rw [y_up_ne (by omega), y_up_ne (by omega)]
        · rw [m_up_ne (by omega), m_up_ne (by omega)]
        · rw [y_up_ne (Or.inl (by decide)), y_up_ne (Or.inl (by decide))]
        · rw [y_up_ne (Or.inl (by decide)), y_up_ne (Or.inl (by decide))]
        · rw [m_up_ne (by omega), m_up_ne (by omega)]
        · rw [m_up_ne (by omega), m_up_ne (by omega)]
        · rw [y_up_ne (Or.inl (by decide)), y_up_eq, m_up_ne (by omega), m_up_eq, sg]
        · rw [y_up_eq, m_up_eq]
      · rw [if_pos q3]
        exact ⟨0, _, rfl, fr2.tr fr3, Or.inr ⟨rfl, F3⟩⟩
    by_cases qt : t.toInt = 2
    · rw [if_pos qt, if_pos qt, if_neg (by decide : ¬ (999 : Int32).toInt = -1), if_neg (by omega : ¬ r.toInt = 4)]
      exact fin 999 (by decide)
    · rw [if_neg qt, if_neg qt, if_neg (by decide : ¬ (80 : Int32).toInt = -1), if_neg (by omega : ¬ r.toInt = 4)]
      exact fin 80 (by decide)
  · obtain ⟨u, c2'⟩ := c2 q
    obtain ⟨M1, sm1⟩ := M.cw Y.1 ha (i := x + 7) (v := u) i7 (by omega)
    have K1 := K.same tl_sameC.rf sm1
    have fr1 := rd_Fr.cw (τ := τ) (v := u) Y.1 ha (rd_F.rf (X := X) (R := R) (σ := σ)) i7 (by omega)
    obtain ⟨τ1, u1⟩ : ∃ t, t = q_si τ (q_rf X a 20) (x + 7).toNatClampNeg u := ⟨_, rfl⟩
    rw [← u1] at M1 sm1 K1 fr1 c2'
    have h01 : (τ1.1 a 12).toInt = 0 := by rw [sm1.1 12 (by decide) (by decide)]; exact h0
    obtain ⟨σ', y1, y2, y3, y4⟩ := tl_wrong (X := X) K1 h01
    have fr2 := fr1.tr (rd_Fr.rd (τ := τ1) Y.1 ha D S y2 y3)
    rw [c2', tl_q2 y4.2.1]
    have fin : rd_O X R T a g n B Vg w dp s σ τ 0 σ' (q_si (F_X12_wrong X τ1 a) (q_rf X a 20) (x + 2).toNatClampNeg 0) (fun U' c' => rd_1 U U' c c' l W ∧ U' 1 l = U 1 l ∧ U' 3 l = U 3 l ∧ c' (W + 1) = c (W + 1) ∧ c' (W + 6) = c (W + 6) ∧ U' 4 l = c' (W + 7) ∧ U' 5 l = c' (W + 2)) := ⟨fr2.tr (rd_Fr.cw Y.1 ha rd_F.rf i2 (by omega)), Or.inr ⟨rfl, y4.tab Y.1 ha _ _⟩⟩
    by_cases q3 : (τ.1 a 14).toInt = 3
    · have q59 : (τ.1 a 17).toInt = 59 := Classical.not_not.mp (fun z => q ⟨q3, z⟩)
      have sg := tc_sig S.1 k1 ⟨k7, by omega⟩ (v := 0) (i := 0) rfl ⟨by decide, by decide⟩
      rw [Int.add_zero, tx_D_in k7 (by omega), ← k6.1 q3, q59] at sg
      rw [if_pos q3, if_pos sg, y1, q_biP 0 σ']
      exact ⟨0, σ', rfl, fin⟩
    · rw [if_neg q3, y1, q_biP 0 σ']
      exact ⟨0, σ', rfl, fin⟩
end RT

/-! FROM 49u.when.lean.txt -/
/-! A ROUND BEING READ: a when -/
/-- what a when's line and step have -/
def rd_w (U : Nat → Int → Int) (c : Int → Int) (l W : Int) : Prop :=
  (c (W + 6) = 0 ∧ U 1 l = 5 ∧ U 3 l = c (W + 1) ∧ U 4 l = c (W + 7) ∧ U 5 l = c (W + 2)) ∨ (c (W + 6) = 1 ∧ U 1 l = 6 ∧ U 4 l = c (W + 7) ∧ U 5 l = c (W + 2)) ∨ (c (W + 6) = 2 ∧ U 1 l = 7 ∧ U 3 l = c (W + 1) ∧ U 4 l = c (W + 7) ∧ U 5 l = c (W + 2)) ∨ (c (W + 6) = 3 ∧ U 1 l = 8)
theorem rd_1.tr {U U1 U2 : Nat → Int → Int} {c c1 c2 : Int → Int} {l W : Int} (h : rd_1 U U1 c c1 l W) (k : rd_1 U1 U2 c1 c2 l W) : rd_1 U U2 c c2 l W := ⟨fun id i q => (k.1 id i q).trans (h.1 id i q), fun j q => (k.2 j q).trans (h.2 j q)⟩
section RU
variable {X : XW} {lb : Nat → Nat} {R T a g : Nat} {σ τ σ' τ' : ST} {n dp s l W : Int} {B c w : Int → Int} {U Vg : Nat → Int → Int}
theorem hn_val (r : Int32) {k : Int} (h : r.toInt = k) (σ0 : ST) : (F_X8_hasName X σ0 r).toInt = if k = 1 ∨ k = 2 ∨ k = 5 ∨ k = 7 then 1 else 0 := by
  unfold F_X8_hasName
  rw [h]
  by_cases q1 : k = 1
  · rw [if_pos q1, if_pos (Or.inl q1)]; rfl
  · rw [if_neg q1]
    by_cases q2 : k = 2
    · rw [if_pos q2, if_pos (Or.inr (Or.inl q2))]; rfl
    · rw [if_neg q2]
      by_cases q5 : k = 5
      · rw [if_pos q5, if_pos (Or.inr (Or.inr (Or.inl q5)))]; rfl
      · rw [if_neg q5]
        by_cases q7 : k = 7
        · rw [if_pos q7, if_pos (Or.inr (Or.inr (Or.inr q7)))]; rfl
        · rw [if_neg q7, if_neg (by omega)]; rfl
theorem hn_1 (r : Int32) {k : Int} (h : r.toInt = k) (σ0 : ST) (q : k = 1 ∨ k = 2 ∨ k = 5 ∨ k = 7) : (F_X8_hasName X σ0 r).toInt = 1 := by rw [hn_val r h, if_pos q]
theorem hn_0 (r : Int32) {k : Int} (h : r.toInt = k) (σ0 : ST) (q : ¬ (k = 1 ∨ k = 2 ∨ k = 5 ∨ k = 7)) : (F_X8_hasName X σ0 r).toInt = 0 := by rw [hn_val r h, if_neg q]
/-- the class's operands behind a test: without a name, with one -/
theorem op_tail (Y : y_S X lb) (D : rd_D X lb R T) (ha : q_kd X a = 12) (G : y_G X lb g 1) (I : rd_I X R T a g n B Vg w σ τ U dp c s) (hP6 : 0 ≤ c 2 ∧ c 2 ≤ 6) (hP : Vg 1 4 = c 2) (N : y_nm Vg w 0 (c 2)) {v x t : Int32} (hv : v.toInt = l) (hl : 0 ≤ l ∧ l < 60) (hx : x.toInt = W) (hW : 3720 ≤ W ∧ W ≤ 5000) (ht : 0 ≤ t.toInt ∧ t.toInt ≤ 2) (hU : U 1 l = 5 + t.toInt) (hc6 : c (W + 6) = t.toInt) :
    ∃ (z : Int32) (σ' : ST), F_X4_readOperands X σ R v (q_rf X g 0) = (z, σ') ∧ rd_O X R T a g n B Vg w dp s σ τ z σ' (if t.toInt = 1 then F_X12_readTest_J50_2 X a t x τ else q_let (x + (1 : Int32) : Int32) (fun z_164 => q_bi (F_X12_readTold X τ a (0 : Int32)) (fun r_166 σ_167 => q_let (q_si σ_167 (q_rf X a 20) z_164.toNatClampNeg r_166 : ST) (fun σ_168 => F_X12_readTest_J50_2 X a t x σ_168)))) (fun U' c' => rd_1 U U' c c' l W ∧ rd_w U' c' l W) := by
  have I0 := I
  obtain ⟨S, M, K, h0, hV⟩ := I
  have one : (1 : Int32).toInt = 1 := rfl
  have n1 : ((rdN 1 : Nat) : Int) = 60 := rfl
  have kb := K.b
  have r1 : (F_X5_get X σ (q_rf X (q_rf X R 8) 3) v).toInt = 5 + t.toInt := (S.get Y D (id := 1) (r := q_rf X (q_rf X R 8) 3) ⟨by decide, by decide⟩ rfl hv hl.1 (by rw [n1]; exact hl.2)).trans hU
  have i1 : (x + 1).toInt = W + 1 := by rw [ar_add, hx, one, ar_wr (by omega) (by omega)]
  obtain ⟨r, hr⟩ : ∃ r, r = F_X5_get X σ (q_rf X (q_rf X R 8) 3) v := ⟨_, rfl⟩
  rw [← hr] at r1
  unfold F_X4_readOperands
  rw [q_letE (F_X5_get X σ (q_rf X (q_rf X R 8) 3) v), ← hr, q_letE (F_X8_hasName X σ r)]
  by_cases q : t.toInt = 1
  · rw [hn_0 r r1 σ (by omega), if_pos rfl, if_pos q]
    obtain ⟨z, σ', e, fr, o⟩ := op_cmp Y D ha G I0 hv hl hx hW ht r1
    refine ⟨z, σ', e, fr, ?_⟩
    rcases o with ⟨o1, ⟨U', c', I', p1, p2, p3, p4, p5, p6, p7⟩, o3⟩ | o
    · exact Or.inl ⟨o1, ⟨U', c', I', p1, Or.inr (Or.inl ⟨by rw [p5, hc6]; exact q, by rw [p2, hU]; omega, p6, p7⟩)⟩, o3⟩
    · exact Or.inr o
  · rw [hn_1 r r1 σ (by omega), if_neg (by decide : ¬ (1 : Int) = 0), if_neg q]
    obtain ⟨z, y, σ1, τ1, e1, e2, o⟩ := op_player Y D ha G I0 hP6 hP N hv hl i1 (by omega)
    rw [e1, q_biP z σ1, q_letE (x + 1), e2, q_biP y τ1, q_letE (q_si τ1 (q_rf X a 20) (x + 1).toNatClampNeg y)]
    rcases o with ⟨q1, I2, fr2, g2⟩ | ⟨q1, F1, fr1⟩
    · rw [if_neg q1, q_letE (F_X5_set X σ1 (q_rf X (q_rf X R 8) 5) v z)]
      obtain ⟨z3, σ3, e3, fr3, o⟩ := op_cmp Y D ha G I2 hv hl hx hW ht r1
      rw [e3]
      have k2 := I2.2.2.1.b
      refine ⟨z3, σ3, rfl, fr2.tr fr3, ?_⟩
      rcases o with ⟨o1, ⟨U', c', I', p1, p2, p3, p4, p5, p6, p7⟩, o3⟩ | o
      · refine Or.inl ⟨o1, ⟨U', c', I', ?_, ?_⟩, by omega⟩
        · refine rd_1.tr ⟨fun id i h => ?_, fun j h => ?_⟩ p1
          · rw [y_up_ne (by omega)]
          · rw [m_up_ne (by omega)]
        · have f6 : c' (W + 6) = t.toInt := by rw [p5, m_up_ne (by omega)]; exact hc6
          have fU : U' 1 l = 5 + t.toInt := by rw [p2, y_up_ne (Or.inl (by decide))]; exact hU
          have f3 : U' 3 l = c' (W + 1) := by rw [p3, p4, y_up_eq, m_up_eq]
          by_cases qt : t.toInt = 0
          · exact Or.inl ⟨by omega, by omega, f3, p6, p7⟩
          · exact Or.inr (Or.inr (Or.inl ⟨by omega, by omega, f3, p6, p7⟩))
      · exact Or.inr o
    · have j50 : F_X12_readTest_J50_2 X a t x (q_si τ1 (q_rf X a 20) (x + 1).toNatClampNeg y) = q_si τ1 (q_rf X a 20) (x + 1).toNatClampNeg y := by
        unfold F_X12_readTest_J50_2
        rw [q_letE, if_pos F1.2.1]
      rw [if_pos q1, j50]
      exact ⟨0, σ1, rfl, fr1, Or.inr ⟨rfl, F1⟩⟩
/-- a when: its test, a name, a comparison -/
theorem op_when (Y : y_S X lb) (D : rd_D X lb R T) (ha : q_kd X a = 12) (G : y_G X lb g 1) (I : rd_I X R T a g n B Vg w σ τ U dp c s) (hP6 : 0 ≤ c 2 ∧ c 2 ≤ 6) (hP : Vg 1 4 = c 2) (N : y_nm Vg w 0 (c 2)) {v x : Int32} (hv : v.toInt = l) (hl : 0 ≤ l ∧ l < 60) (hx : x.toInt = W) (hW : 3720 ≤ W ∧ W ≤ 5000) (hk : c W = 3) (hU : U 1 l = 8) :
    ∃ (z : Int32) (σ' : ST), q_bi (F_X4_readTest X σ R v) (fun r1 σ1 => if r1.toInt = 0 then ((0 : Int32), σ1) else F_X4_readOperands X σ1 R v (q_rf X g 0)) = (z, σ') ∧ rd_O X R T a g n B Vg w dp s σ τ z σ' (F_X12_readRest X τ a x) (fun U' c' => rd_1 U U' c c' l W ∧ rd_w U' c' l W) := by
  have I0 := I
  obtain ⟨S, M, K, h0, hV⟩ := I
  have six : (6 : Int32).toInt = 6 := rfl
  have n1 : ((rdN 1 : Nat) : Int) = 60 := rfl
  have kb := K.b
  have i6 : (x + 6).toInt = W + 6 := by rw [ar_add, hx, six, ar_wr (by omega) (by omega)]
  have f1 : (τ.1 (q_rf X a 20) x.toNatClampNeg).toInt = 3 := (gm_cell M.2.1 hx).trans hk
  have hT := Y.1
  have tw := tm_testWord (X := X) (σ := τ) (a := a)
  have c18 : y_cw 18 = 3197075 := rfl
  have c19 : y_cw 19 = 267312 := rfl
  have c20 : y_cw 20 = 20201198 := rfl
  have c21 : y_cw 21 = 24046 := rfl
  rw [← c18, ← c19, ← c20, ← c21] at tw
  have iw : ∀ rr : Nat, y_isw rr → (F_X3_isWord X σ R rr).toInt = if (τ.1 a 14).toInt = 1 ∧ (τ.2.1 a 19).toInt = y_cw rr then 1 else 0 := fun rr hr => tl_isWord S.1 K hr
  have ref : F_X12_readRest X τ a x = F_X12_readTest X τ a x := by
    unfold F_X12_readRest
    rw [q_letE (τ.1 (q_rf X a 20) x.toNatClampNeg), f1, if_neg (by decide : ¬ (3 : Int) = 1), if_neg (by decide : ¬ (3 : Int) = 2), if_pos rfl, q_letE]
  rw [ref]
  unfold F_X12_readTest
  rw [q_letE (F_X12_testWord X τ a)]
  obtain ⟨t, ht⟩ : ∃ t, t = F_X12_testWord X τ a := ⟨_, rfl⟩
  rw [← ht] at tw ⊢
  -- the class's word of test k, the action put down
  have good : ∀ (k A : Int32), t.toInt = k.toInt → 0 ≤ k.toInt → k.toInt ≤ 2 → A.toInt = 5 + k.toInt → ∃ (z : Int32) (σ' : ST), F_X4_readOperands X (F_X3_advance X (F_X5_set X σ (q_rf X (q_rf X R 8) 3) v A) R) R v (q_rf X g 0) = (z, σ') ∧ rd_O X R T a g n B Vg w dp s σ τ z σ' (if t.toInt < 0 then F_X12_readTest_J15_1 X τ a x t (0 : Int32) else F_X12_readTest_J15_1 X τ a x t (1 : Int32)) (fun U' c' => rd_1 U U' c c' l W ∧ rd_w U' c' l W) := by
    intro k A tk0 k0 k2 hA
    obtain ⟨S1, f1'⟩ := S.set Y D (id := 1) (r := q_rf X (q_rf X R 8) 3) ⟨by decide, by decide⟩ rfl hv A hl.1 (by rw [n1]; exact hl.2)
    have sc := rd_sameS (σ := σ) Y D (id := 1) (r := q_rf X (q_rf X R 8) 3) ⟨by decide, by decide⟩ rfl (x := v) A (by omega) (by rw [n1]; omega)
    have K1 := K.same sc (tl_same.rf (a := a) (τ := τ))
    have fr1 : rd_Fr X R a σ _ τ τ := rd_Fr.cl f1'
    obtain ⟨σ1, h1⟩ : ∃ t, t = F_X5_set X σ (q_rf X (q_rf X R 8) 3) v A := ⟨_, rfl⟩
    rw [← h1] at S1 f1' K1 fr1 ⊢
    obtain ⟨x1, x2, K2, g2⟩ := tl_adv2 S1.1 M.1 K1
    obtain ⟨S2, f2⟩ := S1.rd D x1.S2
    have M2 := M.rd hT ha x2.S2
    have fr2 := fr1.tr (rd_Fr.rd (τ := τ) hT ha D S1 x1.S2 x2.S2)
    have h02 : ((F_X12_next X τ a).1 a 12).toInt = 0 := by rw [tn_12 x2]; exact h0
    have mu := tm_must1 (X := X) (v := 1) h0 (by decide)
    obtain ⟨σ2, h2⟩ : ∃ t, t = F_X3_advance X σ1 R := ⟨_, rfl⟩
    obtain ⟨τ2, u2⟩ : ∃ t, t = F_X12_next X τ a := ⟨_, rfl⟩
    rw [← h2] at S2 f2 K2 fr2 ⊢
    rw [← u2] at M2 K2 fr2 h02 g2 mu
    obtain ⟨M3, sm3⟩ := M2.cw hT ha (i := x + 6) (v := t) i6 (by omega)
    have K3 := K2.same tl_sameC.rf sm3
    have fr3 := fr2.tr (rd_Fr.cw (τ := τ2) (v := t) hT ha (rd_F.rf (X := X) (R := R) (σ := σ2)) i6 (by omega))
    have V3 : y_v X g σ2 = Vg := by rw [fr2.1.v Y D G (by decide), hV]
    obtain ⟨τ3, u3⟩ : ∃ t', t' = q_si τ2 (q_rf X a 20) (x + 6).toNatClampNeg t := ⟨_, rfl⟩
    rw [← u3] at M3 sm3 K3 fr3
    have h03 : (τ3.1 a 12).toInt = 0 := by rw [sm3.1 12 (by decide) (by decide)]; exact h02
    rw [hA] at S2
    obtain ⟨z, σ', e, fr4, o⟩ := op_tail Y D ha G (v := v) (x := x) (t := t) ⟨S2, M3, K3, h03, V3⟩ (by rw [m_up_ne (by omega)]; exact hP6) (by rw [m_up_ne (by omega)]; exact hP) (by rw [m_up_ne (by omega)]; exact N) hv hl hx hW (by omega) (by rw [y_up_eq]; omega) (m_up_eq _ _ _)
    have rj : (if t.toInt < 0 then F_X12_readTest_J15_1 X τ a x t (0 : Int32) else F_X12_readTest_J15_1 X τ a x t (1 : Int32)) = (if t.toInt = 1 then F_X12_readTest_J50_2 X a t x τ3 else q_let (x + (1 : Int32) : Int32) (fun z_164 => q_bi (F_X12_readTold X τ3 a (0 : Int32)) (fun r_166 σ_167 => q_let (q_si σ_167 (q_rf X a 20) z_164.toNatClampNeg r_166 : ST) (fun σ_168 => F_X12_readTest_J50_2 X a t x σ_168)))) := by
      rw [if_neg (by omega)]
      unfold F_X12_readTest_J15_1
      rw [mu, q_letE τ2, q_letE (x + 6), q_letE (q_si τ2 (q_rf X a 20) (x + 6).toNatClampNeg t), ← u3]
      by_cases q0 : t.toInt = 0
      · rw [if_pos q0, if_neg (by omega)]
      · rw [if_neg q0]
        by_cases q2 : t.toInt = 2
        · rw [if_pos q2, if_neg (by omega)]
        · rw [if_neg q2, if_pos (by omega)]
    have k3b := K3.b
    have e15 : τ3.1 a 15 = τ2.1 a 15 := sm3.1 15 (by decide) (by decide)
    rw [rj]
    refine ⟨z, σ', e, fr3.tr fr4, ?_⟩
    rcases o with ⟨o1, ⟨U', c', I', p1, p2⟩, o3⟩ | o
    · refine Or.inl ⟨o1, ⟨U', c', I', rd_1.tr ⟨fun id i h => ?_, fun j h => ?_⟩ p1, p2⟩, by rw [e15] at o3; omega⟩
      · rw [y_up_ne (by omega)]
      · rw [m_up_ne (by omega)]
    · exact Or.inr o
  unfold F_X4_readTest
  rw [q_letE (F_X3_isWord X σ R 18), iw 18 ⟨by decide, by decide⟩]
  by_cases w18 : (τ.1 a 14).toInt = 1 ∧ (τ.2.1 a 19).toInt = y_cw 18
  · rw [if_pos w18] at tw
    rw [if_pos w18, if_neg (by decide : ¬ (1 : Int) = 0), q_letE (F_X5_set X σ (q_rf X (q_rf X R 8) 3) v 5), q_letE (F_X3_advance X (F_X5_set X σ (q_rf X (q_rf X R 8) 3) v 5) R), q_biP 1, if_neg (by decide : ¬ (1 : Int32).toInt = 0)]
    exact good 0 5 tw (by decide) (by decide) rfl
  rw [if_neg w18] at tw
  rw [if_neg w18, if_pos rfl, q_letE (F_X3_isWord X σ R 19), iw 19 ⟨by decide, by decide⟩]
  by_cases w19 : (τ.1 a 14).toInt = 1 ∧ (τ.2.1 a 19).toInt = y_cw 19
  · rw [if_pos w19] at tw
    rw [if_pos w19, if_neg (by decide : ¬ (1 : Int) = 0), q_letE (F_X5_set X σ (q_rf X (q_rf X R 8) 3) v 6), q_letE (F_X3_advance X (F_X5_set X σ (q_rf X (q_rf X R 8) 3) v 6) R), q_biP 1, if_neg (by decide : ¬ (1 : Int32).toInt = 0)]
    exact good 1 6 tw (by decide) (by decide) rfl
  rw [if_neg w19] at tw
  rw [if_neg w19, if_pos rfl, q_letE (F_X3_isWord X σ R 20), iw 20 ⟨by decide, by decide⟩]
  by_cases w20 : (τ.1 a 14).toInt = 1 ∧ (τ.2.1 a 19).toInt = y_cw 20
  · rw [if_pos w20] at tw
    rw [if_pos w20, if_neg (by decide : ¬ (1 : Int) = 0), q_letE (F_X5_set X σ (q_rf X (q_rf X R 8) 3) v 7), q_letE (F_X3_advance X (F_X5_set X σ (q_rf X (q_rf X R 8) 3) v 7) R), q_biP 1, if_neg (by decide : ¬ (1 : Int32).toInt = 0)]
    exact good 2 7 tw (by decide) (by decide) rfl
  rw [if_neg w20] at tw
  rw [if_neg w20, if_pos rfl, q_letE (F_X3_isWord X σ R 21), iw 21 ⟨by decide, by decide⟩]
  by_cases w21 : (τ.1 a 14).toInt = 1 ∧ (τ.2.1 a 19).toInt = y_cw 21
  · rw [if_pos w21] at tw
    rw [if_pos w21, if_neg (by decide : ¬ (1 : Int) = 0), q_letE (F_X3_advance X σ R), q_biP 1, if_neg (by decide : ¬ (1 : Int32).toInt = 0)]
    obtain ⟨x1, x2, K2, g2⟩ := tl_adv2 S.1 M.1 K
    obtain ⟨S2, f2⟩ := S.rd D x1.S2
    have M2 := M.rd hT ha x2.S2
    have fr2 := rd_Fr.rd (τ := τ) hT ha D S x1.S2 x2.S2
    have h02 : ((F_X12_next X τ a).1 a 12).toInt = 0 := by rw [tn_12 x2]; exact h0
    have mu := tm_must1 (X := X) (v := 1) h0 (by decide)
    obtain ⟨σ2, h2⟩ : ∃ t, t = F_X3_advance X σ R := ⟨_, rfl⟩
    obtain ⟨τ2, u2⟩ : ∃ t, t = F_X12_next X τ a := ⟨_, rfl⟩
    rw [← h2] at S2 f2 K2 fr2 ⊢
    rw [← u2] at M2 K2 fr2 h02 g2 mu
    obtain ⟨M3, sm3⟩ := M2.cw hT ha (i := x + 6) (v := t) i6 (by omega)
    have K3 := K2.same tl_sameC.rf sm3
    have fr3 := fr2.tr (rd_Fr.cw (τ := τ2) (v := t) hT ha (rd_F.rf (X := X) (R := R) (σ := σ2)) i6 (by omega))
    have V3 : y_v X g σ2 = Vg := by rw [fr2.1.v Y D G (by decide), hV]
    have h03 : ((q_si τ2 (q_rf X a 20) (x + 6).toNatClampNeg t).1 a 12).toInt = 0 := by rw [sm3.1 12 (by decide) (by decide)]; exact h02
    have rj : (if t.toInt < 0 then F_X12_readTest_J15_1 X τ a x t (0 : Int32) else F_X12_readTest_J15_1 X τ a x t (1 : Int32)) = q_si τ2 (q_rf X a 20) (x + 6).toNatClampNeg t := by
      rw [if_neg (by omega)]
      unfold F_X12_readTest_J15_1
      rw [mu, q_letE τ2, q_letE (x + 6), q_letE (q_si τ2 (q_rf X a 20) (x + 6).toNatClampNeg t), if_neg (by omega), if_neg (by omega)]
      unfold F_X12_readTest_J50_2
      rw [q_letE, h03, if_neg (by decide : ¬ (0 : Int) < 0), if_pos tw]
    have r1 : (F_X5_get X σ2 (q_rf X (q_rf X R 8) 3) v).toInt = 8 := (S2.get Y D (id := 1) (r := q_rf X (q_rf X R 8) 3) ⟨by decide, by decide⟩ rfl hv hl.1 (by rw [n1]; exact hl.2)).trans hU
    obtain ⟨r, hr⟩ : ∃ r, r = F_X5_get X σ2 (q_rf X (q_rf X R 8) 3) v := ⟨_, rfl⟩
    rw [← hr] at r1
    have hh : (F_X8_hasComparison X σ2 r).toInt = 0 := by
      unfold F_X8_hasComparison F_X8_isWhen
      have e8 : (8 : Int32).toInt = 8 := rfl
      rw [r1, if_neg (by decide), if_neg (by decide), q_letE, if_neg (by decide), if_pos rfl]
      rfl
    have hi : F_X8_highest X σ2 r = -1 := by
      unfold F_X8_highest
      rw [r1]
      rfl
    rw [rj]
    unfold F_X4_readOperands
    rw [q_letE (F_X5_get X σ2 (q_rf X (q_rf X R 8) 3) v), ← hr, q_letE (F_X8_hasName X σ2 r), hn_0 r r1 σ2 (by decide), if_pos rfl]
    unfold F_X4_readOperands_J47_1
    rw [q_letE (F_X8_hasComparison X σ2 r), hh, if_pos rfl, q_letE (F_X8_highest X σ2 r), hi, if_pos (by decide : (-1 : Int32).toInt = -1)]
    have e15 : (q_si τ2 (q_rf X a 20) (x + 6).toNatClampNeg t).1 a 15 = τ2.1 a 15 := sm3.1 15 (by decide) (by decide)
    refine ⟨1, σ2, rfl, fr3, Or.inl ⟨rfl, ⟨U, _, ⟨S2, M3, K3, h03, V3⟩, ⟨fun _ _ _ => rfl, fun j h => m_up_ne (by omega)⟩, Or.inr (Or.inr (Or.inr ⟨?_, hU⟩))⟩, by rw [e15]; omega⟩⟩
    rw [m_up_eq]
    exact tw
  · rw [if_neg w21] at tw
    obtain ⟨σ', y1, y2, y3, y4⟩ := tl_wrong (X := X) K h0
    have fr2 := rd_Fr.rd (τ := τ) hT ha D S y2 y3
    rw [if_neg w21, if_pos rfl, y1, q_biP 0 σ', q_biP 0 σ', if_pos (by decide : (0 : Int32).toInt = 0)]
    have mu := tm_must0 (X := X) (v := 0) h0 rfl
    have rj : (if t.toInt < 0 then F_X12_readTest_J15_1 X τ a x t (0 : Int32) else F_X12_readTest_J15_1 X τ a x t (1 : Int32)) = q_si (F_X12_wrong X τ a) (q_rf X a 20) (x + 6).toNatClampNeg t := by
      rw [if_pos (by omega)]
      unfold F_X12_readTest_J15_1
      rw [mu, q_letE (F_X12_wrong X τ a), q_letE (x + 6), q_letE (q_si (F_X12_wrong X τ a) (q_rf X a 20) (x + 6).toNatClampNeg t), if_neg (by omega), if_neg (by omega)]
      unfold F_X12_readTest_J50_2
      rw [q_letE, if_pos (y4.tab hT ha (x + 6).toNatClampNeg t).2.1]
    rw [rj]
    exact ⟨0, σ', rfl, fr2.tr (rd_Fr.cw hT ha rd_F.rf i6 (by omega)), Or.inr ⟨rfl, y4.tab hT ha _ _⟩⟩
end RU

/-! FROM 49v.head.lean.txt -/
/-! A ROUND BEING READ: a step up to its semicolon -/
def uV (U : Nat → Int → Int) : Nat → Int → Int := fun id i => U (id - 17) i
def uc (c : Int → Int) : Int → Int := fun j => c (3720 + j)
/-- the reference, from a step's word to behind its semicolon -/
noncomputable def hd_M (X : XW) (a : Nat) (r : Int32) (τ : ST) : ST := F_X12_must X (F_X12_readRest X (q_si (F_X12_next X (q_si τ a 27 (τ.1 a 27 + 1)) a) (q_rf X a 20) ((4376 : Int32) + 9 * τ.1 a 27).toNatClampNeg r) a ((4376 : Int32) + 9 * τ.1 a 27)) a (F_X12_isSign X (F_X12_readRest X (q_si (F_X12_next X (q_si τ a 27 (τ.1 a 27 + 1)) a) (q_rf X a 20) ((4376 : Int32) + 9 * τ.1 a 27).toNatClampNeg r) a ((4376 : Int32) + 9 * τ.1 a 27)) a 59)
theorem ot_eq {A : Int32 × ST} {O : ST → Int32 × ST} {K : Int32 → ST → Int32 × ST} (hK : ∀ (z : Int32) (σ : ST), z.toInt = 0 → K z σ = (0, σ)) : q_bi A (fun r σ => if r.toInt = 0 then ((0 : Int32), σ) else q_bi (O σ) K) = q_bi (q_bi A (fun r σ => if r.toInt = 0 then ((0 : Int32), σ) else O σ)) K := by
  obtain ⟨r, σ⟩ := A
  rw [q_biP r σ, q_biP r σ]
  by_cases q : r.toInt = 0
  · rw [if_pos q, if_pos q, q_biP 0 σ, hK 0 σ rfl]
  · rw [if_neg q, if_neg q]
section RH
variable {X : XW} {lb : Nat → Nat} {R T a g : Nat} {σ τ σ' τ' : ST} {n dp s L : Int} {B c w : Int → Int} {U Vg : Nat → Int → Int}
/-- a line more in the script -/
theorem op_add (Y : y_S X lb) (D : rd_D X lb R T) (S : rd_S X R T σ n B U dp) (hL : U 0 2 = L) (hl : 0 ≤ L ∧ L < 60) (r : Int32) : ∃ (z : Int32) (σ' : ST), F_X8_add X σ (q_rf X R 8) r = (z, σ') ∧ z.toInt = L ∧ rd_S X R T σ' n B (y_up (y_up U 1 L r.toInt) 0 2 (L + 1)) dp ∧ rd_F X R σ σ' ∧ tl_sameC R σ σ' := by
  have one : (1 : Int32).toInt = 1 := rfl
  have n1 : ((rdN 1 : Nat) : Int) = 60 := rfl
  have f1 : (σ.1 (q_rf X R 8) 2).toInt = L := by
    have z := rv_n (X := X) (R := R) (σ := σ) (id := 0) (by decide) 2
    rw [S.2.1] at z
    exact z.trans hL
  unfold F_X8_add
  rw [q_letE (σ.1 (q_rf X R 8) 2)]
  obtain ⟨u, hu⟩ : ∃ u, u = σ.1 (q_rf X R 8) 2 := ⟨_, rfl⟩
  rw [← hu] at f1 ⊢
  obtain ⟨S1, x1⟩ := S.set Y D (id := 1) (r := q_rf X (q_rf X R 8) 3) ⟨by decide, by decide⟩ rfl f1 r hl.1 (by rw [n1]; exact hl.2)
  have sc1 := rd_sameS (σ := σ) Y D (id := 1) (r := q_rf X (q_rf X R 8) 3) ⟨by decide, by decide⟩ rfl (x := u) r (by omega) (by rw [n1]; omega)
  rw [q_letE (F_X5_set X σ (q_rf X (q_rf X R 8) 3) u r)]
  obtain ⟨σ1, h1⟩ : ∃ t, t = F_X5_set X σ (q_rf X (q_rf X R 8) 3) u r := ⟨_, rfl⟩
  rw [← h1] at S1 x1 sc1 ⊢
  have f4 : (σ1.1 (q_rf X R 8) 2).toInt = L := by
    have z := rv_n (X := X) (R := R) (σ := σ1) (id := 0) (by decide) 2
    rw [S1.2.1, y_up_ne (Or.inl (by decide))] at z
    exact z.trans hL
  rw [q_letE (σ1.1 (q_rf X R 8) 2)]
  obtain ⟨u4, hu4⟩ : ∃ u, u = σ1.1 (q_rf X R 8) 2 + 1 := ⟨_, rfl⟩
  have uv : u4.toInt = L + 1 := by rw [hu4, ar_add, f4, one, ar_wr (by omega) (by omega)]
  rw [← hu4, q_letE u4, q_letE (q_si σ1 (q_rf X R 8) 2 u4), q_letE ((q_si σ1 (q_rf X R 8) 2 u4).1 (q_rf X R 8) 2), si_eq, q_letE (u4 - 1)]
  obtain ⟨S2, x2⟩ := S1.cell D (id := 0) (by decide) 2 u4
  rw [uv] at S2
  have sc2 := rd_same (σ := σ1) D (id := 0) (by decide) 2 u4
  refine ⟨u4 - 1, _, rfl, by rw [ar_sub, uv, one, ar_wr (by omega) (by omega)]; omega, S2, x1.tr x2, fun f a1 a2 => (sc2 f a1 a2).trans (sc1 f a1 a2)⟩
/-- which actions go with which kinds -/
def rd_k (k A : Int) : Prop := k = 0 ∧ A = 0 ∨ k = 1 ∧ A = 1 ∨ k = 2 ∧ A = 2 ∨ k = 5 ∧ A = 3 ∨ k = 4 ∧ A = 4 ∨ k = 3 ∧ A = 8
theorem op_any (Y : y_S X lb) (D : rd_D X lb R T) (ha : q_kd X a = 12) (G : y_G X lb g 1) (I : rd_I X R T a g n B Vg w σ τ U dp c s) (hP6 : 0 ≤ c 2 ∧ c 2 ≤ 6) (hP : Vg 1 4 = c 2) (N : y_nm Vg w 0 (c 2)) {v x r : Int32} {j A : Int} (hv : v.toInt = L) (hl : 0 ≤ L ∧ L < 60) (hj : 0 ≤ j ∧ j < 30) (hx : x.toInt = 4376 + 9 * j) (hA : r.toInt = A) (hk : rd_k (c (4376 + 9 * j)) A) (hU : U 1 L = A) :
    ∃ (z : Int32) (σ' : ST), (if (F_X8_isWhen X σ r).toInt = 0 then F_X4_readOperands X σ R v (q_rf X g 0) else q_bi (F_X4_readTest X σ R v) (fun r1 σ1 => if r1.toInt = 0 then ((0 : Int32), σ1) else F_X4_readOperands X σ1 R v (q_rf X g 0))) = (z, σ') ∧ rd_O X R T a g n B Vg w dp s σ τ z σ' (F_X12_readRest X τ a x) (fun U' c' => rd_1 U U' c c' L (4376 + 9 * j) ∧ st_l (uV U') (uc c') j L) := by
  have e0 : (3720 : Int) + (656 + 9 * j) = 4376 + 9 * j := by omega
  have e1 : (3720 : Int) + (656 + 9 * j + 1) = 4376 + 9 * j + 1 := by omega
  have e2 : (3720 : Int) + (656 + 9 * j + 2) = 4376 + 9 * j + 2 := by omega
  have e6 : (3720 : Int) + (656 + 9 * j + 6) = 4376 + 9 * j + 6 := by omega
  have e7 : (3720 : Int) + (656 + 9 * j + 7) = 4376 + 9 * j + 7 := by omega
  have e8_ : (8 : Int32).toInt = 8 := rfl
  obtain ⟨W, hWe⟩ : ∃ W, W = 4376 + 9 * j := ⟨_, rfl⟩
  have hW : 3720 ≤ W ∧ W ≤ 5000 := by omega
  have st : ∀ (U' : Nat → Int → Int) (c' : Int → Int), st_l (uV U') (uc c') j L ↔ ((c' W = 0 ∧ U' 1 L = 0) ∨ (c' W = 1 ∧ U' 1 L = 1 ∧ U' 3 L = c' (W + 1) ∧ U' 5 L = c' (W + 2)) ∨ (c' W = 2 ∧ U' 1 L = 2 ∧ U' 3 L = c' (W + 1) ∧ U' 5 L = c' (W + 2)) ∨ (c' W = 5 ∧ U' 1 L = 3) ∨ (c' W = 4 ∧ U' 1 L = 4 ∧ U' 5 L = c' (W + 1) ∧ 1 ≤ c' (W + 1) ∧ c' (W + 1) ≤ 99) ∨ (c' W = 3 ∧ c' (W + 6) = 0 ∧ U' 1 L = 5 ∧ U' 3 L = c' (W + 1) ∧ U' 4 L = c' (W + 7) ∧ U' 5 L = c' (W + 2)) ∨ (c' W = 3 ∧ c' (W + 6) = 1 ∧ U' 1 L = 6 ∧ U' 4 L = c' (W + 7) ∧ U' 5 L = c' (W + 2)) ∨ (c' W = 3 ∧ c' (W + 6) = 2 ∧ U' 1 L = 7 ∧ U' 3 L = c' (W + 1) ∧ U' 4 L = c' (W + 7) ∧ U' 5 L = c' (W + 2)) ∨ (c' W = 3 ∧ c' (W + 6) = 3 ∧ U' 1 L = 8)) := by
    intro U' c'
    unfold st_l uV uc
    rw [e0, e1, e2, e6, e7, ← hWe]
  rw [← hWe] at hx hk ⊢
  have wn : A ≠ 8 → (F_X8_isWhen X σ r).toInt = 0 := fun h => by
    unfold F_X8_isWhen
    rw [hA, if_pos (by unfold rd_k at hk; omega)]
    rfl
  rcases hk with ⟨k1, k2⟩ | ⟨k1, k2⟩ | ⟨k1, k2⟩ | ⟨k1, k2⟩ | ⟨k1, k2⟩ | ⟨k1, k2⟩
  · rw [if_pos (wn (by omega))]
    obtain ⟨z, σ', e, fr, o⟩ := op_none (g := g) Y D I hv hl hx (Or.inl ⟨k1, by omega⟩)
    refine ⟨z, σ', e, fr, ?_⟩
    rcases o with ⟨o1, ⟨U', c', I', p1, p2⟩, o3⟩ | o
    · have cw := p1.2 W (Or.inl (Int.le_refl _))
      exact Or.inl ⟨o1, ⟨U', c', I', p1, (st U' c').mpr (Or.inl ⟨by omega, by omega⟩)⟩, o3⟩
    · exact Or.inr o
  · rw [if_pos (wn (by omega))]
    obtain ⟨z, σ', e, fr, o⟩ := op_bends Y D ha G I hP6 hP N hv hl hx hW (Or.inl k1) (by omega)
    refine ⟨z, σ', e, fr, ?_⟩
    rcases o with ⟨o1, ⟨U', c', I', p1, p2, p3, p4⟩, o3⟩ | o
    · have cw := p1.2 W (Or.inl (Int.le_refl _))
      exact Or.inl ⟨o1, ⟨U', c', I', p1, (st U' c').mpr (Or.inr (Or.inl ⟨by omega, by omega, p3, p4⟩))⟩, o3⟩
    · exact Or.inr o
  · rw [if_pos (wn (by omega))]
    obtain ⟨z, σ', e, fr, o⟩ := op_bends Y D ha G I hP6 hP N hv hl hx hW (Or.inr k1) (by omega)
    refine ⟨z, σ', e, fr, ?_⟩
    rcases o with ⟨o1, ⟨U', c', I', p1, p2, p3, p4⟩, o3⟩ | o
    · have cw := p1.2 W (Or.inl (Int.le_refl _))
      exact Or.inl ⟨o1, ⟨U', c', I', p1, (st U' c').mpr (Or.inr (Or.inr (Or.inl ⟨by omega, by omega, p3, p4⟩)))⟩, o3⟩
    · exact Or.inr o
  · rw [if_pos (wn (by omega))]
    obtain ⟨z, σ', e, fr, o⟩ := op_none (g := g) Y D I hv hl hx (Or.inr ⟨k1, by omega⟩)
    refine ⟨z, σ', e, fr, ?_⟩
    rcases o with ⟨o1, ⟨U', c', I', p1, p2⟩, o3⟩ | o
    · have cw := p1.2 W (Or.inl (Int.le_refl _))
      exact Or.inl ⟨o1, ⟨U', c', I', p1, (st U' c').mpr (Or.inr (Or.inr (Or.inr (Or.inl ⟨by omega, by omega⟩))))⟩, o3⟩
    · exact Or.inr o
  · rw [if_pos (wn (by omega))]
    obtain ⟨z, σ', e, fr, o⟩ := op_loop Y D ha G I hv hl hx hW k1 (by omega)
    refine ⟨z, σ', e, fr, ?_⟩
    rcases o with ⟨o1, ⟨U', c', I', p1, p2, p3, p4⟩, o3⟩ | o
    · have cw := p1.2 W (Or.inl (Int.le_refl _))
      exact Or.inl ⟨o1, ⟨U', c', I', p1, (st U' c').mpr (Or.inr (Or.inr (Or.inr (Or.inr (Or.inl ⟨by omega, by omega, p3, p4⟩)))))⟩, o3⟩
    · exact Or.inr o
  · have wy : ¬ (F_X8_isWhen X σ r).toInt = 0 := by
      unfold F_X8_isWhen
      rw [hA, if_neg (by omega), if_neg (by omega)]
      decide
    rw [if_neg wy]
    obtain ⟨z, σ', e, fr, o⟩ := op_when Y D ha G I hP6 hP N hv hl hx hW k1 (by omega)
    refine ⟨z, σ', e, fr, ?_⟩
    rcases o with ⟨o1, ⟨U', c', I', p1, p2⟩, o3⟩ | o
    · have cw := p1.2 W (Or.inl (Int.le_refl _))
      refine Or.inl ⟨o1, ⟨U', c', I', p1, (st U' c').mpr ?_⟩, o3⟩
      rcases p2 with ⟨y1, y2, y3, y4, y5⟩ | ⟨y1, y2, y3, y4⟩ | ⟨y1, y2, y3, y4, y5⟩ | ⟨y1, y2⟩
      · exact Or.inr (Or.inr (Or.inr (Or.inr (Or.inr (Or.inl ⟨by omega, y1, y2, y3, y4, y5⟩)))))
      · exact Or.inr (Or.inr (Or.inr (Or.inr (Or.inr (Or.inr (Or.inl ⟨by omega, y1, y2, y3, y4⟩))))))
      · exact Or.inr (Or.inr (Or.inr (Or.inr (Or.inr (Or.inr (Or.inr (Or.inl ⟨by omega, y1, y2, y3, y4, y5⟩)))))))
      · exact Or.inr (Or.inr (Or.inr (Or.inr (Or.inr (Or.inr (Or.inr (Or.inr ⟨by omega, y1, y2⟩)))))))
    · exact Or.inr o
end RH

/-! FROM 49w.step.lean.txt -/
/-! A ROUND BEING READ: a step's line -/
noncomputable def hd_K (X : XW) (R : Nat) : Int32 → ST → Int32 × ST := fun r_17 σ_18 => if r_17.toInt = 0 then ((0 : Int32), σ_18) else q_bi (F_X3_passSemicolon X σ_18 R) (fun r_20 σ_21 => if r_20.toInt = 0 then ((0 : Int32), σ_21) else ((1 : Int32), σ_21))
noncomputable def hd_C (X : XW) (R r1 : Nat) (z8 r : Int32) (σ3 : ST) : Int32 × ST := q_let (F_X3_advance X σ3 R : ST) (fun σ_13 => q_let (F_X8_isWhen X σ_13 r : Int32) (fun r_14 => if r_14.toInt = 0 then q_bi (F_X4_readOperands X σ_13 R z8 r1) (hd_K X R) else q_bi (F_X4_readTest X σ_13 R z8) (fun r_23 σ_24 => if r_23.toInt = 0 then ((0 : Int32), σ_24) else q_bi (F_X4_readOperands X σ_24 R z8 r1) (hd_K X R))))
theorem hd_K0 {X : XW} {R : Nat} (z : Int32) (σ : ST) (h : z.toInt = 0) : hd_K X R z σ = (0, σ) := if_pos h
/-- one line and one step are written anew -/
def rd_2 (U U' : Nat → Int → Int) (c c' : Int → Int) (l W : Int) : Prop := (∀ (id : Nat) (i : Int), id = 0 ∨ id = 2 ∨ id = 6 ∨ i ≠ l → U' id i = U id i) ∧ ∀ j : Int, j < W ∨ W + 8 ≤ j → c' j = c j
section RW
variable {X : XW} {lb : Nat → Nat} {R T a g : Nat} {σ τ σ' τ' : ST} {n dp s L : Int} {B c w : Int → Int} {U Vg : Nat → Int → Int}
/-- what a step's head leaves, k its kind -/
def hd_O (X : XW) (R T a g : Nat) (n : Int) (B : Int → Int) (Vg : Nat → Int → Int) (w : Int → Int) (dp s : Int) (U : Nat → Int → Int) (c : Int → Int) (L k : Int) (σ τ : ST) (z : Int32) (σ' τ' : ST) : Prop :=
  rd_Fr X R a σ σ' τ τ' ∧ ((z.toInt = 1 ∧ (∃ (U' : Nat → Int → Int) (c' : Int → Int), rd_I X R T a g n B Vg w σ' τ' U' dp c' (s + 1) ∧ rd_2 U U' c c' L (4376 + 9 * s) ∧ c' (4376 + 9 * s) = k ∧ st_l (uV U') (uc c') s L) ∧ (τ.1 a 15).toInt < (τ'.1 a 15).toInt) ∨ (z.toInt = 0 ∧ tl_F σ' R τ' a))
theorem rd_1w {U U1 U' : Nat → Int → Int} {c c' : Int → Int} {L W k : Int} (h : rd_1 U U' (m_up c W k) c' L W) : (∀ (id : Nat) (i : Int), id = 0 ∨ id = 2 ∨ id = 6 ∨ i ≠ L → U' id i = U id i) ∧ (∀ j : Int, j < W ∨ W + 8 ≤ j → c' j = c j) ∧ c' W = k := by
  refine ⟨h.1, fun j q => ?_, ?_⟩
  · rw [h.2 j (by omega), m_up_ne (by omega)]
  · rw [h.2 W (by omega), m_up_eq]
/-- both behind the semicolon -/
theorem op_rest (Y : y_S X lb) (D : rd_D X lb R T) (ha : q_kd X a = 12) (G : y_G X lb g 1) (I : rd_I X R T a g n B Vg w σ τ U dp c s) (hP6 : 0 ≤ c 2 ∧ c 2 ≤ 6) (hP : Vg 1 4 = c 2) (N : y_nm Vg w 0 (c 2)) {v r rk : Int32} {A k : Int} (hv : v.toInt = L) (hl : 0 ≤ L ∧ L < 60) (hs : 0 ≤ s ∧ s < 30) (ht : (τ.1 a 14).toInt ≠ 0) (hA : r.toInt = A) (hrk : rk.toInt = k) (hk : rd_k k A) (hU : U 1 L = A) :
    ∃ (z : Int32) (σ' : ST), hd_C X R (q_rf X g 0) v r σ = (z, σ') ∧ rd_Fr X R a σ σ' τ (hd_M X a rk τ) ∧ ((z.toInt = 1 ∧ (∃ (U' : Nat → Int → Int) (c' : Int → Int), rd_I X R T a g n B Vg w σ' (hd_M X a rk τ) U' dp c' (s + 1) ∧ rd_1 U U' (m_up c (4376 + 9 * s) k) c' L (4376 + 9 * s) ∧ st_l (uV U') (uc c') s L) ∧ (τ.1 a 15).toInt < ((hd_M X a rk τ).1 a 15).toInt) ∨ (z.toInt = 0 ∧ tl_F σ' R (hd_M X a rk τ) a)) := by
  obtain ⟨S, M, K, h0, hV⟩ := I
  have kb := K.b
  have hT := Y.1
  have one : (1 : Int32).toInt = 1 := rfl
  have e9 : (9 : Int32).toInt = 9 := rfl
  have eW : (4376 : Int32).toInt = 4376 := rfl
  have f27 : (τ.1 a 27).toInt = s := M.2.2.2.1
  have ns : (τ.1 a 27 + 1).toInt = s + 1 := by rw [ar_add, f27, one, ar_wr (by omega) (by omega)]
  have ix : ((4376 : Int32) + 9 * τ.1 a 27).toInt = 4376 + 9 * s := by
    rw [ar_add, ar_mul, f27, e9, eW, ar_wr (n := 9 * s) (by omega) (by omega), ar_wr (by omega) (by omega)]
  obtain ⟨M1, sm1⟩ := M.ns hT ha (τ.1 a 27 + 1)
  rw [ns] at M1
  have K1 := K.same tl_sameC.rf sm1
  have fr1 : rd_Fr X R a σ σ τ (q_si τ a 27 (τ.1 a 27 + 1)) := ⟨rd_F.rf, tkl.rf.si _ (Or.inr ⟨rfl, by decide, Or.inr rfl⟩), fun j _ _ => by rw [mv_cell hT ha]⟩
  unfold hd_M
  obtain ⟨x, hx⟩ : ∃ x, x = (4376 : Int32) + 9 * τ.1 a 27 := ⟨_, rfl⟩
  rw [← hx] at ix ⊢
  obtain ⟨τ1, u1⟩ : ∃ t, t = q_si τ a 27 (τ.1 a 27 + 1) := ⟨_, rfl⟩
  rw [← u1] at M1 sm1 K1 fr1 ⊢
  have e16 : τ1.1 a 16 = τ.1 a 16 := sm1.1 16 (by decide) (by decide)
  obtain ⟨x1, x2, K2, g2⟩ := tl_adv2 S.1 M1.1 K1
  obtain ⟨S2, f2⟩ := S.rd D x1.S2
  have M2 := M1.rd hT ha x2.S2
  have fr2 := fr1.tr (rd_Fr.rd (τ := τ1) hT ha D S x1.S2 x2.S2)
  have h02 : ((F_X12_next X τ1 a).1 a 12).toInt = 0 := by
    rw [tn_12 x2, sm1.1 12 (by decide) (by decide)]; exact h0
  obtain ⟨σ2, h2⟩ : ∃ t, t = F_X3_advance X σ R := ⟨_, rfl⟩
  obtain ⟨τ2, u2⟩ : ∃ t, t = F_X12_next X τ1 a := ⟨_, rfl⟩
  unfold hd_C
  rw [q_letE (F_X3_advance X σ R), ← h2, ← u2]
  rw [← h2] at S2 f2 K2 fr2
  rw [← u2] at M2 K2 fr2 h02 g2
  obtain ⟨M3, sm3⟩ := M2.cw hT ha (i := x) (v := rk) ix (by omega)
  rw [hrk] at M3
  have K3 := K2.same tl_sameC.rf sm3
  have fr3 := fr2.tr (rd_Fr.cw (τ := τ2) (v := rk) hT ha (rd_F.rf (X := X) (R := R) (σ := σ2)) ix (by omega))
  have V3 : y_v X g σ2 = Vg := by rw [fr2.1.v Y D G (by decide), hV]
  have e15 : (q_si τ2 (q_rf X a 20) x.toNatClampNeg rk).1 a 15 = τ2.1 a 15 := sm3.1 15 (by decide) (by decide)
  have h03 : ((q_si τ2 (q_rf X a 20) x.toNatClampNeg rk).1 a 12).toInt = 0 := by rw [sm3.1 12 (by decide) (by decide)]; exact h02
  obtain ⟨τ3, u3⟩ : ∃ t, t = q_si τ2 (q_rf X a 20) x.toNatClampNeg rk := ⟨_, rfl⟩
  rw [← u3] at M3 sm3 K3 fr3 e15 h03 ⊢
  obtain ⟨z4, σ4, e4, fr4, o⟩ := op_any Y D ha G (r := r) (v := v) (x := x) (A := A) (j := s) ⟨S2, M3, K3, h03, V3⟩ (by rw [m_up_ne (by omega)]; exact hP6) (by rw [m_up_ne (by omega)]; exact hP) (by rw [m_up_ne (by omega)]; exact N) hv hl hs ix hA (by rw [m_up_eq]; exact hk) hU
  have cls : (q_let (F_X8_isWhen X σ2 r : Int32) (fun r_14 => if r_14.toInt = 0 then q_bi (F_X4_readOperands X σ2 R v (q_rf X g 0)) (hd_K X R) else q_bi (F_X4_readTest X σ2 R v) (fun r_23 σ_24 => if r_23.toInt = 0 then ((0 : Int32), σ_24) else q_bi (F_X4_readOperands X σ_24 R v (q_rf X g 0)) (hd_K X R)))) = hd_K X R z4 σ4 := by
    rw [q_letE]
    by_cases q : (F_X8_isWhen X σ2 r).toInt = 0
    · rw [if_pos q] at e4
      rw [if_pos q, e4, q_biP z4 σ4]
    · rw [if_neg q] at e4
      rw [if_neg q, ot_eq hd_K0, e4, q_biP z4 σ4]
  rw [cls]
  obtain ⟨τ4, u4⟩ : ∃ t, t = F_X12_readRest X τ3 a x := ⟨_, rfl⟩
  rw [← u4] at fr4 o ⊢
  rcases o with ⟨o1, ⟨U', c', I', p1, p2⟩, o3⟩ | ⟨o1, o2⟩
  · obtain ⟨S5, M5, K5, h05, V5⟩ := I'
    obtain ⟨z6, σ6, e6, hz6, ⟨y1, y2, y3⟩⟩ := tl_passSemi S5.1 M5.1 K5 h05
    obtain ⟨S6, f6⟩ := S5.rd D y1
    have M6 := M5.rd hT ha y2
    have fr6 := (fr3.tr fr4).tr (rd_Fr.rd (τ := τ4) hT ha D S5 y1 y2)
    have V6 : y_v X g σ6 = Vg := by rw [fr6.1.v Y D G (by decide), hV]
    unfold hd_K
    rw [if_neg (by omega : ¬ z4.toInt = 0), e6, q_biP z6 σ6]
    have k5b := K5.b
    rcases y3 with ⟨q1, K7, h07, g7⟩ | ⟨q1, F7⟩
    · rw [if_neg (by omega : ¬ z6.toInt = 0)]
      refine ⟨1, σ6, rfl, fr6, Or.inl ⟨rfl, ⟨U', c', ⟨S6, M6, K7, h07, V6⟩, p1, p2⟩, ?_⟩⟩
      rw [e15] at o3
      rw [e16] at g2
      omega
    · rw [if_pos (by omega : z6.toInt = 0)]
      exact ⟨0, σ6, rfl, fr6, Or.inr ⟨rfl, F7⟩⟩
  · rw [hd_K0 z4 σ4 o1, tm_must2 o2.2.1]
    exact ⟨0, σ4, rfl, fr3.tr fr4, Or.inr ⟨rfl, o2⟩⟩
/-- the class's counts in the script's head -/
theorem op_cnt (Y : y_S X lb) (D : rd_D X lb R T) (S : rd_S X R T σ n B U dp) (h1 : U 0 1 = s) (hs : 0 ≤ s ∧ s < 30) : (σ.1 (q_rf X R 8) 1).toInt = s ∧ ∀ u : Int32, u.toInt = s + 1 → rd_S X R T (q_si σ (q_rf X R 8) 1 u) n B (y_up U 0 1 (s + 1)) dp ∧ rd_F X R σ (q_si σ (q_rf X R 8) 1 u) ∧ tl_sameC R σ (q_si σ (q_rf X R 8) 1 u) := by
  have z := rv_n (X := X) (R := R) (σ := σ) (id := 0) (by decide) 1
  rw [S.2.1] at z
  refine ⟨z.trans h1, fun u hu => ?_⟩
  obtain ⟨S2, x2⟩ := S.cell D (id := 0) (by decide) 1 u
  rw [hu] at S2
  exact ⟨S2, x2, rd_same D (id := 0) (by decide) 1 u⟩
/-- a step without a body -/
theorem op_flat (Y : y_S X lb) (D : rd_D X lb R T) (ha : q_kd X a = 12) (G : y_G X lb g 1) (I : rd_I X R T a g n B Vg w σ τ U dp c s) (hP6 : 0 ≤ c 2 ∧ c 2 ≤ 6) (hP : Vg 1 4 = c 2) (N : y_nm Vg w 0 (c 2)) {r rk x64 : Int32} {A k : Int} (hU1 : U 0 1 = s) (hL : U 0 2 = L) (hl : 0 ≤ L ∧ L < 60) (hs : 0 ≤ s ∧ s < 30) (ht : (τ.1 a 14).toInt ≠ 0) (hA : r.toInt = A) (hrk : rk.toInt = k) (hk : rd_k k A) (hx : x64.toInt = 0) :
    ∃ (z : Int32) (σ' : ST), F_X4_readStep_J72_4 X σ R r x64 (q_rf X g 0) = (z, σ') ∧ hd_O X R T a g n B Vg w dp s (y_up (y_up U 0 2 (L + 1)) 0 1 (s + 1)) c L k σ τ z σ' (hd_M X a rk τ) := by
  obtain ⟨S, M, K, h0, hV⟩ := I
  have one : (1 : Int32).toInt = 1 := rfl
  obtain ⟨z8, σ1, e1, hz8, S1, x1, sc1⟩ := op_add Y D S hL hl r
  obtain ⟨f8, cn⟩ := op_cnt (s := s) Y D S1 (by rw [y_up_ne (Or.inr (by decide)), y_up_ne (Or.inl (by decide))]; exact hU1) hs
  unfold F_X4_readStep_J72_4
  rw [e1, q_biP z8 σ1, q_letE (σ1.1 (q_rf X R 8) 1)]
  obtain ⟨u, hu⟩ : ∃ u, u = σ1.1 (q_rf X R 8) 1 + 1 := ⟨_, rfl⟩
  have uv : u.toInt = s + 1 := by rw [hu, ar_add, f8, one, ar_wr (by omega) (by omega)]
  obtain ⟨S2, x2, sc2⟩ := cn u uv
  rw [← hu, q_letE u, q_letE (q_si σ1 (q_rf X R 8) 1 u), if_pos hx]
  have fr := rd_Fr.cl (a := a) (τ := τ) (x1.tr x2)
  have V2 : y_v X g (q_si σ1 (q_rf X R 8) 1 u) = Vg := by rw [fr.1.v Y D G (by decide), hV]
  have K2 := K.same (fun f a1 a2 => (sc2 f a1 a2).trans (sc1 f a1 a2)) (tl_same.rf (a := a) (τ := τ))
  obtain ⟨z, σ', e, fr2, o⟩ := op_rest Y D ha G (v := z8) (r := r) (rk := rk) (A := A) (k := k) ⟨S2, M, K2, h0, V2⟩ hP6 hP N hz8 hl hs ht hA hrk hk (by rw [y_up_ne (Or.inl (by decide)), y_up_ne (Or.inl (by decide)), y_up_eq]; exact hA)
  refine ⟨z, σ', e, fr.tr fr2, ?_⟩
  rcases o with ⟨o1, ⟨U', c', I', p1, p2⟩, o3⟩ | o
  · obtain ⟨y1, y2, y3⟩ := rd_1w (U1 := U) p1
    refine Or.inl ⟨o1, ⟨U', c', I', ⟨fun id i h => ?_, y2⟩, y3, p2⟩, o3⟩
    · rw [y1 id i h]
      by_cases q0 : id = 0
      · subst q0
        by_cases q1 : i = 1
        · rw [q1, y_up_eq, y_up_eq]
        · rw [y_up_ne (Or.inr q1), y_up_ne (Or.inr q1)]
          by_cases q2 : i = 2
          · rw [q2, y_up_eq, y_up_eq]
          · rw [y_up_ne (Or.inr q2), y_up_ne (Or.inr q2), y_up_ne (Or.inl (by decide))]
      · rw [y_up_ne (Or.inl q0), y_up_ne (Or.inl q0), y_up_ne (Or.inl q0), y_up_ne (Or.inl q0), y_up_ne (by omega)]
  · exact Or.inr o
/-- a step with a body: the class remembers where it began -/
theorem op_block (Y : y_S X lb) (D : rd_D X lb R T) (ha : q_kd X a = 12) (G : y_G X lb g 1) (I : rd_I X R T a g n B Vg w σ τ U dp c s) (hP6 : 0 ≤ c 2 ∧ c 2 ≤ 6) (hP : Vg 1 4 = c 2) (N : y_nm Vg w 0 (c 2)) {r rk : Int32} {A k : Int} (hU1 : U 0 1 = s) (hL : U 0 2 = L) (hl : 0 ≤ L ∧ L < 60) (hs : 0 ≤ s ∧ s < 30) (hd : 0 ≤ dp ∧ dp < 3) (ht : (τ.1 a 14).toInt ≠ 0) (hA : r.toInt = A) (hrk : rk.toInt = k) (hk : rd_k k A) :
    ∃ (z : Int32) (σ' : ST), F_X4_readStep_J72_2 X σ R r (q_rf X g 0) = (z, σ') ∧ hd_O X R T a g n B Vg w (dp + 1) s (y_up (y_up (y_up U 0 2 (L + 1)) 0 1 (s + 1)) 6 dp L) c L k σ τ z σ' (hd_M X a rk τ) := by
  obtain ⟨S, M, K, h0, hV⟩ := I
  have one : (1 : Int32).toInt = 1 := rfl
  have n6 : ((rdN 6 : Nat) : Int) = 3 := rfl
  obtain ⟨z8, σ1, e1, hz8, S1, x1, sc1⟩ := op_add Y D S hL hl r
  obtain ⟨f8, cn⟩ := op_cnt (s := s) Y D S1 (by rw [y_up_ne (Or.inr (by decide)), y_up_ne (Or.inl (by decide))]; exact hU1) hs
  unfold F_X4_readStep_J72_2
  rw [e1, q_biP z8 σ1, q_letE (σ1.1 (q_rf X R 8) 1)]
  obtain ⟨u, hu⟩ : ∃ u, u = σ1.1 (q_rf X R 8) 1 + 1 := ⟨_, rfl⟩
  have uv : u.toInt = s + 1 := by rw [hu, ar_add, f8, one, ar_wr (by omega) (by omega)]
  obtain ⟨S2, x2, sc2⟩ := cn u uv
  rw [← hu, q_letE u, q_letE (q_si σ1 (q_rf X R 8) 1 u), if_neg (by decide : ¬ (1 : Int) = 0)]
  obtain ⟨σ2, h2⟩ : ∃ t, t = q_si σ1 (q_rf X R 8) 1 u := ⟨_, rfl⟩
  rw [← h2] at S2 x2 sc2 ⊢
  rw [q_letE (σ2.1 R 10)]
  have f10 : (σ2.1 R 10).toInt = dp := S2.2.2
  obtain ⟨S3, x3⟩ := S2.set Y D (id := 6) (r := q_rf X R 9) ⟨by decide, by decide⟩ rfl f10 z8 hd.1 (by rw [n6]; exact hd.2)
  have sc3 := rd_sameS (σ := σ2) Y D (id := 6) (r := q_rf X R 9) ⟨by decide, by decide⟩ rfl (x := σ2.1 R 10) z8 (by omega) (by rw [n6]; omega)
  rw [hz8] at S3
  rw [q_letE (F_X5_set X σ2 (q_rf X R 9) (σ2.1 R 10) z8)]
  obtain ⟨σ3, h3⟩ : ∃ t, t = F_X5_set X σ2 (q_rf X R 9) (σ2.1 R 10) z8 := ⟨_, rfl⟩
  rw [← h3] at S3 x3 sc3 ⊢
  obtain ⟨u4, hu4⟩ : ∃ u, u = σ3.1 R 10 + 1 := ⟨_, rfl⟩
  have uv4 : u4.toInt = dp + 1 := by rw [hu4, ar_add, S3.2.2, one, ar_wr (by omega) (by omega)]
  obtain ⟨S4, x4⟩ := S3.dep D u4
  rw [uv4] at S4
  have sc4 := rd_sameD (σ := σ3) (R := R) u4
  rw [q_letE (σ3.1 R 10), ← hu4, q_letE u4, q_letE (q_si σ3 R 10 u4)]
  have fr := rd_Fr.cl (a := a) (τ := τ) (((x1.tr x2).tr x3).tr x4)
  have V4 : y_v X g (q_si σ3 R 10 u4) = Vg := by rw [fr.1.v Y D G (by decide), hV]
  have K4 := K.same (fun f a1 a2 => (sc4 f a1 a2).trans ((sc3 f a1 a2).trans ((sc2 f a1 a2).trans (sc1 f a1 a2)))) (tl_same.rf (a := a) (τ := τ))
  obtain ⟨z, σ', e, fr2, o⟩ := op_rest Y D ha G (v := z8) (r := r) (rk := rk) (A := A) (k := k) ⟨S4, M, K4, h0, V4⟩ hP6 hP N hz8 hl hs ht hA hrk hk (by rw [y_up_ne (Or.inl (by decide)), y_up_ne (Or.inl (by decide)), y_up_ne (Or.inl (by decide)), y_up_eq]; exact hA)
  refine ⟨z, σ', e, fr.tr fr2, ?_⟩
  rcases o with ⟨o1, ⟨U', c', I', p1, p2⟩, o3⟩ | o
  · obtain ⟨y1, y2, y3⟩ := rd_1w (U1 := U) p1
    refine Or.inl ⟨o1, ⟨U', c', I', ⟨fun id i h => ?_, y2⟩, y3, p2⟩, o3⟩
    rw [y1 id i h]
    by_cases q6 : id = 6 ∧ i = dp
    · rw [q6.1, q6.2, y_up_eq, y_up_eq]
    · rw [y_up_ne (V := y_up (y_up (y_up U 1 L r.toInt) 0 2 (L + 1)) 0 1 (s + 1)) (id := 6) (i := dp) (by omega), y_up_ne (V := y_up (y_up U 0 2 (L + 1)) 0 1 (s + 1)) (id := 6) (i := dp) (by omega)]
      by_cases q0 : id = 0
      · subst q0
        by_cases q1 : i = 1
        · rw [q1, y_up_eq, y_up_eq]
        · rw [y_up_ne (Or.inr q1), y_up_ne (Or.inr q1)]
          by_cases q2 : i = 2
          · rw [q2, y_up_eq, y_up_eq]
          · rw [y_up_ne (Or.inr q2), y_up_ne (Or.inr q2), y_up_ne (Or.inl (by decide))]
      · rw [y_up_ne (Or.inl q0), y_up_ne (Or.inl q0), y_up_ne (Or.inl q0), y_up_ne (Or.inl q0), y_up_ne (by omega)]
  · exact Or.inr o
end RW

/-! FROM 49x.depths.lean.txt -/
/-! A ROUND BEING READ: the reference's step at each depth *d0* to *d3*, up to its body -/
section RX
variable {X : XW} {a : Nat} {τ : ST}
theorem rs_81_0 (r x3 v : Int32) (h : 0 < (τ.1 a 12).toInt) : F_X12_readStep_d0_J81_4 X a r x3 τ = τ := by
  unfold F_X12_readStep_d0_J81_4
  rw [q_letE, if_pos h]
theorem rs_55_0 (r x3 v : Int32) (h : 0 < (τ.1 a 12).toInt) : F_X12_readStep_d0_J55_3 X a x3 r v τ = τ := by
  unfold F_X12_readStep_d0_J55_3
  rw [q_letE, if_neg (by omega), rs_81_0 r x3 v h]
theorem rs_29_0 (r x3 v : Int32) (h : 0 < (τ.1 a 12).toInt) : F_X12_readStep_d0_J29_2 X a x3 r v τ = τ := by
  unfold F_X12_readStep_d0_J29_2
  rw [q_letE, if_neg (by omega), rs_55_0 r x3 v h]
theorem rs_d_0 (v : Int32) : F_X12_readStep_d0 X τ a v = F_X12_readStep_d0_J20_1 X (F_X12_stepWord X τ a) τ a v (if (F_X12_stepWord X τ a).toInt = 3 ∨ (F_X12_stepWord X τ a).toInt = 4 then 1 else 0) := by
  unfold F_X12_readStep_d0
  rw [q_letE]
  by_cases q3 : (F_X12_stepWord X τ a).toInt = 3
  · rw [if_pos q3, if_pos (Or.inl q3)]
  · rw [if_neg q3]
    by_cases q4 : (F_X12_stepWord X τ a).toInt = 4
    · rw [if_pos q4, if_pos (Or.inr q4)]
    · rw [if_neg q4, if_neg (fun z => z.elim q3 q4)]
theorem rs_a_0 (r x3 v : Int32) (hr : r.toInt < 0) (h : 0 < ((F_X12_wrong X τ a).1 a 12).toInt) : F_X12_readStep_d0_J20_1 X r τ a v x3 = F_X12_wrong X τ a := by
  unfold F_X12_readStep_d0_J20_1
  rw [if_pos hr, q_letE, rs_29_0 r x3 v h]
theorem rs_b_0 (r x3 v : Int32) (h0 : (τ.1 a 12).toInt = 0) (hr : ¬ r.toInt < 0) (hs : (τ.1 a 27).toInt = 30) (h : 0 < ((F_X12_fail X τ a 6 (τ.1 a 15)).1 a 12).toInt) : F_X12_readStep_d0_J20_1 X r τ a v x3 = F_X12_fail X τ a 6 (τ.1 a 15) := by
  unfold F_X12_readStep_d0_J20_1 F_X12_readStep_d0_J29_2
  rw [if_neg hr, q_letE (τ.1 a 12), h0, if_pos rfl, q_letE (τ.1 a 27), if_pos hs, q_letE (τ.1 a 15), q_letE, rs_55_0 r x3 v h]
theorem rs_c_0 (r x3 v : Int32) (h0 : (τ.1 a 12).toInt = 0) (hr : ¬ r.toInt < 0) (hs : ¬ (τ.1 a 27).toInt = 30) (hx : ¬ x3.toInt = 0) (hv : v.toInt = 3) (h : 0 < ((F_X12_fail X τ a 7 (τ.1 a 15)).1 a 12).toInt) : F_X12_readStep_d0_J20_1 X r τ a v x3 = F_X12_fail X τ a 7 (τ.1 a 15) := by
  unfold F_X12_readStep_d0_J20_1 F_X12_readStep_d0_J29_2 F_X12_readStep_d0_J55_3
  rw [if_neg hr, q_letE (τ.1 a 12), h0, if_pos rfl, q_letE (τ.1 a 27), if_neg hs, q_letE (τ.1 a 12), h0, if_pos rfl, if_neg hx, if_pos hv, q_letE (τ.1 a 15), q_letE, rs_81_0 r x3 v h]
theorem rs_e_0 (r x3 v : Int32) (h0 : (τ.1 a 12).toInt = 0) (hr : ¬ r.toInt < 0) (hs : ¬ (τ.1 a 27).toInt = 30) (hx : x3.toInt = 0 ∨ ¬ v.toInt = 3) : ∃ fu : Nat, ((901 - ((hd_M X a r τ).1 a 15).toInt).toNat + (1 - ((hd_M X a r τ).1 a 12).toInt).toNat) < fu ∧ F_X12_readStep_d0_J20_1 X r τ a v x3 = F_X12_readStep_d0_L140_5 X x3 ((4376 : Int32) + 9 * τ.1 a 27) a fu (hd_M X a r τ) := by
  refine ⟨(901 - ((hd_M X a r τ).1 a 15).toInt).toNat + (1 - ((hd_M X a r τ).1 a 12).toInt).toNat + 1, Nat.lt_succ_self _, ?_⟩
  have e : F_X12_readStep_d0_J81_4 X a r x3 τ = F_X12_readStep_d0_L140_5 X x3 ((4376 : Int32) + 9 * τ.1 a 27) a ((901 - ((hd_M X a r τ).1 a 15).toInt).toNat + (1 - ((hd_M X a r τ).1 a 12).toInt).toNat + 1) (hd_M X a r τ) := by
    unfold F_X12_readStep_d0_J81_4
    rw [q_letE (τ.1 a 12), h0, if_neg (by decide : ¬ (0 : Int) < 0), q_letE (τ.1 a 27), q_letE ((9 : Int32) * τ.1 a 27), q_letE ((4376 : Int32) + 9 * τ.1 a 27), q_letE (τ.1 a 27), q_letE (τ.1 a 27 + 1), q_letE, q_letE, q_letE, q_letE, q_letE, q_letE]
    rfl
  unfold F_X12_readStep_d0_J20_1 F_X12_readStep_d0_J29_2 F_X12_readStep_d0_J55_3
  rw [if_neg hr, q_letE (τ.1 a 12), h0, if_pos rfl, q_letE (τ.1 a 27), if_neg hs, q_letE (τ.1 a 12), h0, if_pos rfl]
  by_cases q : x3.toInt = 0
  · rw [if_pos q, e]
  · rw [if_neg q]
    rcases hx with hx | hx
    · exact absurd hx q
    · rw [if_neg hx, e]
theorem rs_81_1 (r x3 v : Int32) (h : 0 < (τ.1 a 12).toInt) : F_X12_readStep_d1_J81_4 X a r x3 v τ = τ := by
  unfold F_X12_readStep_d1_J81_4
  rw [q_letE, if_pos h]
theorem rs_55_1 (r x3 v : Int32) (h : 0 < (τ.1 a 12).toInt) : F_X12_readStep_d1_J55_3 X a x3 r v τ = τ := by
  unfold F_X12_readStep_d1_J55_3
  rw [q_letE, if_neg (by omega), rs_81_1 r x3 v h]
theorem rs_29_1 (r x3 v : Int32) (h : 0 < (τ.1 a 12).toInt) : F_X12_readStep_d1_J29_2 X a x3 r v τ = τ := by
  unfold F_X12_readStep_d1_J29_2
  rw [q_letE, if_neg (by omega), rs_55_1 r x3 v h]
theorem rs_d_1 (v : Int32) : F_X12_readStep_d1 X τ a v = F_X12_readStep_d1_J20_1 X (F_X12_stepWord X τ a) τ a v (if (F_X12_stepWord X τ a).toInt = 3 ∨ (F_X12_stepWord X τ a).toInt = 4 then 1 else 0) := by
  unfold F_X12_readStep_d1
  rw [q_letE]
  by_cases q3 : (F_X12_stepWord X τ a).toInt = 3
  · rw [if_pos q3, if_pos (Or.inl q3)]
  · rw [if_neg q3]
    by_cases q4 : (F_X12_stepWord X τ a).toInt = 4
    · rw [if_pos q4, if_pos (Or.inr q4)]
    · rw [if_neg q4, if_neg (fun z => z.elim q3 q4)]
theorem rs_a_1 (r x3 v : Int32) (hr : r.toInt < 0) (h : 0 < ((F_X12_wrong X τ a).1 a 12).toInt) : F_X12_readStep_d1_J20_1 X r τ a v x3 = F_X12_wrong X τ a := by
  unfold F_X12_readStep_d1_J20_1
  rw [if_pos hr, q_letE, rs_29_1 r x3 v h]
theorem rs_b_1 (r x3 v : Int32) (h0 : (τ.1 a 12).toInt = 0) (hr : ¬ r.toInt < 0) (hs : (τ.1 a 27).toInt = 30) (h : 0 < ((F_X12_fail X τ a 6 (τ.1 a 15)).1 a 12).toInt) : F_X12_readStep_d1_J20_1 X r τ a v x3 = F_X12_fail X τ a 6 (τ.1 a 15) := by
  unfold F_X12_readStep_d1_J20_1 F_X12_readStep_d1_J29_2
  rw [if_neg hr, q_letE (τ.1 a 12), h0, if_pos rfl, q_letE (τ.1 a 27), if_pos hs, q_letE (τ.1 a 15), q_letE, rs_55_1 r x3 v h]
theorem rs_e_1 (r x3 v : Int32) (h0 : (τ.1 a 12).toInt = 0) (hr : ¬ r.toInt < 0) (hs : ¬ (τ.1 a 27).toInt = 30) (hx : x3.toInt = 0 ∨ ¬ v.toInt = 3) : ∃ fu : Nat, ((901 - ((hd_M X a r τ).1 a 15).toInt).toNat + (1 - ((hd_M X a r τ).1 a 12).toInt).toNat) < fu ∧ F_X12_readStep_d1_J20_1 X r τ a v x3 = F_X12_readStep_d1_L140_5 X x3 ((4376 : Int32) + 9 * τ.1 a 27) a v fu (hd_M X a r τ) := by
  refine ⟨(901 - ((hd_M X a r τ).1 a 15).toInt).toNat + (1 - ((hd_M X a r τ).1 a 12).toInt).toNat + 1, Nat.lt_succ_self _, ?_⟩
  have e : F_X12_readStep_d1_J81_4 X a r x3 v τ = F_X12_readStep_d1_L140_5 X x3 ((4376 : Int32) + 9 * τ.1 a 27) a v ((901 - ((hd_M X a r τ).1 a 15).toInt).toNat + (1 - ((hd_M X a r τ).1 a 12).toInt).toNat + 1) (hd_M X a r τ) := by
    unfold F_X12_readStep_d1_J81_4
    rw [q_letE (τ.1 a 12), h0, if_neg (by decide : ¬ (0 : Int) < 0), q_letE (τ.1 a 27), q_letE ((9 : Int32) * τ.1 a 27), q_letE ((4376 : Int32) + 9 * τ.1 a 27), q_letE (τ.1 a 27), q_letE (τ.1 a 27 + 1), q_letE, q_letE, q_letE, q_letE, q_letE, q_letE]
    rfl
  unfold F_X12_readStep_d1_J20_1 F_X12_readStep_d1_J29_2 F_X12_readStep_d1_J55_3
  rw [if_neg hr, q_letE (τ.1 a 12), h0, if_pos rfl, q_letE (τ.1 a 27), if_neg hs, q_letE (τ.1 a 12), h0, if_pos rfl]
  by_cases q : x3.toInt = 0
  · rw [if_pos q, e]
  · rw [if_neg q]
    rcases hx with hx | hx
    · exact absurd hx q
    · rw [if_neg hx, e]
theorem rs_81_2 (r x3 v : Int32) (h : 0 < (τ.1 a 12).toInt) : F_X12_readStep_d2_J81_4 X a r x3 v τ = τ := by
  unfold F_X12_readStep_d2_J81_4
  rw [q_letE, if_pos h]
theorem rs_55_2 (r x3 v : Int32) (h : 0 < (τ.1 a 12).toInt) : F_X12_readStep_d2_J55_3 X a x3 r v τ = τ := by
  unfold F_X12_readStep_d2_J55_3
  rw [q_letE, if_neg (by omega), rs_81_2 r x3 v h]
theorem rs_29_2 (r x3 v : Int32) (h : 0 < (τ.1 a 12).toInt) : F_X12_readStep_d2_J29_2 X a x3 r v τ = τ := by
  unfold F_X12_readStep_d2_J29_2
  rw [q_letE, if_neg (by omega), rs_55_2 r x3 v h]
theorem rs_d_2 (v : Int32) : F_X12_readStep_d2 X τ a v = F_X12_readStep_d2_J20_1 X (F_X12_stepWord X τ a) τ a v (if (F_X12_stepWord X τ a).toInt = 3 ∨ (F_X12_stepWord X τ a).toInt = 4 then 1 else 0) := by
  unfold F_X12_readStep_d2
  rw [q_letE]
  by_cases q3 : (F_X12_stepWord X τ a).toInt = 3
  · rw [if_pos q3, if_pos (Or.inl q3)]
  · rw [if_neg q3]
    by_cases q4 : (F_X12_stepWord X τ a).toInt = 4
    · rw [if_pos q4, if_pos (Or.inr q4)]
    · rw [if_neg q4, if_neg (fun z => z.elim q3 q4)]
theorem rs_a_2 (r x3 v : Int32) (hr : r.toInt < 0) (h : 0 < ((F_X12_wrong X τ a).1 a 12).toInt) : F_X12_readStep_d2_J20_1 X r τ a v x3 = F_X12_wrong X τ a := by
  unfold F_X12_readStep_d2_J20_1
  rw [if_pos hr, q_letE, rs_29_2 r x3 v h]
theorem rs_b_2 (r x3 v : Int32) (h0 : (τ.1 a 12).toInt = 0) (hr : ¬ r.toInt < 0) (hs : (τ.1 a 27).toInt = 30) (h : 0 < ((F_X12_fail X τ a 6 (τ.1 a 15)).1 a 12).toInt) : F_X12_readStep_d2_J20_1 X r τ a v x3 = F_X12_fail X τ a 6 (τ.1 a 15) := by
  unfold F_X12_readStep_d2_J20_1 F_X12_readStep_d2_J29_2
  rw [if_neg hr, q_letE (τ.1 a 12), h0, if_pos rfl, q_letE (τ.1 a 27), if_pos hs, q_letE (τ.1 a 15), q_letE, rs_55_2 r x3 v h]
theorem rs_e_2 (r x3 v : Int32) (h0 : (τ.1 a 12).toInt = 0) (hr : ¬ r.toInt < 0) (hs : ¬ (τ.1 a 27).toInt = 30) (hx : x3.toInt = 0 ∨ ¬ v.toInt = 3) : ∃ fu : Nat, ((901 - ((hd_M X a r τ).1 a 15).toInt).toNat + (1 - ((hd_M X a r τ).1 a 12).toInt).toNat) < fu ∧ F_X12_readStep_d2_J20_1 X r τ a v x3 = F_X12_readStep_d2_L140_5 X x3 ((4376 : Int32) + 9 * τ.1 a 27) a v fu (hd_M X a r τ) := by
  refine ⟨(901 - ((hd_M X a r τ).1 a 15).toInt).toNat + (1 - ((hd_M X a r τ).1 a 12).toInt).toNat + 1, Nat.lt_succ_self _, ?_⟩
  have e : F_X12_readStep_d2_J81_4 X a r x3 v τ = F_X12_readStep_d2_L140_5 X x3 ((4376 : Int32) + 9 * τ.1 a 27) a v ((901 - ((hd_M X a r τ).1 a 15).toInt).toNat + (1 - ((hd_M X a r τ).1 a 12).toInt).toNat + 1) (hd_M X a r τ) := by
    unfold F_X12_readStep_d2_J81_4
    rw [q_letE (τ.1 a 12), h0, if_neg (by decide : ¬ (0 : Int) < 0), q_letE (τ.1 a 27), q_letE ((9 : Int32) * τ.1 a 27), q_letE ((4376 : Int32) + 9 * τ.1 a 27), q_letE (τ.1 a 27), q_letE (τ.1 a 27 + 1), q_letE, q_letE, q_letE, q_letE, q_letE, q_letE]
    rfl
  unfold F_X12_readStep_d2_J20_1 F_X12_readStep_d2_J29_2 F_X12_readStep_d2_J55_3
  rw [if_neg hr, q_letE (τ.1 a 12), h0, if_pos rfl, q_letE (τ.1 a 27), if_neg hs, q_letE (τ.1 a 12), h0, if_pos rfl]
  by_cases q : x3.toInt = 0
  · rw [if_pos q, e]
  · rw [if_neg q]
    rcases hx with hx | hx
    · exact absurd hx q
    · rw [if_neg hx, e]
theorem rs_81_3 (r x3 v : Int32) (h : 0 < (τ.1 a 12).toInt) : F_X12_readStep_d3_J81_4 X a r x3 v τ = τ := by
  unfold F_X12_readStep_d3_J81_4
  rw [q_letE, if_pos h]
theorem rs_55_3 (r x3 v : Int32) (h : 0 < (τ.1 a 12).toInt) : F_X12_readStep_d3_J55_3 X a x3 r v τ = τ := by
  unfold F_X12_readStep_d3_J55_3
  rw [q_letE, if_neg (by omega), rs_81_3 r x3 v h]
theorem rs_29_3 (r x3 v : Int32) (h : 0 < (τ.1 a 12).toInt) : F_X12_readStep_d3_J29_2 X a x3 r v τ = τ := by
  unfold F_X12_readStep_d3_J29_2
  rw [q_letE, if_neg (by omega), rs_55_3 r x3 v h]
theorem rs_d_3 (v : Int32) : F_X12_readStep_d3 X τ a v = F_X12_readStep_d3_J20_1 X (F_X12_stepWord X τ a) τ a v (if (F_X12_stepWord X τ a).toInt = 3 ∨ (F_X12_stepWord X τ a).toInt = 4 then 1 else 0) := by
  unfold F_X12_readStep_d3
  rw [q_letE]
  by_cases q3 : (F_X12_stepWord X τ a).toInt = 3
  · rw [if_pos q3, if_pos (Or.inl q3)]
  · rw [if_neg q3]
    by_cases q4 : (F_X12_stepWord X τ a).toInt = 4
    · rw [if_pos q4, if_pos (Or.inr q4)]
    · rw [if_neg q4, if_neg (fun z => z.elim q3 q4)]
theorem rs_a_3 (r x3 v : Int32) (hr : r.toInt < 0) (h : 0 < ((F_X12_wrong X τ a).1 a 12).toInt) : F_X12_readStep_d3_J20_1 X r τ a v x3 = F_X12_wrong X τ a := by
  unfold F_X12_readStep_d3_J20_1
  rw [if_pos hr, q_letE, rs_29_3 r x3 v h]
theorem rs_b_3 (r x3 v : Int32) (h0 : (τ.1 a 12).toInt = 0) (hr : ¬ r.toInt < 0) (hs : (τ.1 a 27).toInt = 30) (h : 0 < ((F_X12_fail X τ a 6 (τ.1 a 15)).1 a 12).toInt) : F_X12_readStep_d3_J20_1 X r τ a v x3 = F_X12_fail X τ a 6 (τ.1 a 15) := by
  unfold F_X12_readStep_d3_J20_1 F_X12_readStep_d3_J29_2
  rw [if_neg hr, q_letE (τ.1 a 12), h0, if_pos rfl, q_letE (τ.1 a 27), if_pos hs, q_letE (τ.1 a 15), q_letE, rs_55_3 r x3 v h]
theorem rs_e_3 (r x3 v : Int32) (h0 : (τ.1 a 12).toInt = 0) (hr : ¬ r.toInt < 0) (hs : ¬ (τ.1 a 27).toInt = 30) (hx : x3.toInt = 0 ∨ ¬ v.toInt = 3) : ∃ fu : Nat, ((901 - ((hd_M X a r τ).1 a 15).toInt).toNat + (1 - ((hd_M X a r τ).1 a 12).toInt).toNat) < fu ∧ F_X12_readStep_d3_J20_1 X r τ a v x3 = F_X12_readStep_d3_L140_5 X x3 ((4376 : Int32) + 9 * τ.1 a 27) a v fu (hd_M X a r τ) := by
  refine ⟨(901 - ((hd_M X a r τ).1 a 15).toInt).toNat + (1 - ((hd_M X a r τ).1 a 12).toInt).toNat + 1, Nat.lt_succ_self _, ?_⟩
  have e : F_X12_readStep_d3_J81_4 X a r x3 v τ = F_X12_readStep_d3_L140_5 X x3 ((4376 : Int32) + 9 * τ.1 a 27) a v ((901 - ((hd_M X a r τ).1 a 15).toInt).toNat + (1 - ((hd_M X a r τ).1 a 12).toInt).toNat + 1) (hd_M X a r τ) := by
    unfold F_X12_readStep_d3_J81_4
    rw [q_letE (τ.1 a 12), h0, if_neg (by decide : ¬ (0 : Int) < 0), q_letE (τ.1 a 27), q_letE ((9 : Int32) * τ.1 a 27), q_letE ((4376 : Int32) + 9 * τ.1 a 27), q_letE (τ.1 a 27), q_letE (τ.1 a 27 + 1), q_letE, q_letE, q_letE, q_letE, q_letE, q_letE]
    rfl
  unfold F_X12_readStep_d3_J20_1 F_X12_readStep_d3_J29_2 F_X12_readStep_d3_J55_3
  rw [if_neg hr, q_letE (τ.1 a 12), h0, if_pos rfl, q_letE (τ.1 a 27), if_neg hs, q_letE (τ.1 a 12), h0, if_pos rfl]
  by_cases q : x3.toInt = 0
  · rw [if_pos q, e]
  · rw [if_neg q]
    rcases hx with hx | hx
    · exact absurd hx q
    · rw [if_neg hx, e]
end RX

/-! FROM 49y.ends.lean.txt -/
/-! A ROUND BEING READ: the body's ends, an end read, a step read by both -/
section RY
variable {X : XW} {lb : Nat → Nat} {R T a g : Nat} {σ τ σ' τ' : ST} {n dp s L : Int} {B c w : Int → Int} {U Vg : Nat → Int → Int}
theorem ls_flat_0 (x3 z v : Int32) (hx : x3.toInt = 0) (fu : Nat) (hf : 0 < fu) : F_X12_readStep_d0_L140_5 X x3 z a fu τ = q_si τ (q_rf X a 20) (z + 8).toNatClampNeg (τ.1 a 27) := by
  obtain ⟨k, rfl⟩ : ∃ k, fu = k + 1 := ⟨fu - 1, by omega⟩
  rw [F_X12_readStep_d0_L140_5_s]
  unfold F_X12_readStep_d0_B140_5
  rw [if_pos hx]
  unfold F_X12_readStep_d0_E168_6
  rw [if_pos hx, q_letE, q_letE, q_letE]
theorem ls_flat_1 (x3 z v : Int32) (hx : x3.toInt = 0) (fu : Nat) (hf : 0 < fu) : F_X12_readStep_d1_L140_5 X x3 z a v fu τ = q_si τ (q_rf X a 20) (z + 8).toNatClampNeg (τ.1 a 27) := by
  obtain ⟨k, rfl⟩ : ∃ k, fu = k + 1 := ⟨fu - 1, by omega⟩
  rw [F_X12_readStep_d1_L140_5_s]
  unfold F_X12_readStep_d1_B140_5
  rw [if_pos hx]
  unfold F_X12_readStep_d1_E168_6
  rw [if_pos hx, q_letE, q_letE, q_letE]
theorem ls_bad_1 (x3 z v : Int32) (hx : ¬ x3.toInt = 0) (fu : Nat) (hf : 0 < fu) (h : 0 < (τ.1 a 12).toInt) : F_X12_readStep_d1_L140_5 X x3 z a v fu τ = q_si τ (q_rf X a 20) (z + 8).toNatClampNeg (τ.1 a 27) := by
  obtain ⟨k, rfl⟩ : ∃ k, fu = k + 1 := ⟨fu - 1, by omega⟩
  rw [F_X12_readStep_d1_L140_5_s]
  unfold F_X12_readStep_d1_B140_5
  rw [if_neg hx, q_letE (τ.1 a 12), if_neg (by omega : ¬ (τ.1 a 12).toInt = 0)]
  unfold F_X12_readStep_d1_E168_7
  rw [if_neg hx, q_letE (F_X12_isEnd X τ a), q_letE (F_X12_must X τ a (F_X12_isEnd X τ a)), tm_must2 h, q_letE (F_X12_isSign X τ a 59), q_letE (F_X12_must X τ a (F_X12_isSign X τ a 59)), tm_must2 h, q_letE, q_letE, q_letE]
theorem ls_end_1 (x3 z v : Int32) (hx : ¬ x3.toInt = 0) (fu : Nat) (hf : 0 < fu) (h : (τ.1 a 12).toInt = 0) (he : ¬ (F_X12_isEnd X τ a).toInt = 0) {τ5 : ST} (h5 : τ5 = F_X12_must X (F_X12_must X τ a (F_X12_isEnd X τ a)) a (F_X12_isSign X (F_X12_must X τ a (F_X12_isEnd X τ a)) a 59)) : F_X12_readStep_d1_L140_5 X x3 z a v fu τ = q_si τ5 (q_rf X a 20) (z + 8).toNatClampNeg (τ5.1 a 27) := by
  obtain ⟨k, rfl⟩ : ∃ k, fu = k + 1 := ⟨fu - 1, by omega⟩
  rw [F_X12_readStep_d1_L140_5_s]
  unfold F_X12_readStep_d1_B140_5
  rw [if_neg hx, q_letE (τ.1 a 12), if_pos h, q_letE (F_X12_isEnd X τ a), if_neg he]
  unfold F_X12_readStep_d1_E168_8
  rw [if_neg hx, q_letE (F_X12_isEnd X τ a), q_letE (F_X12_must X τ a (F_X12_isEnd X τ a)), q_letE (F_X12_isSign X (F_X12_must X τ a (F_X12_isEnd X τ a)) a 59), q_letE, ← h5, q_letE, q_letE, q_letE]
theorem ls_rec_1 (x3 z v : Int32) (hx : ¬ x3.toInt = 0) (fu : Nat) (h : (τ.1 a 12).toInt = 0) (he : (F_X12_isEnd X τ a).toInt = 0) : F_X12_readStep_d1_L140_5 X x3 z a v (fu + 1) τ = F_X12_readStep_d1_L140_5 X x3 z a v fu (F_X12_readStep_d0 X τ a (v + 1)) := by
  rw [F_X12_readStep_d1_L140_5_s]
  unfold F_X12_readStep_d1_B140_5
  rw [if_neg hx, q_letE (τ.1 a 12), if_pos h, q_letE (F_X12_isEnd X τ a), if_pos he, q_letE (v + 1), q_letE]
theorem ls_flat_2 (x3 z v : Int32) (hx : x3.toInt = 0) (fu : Nat) (hf : 0 < fu) : F_X12_readStep_d2_L140_5 X x3 z a v fu τ = q_si τ (q_rf X a 20) (z + 8).toNatClampNeg (τ.1 a 27) := by
  obtain ⟨k, rfl⟩ : ∃ k, fu = k + 1 := ⟨fu - 1, by omega⟩
  rw [F_X12_readStep_d2_L140_5_s]
  unfold F_X12_readStep_d2_B140_5
  rw [if_pos hx]
  unfold F_X12_readStep_d2_E168_6
  rw [if_pos hx, q_letE, q_letE, q_letE]
theorem ls_bad_2 (x3 z v : Int32) (hx : ¬ x3.toInt = 0) (fu : Nat) (hf : 0 < fu) (h : 0 < (τ.1 a 12).toInt) : F_X12_readStep_d2_L140_5 X x3 z a v fu τ = q_si τ (q_rf X a 20) (z + 8).toNatClampNeg (τ.1 a 27) := by
  obtain ⟨k, rfl⟩ : ∃ k, fu = k + 1 := ⟨fu - 1, by omega⟩
  rw [F_X12_readStep_d2_L140_5_s]
  unfold F_X12_readStep_d2_B140_5
  rw [if_neg hx, q_letE (τ.1 a 12), if_neg (by omega : ¬ (τ.1 a 12).toInt = 0)]
  unfold F_X12_readStep_d2_E168_7
  rw [if_neg hx, q_letE (F_X12_isEnd X τ a), q_letE (F_X12_must X τ a (F_X12_isEnd X τ a)), tm_must2 h, q_letE (F_X12_isSign X τ a 59), q_letE (F_X12_must X τ a (F_X12_isSign X τ a 59)), tm_must2 h, q_letE, q_letE, q_letE]
theorem ls_end_2 (x3 z v : Int32) (hx : ¬ x3.toInt = 0) (fu : Nat) (hf : 0 < fu) (h : (τ.1 a 12).toInt = 0) (he : ¬ (F_X12_isEnd X τ a).toInt = 0) {τ5 : ST} (h5 : τ5 = F_X12_must X (F_X12_must X τ a (F_X12_isEnd X τ a)) a (F_X12_isSign X (F_X12_must X τ a (F_X12_isEnd X τ a)) a 59)) : F_X12_readStep_d2_L140_5 X x3 z a v fu τ = q_si τ5 (q_rf X a 20) (z + 8).toNatClampNeg (τ5.1 a 27) := by
  obtain ⟨k, rfl⟩ : ∃ k, fu = k + 1 := ⟨fu - 1, by omega⟩
  rw [F_X12_readStep_d2_L140_5_s]
  unfold F_X12_readStep_d2_B140_5
  rw [if_neg hx, q_letE (τ.1 a 12), if_pos h, q_letE (F_X12_isEnd X τ a), if_neg he]
  unfold F_X12_readStep_d2_E168_8
  rw [if_neg hx, q_letE (F_X12_isEnd X τ a), q_letE (F_X12_must X τ a (F_X12_isEnd X τ a)), q_letE (F_X12_isSign X (F_X12_must X τ a (F_X12_isEnd X τ a)) a 59), q_letE, ← h5, q_letE, q_letE, q_letE]
theorem ls_rec_2 (x3 z v : Int32) (hx : ¬ x3.toInt = 0) (fu : Nat) (h : (τ.1 a 12).toInt = 0) (he : (F_X12_isEnd X τ a).toInt = 0) : F_X12_readStep_d2_L140_5 X x3 z a v (fu + 1) τ = F_X12_readStep_d2_L140_5 X x3 z a v fu (F_X12_readStep_d1 X τ a (v + 1)) := by
  rw [F_X12_readStep_d2_L140_5_s]
  unfold F_X12_readStep_d2_B140_5
  rw [if_neg hx, q_letE (τ.1 a 12), if_pos h, q_letE (F_X12_isEnd X τ a), if_pos he, q_letE (v + 1), q_letE]
theorem ls_flat_3 (x3 z v : Int32) (hx : x3.toInt = 0) (fu : Nat) (hf : 0 < fu) : F_X12_readStep_d3_L140_5 X x3 z a v fu τ = q_si τ (q_rf X a 20) (z + 8).toNatClampNeg (τ.1 a 27) := by
  obtain ⟨k, rfl⟩ : ∃ k, fu = k + 1 := ⟨fu - 1, by omega⟩
  rw [F_X12_readStep_d3_L140_5_s]
  unfold F_X12_readStep_d3_B140_5
  rw [if_pos hx]
  unfold F_X12_readStep_d3_E168_6
  rw [if_pos hx, q_letE, q_letE, q_letE]
theorem ls_bad_3 (x3 z v : Int32) (hx : ¬ x3.toInt = 0) (fu : Nat) (hf : 0 < fu) (h : 0 < (τ.1 a 12).toInt) : F_X12_readStep_d3_L140_5 X x3 z a v fu τ = q_si τ (q_rf X a 20) (z + 8).toNatClampNeg (τ.1 a 27) := by
  obtain ⟨k, rfl⟩ : ∃ k, fu = k + 1 := ⟨fu - 1, by omega⟩
  rw [F_X12_readStep_d3_L140_5_s]
  unfold F_X12_readStep_d3_B140_5
  rw [if_neg hx, q_letE (τ.1 a 12), if_neg (by omega : ¬ (τ.1 a 12).toInt = 0)]
  unfold F_X12_readStep_d3_E168_7
  rw [if_neg hx, q_letE (F_X12_isEnd X τ a), q_letE (F_X12_must X τ a (F_X12_isEnd X τ a)), tm_must2 h, q_letE (F_X12_isSign X τ a 59), q_letE (F_X12_must X τ a (F_X12_isSign X τ a 59)), tm_must2 h, q_letE, q_letE, q_letE]
theorem ls_end_3 (x3 z v : Int32) (hx : ¬ x3.toInt = 0) (fu : Nat) (hf : 0 < fu) (h : (τ.1 a 12).toInt = 0) (he : ¬ (F_X12_isEnd X τ a).toInt = 0) {τ5 : ST} (h5 : τ5 = F_X12_must X (F_X12_must X τ a (F_X12_isEnd X τ a)) a (F_X12_isSign X (F_X12_must X τ a (F_X12_isEnd X τ a)) a 59)) : F_X12_readStep_d3_L140_5 X x3 z a v fu τ = q_si τ5 (q_rf X a 20) (z + 8).toNatClampNeg (τ5.1 a 27) := by
  obtain ⟨k, rfl⟩ : ∃ k, fu = k + 1 := ⟨fu - 1, by omega⟩
  rw [F_X12_readStep_d3_L140_5_s]
  unfold F_X12_readStep_d3_B140_5
  rw [if_neg hx, q_letE (τ.1 a 12), if_pos h, q_letE (F_X12_isEnd X τ a), if_neg he]
  unfold F_X12_readStep_d3_E168_8
  rw [if_neg hx, q_letE (F_X12_isEnd X τ a), q_letE (F_X12_must X τ a (F_X12_isEnd X τ a)), q_letE (F_X12_isSign X (F_X12_must X τ a (F_X12_isEnd X τ a)) a 59), q_letE, ← h5, q_letE, q_letE, q_letE]
theorem ls_rec_3 (x3 z v : Int32) (hx : ¬ x3.toInt = 0) (fu : Nat) (h : (τ.1 a 12).toInt = 0) (he : (F_X12_isEnd X τ a).toInt = 0) : F_X12_readStep_d3_L140_5 X x3 z a v (fu + 1) τ = F_X12_readStep_d3_L140_5 X x3 z a v fu (F_X12_readStep_d2 X τ a (v + 1)) := by
  rw [F_X12_readStep_d3_L140_5_s]
  unfold F_X12_readStep_d3_B140_5
  rw [if_neg hx, q_letE (τ.1 a 12), if_pos h, q_letE (F_X12_isEnd X τ a), if_pos he, q_letE (v + 1), q_letE]
/-- which step stands here, for both -/
theorem rd_act (I : rd_I X R T a g n B Vg w σ τ U dp c s) : ((F_X4_actionHere X σ R).toInt = -1 ∧ (F_X12_stepWord X τ a).toInt = -1) ∨ (rd_k (F_X12_stepWord X τ a).toInt (F_X4_actionHere X σ R).toInt ∧ (τ.1 a 14).toInt = 1) := by
  obtain ⟨S, M, K, h0, hV⟩ := I
  have tw := tm_stepWord (X := X) (σ := τ) (a := a)
  have c14 : y_cw 14 = 677454 := rfl
  have c9 : y_cw 9 = 402611 := rfl
  have c10 : y_cw 10 = 150637203 := rfl
  have c17 : y_cw 17 = 762030 := rfl
  have c16 : y_cw 16 = 409072 := rfl
  have c15 : y_cw 15 = 643568 := rfl
  have iw : ∀ rr : Nat, y_isw rr → (F_X3_isWord X σ R rr).toInt = if (τ.1 a 14).toInt = 1 ∧ (τ.2.1 a 19).toInt = y_cw rr then 1 else 0 := fun rr hr => tl_isWord S.1 K hr
  have i1 : ∀ rr : Nat, y_isw rr → (τ.1 a 14).toInt = 1 ∧ (τ.2.1 a 19).toInt = y_cw rr → ¬ (F_X3_isWord X σ R rr).toInt = 0 := fun rr hr h => by rw [iw rr hr, if_pos h]; decide
  have i0 : ∀ rr : Nat, y_isw rr → ¬ ((τ.1 a 14).toInt = 1 ∧ (τ.2.1 a 19).toInt = y_cw rr) → (F_X3_isWord X σ R rr).toInt = 0 := fun rr hr h => by rw [iw rr hr, if_neg h]
  rw [tw]
  unfold F_X4_actionHere rd_k
  rw [q_letE (F_X3_isWord X σ R 14)]
  by_cases w14 : (τ.1 a 14).toInt = 1 ∧ (τ.2.1 a 19).toInt = 677454
  · rw [if_pos w14, if_neg (i1 14 ⟨by decide, by decide⟩ w14)]
    exact Or.inr ⟨Or.inl ⟨rfl, rfl⟩, w14.1⟩
  rw [if_neg w14, if_pos (i0 14 ⟨by decide, by decide⟩ w14), q_letE (F_X3_isWord X σ R 9)]
  by_cases w9 : (τ.1 a 14).toInt = 1 ∧ (τ.2.1 a 19).toInt = 402611
  · rw [if_pos w9, if_neg (i1 9 ⟨by decide, by decide⟩ w9)]
    exact Or.inr ⟨Or.inr (Or.inl ⟨rfl, rfl⟩), w9.1⟩
  rw [if_neg w9, if_pos (i0 9 ⟨by decide, by decide⟩ w9), q_letE (F_X3_isWord X σ R 10)]
  by_cases w10 : (τ.1 a 14).toInt = 1 ∧ (τ.2.1 a 19).toInt = 150637203
  · rw [if_pos w10, if_neg (i1 10 ⟨by decide, by decide⟩ w10)]
    exact Or.inr ⟨Or.inr (Or.inr (Or.inl ⟨rfl, rfl⟩)), w10.1⟩
  rw [if_neg w10, if_pos (i0 10 ⟨by decide, by decide⟩ w10), q_letE (F_X3_isWord X σ R 15)]
  by_cases w15 : (τ.1 a 14).toInt = 1 ∧ (τ.2.1 a 19).toInt = 643568
  · rw [if_neg (show ¬ ((τ.1 a 14).toInt = 1 ∧ (τ.2.1 a 19).toInt = 762030) from fun z => by omega), if_neg (show ¬ ((τ.1 a 14).toInt = 1 ∧ (τ.2.1 a 19).toInt = 409072) from fun z => by omega), if_pos w15, if_neg (i1 15 ⟨by decide, by decide⟩ w15)]
    exact Or.inr ⟨Or.inr (Or.inr (Or.inr (Or.inl ⟨rfl, rfl⟩))), w15.1⟩
  rw [if_pos (i0 15 ⟨by decide, by decide⟩ w15), q_letE (F_X3_isWord X σ R 16)]
  by_cases w16 : (τ.1 a 14).toInt = 1 ∧ (τ.2.1 a 19).toInt = 409072
  · rw [if_neg (show ¬ ((τ.1 a 14).toInt = 1 ∧ (τ.2.1 a 19).toInt = 762030) from fun z => by omega), if_pos w16, if_neg (i1 16 ⟨by decide, by decide⟩ w16)]
    exact Or.inr ⟨Or.inr (Or.inr (Or.inr (Or.inr (Or.inl ⟨rfl, rfl⟩)))), w16.1⟩
  rw [if_pos (i0 16 ⟨by decide, by decide⟩ w16), q_letE (F_X3_isWord X σ R 17)]
  by_cases w17 : (τ.1 a 14).toInt = 1 ∧ (τ.2.1 a 19).toInt = 762030
  · rw [if_pos w17, if_neg (i1 17 ⟨by decide, by decide⟩ w17)]
    exact Or.inr ⟨Or.inr (Or.inr (Or.inr (Or.inr (Or.inr ⟨rfl, rfl⟩)))), w17.1⟩
  · rw [if_neg w17, if_neg w16, if_neg w15, if_pos (i0 17 ⟨by decide, by decide⟩ w17)]
    exact Or.inl ⟨rfl, rfl⟩
/-- an end read by both -/
theorem op_end (Y : y_S X lb) (D : rd_D X lb R T) (ha : q_kd X a = 12) (G : y_G X lb g 1) (I : rd_I X R T a g n B Vg w σ τ U (dp + 1) c s) (hd : 0 ≤ dp ∧ dp < 3) (hL : U 0 2 = L) (hl : 0 ≤ L ∧ L < 60) {l0 : Int} (h6 : U 6 dp = l0) (hl0 : 0 ≤ l0 ∧ l0 < L) (he : ¬ (F_X12_isEnd X τ a).toInt = 0) {τ5 : ST} (h5 : τ5 = F_X12_must X (F_X12_must X τ a (F_X12_isEnd X τ a)) a (F_X12_isSign X (F_X12_must X τ a (F_X12_isEnd X τ a)) a 59)) :
    ∃ (z : Int32) (σ' : ST), F_X4_readEnd X σ R = (z, σ') ∧ rd_Fr X R a σ σ' τ τ5 ∧ ((z.toInt = 1 ∧ rd_I X R T a g n B Vg w σ' τ5 (y_up (y_up (y_up (y_up U 1 L 9) 0 2 (L + 1)) 2 L l0) 2 l0 L) dp c s ∧ (τ.1 a 15).toInt < (τ5.1 a 15).toInt) ∨ (z.toInt = 0 ∧ tl_F σ' R τ5 a)) := by
  obtain ⟨S, M, K, h0, hV⟩ := I
  have hT := Y.1
  have kb := K.b
  have one : (1 : Int32).toInt = 1 := rfl
  have n6 : ((rdN 6 : Nat) : Int) = 3 := rfl
  have n2 : ((rdN 2 : Nat) : Int) = 60 := rfl
  have ty : (τ.1 a 14).toInt = 1 := by
    rw [tm_isEnd] at he
    by_cases q : (τ.1 a 14).toInt = 1 ∧ (τ.2.1 a 19).toInt = 5572
    · exact q.1
    · rw [if_neg q] at he
      exact absurd rfl he
  unfold F_X4_readEnd
  have f10 : (σ.1 R 10).toInt = dp + 1 := S.2.2
  rw [q_letE (σ.1 R 10), if_neg (by omega : ¬ (σ.1 R 10).toInt = 0), q_letE (σ.1 R 10)]
  obtain ⟨u, hu⟩ : ∃ u, u = σ.1 R 10 - 1 := ⟨_, rfl⟩
  have uv : u.toInt = dp := by rw [hu, ar_sub, f10, one, ar_wr (by omega) (by omega)]; omega
  rw [← hu, q_letE u, q_letE (q_si σ R 10 u)]
  obtain ⟨S1, x1⟩ := S.dep D u
  rw [uv] at S1
  have sc1 := rd_sameD (σ := σ) (R := R) u
  obtain ⟨σ1, e1⟩ : ∃ t, t = q_si σ R 10 u := ⟨_, rfl⟩
  rw [← e1] at S1 x1 sc1 ⊢
  have g7 : (F_X5_get X σ1 (q_rf X R 9) (σ1.1 R 10)).toInt = l0 := (S1.get Y D (id := 6) (r := q_rf X R 9) ⟨by decide, by decide⟩ rfl S1.2.2 hd.1 (by rw [n6]; exact hd.2)).trans h6
  rw [q_letE (σ1.1 R 10), q_letE (F_X5_get X σ1 (q_rf X R 9) (σ1.1 R 10))]
  obtain ⟨r7, hr7⟩ : ∃ u, u = F_X5_get X σ1 (q_rf X R 9) (σ1.1 R 10) := ⟨_, rfl⟩
  rw [← hr7] at g7 ⊢
  obtain ⟨z8, σ2, e2, hz8, S2, x2, sc2⟩ := op_add Y D S1 hL hl 9
  rw [e2, q_biP z8 σ2]
  have e9 : (9 : Int32).toInt = 9 := rfl
  rw [e9] at S2
  obtain ⟨S3, x3⟩ := S2.set Y D (id := 2) (r := q_rf X (q_rf X R 8) 4) ⟨by decide, by decide⟩ rfl hz8 r7 hl.1 (by rw [n2]; exact hl.2)
  have sc3 := rd_sameS (σ := σ2) Y D (id := 2) (r := q_rf X (q_rf X R 8) 4) ⟨by decide, by decide⟩ rfl (x := z8) r7 (by omega) (by rw [n2]; omega)
  rw [g7] at S3
  rw [q_letE (F_X5_set X σ2 (q_rf X (q_rf X R 8) 4) z8 r7)]
  obtain ⟨σ3, e3⟩ : ∃ t, t = F_X5_set X σ2 (q_rf X (q_rf X R 8) 4) z8 r7 := ⟨_, rfl⟩
  rw [← e3] at S3 x3 sc3 ⊢
  obtain ⟨S4, x4⟩ := S3.set Y D (id := 2) (r := q_rf X (q_rf X R 8) 4) ⟨by decide, by decide⟩ rfl g7 z8 hl0.1 (by rw [n2]; omega)
  have sc4 := rd_sameS (σ := σ3) Y D (id := 2) (r := q_rf X (q_rf X R 8) 4) ⟨by decide, by decide⟩ rfl (x := r7) z8 (by omega) (by rw [n2]; omega)
  rw [hz8] at S4
  rw [q_letE (F_X5_set X σ3 (q_rf X (q_rf X R 8) 4) r7 z8)]
  obtain ⟨σ4, e4⟩ : ∃ t, t = F_X5_set X σ3 (q_rf X (q_rf X R 8) 4) r7 z8 := ⟨_, rfl⟩
  rw [← e4] at S4 x4 sc4 ⊢
  have K4 := K.same (fun f a1 a2 => (sc4 f a1 a2).trans ((sc3 f a1 a2).trans ((sc2 f a1 a2).trans (sc1 f a1 a2)))) (tl_same.rf (a := a) (τ := τ))
  have fr4 := rd_Fr.cl (a := a) (τ := τ) (((x1.tr x2).tr x3).tr x4)
  obtain ⟨y1, y2, K5, g5⟩ := tl_adv2 S4.1 M.1 K4
  obtain ⟨S5, f5⟩ := S4.rd D y1.S2
  have M5 := M.rd hT ha y2.S2
  have fr5 := fr4.tr (rd_Fr.rd (τ := τ) hT ha D S4 y1.S2 y2.S2)
  have h05 : ((F_X12_next X τ a).1 a 12).toInt = 0 := by rw [tn_12 y2]; exact h0
  rw [tm_must1 h0 he] at h5
  rw [q_letE (F_X3_advance X σ4 R)]
  obtain ⟨z6, σ6, e6, hz6, ⟨w1, w2, w3⟩⟩ := tl_passSemi S5.1 M5.1 K5 h05
  obtain ⟨S6, f6⟩ := S5.rd D w1
  have M6 := M5.rd hT ha w2
  have fr6 := fr5.tr (rd_Fr.rd (τ := F_X12_next X τ a) hT ha D S5 w1 w2)
  have V6 : y_v X g σ6 = Vg := by rw [fr6.1.v Y D G (by decide), hV]
  rw [← h5] at w2 w3 M6 fr6
  rw [e6, q_biP z6 σ6]
  have k5b := K5.b
  rcases w3 with ⟨q1, K7, h07, g7'⟩ | ⟨q1, F7⟩
  · exact ⟨z6, σ6, rfl, fr6, Or.inl ⟨q1, ⟨S6, M6, K7, h07, V6⟩, by omega⟩⟩
  · exact ⟨z6, σ6, rfl, fr6, Or.inr ⟨by omega, F7⟩⟩
end RY

/-! FROM 49z.loop.lean.txt -/
/-! A ROUND BEING READ: steps with their bodies *d0* to *d3* -/
def rd_Z (U : Nat → Int → Int) (s dp : Int) : Prop := U 0 1 = s ∧ 0 ≤ U 0 2 ∧ U 0 2 + dp ≤ 2 * s ∧ 0 ≤ s ∧ s ≤ 30 ∧ 0 ≤ dp ∧ dp ≤ 3
def rd_p (U U' : Nat → Int → Int) (c c' : Int → Int) (L s dp : Int) : Prop := (∀ (id : Nat) (i : Int), 1 ≤ id → id ≤ 5 → i < L → U' id i = U id i) ∧ (∀ i : Int, i < dp → U' 6 i = U 6 i) ∧ ∀ j : Int, j < 4376 + 9 * s → c' j = c j
theorem rd_p.tr {U U1 U2 : Nat → Int → Int} {c c1 c2 : Int → Int} {L L1 s s1 dp dp1 : Int} (h : rd_p U U1 c c1 L s dp) (k : rd_p U1 U2 c1 c2 L1 s1 dp1) (hL : L ≤ L1) (hs : s ≤ s1) (hd : dp ≤ dp1) : rd_p U U2 c c2 L s dp := ⟨fun id i a b q => (k.1 id i a b (by omega)).trans (h.1 id i a b q), fun i q => (k.2.1 i (by omega)).trans (h.2.1 i q), fun j q => (k.2.2 j (by omega)).trans (h.2.2 j q)⟩
theorem st_l.y {V V' : Nat → Int → Int} {c c' : Int → Int} {s l : Int} (hV : ∀ id : Nat, id = 18 ∨ id = 20 ∨ id = 21 ∨ id = 22 → V' id l = V id l) (hc : ∀ j : Int, 656 + 9 * s ≤ j → j ≤ 656 + 9 * s + 7 → c' j = c j) (h : st_l V c s l) : st_l V' c' s l := by
  unfold st_l at h ⊢
  rw [hV 18 (by decide), hV 20 (by decide), hV 21 (by decide), hV 22 (by decide), hc (656 + 9 * s) (by omega) (by omega), hc (656 + 9 * s + 1) (by omega) (by omega), hc (656 + 9 * s + 2) (by omega) (by omega), hc (656 + 9 * s + 6) (by omega) (by omega), hc (656 + 9 * s + 7) (by omega) (by omega)]
  exact h
/-- what stands between stays -/
theorem fl_y {V V' : Nat → Int → Int} {c c' : Int → Int} (n : Nat) : ∀ {s e l l' : Int}, (∀ (id : Nat) (i : Int), 18 ≤ id → id < 23 → l ≤ i → i < l' → V' id i = V id i) → (∀ j : Int, 656 + 9 * s ≤ j → j < 656 + 9 * e → c' j = c j) → fl V c n s e l l' → fl V' c' n s e l l' := by
  induction n with
  | zero => intro s e l l' _ _ h; exact h
  | succ n ih =>
    intro s e l l' hV hc h
    rcases h with h | ⟨a1, a2, a3⟩
    · exact Or.inl h
    · have st : (l < l') → st_l V' c' s l := fun hl => a2.y (fun id h => hV id l (by omega) (by omega) (Int.le_refl _) hl) (fun j j0 j1 => hc j j0 (by omega))
      rcases a3 with ⟨b1, b2, b3, h3⟩ | ⟨b1, m, b, h4, h5, h6, h7, h8, h9⟩
      · have le := fl_le n h3
        refine Or.inr ⟨a1, st (by omega), Or.inl ⟨?_, ?_, ?_, ih (fun id i q0 q1 q2 q3 => hV id i q0 q1 (by omega) q3) (fun j j0 j1 => hc j (by omega) j1) h3⟩⟩
        · rw [hc _ (by omega) (by omega)]; exact b1
        · rw [hc _ (by omega) (by omega)]; exact b2
        · rw [hc _ (by omega) (by omega)]; exact b3
      · have le8 := fl_le n h8
        have le9 := fl_le n h9
        refine Or.inr ⟨a1, st (by omega), Or.inr ⟨?_, m, b, ?_, ?_, ?_, ?_, ih (fun id i q0 q1 q2 q3 => hV id i q0 q1 (by omega) (by omega)) (fun j j0 j1 => hc j (by omega) (by omega)) h8, ih (fun id i q0 q1 q2 q3 => hV id i q0 q1 (by omega) q3) (fun j j0 j1 => hc j (by omega) j1) h9⟩⟩
        · rw [hc _ (by omega) (by omega)]; exact b1
        · rw [hc _ (by omega) (by omega)]; exact h4
        · rw [hV 18 m (by decide) (by decide) (by omega) (by omega)]; exact h5
        · rw [hV 19 m (by decide) (by decide) (by omega) (by omega)]; exact h6
        · rw [hV 19 l (by decide) (by decide) (by omega) (by omega)]; exact h7
/-- what k lines of the class, and the reference's way to τ', come to -/
def rd_A (X : XW) (R T a g : Nat) (n : Int) (B : Int → Int) (Vg : Nat → Int → Int) (w : Int → Int) (σ τ τ' : ST) (U : Nat → Int → Int) (c : Int → Int) (dp : Int) (Q : (Nat → Int → Int) → (Int → Int) → Int → Prop) : Prop := ∃ k : Nat, 1 ≤ k ∧
  ((∃ (σ' : ST) (U' : Nat → Int → Int) (c' : Int → Int) (s' : Int), (∀ (fu : Nat) (i : Int32), 0 ≤ i.toInt → i.toInt ≤ (τ.1 a 15).toInt → ∃ i' : Int32, i'.toInt = i.toInt + (k : Int) ∧ F_X4_takes_L21_1 X R (q_rf X g 0) (fu + k) i σ = F_X4_takes_L21_1 X R (q_rf X g 0) fu i' σ') ∧ rd_I X R T a g n B Vg w σ' τ' U' dp c' s' ∧ rd_Z U' s' dp ∧ rd_Fr X R a σ σ' τ τ' ∧ Q U' c' s' ∧ (τ.1 a 15).toInt + (k : Int) ≤ (τ'.1 a 15).toInt) ∨
   (∃ σ' : ST, (∀ (fu : Nat) (i : Int32), 0 ≤ i.toInt → i.toInt ≤ (τ.1 a 15).toInt → F_X4_takes_L21_1 X R (q_rf X g 0) (fu + k) i σ = (0, σ')) ∧ tl_F σ' R τ' a ∧ rd_Fr X R a σ σ' τ τ' ∧ (τ.1 a 15).toInt + (k : Int) ≤ 301))
section RZ
variable {X : XW} {lb : Nat → Nat} {R T a g : Nat} {σ τ σ' τ' : ST} {n dp s L : Int} {B c w : Int → Int} {U Vg : Nat → Int → Int}
theorem lc_step (I : rd_I X R T a g n B Vg w σ τ U dp c s) (hn : n ≤ 300) (ht : ¬ (τ.1 a 14).toInt = 0) (he : (F_X12_isEnd X τ a).toInt = 0) (fu : Nat) (i : Int32) (hi : i.toInt ≤ (τ.1 a 15).toInt) : F_X4_takes_L21_1 X R (q_rf X g 0) (fu + 1) i σ = q_bi (F_X4_readStep X σ R (q_rf X g 0)) (fun r_29 σ_30 => if r_29.toInt = 0 then ((0 : Int32), σ_30) else q_let (i + 1 : Int32) (fun z_32 => F_X4_takes_L21_1 X R (q_rf X g 0) fu z_32 σ_30)) := by
  obtain ⟨S, M, K, h0, hV⟩ := I
  have kb := K.b
  have iw := tl_isWord S.1 K (r := 13) ⟨by decide, by decide⟩
  have c13 : y_cw 13 = 5572 := rfl
  rw [tm_isEnd] at he
  rw [c13, he] at iw
  have tt : (σ.1 R 4).toInt = (τ.1 a 14).toInt := K.2.2.1
  rw [F_X4_takes_L21_1_s]
  unfold F_X4_takes_B21_1
  rw [if_pos (by omega), q_letE (σ.1 R 4), tt, if_neg ht, q_letE (F_X3_isWord X σ R 13), iw, if_pos rfl]
theorem lc_end (I : rd_I X R T a g n B Vg w σ τ U dp c s) (hn : n ≤ 300) (he : ¬ (F_X12_isEnd X τ a).toInt = 0) (fu : Nat) (i : Int32) (hi : i.toInt ≤ (τ.1 a 15).toInt) : F_X4_takes_L21_1 X R (q_rf X g 0) (fu + 1) i σ = q_bi (F_X4_readEnd X σ R) (fun r_33 σ_34 => if r_33.toInt = 0 then ((0 : Int32), σ_34) else q_let (i + 1 : Int32) (fun z_36 => F_X4_takes_L21_1 X R (q_rf X g 0) fu z_36 σ_34)) := by
  obtain ⟨S, M, K, h0, hV⟩ := I
  have kb := K.b
  have iw := tl_isWord S.1 K (r := 13) ⟨by decide, by decide⟩
  have c13 : y_cw 13 = 5572 := rfl
  rw [tm_isEnd] at he
  rw [c13] at iw
  have ty : (τ.1 a 14).toInt = 1 := by
    by_cases q : (τ.1 a 14).toInt = 1 ∧ (τ.2.1 a 19).toInt = 5572
    · exact q.1
    · rw [if_neg q] at he
      exact absurd rfl he
  rw [← iw] at he
  have tt : (σ.1 R 4).toInt = (τ.1 a 14).toInt := K.2.2.1
  rw [F_X4_takes_L21_1_s]
  unfold F_X4_takes_B21_1
  rw [if_pos (by omega), q_letE (σ.1 R 4), tt, if_neg (by omega), q_letE (F_X3_isWord X σ R 13), if_neg he]
/-- the text's end -/
theorem lc_fin (I : rd_I X R T a g n B Vg w σ τ U dp c s) (ht : (τ.1 a 14).toInt = 0) (fu : Nat) (i : Int32) : F_X4_takes_L21_1 X R (q_rf X g 0) (fu + 1) i σ = F_X4_takes_E72_3 X σ R := by
  obtain ⟨S, M, K, h0, hV⟩ := I
  have tt : (σ.1 R 4).toInt = (τ.1 a 14).toInt := K.2.2.1
  have e : F_X4_takes_E72_2 X σ R = F_X4_takes_E72_3 X σ R := rfl
  rw [F_X4_takes_L21_1_s]
  unfold F_X4_takes_B21_1
  by_cases q : i.toInt < 300
  · rw [if_pos q, q_letE (σ.1 R 4), tt, if_pos ht]
  · rw [if_neg q, e]
/-- the class's step: a fault, a line, a line with a body -/
theorem cl_step (I : rd_I X R T a g n B Vg w σ τ U dp c s) (hs : U 0 1 = s) :
    ((F_X4_actionHere X σ R).toInt = -1 → F_X4_readStep X σ R (q_rf X g 0) = F_X3_fails X σ R 2) ∧
    ((F_X4_actionHere X σ R).toInt ≠ -1 → ¬ s < 30 → F_X4_readStep X σ R (q_rf X g 0) = F_X3_fails X σ R 6) ∧
    ((F_X4_actionHere X σ R).toInt ≠ -1 → s < 30 → (F_X4_actionHere X σ R).toInt = 4 ∨ (F_X4_actionHere X σ R).toInt = 8 → dp < 3 → F_X4_readStep X σ R (q_rf X g 0) = F_X4_readStep_J72_2 X σ R (F_X4_actionHere X σ R) (q_rf X g 0)) ∧
    ((F_X4_actionHere X σ R).toInt ≠ -1 → s < 30 → (F_X4_actionHere X σ R).toInt = 4 ∨ (F_X4_actionHere X σ R).toInt = 8 → ¬ dp < 3 → F_X4_readStep X σ R (q_rf X g 0) = F_X3_fails X σ R 7) ∧
    ((F_X4_actionHere X σ R).toInt ≠ -1 → s < 30 → 0 ≤ (F_X4_actionHere X σ R).toInt ∧ (F_X4_actionHere X σ R).toInt < 4 → F_X4_readStep X σ R (q_rf X g 0) = F_X4_readStep_J72_4 X σ R (F_X4_actionHere X σ R) 0 (q_rf X g 0)) := by
  obtain ⟨S, M, K, h0, hV⟩ := I
  have f4 : (σ.1 (q_rf X R 8) 1).toInt = s := by
    have z := rv_n (X := X) (R := R) (σ := σ) (id := 0) (by decide) 1
    rw [S.2.1] at z
    exact z.trans hs
  have f10 : (σ.1 R 10).toInt = dp := S.2.2
  have pe : ∀ A : Int32 × ST, q_bi A (fun r s => (r, s)) = A := fun A => by
    obtain ⟨r, s⟩ := A
    rw [q_biP]
  have e8 : (8 : Int32).toInt = 8 := rfl
  have blk : (F_X4_actionHere X σ R).toInt = 4 ∨ (F_X4_actionHere X σ R).toInt = 8 → (if (F_X4_actionHere X σ R).toInt = 4 then F_X4_readStep_J47_1 X σ R (F_X4_actionHere X σ R) (q_rf X g 0) else q_let (F_X8_isWhen X σ (F_X4_actionHere X σ R) : Int32) (fun r_124 => if r_124.toInt = 0 then F_X4_readStep_J52_3 X σ R (F_X4_actionHere X σ R) (q_rf X g 0) (0 : Int32) else F_X4_readStep_J47_1 X σ R (F_X4_actionHere X σ R) (q_rf X g 0))) = F_X4_readStep_J47_1 X σ R (F_X4_actionHere X σ R) (q_rf X g 0) := by
    intro h
    by_cases q : (F_X4_actionHere X σ R).toInt = 4
    · rw [if_pos q]
    · have w : ¬ (F_X8_isWhen X σ (F_X4_actionHere X σ R)).toInt = 0 := by
        unfold F_X8_isWhen
        rw [if_neg (by omega), if_neg (by omega)]
        decide
      rw [if_neg q, q_letE, if_neg w]
  refine ⟨fun h => ?_, fun h hs => ?_, fun h hs hb hd => ?_, fun h hs hb hd => ?_, fun h hs hb => ?_⟩
  · unfold F_X4_readStep
    rw [q_letE, if_pos h, pe]
  · unfold F_X4_readStep
    rw [q_letE, if_neg h, q_letE, f4, if_neg hs, pe]
  · unfold F_X4_readStep
    rw [q_letE, if_neg h, q_letE, f4, if_pos hs, blk hb]
    unfold F_X4_readStep_J47_1
    rw [if_neg (by decide), q_letE, f10, if_pos hd]
  · unfold F_X4_readStep
    rw [q_letE, if_neg h, q_letE, f4, if_pos hs, blk hb]
    unfold F_X4_readStep_J47_1
    rw [if_neg (by decide), q_letE, f10, if_neg hd, pe]
  · have w : (F_X8_isWhen X σ (F_X4_actionHere X σ R)).toInt = 0 := by
      unfold F_X8_isWhen
      rw [if_pos (by omega)]
      rfl
    unfold F_X4_readStep
    rw [q_letE, if_neg h, q_letE, f4, if_pos hs, if_neg (by omega), q_letE, w, if_pos rfl]
    unfold F_X4_readStep_J52_3
    rw [if_pos (by decide)]
end RZ
end
/-! FROM 49c.merged.lean.txt -/
section
/-! FROM 49za.readers.lean.txt -/
/-! A ROUND BEING READ: steps with their bodies, the main induction -/
def rd_Q (U : Nat → Int → Int) (c : Int → Int) (s dp : Int) : (Nat → Int → Int) → (Int → Int) → Int → Prop := fun U' c' s' => (∃ m : Nat, fl (uV U') (uc c') m s s' (U 0 2) (U' 0 2)) ∧ rd_p U U' c c' (U 0 2) s dp
section RA
variable {X : XW} {lb : Nat → Nat} {R T a g : Nat} {σ τ σ1 τ1 σ' τ' : ST} {n dp s L : Int} {B c c1 w : Int → Int} {U U1 Vg : Nat → Int → Int} {Q Q1 : (Nat → Int → Int) → (Int → Int) → Int → Prop}
theorem rA_tr {k1 : Nat} (h1 : ∀ (fu : Nat) (i : Int32), 0 ≤ i.toInt → i.toInt ≤ (τ.1 a 15).toInt → ∃ i' : Int32, i'.toInt = i.toInt + (k1 : Int) ∧ F_X4_takes_L21_1 X R (q_rf X g 0) (fu + k1) i σ = F_X4_takes_L21_1 X R (q_rf X g 0) fu i' σ1) (p1 : (τ.1 a 15).toInt + (k1 : Int) ≤ (τ1.1 a 15).toInt) (f1 : rd_Fr X R a σ σ1 τ τ1) (A : rd_A X R T a g n B Vg w σ1 τ1 τ' U1 c1 dp Q1) (hQ : ∀ U' c' s', Q1 U' c' s' → Q U' c' s') : rd_A X R T a g n B Vg w σ τ τ' U c dp Q := by
  obtain ⟨k, hk, A⟩ := A
  refine ⟨k + k1, by omega, ?_⟩
  rcases A with ⟨σ2, U2, c2, s2, e2, I2, Z2, F2, q2, p2⟩ | ⟨σ2, e2, F2, f2, b2⟩
  · refine Or.inl ⟨σ2, U2, c2, s2, fun fu i i0 i1 => ?_, I2, Z2, f1.tr F2, hQ _ _ _ q2, by rw [Int.natCast_add]; omega⟩
    obtain ⟨i', hi, e⟩ := h1 (fu + k) i i0 i1
    obtain ⟨i2, hi2, e3⟩ := e2 fu i' (by omega) (by omega)
    refine ⟨i2, by rw [hi2, hi, Int.natCast_add]; omega, ?_⟩
    rw [← Nat.add_assoc, e, e3]
  · refine Or.inr ⟨σ2, fun fu i i0 i1 => ?_, F2, f1.tr f2, by rw [Int.natCast_add]; omega⟩
    obtain ⟨i', hi, e⟩ := h1 (fu + k) i i0 i1
    rw [← Nat.add_assoc, e]
    exact e2 fu i' (by omega) (by omega)
theorem rA_1 (I : rd_I X R T a g n B Vg w σ τ U dp c s) (hn : n ≤ 300) (ht : ¬ (τ.1 a 14).toInt = 0) (he : (F_X12_isEnd X τ a).toInt = 0) {z : Int32} (e : F_X4_readStep X σ R (q_rf X g 0) = (z, σ1)) (hz : z.toInt = 1) (fu : Nat) (i : Int32) (i0 : 0 ≤ i.toInt) (i1 : i.toInt ≤ (τ.1 a 15).toInt) : ∃ i' : Int32, i'.toInt = i.toInt + ((1 : Nat) : Int) ∧ F_X4_takes_L21_1 X R (q_rf X g 0) (fu + 1) i σ = F_X4_takes_L21_1 X R (q_rf X g 0) fu i' σ1 := by
  have kb := I.2.2.1.b
  have one : (1 : Int32).toInt = 1 := rfl
  refine ⟨i + 1, by rw [ar_add, one, ar_wr (by omega) (by omega)]; rfl, ?_⟩
  rw [lc_step I hn ht he fu i i1, e, q_biP z σ1, if_neg (by omega), q_letE]
theorem rA_0f (I : rd_I X R T a g n B Vg w σ τ U dp c s) (hn : n ≤ 300) (ht : ¬ (τ.1 a 14).toInt = 0) (he : (F_X12_isEnd X τ a).toInt = 0) {z : Int32} (e : F_X4_readStep X σ R (q_rf X g 0) = (z, σ')) (hz : z.toInt = 0) (f : tl_F σ' R τ' a) (F : rd_Fr X R a σ σ' τ τ') : rd_A X R T a g n B Vg w σ τ τ' U c dp Q := by
  have kb := I.2.2.1.b
  refine ⟨1, Nat.le_refl _, Or.inr ⟨σ', fun fu i i0 i1 => ?_, f, F, by omega⟩⟩
  rw [lc_step I hn ht he fu i i1, e, q_biP z σ', if_pos hz]
theorem rA_1f (I : rd_I X R T a g n B Vg w σ τ U dp c s) (hn : n ≤ 300) (ht : ¬ (τ.1 a 14).toInt = 0) (he : (F_X12_isEnd X τ a).toInt = 0) {z : Int32} (e : F_X4_readStep X σ R (q_rf X g 0) = (z, σ1)) (hz : z.toInt = 1) {s1 dp1 : Int} (I1 : rd_I X R T a g n B Vg w σ1 τ1 U1 dp1 c1 s1) (Z1 : rd_Z U1 s1 dp1) (F : rd_Fr X R a σ σ1 τ τ1) (q : Q U1 c1 s1) (p : (τ.1 a 15).toInt < (τ1.1 a 15).toInt) : rd_A X R T a g n B Vg w σ τ τ1 U c dp1 Q :=
  ⟨1, Nat.le_refl _, Or.inl ⟨σ1, U1, c1, s1, fun fu i i0 i1 => rA_1 I hn ht he e hz fu i i0 i1, I1, Z1, F, q, by omega⟩⟩
/-- a flat step in the round's relation -/
theorem fl_one {V : Nat → Int → Int} {c : Int → Int} {s l : Int} (h : st_l V c s l) (h3 : c (656 + 9 * s) ≠ 3 ∧ c (656 + 9 * s) ≠ 4) (h8 : c (656 + 9 * s + 8) = s + 1) : fl V c 1 s (s + 1) l (l + 1) := Or.inr ⟨by omega, h, Or.inl ⟨h3.1, h3.2, h8, rfl, rfl⟩⟩
theorem uc_e (c : Int → Int) (j : Int) : uc c j = c (3720 + j) := rfl
/-- the reference's last write of a step -/
theorem rd_w8 (hT : q_T X) (ha : q_kd X a = 12) {s0 : Int} (I : rd_I X R T a g n B Vg w σ τ U dp c s) {z : Int32} (hz : z.toInt = 4376 + 9 * s0) (h0 : 0 ≤ s0 ∧ s0 ≤ 30) : rd_I X R T a g n B Vg w σ (q_si τ (q_rf X a 20) (z + 8).toNatClampNeg (τ.1 a 27)) U dp (m_up c (4376 + 9 * s0 + 8) s) s ∧ (z + 8).toInt = 4376 + 9 * s0 + 8 ∧ tl_same a τ (q_si τ (q_rf X a 20) (z + 8).toNatClampNeg (τ.1 a 27)) := by
  obtain ⟨S, M, K, h, hV⟩ := I
  have e8 : (8 : Int32).toInt = 8 := rfl
  have zz : (z + 8).toInt = 4376 + 9 * s0 + 8 := by rw [ar_add, e8, ar_wr (by omega) (by omega), hz]
  obtain ⟨M1, t1⟩ := M.cw hT ha zz (v := τ.1 a 27) (by omega)
  have fs : (τ.1 a 27).toInt = s := M.2.2.2.1
  rw [fs] at M1
  have na : a ≠ q_rf X a 20 := Ne.symm (m_ne (tb_k hT ha).1 ha (by decide))
  exact ⟨⟨S, M1, K.same (fun _ _ _ => rfl) t1, by rw [q_si_ne na]; exact h, hV⟩, zz, t1⟩
theorem rd_p.w8 {U U' : Nat → Int → Int} {c c' : Int → Int} {L s dp s0 v : Int} (h : rd_p U U' c c' L s dp) (hs : s ≤ s0) : rd_p U U' c (m_up c' (4376 + 9 * s0 + 8) v) L s dp := ⟨h.1, h.2.1, fun j q => by rw [m_up_ne (by omega)]; exact h.2.2 j q⟩
/-- a flat step done by both -/
theorem rA_flat (hT : q_T X) (ha : q_kd X a = 12) (I : rd_I X R T a g n B Vg w σ τ U dp c s) (hn : n ≤ 300) (hZ : rd_Z U s dp) (hs : s < 30) (ht : ¬ (τ.1 a 14).toInt = 0) (he : (F_X12_isEnd X τ a).toInt = 0) {k : Int} (hk : k ≠ 3 ∧ k ≠ 4) {z r : Int32} (e : F_X4_readStep X σ R (q_rf X g 0) = (z, σ')) (hz : r.toInt = 4376 + 9 * s) (O : hd_O X R T a g n B Vg w dp s (y_up (y_up U 0 2 (U 0 2 + 1)) 0 1 (s + 1)) c (U 0 2) k σ τ z σ' τ1) : rd_A X R T a g n B Vg w σ τ (q_si τ1 (q_rf X a 20) (r + 8).toNatClampNeg (τ1.1 a 27)) U c dp (rd_Q U c s dp) := by
  obtain ⟨z1, z2, z3, z4, z5, z6, z7⟩ := hZ
  have e8 : (8 : Int32).toInt = 8 := rfl
  have zz : (r + 8).toInt = 4376 + 9 * s + 8 := by rw [ar_add, e8, ar_wr (by omega) (by omega), hz]
  obtain ⟨F, O⟩ := O
  have Fw := F.tr (rd_Fr.cw (R := R) (τ := τ1) (v := τ1.1 a 27) hT ha rd_F.rf zz (by omega))
  rcases O with ⟨o1, ⟨U', c', I', p1, p2, p3⟩, o3⟩ | ⟨o1, o2⟩
  · obtain ⟨Iw, -, tw⟩ := rd_w8 hT ha I' hz ⟨z4, z5⟩
    obtain ⟨x1, x2⟩ := p1
    have u2 : U' 0 2 = U 0 2 + 1 := by rw [x1 0 2 (Or.inl rfl), y_up_ne (Or.inr (by decide)), y_up_eq]
    have u1 : U' 0 1 = s + 1 := by rw [x1 0 1 (Or.inl rfl), y_up_eq]
    have un : ∀ (id : Nat) (i : Int), id = 2 ∨ id = 6 ∨ 1 ≤ id ∧ i ≠ U 0 2 → U' id i = U id i := fun id i h => by rw [x1 id i (by omega), y_up_ne (Or.inl (by omega)), y_up_ne (Or.inl (by omega))]
    refine rA_1f I hn ht he e o1 Iw ⟨u1, by omega, by omega, by omega, by omega, z6, z7⟩ Fw ⟨⟨1, ?_⟩, ?_⟩ (by rw [tw.1 15 (by decide) (by decide)]; exact o3)
    · rw [u2]
      refine fl_one (p3.y (fun id _ => rfl) (fun j j0 j1 => ?_)) ?_ ?_
      · rw [uc_e, uc_e, m_up_ne (by omega)]
      · rw [uc_e, m_up_ne (by omega), (by omega : 3720 + (656 + 9 * s) = 4376 + 9 * s), p2]
        exact hk
      · rw [uc_e, (by omega : 3720 + (656 + 9 * s + 8) = 4376 + 9 * s + 8), m_up_eq]
    · exact ⟨fun id i a b q => un id i (by omega), fun i q => un 6 i (by omega), fun j q => by rw [m_up_ne (by omega), x2 j (by omega)]⟩
  · exact rA_0f I hn ht he e o1 (o2.tab hT ha _ _) Fw

/-- a step with all that belongs to it, 0 bodies deep at most -/
theorem rA_s0 (Y : y_S X lb) (D : rd_D X lb R T) (ha : q_kd X a = 12) (G : y_G X lb g 1) (hn : n ≤ 300) (v : Int32) (I : rd_I X R T a g n B Vg w σ τ U dp c s) (hZ : rd_Z U s dp) (hP6 : 0 ≤ c 2 ∧ c 2 ≤ 6) (hP : Vg 1 4 = c 2) (N : y_nm Vg w 0 (c 2)) (hv : v.toInt = dp) (hd : dp = 3 - 0) (ht : ¬ (τ.1 a 14).toInt = 0) (he : (F_X12_isEnd X τ a).toInt = 0) : rd_A X R T a g n B Vg w σ τ (F_X12_readStep_d0 X τ a v) U c dp (rd_Q U c s dp) := by
  obtain ⟨c1, c2, c3, c4, c5⟩ := cl_step I hZ.1
  have ra := rd_act I
  have I0 := I
  have Z0 := hZ
  obtain ⟨S, M, Kk, h0, hV⟩ := I0
  obtain ⟨z1, z2, z3, z4, z5, z6, z7⟩ := Z0
  have fs : (τ.1 a 27).toInt = s := M.2.2.2.1
  rw [rs_d_0]
  rcases ra with ⟨r1, r2⟩ | ⟨hk, ty⟩
  · obtain ⟨σ', e, t1, t2, f⟩ := tl_wrong Kk h0
    have e7 := c1 r1
    rw [e] at e7
    rw [rs_a_0 _ _ v (by omega) f.2.1]
    exact rA_0f I hn ht he e7 rfl f (rd_Fr.rd Y.1 ha D S t1 t2)
  · have hk0 := hk
    unfold rd_k at hk0
    by_cases hs : s < 30
    · have s30 : ¬ (τ.1 a 27).toInt = 30 := by omega
      have e9 : (9 : Int32).toInt = 9 := rfl
      have e43 : (4376 : Int32).toInt = 4376 := rfl
      have e8 : (8 : Int32).toInt = 8 := rfl
      have zr : ((4376 : Int32) + 9 * τ.1 a 27).toInt = 4376 + 9 * s := by rw [ar_add, ar_mul, e9, e43, fs, ar_wr (n := 9 * s) (by omega) (by omega), ar_wr (by omega) (by omega)]
      have zz8 : (((4376 : Int32) + 9 * τ.1 a 27) + 8).toInt = 4376 + 9 * s + 8 := by rw [ar_add, e8, zr, ar_wr (by omega) (by omega)]
      by_cases hb : (F_X4_actionHere X σ R).toInt = 4 ∨ (F_X4_actionHere X σ R).toInt = 8
      · have x1 : (if (F_X12_stepWord X τ a).toInt = 3 ∨ (F_X12_stepWord X τ a).toInt = 4 then (1 : Int32) else 0) = 1 := if_pos (by omega)
        obtain ⟨σ', e, t1, t2, f⟩ := tl_fail Kk h0 (by omega) (k := 7) (by decide) (w := τ.1 a 15) rfl
        have e7 := c4 (by omega) hs hb (by omega)
        rw [e] at e7
        rw [rs_c_0 _ _ v h0 (by omega) s30 (by rw [x1]; decide) (by omega) f.2.1]
        exact rA_0f I hn ht he e7 rfl f (rd_Fr.rd Y.1 ha D S t1 t2)
      · have x0 : (if (F_X12_stepWord X τ a).toInt = 3 ∨ (F_X12_stepWord X τ a).toInt = 4 then (1 : Int32) else 0).toInt = 0 := by
          rw [if_neg (by omega)]
          rfl
        obtain ⟨fu, hf, e5⟩ := rs_e_0 (X := X) (a := a) (τ := τ) (F_X12_stepWord X τ a) (if (F_X12_stepWord X τ a).toInt = 3 ∨ (F_X12_stepWord X τ a).toInt = 4 then 1 else 0) v h0 (by omega) s30 (Or.inl x0)
        rw [e5, ls_flat_0 (τ := hd_M X a (F_X12_stepWord X τ a) τ) _ _ v x0 fu (by omega)]
        obtain ⟨z, σ', e6, O⟩ := op_flat Y D ha G I hP6 hP N (r := F_X4_actionHere X σ R) (rk := F_X12_stepWord X τ a) (x64 := 0) z1 rfl ⟨z2, by omega⟩ ⟨z4, hs⟩ ht rfl rfl hk rfl
        have e7 := c5 (by omega) hs (by omega)
        rw [e6] at e7
        exact rA_flat Y.1 ha I hn hZ hs ht he (by omega) e7 zr O
    · obtain ⟨σ', e, t1, t2, f⟩ := tl_fail Kk h0 (by omega) (k := 6) (by decide) (w := τ.1 a 15) rfl
      have e7 := c2 (by omega) hs
      rw [e] at e7
      rw [rs_b_0 _ _ v h0 (by omega) (by omega) f.2.1]
      exact rA_0f I hn ht he e7 rfl f (rd_Fr.rd Y.1 ha D S t1 t2)

/-- a body, read line by line to its end -/
theorem rB_1 (Y : y_S X lb) (D : rd_D X lb R T) (ha : q_kd X a = 12) (G : y_G X lb g 1) (hn : n ≤ 300) (v x3 z : Int32) (hx : ¬ x3.toInt = 0) {s0 l0 : Int} {U0 : Nat → Int → Int} {c0 : Int → Int} (hz : z.toInt = 4376 + 9 * s0) (hv : v.toInt = dp) (hd : dp = 3 - 1) (fu : Nat) : ∀ {σ τ : ST} {U : Nat → Int → Int} {c : Int → Int} {s : Int}, rd_I X R T a g n B Vg w σ τ U (dp + 1) c s → rd_Z U s (dp + 1) → 0 ≤ c 2 ∧ c 2 ≤ 6 → Vg 1 4 = c 2 → y_nm Vg w 0 (c 2) → ((901 - (τ.1 a 15).toInt).toNat + (1 - (0 : Int)).toNat) < fu → 0 ≤ s0 ∧ s0 < s → U 6 dp = l0 → 0 ≤ l0 ∧ l0 < U 0 2 → (∃ m : Nat, fl (uV U) (uc c) m (s0 + 1) s (l0 + 1) (U 0 2)) → st_l (uV U) (uc c) s0 l0 → c (4376 + 9 * s0) = 3 ∨ c (4376 + 9 * s0) = 4 → rd_p U0 U c0 c l0 s0 dp → rd_A X R T a g n B Vg w σ τ (F_X12_readStep_d1_L140_5 X x3 z a v fu τ) U c dp (fun U' c' s' => (∃ m : Nat, fl (uV U') (uc c') m s0 s' l0 (U' 0 2)) ∧ rd_p U0 U' c0 c' l0 s0 dp) := by
  have e8 : (8 : Int32).toInt = 8 := rfl
  induction fu with
  | zero => intro σ τ U c s _ _ _ _ _ hf; omega
  | succ fu ih =>
    intro σ τ U c s I hZ hP6 hP N hf hs0 h6 hl0 hF hst hc hp
    have I0 := I
    have Z0 := hZ
    obtain ⟨S, M, Kk, h0, hV⟩ := I0
    obtain ⟨z1, z2, z3, z4, z5, z6, z7⟩ := Z0
    have kb := Kk.b
    have pk0 := Kk.2.2.2.2.2.2.1
    have zz : (z + 8).toInt = 4376 + 9 * s0 + 8 := by rw [ar_add, e8, hz, ar_wr (by omega) (by omega)]
    have one : (1 : Int32).toInt = 1 := rfl
    have hv1 : (v + 1).toInt = dp + 1 := by rw [ar_add, one, hv, ar_wr (by omega) (by omega)]
    by_cases ht : (τ.1 a 14).toInt = 0
    · -- the text's end
      have he : (F_X12_isEnd X τ a).toInt = 0 := by
        rw [tm_isEnd, if_neg (by omega)]
      rw [ls_rec_1 x3 z v hx fu h0 he, rs_d_0]
      have r2 : (F_X12_stepWord X τ a).toInt = -1 := by
        rcases rd_act I with ⟨r1, r2⟩ | ⟨hk, ty⟩
        · exact r2
        · omega
      obtain ⟨S1, x1⟩ := S.cell D (id := 0) (by decide) 0 1
      have sc1 := rd_same (σ := σ) D (id := 0) (by decide) 0 1
      obtain ⟨σ1, e1⟩ : ∃ t, t = q_si σ (rdA X R 0) 0 1 := ⟨_, rfl⟩
      rw [← e1] at S1 x1 sc1
      obtain ⟨σ', e, t1, t2, f⟩ := tl_wrong (Kk.same sc1 (tl_same.rf (a := a) (τ := τ))) h0
      rw [rs_a_0 _ _ (v + 1) (by omega) f.2.1, ls_bad_1 (τ := F_X12_wrong X τ a) x3 z v hx fu (by omega) f.2.1]
      refine ⟨1, Nat.le_refl _, Or.inr ⟨σ', fun fu i i0 i1 => ?_, f.tab Y.1 ha _ _, ((rd_Fr.cl x1).tr (rd_Fr.rd Y.1 ha D S1 t1 t2)).tr (rd_Fr.cw (R := R) (τ := F_X12_wrong X τ a) (v := (F_X12_wrong X τ a).1 a 27) Y.1 ha rd_F.rf zz (by omega)), by omega⟩⟩
      rw [lc_fin I ht fu i]
      unfold F_X4_takes_E72_3
      rw [q_letE (q_si σ (q_rf X R 8) 0 1)]
      have e1' : σ1 = q_si σ (q_rf X R 8) 0 1 := e1
      rw [← e1', q_letE (σ1.1 R 10)]
      have f10 : (σ1.1 R 10).toInt = dp + 1 := S1.2.2
      rw [if_neg (by omega), e, q_biP (0 : Int32) σ', if_pos (by decide)]
    · by_cases he : (F_X12_isEnd X τ a).toInt = 0
      · rw [ls_rec_1 x3 z v hx fu h0 he]
        have A := rA_s0 Y D ha G hn (v + 1) I hZ hP6 hP N hv1 (by omega) ht he
        obtain ⟨τ1, hτ⟩ : ∃ t, t = F_X12_readStep_d0 X τ a (v + 1) := ⟨_, rfl⟩
        rw [← hτ] at A ⊢
        obtain ⟨k, hk, A⟩ := A
        rcases A with ⟨σ1, U1, c1, s1, e2, I1, Z1, F1, ⟨⟨m1, q1⟩, q2⟩, p1⟩ | ⟨σ1, e2, F2, f2, b2⟩
        · have le := fl_le _ q1
          have hU6 : U1 6 dp = l0 := by rw [q2.2.1 dp (by omega)]; exact h6
          obtain ⟨m, hF⟩ := hF
          have hF1 : fl (uV U1) (uc c1) m (s0 + 1) s (l0 + 1) (U 0 2) := fl_y m (fun id i a1 a2 a3 a4 => q2.1 (id - 17) i (by omega) (by omega) a4) (fun j j0 j1 => q2.2.2 (3720 + j) (by omega)) hF
          have cc : ∀ j : Int, j < 4376 + 9 * s → c1 j = c j := q2.2.2
          exact rA_tr e2 p1 F1 (ih I1 Z1 (by rw [cc 2 (by omega)]; exact hP6) (by rw [cc 2 (by omega)]; exact hP) (by rw [cc 2 (by omega)]; exact N) (by omega) ⟨hs0.1, by omega⟩ hU6 ⟨hl0.1, by omega⟩ ⟨m + m1, fl_app m hF1 q1⟩ (hst.y (fun id h => q2.1 (id - 17) l0 (by omega) (by omega) hl0.2) (fun j j0 j1 => cc (3720 + j) (by omega))) (by rw [cc _ (by omega)]; exact hc) (hp.tr q2 (by omega) (by omega) (by omega))) (fun _ _ _ q => q)
        · rw [ls_bad_1 (τ := τ1) x3 z v hx fu (by omega) F2.2.1]
          exact ⟨k, hk, Or.inr ⟨σ1, e2, F2.tab Y.1 ha _ _, f2.tr (rd_Fr.cw (R := R) (τ := τ1) (v := τ1.1 a 27) Y.1 ha rd_F.rf zz (by omega)), b2⟩⟩
      · -- the body's end
        obtain ⟨τ5, h5⟩ : ∃ t, t = F_X12_must X (F_X12_must X τ a (F_X12_isEnd X τ a)) a (F_X12_isSign X (F_X12_must X τ a (F_X12_isEnd X τ a)) a 59) := ⟨_, rfl⟩
        rw [ls_end_1 x3 z v hx (fu + 1) (by omega) h0 he h5]
        obtain ⟨y, σ', e, F, o⟩ := op_end Y D ha G I ⟨by omega, by omega⟩ rfl ⟨z2, by omega⟩ h6 hl0 he h5
        have Fw := F.tr (rd_Fr.cw (R := R) (τ := τ5) (v := τ5.1 a 27) Y.1 ha rd_F.rf zz (by omega))
        rcases o with ⟨o1, o2, o3⟩ | ⟨o1, o2⟩
        · obtain ⟨Iw, -, tw⟩ := rd_w8 Y.1 ha o2 hz ⟨hs0.1, by omega⟩
          obtain ⟨m, hF⟩ := hF
          obtain ⟨U', hU'⟩ : ∃ t, t = y_up (y_up (y_up (y_up U 1 (U 0 2) 9) 0 2 (U 0 2 + 1)) 2 (U 0 2) l0) 2 l0 (U 0 2) := ⟨_, rfl⟩
          rw [← hU'] at Iw o2
          have u2 : U' 0 2 = U 0 2 + 1 := by rw [hU', y_up_ne (Or.inl (by decide)), y_up_ne (Or.inl (by decide)), y_up_eq]
          have u1 : U' 0 1 = s := by rw [hU', y_up_ne (Or.inl (by decide)), y_up_ne (Or.inl (by decide)), y_up_ne (Or.inr (by decide)), y_up_ne (Or.inl (by decide))]; exact z1
          have un : ∀ (id : Nat) (i : Int), 1 ≤ id → i ≠ U 0 2 → (id ≠ 2 ∨ i ≠ l0) → U' id i = U id i := fun id i a1 a2 a3 => by rw [hU', y_up_ne (by omega), y_up_ne (Or.inr a2), y_up_ne (Or.inl (by omega)), y_up_ne (Or.inr a2)]
          have v1 : U' 1 (U 0 2) = 9 := by rw [hU', y_up_ne (Or.inl (by decide)), y_up_ne (Or.inl (by decide)), y_up_ne (Or.inl (by decide)), y_up_eq]
          have v2 : U' 2 (U 0 2) = l0 := by rw [hU', y_up_ne (Or.inr (by omega)), y_up_eq]
          have v3 : U' 2 l0 = U 0 2 := by rw [hU', y_up_eq]
          refine ⟨1, Nat.le_refl _, Or.inl ⟨σ', U', _, s, fun fu i i0 i1 => ⟨i + 1, by rw [ar_add, one, ar_wr (by omega) (by omega)]; rfl, ?_⟩, Iw, ⟨u1, by omega, by omega, z4, z5, by omega, by omega⟩, Fw, ⟨⟨m + 1, ?_⟩, ?_⟩, by rw [tw.1 15 (by decide) (by decide)]; omega⟩⟩
          · rw [lc_end I hn he fu i i1, e, q_biP y σ', if_neg (by omega), q_letE]
          · have hF1 : fl (uV U') (uc (m_up c (4376 + 9 * s0 + 8) s)) m (s0 + 1) s (l0 + 1) (U 0 2) := fl_y m (fun id i a1 a2 a3 a4 => un (id - 17) i (by omega) (by omega) (by omega)) (fun j j0 j1 => by rw [uc_e, uc_e, m_up_ne (by omega)]) hF
            have lee := fl_le _ hF1
            have c8 : uc (m_up c (4376 + 9 * s0 + 8) s) (656 + 9 * s0 + 8) = s := by rw [uc_e, (by omega : 3720 + (656 + 9 * s0 + 8) = 4376 + 9 * s0 + 8), m_up_eq]
            have c0' : uc (m_up c (4376 + 9 * s0 + 8) s) (656 + 9 * s0) = c (4376 + 9 * s0) := by rw [uc_e, m_up_ne (by omega), (by omega : 3720 + (656 + 9 * s0) = 4376 + 9 * s0)]
            rw [u2]
            refine Or.inr ⟨hs0.2, hst.y (fun id h => un (id - 17) l0 (by omega) (by omega) (by omega)) (fun j j0 j1 => by rw [uc_e, uc_e, m_up_ne (by omega)]), Or.inr ⟨by rw [c0']; exact hc, U 0 2, s, c8, v1, v2, v3, hF1, fl_rf _ _ _ _ _⟩⟩
          · exact ⟨fun id i a1 a2 q => (un id i a1 (by omega) (by omega)).trans (hp.1 id i a1 a2 q), fun i q => by rw [hU', y_up_ne (Or.inl (by decide)), y_up_ne (Or.inl (by decide)), y_up_ne (Or.inl (by decide)), y_up_ne (Or.inl (by decide))]; exact hp.2.1 i q, fun j q => by rw [m_up_ne (by omega)]; exact hp.2.2 j q⟩
        · refine ⟨1, Nat.le_refl _, Or.inr ⟨σ', fun fu i i0 i1 => ?_, o2.tab Y.1 ha _ _, Fw, by omega⟩⟩
          rw [lc_end I hn he fu i i1, e, q_biP y σ', if_pos o1]

/-- a step with all that belongs to it, 1 bodies deep at most -/
theorem rA_s1 (Y : y_S X lb) (D : rd_D X lb R T) (ha : q_kd X a = 12) (G : y_G X lb g 1) (hn : n ≤ 300) (v : Int32) (I : rd_I X R T a g n B Vg w σ τ U dp c s) (hZ : rd_Z U s dp) (hP6 : 0 ≤ c 2 ∧ c 2 ≤ 6) (hP : Vg 1 4 = c 2) (N : y_nm Vg w 0 (c 2)) (hv : v.toInt = dp) (hd : dp = 3 - 1) (ht : ¬ (τ.1 a 14).toInt = 0) (he : (F_X12_isEnd X τ a).toInt = 0) : rd_A X R T a g n B Vg w σ τ (F_X12_readStep_d1 X τ a v) U c dp (rd_Q U c s dp) := by
  obtain ⟨c1, c2, c3, c4, c5⟩ := cl_step I hZ.1
  have ra := rd_act I
  have I0 := I
  have Z0 := hZ
  obtain ⟨S, M, Kk, h0, hV⟩ := I0
  obtain ⟨z1, z2, z3, z4, z5, z6, z7⟩ := Z0
  have fs : (τ.1 a 27).toInt = s := M.2.2.2.1
  rw [rs_d_1]
  rcases ra with ⟨r1, r2⟩ | ⟨hk, ty⟩
  · obtain ⟨σ', e, t1, t2, f⟩ := tl_wrong Kk h0
    have e7 := c1 r1
    rw [e] at e7
    rw [rs_a_1 _ _ v (by omega) f.2.1]
    exact rA_0f I hn ht he e7 rfl f (rd_Fr.rd Y.1 ha D S t1 t2)
  · have hk0 := hk
    unfold rd_k at hk0
    by_cases hs : s < 30
    · have s30 : ¬ (τ.1 a 27).toInt = 30 := by omega
      have e9 : (9 : Int32).toInt = 9 := rfl
      have e43 : (4376 : Int32).toInt = 4376 := rfl
      have e8 : (8 : Int32).toInt = 8 := rfl
      have zr : ((4376 : Int32) + 9 * τ.1 a 27).toInt = 4376 + 9 * s := by rw [ar_add, ar_mul, e9, e43, fs, ar_wr (n := 9 * s) (by omega) (by omega), ar_wr (by omega) (by omega)]
      have zz8 : (((4376 : Int32) + 9 * τ.1 a 27) + 8).toInt = 4376 + 9 * s + 8 := by rw [ar_add, e8, zr, ar_wr (by omega) (by omega)]
      by_cases hb : (F_X4_actionHere X σ R).toInt = 4 ∨ (F_X4_actionHere X σ R).toInt = 8
      · have x1 : (if (F_X12_stepWord X τ a).toInt = 3 ∨ (F_X12_stepWord X τ a).toInt = 4 then (1 : Int32) else 0) = 1 := if_pos (by omega)
        obtain ⟨fu, hf, e5⟩ := rs_e_1 (X := X) (a := a) (τ := τ) (F_X12_stepWord X τ a) (if (F_X12_stepWord X τ a).toInt = 3 ∨ (F_X12_stepWord X τ a).toInt = 4 then 1 else 0) v h0 (by omega) s30 (Or.inr (by omega))
        rw [e5]
        obtain ⟨z, σ', e6, F, O⟩ := op_block Y D ha G I hP6 hP N (r := F_X4_actionHere X σ R) (rk := F_X12_stepWord X τ a) z1 rfl ⟨z2, by omega⟩ ⟨z4, hs⟩ ⟨z6, by omega⟩ ht rfl rfl hk
        have e7 := c3 (by omega) hs hb (by omega)
        rw [e6] at e7
        rcases O with ⟨o1, ⟨U', c', I', ⟨y1, y2⟩, p2, p3⟩, o3⟩ | ⟨o1, o2⟩
        · have u2 : U' 0 2 = U 0 2 + 1 := by rw [y1 0 2 (Or.inl rfl), y_up_ne (Or.inl (by decide)), y_up_ne (Or.inr (by decide)), y_up_eq]
          have u1 : U' 0 1 = s + 1 := by rw [y1 0 1 (Or.inl rfl), y_up_ne (Or.inl (by decide)), y_up_eq]
          have u6 : U' 6 dp = U 0 2 := by rw [y1 6 dp (by omega), y_up_eq]
          have un : ∀ (id : Nat) (i : Int), id = 2 ∨ id = 6 ∧ i < dp ∨ 1 ≤ id ∧ id ≠ 6 ∧ i ≠ U 0 2 → U' id i = U id i := fun id i h => by rw [y1 id i (by omega), y_up_ne (by omega), y_up_ne (Or.inl (by omega)), y_up_ne (Or.inl (by omega))]
          have cc : ∀ j : Int, j < 4376 + 9 * s → c' j = c j := fun j q => y2 j (by omega)
          have hM : ((hd_M X a (F_X12_stepWord X τ a) τ).1 a 12).toInt = 0 := I'.2.2.2.1
          rw [hM] at hf
          refine rA_tr (k1 := 1) (fun fu i i0 i1 => rA_1 I hn ht he e7 o1 fu i i0 i1) (by omega) F (rB_1 Y D ha G hn v _ _ (by rw [x1]; decide) zr hv (by omega) fu I' ⟨u1, by omega, by omega, by omega, by omega, by omega, by omega⟩ (by rw [cc 2 (by omega)]; exact hP6) (by rw [cc 2 (by omega)]; exact hP) (by rw [cc 2 (by omega)]; exact N) hf ⟨z4, by omega⟩ u6 ⟨z2, by omega⟩ ⟨0, by rw [u2]; exact ⟨rfl, rfl⟩⟩ p3 (by rw [p2]; omega) ⟨fun id i a1 a2 a3 => un id i (by omega), fun i q => un 6 i (by omega), cc⟩) (fun _ _ _ q => q)
        · have bad : 0 < ((hd_M X a (F_X12_stepWord X τ a) τ).1 a 12).toInt := o2.2.1
          rw [ls_bad_1 (τ := hd_M X a (F_X12_stepWord X τ a) τ) _ _ v (by rw [x1]; decide) fu (by omega) bad]
          exact rA_0f I hn ht he e7 o1 (o2.tab Y.1 ha _ _) (F.tr (rd_Fr.cw (R := R) (τ := hd_M X a (F_X12_stepWord X τ a) τ) (v := (hd_M X a (F_X12_stepWord X τ a) τ).1 a 27) Y.1 ha rd_F.rf zz8 (by omega)))
      · have x0 : (if (F_X12_stepWord X τ a).toInt = 3 ∨ (F_X12_stepWord X τ a).toInt = 4 then (1 : Int32) else 0).toInt = 0 := by
          rw [if_neg (by omega)]
          rfl
        obtain ⟨fu, hf, e5⟩ := rs_e_1 (X := X) (a := a) (τ := τ) (F_X12_stepWord X τ a) (if (F_X12_stepWord X τ a).toInt = 3 ∨ (F_X12_stepWord X τ a).toInt = 4 then 1 else 0) v h0 (by omega) s30 (Or.inl x0)
        rw [e5, ls_flat_1 (τ := hd_M X a (F_X12_stepWord X τ a) τ) _ _ v x0 fu (by omega)]
        obtain ⟨z, σ', e6, O⟩ := op_flat Y D ha G I hP6 hP N (r := F_X4_actionHere X σ R) (rk := F_X12_stepWord X τ a) (x64 := 0) z1 rfl ⟨z2, by omega⟩ ⟨z4, hs⟩ ht rfl rfl hk rfl
        have e7 := c5 (by omega) hs (by omega)
        rw [e6] at e7
        exact rA_flat Y.1 ha I hn hZ hs ht he (by omega) e7 zr O
    · obtain ⟨σ', e, t1, t2, f⟩ := tl_fail Kk h0 (by omega) (k := 6) (by decide) (w := τ.1 a 15) rfl
      have e7 := c2 (by omega) hs
      rw [e] at e7
      rw [rs_b_1 _ _ v h0 (by omega) (by omega) f.2.1]
      exact rA_0f I hn ht he e7 rfl f (rd_Fr.rd Y.1 ha D S t1 t2)

/-- a body, read line by line to its end -/
theorem rB_2 (Y : y_S X lb) (D : rd_D X lb R T) (ha : q_kd X a = 12) (G : y_G X lb g 1) (hn : n ≤ 300) (v x3 z : Int32) (hx : ¬ x3.toInt = 0) {s0 l0 : Int} {U0 : Nat → Int → Int} {c0 : Int → Int} (hz : z.toInt = 4376 + 9 * s0) (hv : v.toInt = dp) (hd : dp = 3 - 2) (fu : Nat) : ∀ {σ τ : ST} {U : Nat → Int → Int} {c : Int → Int} {s : Int}, rd_I X R T a g n B Vg w σ τ U (dp + 1) c s → rd_Z U s (dp + 1) → 0 ≤ c 2 ∧ c 2 ≤ 6 → Vg 1 4 = c 2 → y_nm Vg w 0 (c 2) → ((901 - (τ.1 a 15).toInt).toNat + (1 - (0 : Int)).toNat) < fu → 0 ≤ s0 ∧ s0 < s → U 6 dp = l0 → 0 ≤ l0 ∧ l0 < U 0 2 → (∃ m : Nat, fl (uV U) (uc c) m (s0 + 1) s (l0 + 1) (U 0 2)) → st_l (uV U) (uc c) s0 l0 → c (4376 + 9 * s0) = 3 ∨ c (4376 + 9 * s0) = 4 → rd_p U0 U c0 c l0 s0 dp → rd_A X R T a g n B Vg w σ τ (F_X12_readStep_d2_L140_5 X x3 z a v fu τ) U c dp (fun U' c' s' => (∃ m : Nat, fl (uV U') (uc c') m s0 s' l0 (U' 0 2)) ∧ rd_p U0 U' c0 c' l0 s0 dp) := by
  have e8 : (8 : Int32).toInt = 8 := rfl
  induction fu with
  | zero => intro σ τ U c s _ _ _ _ _ hf; omega
  | succ fu ih =>
    intro σ τ U c s I hZ hP6 hP N hf hs0 h6 hl0 hF hst hc hp
    have I0 := I
    have Z0 := hZ
    obtain ⟨S, M, Kk, h0, hV⟩ := I0
    obtain ⟨z1, z2, z3, z4, z5, z6, z7⟩ := Z0
    have kb := Kk.b
    have pk0 := Kk.2.2.2.2.2.2.1
    have zz : (z + 8).toInt = 4376 + 9 * s0 + 8 := by rw [ar_add, e8, hz, ar_wr (by omega) (by omega)]
    have one : (1 : Int32).toInt = 1 := rfl
    have hv1 : (v + 1).toInt = dp + 1 := by rw [ar_add, one, hv, ar_wr (by omega) (by omega)]
    by_cases ht : (τ.1 a 14).toInt = 0
    · -- the text's end
      have he : (F_X12_isEnd X τ a).toInt = 0 := by
        rw [tm_isEnd, if_neg (by omega)]
      rw [ls_rec_2 x3 z v hx fu h0 he, rs_d_1]
      have r2 : (F_X12_stepWord X τ a).toInt = -1 := by
        rcases rd_act I with ⟨r1, r2⟩ | ⟨hk, ty⟩
        · exact r2
        · omega
      obtain ⟨S1, x1⟩ := S.cell D (id := 0) (by decide) 0 1
      have sc1 := rd_same (σ := σ) D (id := 0) (by decide) 0 1
      obtain ⟨σ1, e1⟩ : ∃ t, t = q_si σ (rdA X R 0) 0 1 := ⟨_, rfl⟩
      rw [← e1] at S1 x1 sc1
      obtain ⟨σ', e, t1, t2, f⟩ := tl_wrong (Kk.same sc1 (tl_same.rf (a := a) (τ := τ))) h0
      rw [rs_a_1 _ _ (v + 1) (by omega) f.2.1, ls_bad_2 (τ := F_X12_wrong X τ a) x3 z v hx fu (by omega) f.2.1]
      refine ⟨1, Nat.le_refl _, Or.inr ⟨σ', fun fu i i0 i1 => ?_, f.tab Y.1 ha _ _, ((rd_Fr.cl x1).tr (rd_Fr.rd Y.1 ha D S1 t1 t2)).tr (rd_Fr.cw (R := R) (τ := F_X12_wrong X τ a) (v := (F_X12_wrong X τ a).1 a 27) Y.1 ha rd_F.rf zz (by omega)), by omega⟩⟩
      rw [lc_fin I ht fu i]
      unfold F_X4_takes_E72_3
      rw [q_letE (q_si σ (q_rf X R 8) 0 1)]
      have e1' : σ1 = q_si σ (q_rf X R 8) 0 1 := e1
      rw [← e1', q_letE (σ1.1 R 10)]
      have f10 : (σ1.1 R 10).toInt = dp + 1 := S1.2.2
      rw [if_neg (by omega), e, q_biP (0 : Int32) σ', if_pos (by decide)]
    · by_cases he : (F_X12_isEnd X τ a).toInt = 0
      · rw [ls_rec_2 x3 z v hx fu h0 he]
        have A := rA_s1 Y D ha G hn (v + 1) I hZ hP6 hP N hv1 (by omega) ht he
        obtain ⟨τ1, hτ⟩ : ∃ t, t = F_X12_readStep_d1 X τ a (v + 1) := ⟨_, rfl⟩
        rw [← hτ] at A ⊢
        obtain ⟨k, hk, A⟩ := A
        rcases A with ⟨σ1, U1, c1, s1, e2, I1, Z1, F1, ⟨⟨m1, q1⟩, q2⟩, p1⟩ | ⟨σ1, e2, F2, f2, b2⟩
        · have le := fl_le _ q1
          have hU6 : U1 6 dp = l0 := by rw [q2.2.1 dp (by omega)]; exact h6
          obtain ⟨m, hF⟩ := hF
          have hF1 : fl (uV U1) (uc c1) m (s0 + 1) s (l0 + 1) (U 0 2) := fl_y m (fun id i a1 a2 a3 a4 => q2.1 (id - 17) i (by omega) (by omega) a4) (fun j j0 j1 => q2.2.2 (3720 + j) (by omega)) hF
          have cc : ∀ j : Int, j < 4376 + 9 * s → c1 j = c j := q2.2.2
          exact rA_tr e2 p1 F1 (ih I1 Z1 (by rw [cc 2 (by omega)]; exact hP6) (by rw [cc 2 (by omega)]; exact hP) (by rw [cc 2 (by omega)]; exact N) (by omega) ⟨hs0.1, by omega⟩ hU6 ⟨hl0.1, by omega⟩ ⟨m + m1, fl_app m hF1 q1⟩ (hst.y (fun id h => q2.1 (id - 17) l0 (by omega) (by omega) hl0.2) (fun j j0 j1 => cc (3720 + j) (by omega))) (by rw [cc _ (by omega)]; exact hc) (hp.tr q2 (by omega) (by omega) (by omega))) (fun _ _ _ q => q)
        · rw [ls_bad_2 (τ := τ1) x3 z v hx fu (by omega) F2.2.1]
          exact ⟨k, hk, Or.inr ⟨σ1, e2, F2.tab Y.1 ha _ _, f2.tr (rd_Fr.cw (R := R) (τ := τ1) (v := τ1.1 a 27) Y.1 ha rd_F.rf zz (by omega)), b2⟩⟩
      · -- the body's end
        obtain ⟨τ5, h5⟩ : ∃ t, t = F_X12_must X (F_X12_must X τ a (F_X12_isEnd X τ a)) a (F_X12_isSign X (F_X12_must X τ a (F_X12_isEnd X τ a)) a 59) := ⟨_, rfl⟩
        rw [ls_end_2 x3 z v hx (fu + 1) (by omega) h0 he h5]
        obtain ⟨y, σ', e, F, o⟩ := op_end Y D ha G I ⟨by omega, by omega⟩ rfl ⟨z2, by omega⟩ h6 hl0 he h5
        have Fw := F.tr (rd_Fr.cw (R := R) (τ := τ5) (v := τ5.1 a 27) Y.1 ha rd_F.rf zz (by omega))
        rcases o with ⟨o1, o2, o3⟩ | ⟨o1, o2⟩
        · obtain ⟨Iw, -, tw⟩ := rd_w8 Y.1 ha o2 hz ⟨hs0.1, by omega⟩
          obtain ⟨m, hF⟩ := hF
          obtain ⟨U', hU'⟩ : ∃ t, t = y_up (y_up (y_up (y_up U 1 (U 0 2) 9) 0 2 (U 0 2 + 1)) 2 (U 0 2) l0) 2 l0 (U 0 2) := ⟨_, rfl⟩
          rw [← hU'] at Iw o2
          have u2 : U' 0 2 = U 0 2 + 1 := by rw [hU', y_up_ne (Or.inl (by decide)), y_up_ne (Or.inl (by decide)), y_up_eq]
          have u1 : U' 0 1 = s := by rw [hU', y_up_ne (Or.inl (by decide)), y_up_ne (Or.inl (by decide)), y_up_ne (Or.inr (by decide)), y_up_ne (Or.inl (by decide))]; exact z1
          have un : ∀ (id : Nat) (i : Int), 1 ≤ id → i ≠ U 0 2 → (id ≠ 2 ∨ i ≠ l0) → U' id i = U id i := fun id i a1 a2 a3 => by rw [hU', y_up_ne (by omega), y_up_ne (Or.inr a2), y_up_ne (Or.inl (by omega)), y_up_ne (Or.inr a2)]
          have v1 : U' 1 (U 0 2) = 9 := by rw [hU', y_up_ne (Or.inl (by decide)), y_up_ne (Or.inl (by decide)), y_up_ne (Or.inl (by decide)), y_up_eq]
          have v2 : U' 2 (U 0 2) = l0 := by rw [hU', y_up_ne (Or.inr (by omega)), y_up_eq]
          have v3 : U' 2 l0 = U 0 2 := by rw [hU', y_up_eq]
          refine ⟨1, Nat.le_refl _, Or.inl ⟨σ', U', _, s, fun fu i i0 i1 => ⟨i + 1, by rw [ar_add, one, ar_wr (by omega) (by omega)]; rfl, ?_⟩, Iw, ⟨u1, by omega, by omega, z4, z5, by omega, by omega⟩, Fw, ⟨⟨m + 1, ?_⟩, ?_⟩, by rw [tw.1 15 (by decide) (by decide)]; omega⟩⟩
          · rw [lc_end I hn he fu i i1, e, q_biP y σ', if_neg (by omega), q_letE]
          · have hF1 : fl (uV U') (uc (m_up c (4376 + 9 * s0 + 8) s)) m (s0 + 1) s (l0 + 1) (U 0 2) := fl_y m (fun id i a1 a2 a3 a4 => un (id - 17) i (by omega) (by omega) (by omega)) (fun j j0 j1 => by rw [uc_e, uc_e, m_up_ne (by omega)]) hF
            have lee := fl_le _ hF1
            have c8 : uc (m_up c (4376 + 9 * s0 + 8) s) (656 + 9 * s0 + 8) = s := by rw [uc_e, (by omega : 3720 + (656 + 9 * s0 + 8) = 4376 + 9 * s0 + 8), m_up_eq]
            have c0' : uc (m_up c (4376 + 9 * s0 + 8) s) (656 + 9 * s0) = c (4376 + 9 * s0) := by rw [uc_e, m_up_ne (by omega), (by omega : 3720 + (656 + 9 * s0) = 4376 + 9 * s0)]
            rw [u2]
            refine Or.inr ⟨hs0.2, hst.y (fun id h => un (id - 17) l0 (by omega) (by omega) (by omega)) (fun j j0 j1 => by rw [uc_e, uc_e, m_up_ne (by omega)]), Or.inr ⟨by rw [c0']; exact hc, U 0 2, s, c8, v1, v2, v3, hF1, fl_rf _ _ _ _ _⟩⟩
          · exact ⟨fun id i a1 a2 q => (un id i a1 (by omega) (by omega)).trans (hp.1 id i a1 a2 q), fun i q => by rw [hU', y_up_ne (Or.inl (by decide)), y_up_ne (Or.inl (by decide)), y_up_ne (Or.inl (by decide)), y_up_ne (Or.inl (by decide))]; exact hp.2.1 i q, fun j q => by rw [m_up_ne (by omega)]; exact hp.2.2 j q⟩
        · refine ⟨1, Nat.le_refl _, Or.inr ⟨σ', fun fu i i0 i1 => ?_, o2.tab Y.1 ha _ _, Fw, by omega⟩⟩
          rw [lc_end I hn he fu i i1, e, q_biP y σ', if_pos o1]

/-- a step with all that belongs to it, 2 bodies deep at most -/
theorem rA_s2 (Y : y_S X lb) (D : rd_D X lb R T) (ha : q_kd X a = 12) (G : y_G X lb g 1) (hn : n ≤ 300) (v : Int32) (I : rd_I X R T a g n B Vg w σ τ U dp c s) (hZ : rd_Z U s dp) (hP6 : 0 ≤ c 2 ∧ c 2 ≤ 6) (hP : Vg 1 4 = c 2) (N : y_nm Vg w 0 (c 2)) (hv : v.toInt = dp) (hd : dp = 3 - 2) (ht : ¬ (τ.1 a 14).toInt = 0) (he : (F_X12_isEnd X τ a).toInt = 0) : rd_A X R T a g n B Vg w σ τ (F_X12_readStep_d2 X τ a v) U c dp (rd_Q U c s dp) := by
  obtain ⟨c1, c2, c3, c4, c5⟩ := cl_step I hZ.1
  have ra := rd_act I
  have I0 := I
  have Z0 := hZ
  obtain ⟨S, M, Kk, h0, hV⟩ := I0
  obtain ⟨z1, z2, z3, z4, z5, z6, z7⟩ := Z0
  have fs : (τ.1 a 27).toInt = s := M.2.2.2.1
  rw [rs_d_2]
  rcases ra with ⟨r1, r2⟩ | ⟨hk, ty⟩
  · obtain ⟨σ', e, t1, t2, f⟩ := tl_wrong Kk h0
    have e7 := c1 r1
    rw [e] at e7
    rw [rs_a_2 _ _ v (by omega) f.2.1]
    exact rA_0f I hn ht he e7 rfl f (rd_Fr.rd Y.1 ha D S t1 t2)
  · have hk0 := hk
    unfold rd_k at hk0
    by_cases hs : s < 30
    · have s30 : ¬ (τ.1 a 27).toInt = 30 := by omega
      have e9 : (9 : Int32).toInt = 9 := rfl
      have e43 : (4376 : Int32).toInt = 4376 := rfl
      have e8 : (8 : Int32).toInt = 8 := rfl
      have zr : ((4376 : Int32) + 9 * τ.1 a 27).toInt = 4376 + 9 * s := by rw [ar_add, ar_mul, e9, e43, fs, ar_wr (n := 9 * s) (by omega) (by omega), ar_wr (by omega) (by omega)]
      have zz8 : (((4376 : Int32) + 9 * τ.1 a 27) + 8).toInt = 4376 + 9 * s + 8 := by rw [ar_add, e8, zr, ar_wr (by omega) (by omega)]
      by_cases hb : (F_X4_actionHere X σ R).toInt = 4 ∨ (F_X4_actionHere X σ R).toInt = 8
      · have x1 : (if (F_X12_stepWord X τ a).toInt = 3 ∨ (F_X12_stepWord X τ a).toInt = 4 then (1 : Int32) else 0) = 1 := if_pos (by omega)
        obtain ⟨fu, hf, e5⟩ := rs_e_2 (X := X) (a := a) (τ := τ) (F_X12_stepWord X τ a) (if (F_X12_stepWord X τ a).toInt = 3 ∨ (F_X12_stepWord X τ a).toInt = 4 then 1 else 0) v h0 (by omega) s30 (Or.inr (by omega))
        rw [e5]
        obtain ⟨z, σ', e6, F, O⟩ := op_block Y D ha G I hP6 hP N (r := F_X4_actionHere X σ R) (rk := F_X12_stepWord X τ a) z1 rfl ⟨z2, by omega⟩ ⟨z4, hs⟩ ⟨z6, by omega⟩ ht rfl rfl hk
        have e7 := c3 (by omega) hs hb (by omega)
        rw [e6] at e7
        rcases O with ⟨o1, ⟨U', c', I', ⟨y1, y2⟩, p2, p3⟩, o3⟩ | ⟨o1, o2⟩
        · have u2 : U' 0 2 = U 0 2 + 1 := by rw [y1 0 2 (Or.inl rfl), y_up_ne (Or.inl (by decide)), y_up_ne (Or.inr (by decide)), y_up_eq]
          have u1 : U' 0 1 = s + 1 := by rw [y1 0 1 (Or.inl rfl), y_up_ne (Or.inl (by decide)), y_up_eq]
          have u6 : U' 6 dp = U 0 2 := by rw [y1 6 dp (by omega), y_up_eq]
          have un : ∀ (id : Nat) (i : Int), id = 2 ∨ id = 6 ∧ i < dp ∨ 1 ≤ id ∧ id ≠ 6 ∧ i ≠ U 0 2 → U' id i = U id i := fun id i h => by rw [y1 id i (by omega), y_up_ne (by omega), y_up_ne (Or.inl (by omega)), y_up_ne (Or.inl (by omega))]
          have cc : ∀ j : Int, j < 4376 + 9 * s → c' j = c j := fun j q => y2 j (by omega)
          have hM : ((hd_M X a (F_X12_stepWord X τ a) τ).1 a 12).toInt = 0 := I'.2.2.2.1
          rw [hM] at hf
          refine rA_tr (k1 := 1) (fun fu i i0 i1 => rA_1 I hn ht he e7 o1 fu i i0 i1) (by omega) F (rB_2 Y D ha G hn v _ _ (by rw [x1]; decide) zr hv (by omega) fu I' ⟨u1, by omega, by omega, by omega, by omega, by omega, by omega⟩ (by rw [cc 2 (by omega)]; exact hP6) (by rw [cc 2 (by omega)]; exact hP) (by rw [cc 2 (by omega)]; exact N) hf ⟨z4, by omega⟩ u6 ⟨z2, by omega⟩ ⟨0, by rw [u2]; exact ⟨rfl, rfl⟩⟩ p3 (by rw [p2]; omega) ⟨fun id i a1 a2 a3 => un id i (by omega), fun i q => un 6 i (by omega), cc⟩) (fun _ _ _ q => q)
        · have bad : 0 < ((hd_M X a (F_X12_stepWord X τ a) τ).1 a 12).toInt := o2.2.1
          rw [ls_bad_2 (τ := hd_M X a (F_X12_stepWord X τ a) τ) _ _ v (by rw [x1]; decide) fu (by omega) bad]
          exact rA_0f I hn ht he e7 o1 (o2.tab Y.1 ha _ _) (F.tr (rd_Fr.cw (R := R) (τ := hd_M X a (F_X12_stepWord X τ a) τ) (v := (hd_M X a (F_X12_stepWord X τ a) τ).1 a 27) Y.1 ha rd_F.rf zz8 (by omega)))
      · have x0 : (if (F_X12_stepWord X τ a).toInt = 3 ∨ (F_X12_stepWord X τ a).toInt = 4 then (1 : Int32) else 0).toInt = 0 := by
          rw [if_neg (by omega)]
          rfl
        obtain ⟨fu, hf, e5⟩ := rs_e_2 (X := X) (a := a) (τ := τ) (F_X12_stepWord X τ a) (if (F_X12_stepWord X τ a).toInt = 3 ∨ (F_X12_stepWord X τ a).toInt = 4 then 1 else 0) v h0 (by omega) s30 (Or.inl x0)
        rw [e5, ls_flat_2 (τ := hd_M X a (F_X12_stepWord X τ a) τ) _ _ v x0 fu (by omega)]
        obtain ⟨z, σ', e6, O⟩ := op_flat Y D ha G I hP6 hP N (r := F_X4_actionHere X σ R) (rk := F_X12_stepWord X τ a) (x64 := 0) z1 rfl ⟨z2, by omega⟩ ⟨z4, hs⟩ ht rfl rfl hk rfl
        have e7 := c5 (by omega) hs (by omega)
        rw [e6] at e7
        exact rA_flat Y.1 ha I hn hZ hs ht he (by omega) e7 zr O
    · obtain ⟨σ', e, t1, t2, f⟩ := tl_fail Kk h0 (by omega) (k := 6) (by decide) (w := τ.1 a 15) rfl
      have e7 := c2 (by omega) hs
      rw [e] at e7
      rw [rs_b_2 _ _ v h0 (by omega) (by omega) f.2.1]
      exact rA_0f I hn ht he e7 rfl f (rd_Fr.rd Y.1 ha D S t1 t2)

/-- a body, read line by line to its end -/
theorem rB_3 (Y : y_S X lb) (D : rd_D X lb R T) (ha : q_kd X a = 12) (G : y_G X lb g 1) (hn : n ≤ 300) (v x3 z : Int32) (hx : ¬ x3.toInt = 0) {s0 l0 : Int} {U0 : Nat → Int → Int} {c0 : Int → Int} (hz : z.toInt = 4376 + 9 * s0) (hv : v.toInt = dp) (hd : dp = 3 - 3) (fu : Nat) : ∀ {σ τ : ST} {U : Nat → Int → Int} {c : Int → Int} {s : Int}, rd_I X R T a g n B Vg w σ τ U (dp + 1) c s → rd_Z U s (dp + 1) → 0 ≤ c 2 ∧ c 2 ≤ 6 → Vg 1 4 = c 2 → y_nm Vg w 0 (c 2) → ((901 - (τ.1 a 15).toInt).toNat + (1 - (0 : Int)).toNat) < fu → 0 ≤ s0 ∧ s0 < s → U 6 dp = l0 → 0 ≤ l0 ∧ l0 < U 0 2 → (∃ m : Nat, fl (uV U) (uc c) m (s0 + 1) s (l0 + 1) (U 0 2)) → st_l (uV U) (uc c) s0 l0 → c (4376 + 9 * s0) = 3 ∨ c (4376 + 9 * s0) = 4 → rd_p U0 U c0 c l0 s0 dp → rd_A X R T a g n B Vg w σ τ (F_X12_readStep_d3_L140_5 X x3 z a v fu τ) U c dp (fun U' c' s' => (∃ m : Nat, fl (uV U') (uc c') m s0 s' l0 (U' 0 2)) ∧ rd_p U0 U' c0 c' l0 s0 dp) := by
  have e8 : (8 : Int32).toInt = 8 := rfl
  induction fu with
  | zero => intro σ τ U c s _ _ _ _ _ hf; omega
  | succ fu ih =>
    intro σ τ U c s I hZ hP6 hP N hf hs0 h6 hl0 hF hst hc hp
    have I0 := I
    have Z0 := hZ
    obtain ⟨S, M, Kk, h0, hV⟩ := I0
    obtain ⟨z1, z2, z3, z4, z5, z6, z7⟩ := Z0
    have kb := Kk.b
    have pk0 := Kk.2.2.2.2.2.2.1
    have zz : (z + 8).toInt = 4376 + 9 * s0 + 8 := by rw [ar_add, e8, hz, ar_wr (by omega) (by omega)]
    have one : (1 : Int32).toInt = 1 := rfl
    have hv1 : (v + 1).toInt = dp + 1 := by rw [ar_add, one, hv, ar_wr (by omega) (by omega)]
    by_cases ht : (τ.1 a 14).toInt = 0
    · -- the text's end
      have he : (F_X12_isEnd X τ a).toInt = 0 := by
        rw [tm_isEnd, if_neg (by omega)]
      rw [ls_rec_3 x3 z v hx fu h0 he, rs_d_2]
      have r2 : (F_X12_stepWord X τ a).toInt = -1 := by
        rcases rd_act I with ⟨r1, r2⟩ | ⟨hk, ty⟩
        · exact r2
        · omega
      obtain ⟨S1, x1⟩ := S.cell D (id := 0) (by decide) 0 1
      have sc1 := rd_same (σ := σ) D (id := 0) (by decide) 0 1
      obtain ⟨σ1, e1⟩ : ∃ t, t = q_si σ (rdA X R 0) 0 1 := ⟨_, rfl⟩
      rw [← e1] at S1 x1 sc1
      obtain ⟨σ', e, t1, t2, f⟩ := tl_wrong (Kk.same sc1 (tl_same.rf (a := a) (τ := τ))) h0
      rw [rs_a_2 _ _ (v + 1) (by omega) f.2.1, ls_bad_3 (τ := F_X12_wrong X τ a) x3 z v hx fu (by omega) f.2.1]
      refine ⟨1, Nat.le_refl _, Or.inr ⟨σ', fun fu i i0 i1 => ?_, f.tab Y.1 ha _ _, ((rd_Fr.cl x1).tr (rd_Fr.rd Y.1 ha D S1 t1 t2)).tr (rd_Fr.cw (R := R) (τ := F_X12_wrong X τ a) (v := (F_X12_wrong X τ a).1 a 27) Y.1 ha rd_F.rf zz (by omega)), by omega⟩⟩
      rw [lc_fin I ht fu i]
      unfold F_X4_takes_E72_3
      rw [q_letE (q_si σ (q_rf X R 8) 0 1)]
      have e1' : σ1 = q_si σ (q_rf X R 8) 0 1 := e1
      rw [← e1', q_letE (σ1.1 R 10)]
      have f10 : (σ1.1 R 10).toInt = dp + 1 := S1.2.2
      rw [if_neg (by omega), e, q_biP (0 : Int32) σ', if_pos (by decide)]
    · by_cases he : (F_X12_isEnd X τ a).toInt = 0
      · rw [ls_rec_3 x3 z v hx fu h0 he]
        have A := rA_s2 Y D ha G hn (v + 1) I hZ hP6 hP N hv1 (by omega) ht he
        obtain ⟨τ1, hτ⟩ : ∃ t, t = F_X12_readStep_d2 X τ a (v + 1) := ⟨_, rfl⟩
        rw [← hτ] at A ⊢
        obtain ⟨k, hk, A⟩ := A
        rcases A with ⟨σ1, U1, c1, s1, e2, I1, Z1, F1, ⟨⟨m1, q1⟩, q2⟩, p1⟩ | ⟨σ1, e2, F2, f2, b2⟩
        · have le := fl_le _ q1
          have hU6 : U1 6 dp = l0 := by rw [q2.2.1 dp (by omega)]; exact h6
          obtain ⟨m, hF⟩ := hF
          have hF1 : fl (uV U1) (uc c1) m (s0 + 1) s (l0 + 1) (U 0 2) := fl_y m (fun id i a1 a2 a3 a4 => q2.1 (id - 17) i (by omega) (by omega) a4) (fun j j0 j1 => q2.2.2 (3720 + j) (by omega)) hF
          have cc : ∀ j : Int, j < 4376 + 9 * s → c1 j = c j := q2.2.2
          exact rA_tr e2 p1 F1 (ih I1 Z1 (by rw [cc 2 (by omega)]; exact hP6) (by rw [cc 2 (by omega)]; exact hP) (by rw [cc 2 (by omega)]; exact N) (by omega) ⟨hs0.1, by omega⟩ hU6 ⟨hl0.1, by omega⟩ ⟨m + m1, fl_app m hF1 q1⟩ (hst.y (fun id h => q2.1 (id - 17) l0 (by omega) (by omega) hl0.2) (fun j j0 j1 => cc (3720 + j) (by omega))) (by rw [cc _ (by omega)]; exact hc) (hp.tr q2 (by omega) (by omega) (by omega))) (fun _ _ _ q => q)
        · rw [ls_bad_3 (τ := τ1) x3 z v hx fu (by omega) F2.2.1]
          exact ⟨k, hk, Or.inr ⟨σ1, e2, F2.tab Y.1 ha _ _, f2.tr (rd_Fr.cw (R := R) (τ := τ1) (v := τ1.1 a 27) Y.1 ha rd_F.rf zz (by omega)), b2⟩⟩
      · -- the body's end
        obtain ⟨τ5, h5⟩ : ∃ t, t = F_X12_must X (F_X12_must X τ a (F_X12_isEnd X τ a)) a (F_X12_isSign X (F_X12_must X τ a (F_X12_isEnd X τ a)) a 59) := ⟨_, rfl⟩
        rw [ls_end_3 x3 z v hx (fu + 1) (by omega) h0 he h5]
        obtain ⟨y, σ', e, F, o⟩ := op_end Y D ha G I ⟨by omega, by omega⟩ rfl ⟨z2, by omega⟩ h6 hl0 he h5
        have Fw := F.tr (rd_Fr.cw (R := R) (τ := τ5) (v := τ5.1 a 27) Y.1 ha rd_F.rf zz (by omega))
        rcases o with ⟨o1, o2, o3⟩ | ⟨o1, o2⟩
        · obtain ⟨Iw, -, tw⟩ := rd_w8 Y.1 ha o2 hz ⟨hs0.1, by omega⟩
          obtain ⟨m, hF⟩ := hF
          obtain ⟨U', hU'⟩ : ∃ t, t = y_up (y_up (y_up (y_up U 1 (U 0 2) 9) 0 2 (U 0 2 + 1)) 2 (U 0 2) l0) 2 l0 (U 0 2) := ⟨_, rfl⟩
          rw [← hU'] at Iw o2
          have u2 : U' 0 2 = U 0 2 + 1 := by rw [hU', y_up_ne (Or.inl (by decide)), y_up_ne (Or.inl (by decide)), y_up_eq]
          have u1 : U' 0 1 = s := by rw [hU', y_up_ne (Or.inl (by decide)), y_up_ne (Or.inl (by decide)), y_up_ne (Or.inr (by decide)), y_up_ne (Or.inl (by decide))]; exact z1
          have un : ∀ (id : Nat) (i : Int), 1 ≤ id → i ≠ U 0 2 → (id ≠ 2 ∨ i ≠ l0) → U' id i = U id i := fun id i a1 a2 a3 => by rw [hU', y_up_ne (by omega), y_up_ne (Or.inr a2), y_up_ne (Or.inl (by omega)), y_up_ne (Or.inr a2)]
          have v1 : U' 1 (U 0 2) = 9 := by rw [hU', y_up_ne (Or.inl (by decide)), y_up_ne (Or.inl (by decide)), y_up_ne (Or.inl (by decide)), y_up_eq]
          have v2 : U' 2 (U 0 2) = l0 := by rw [hU', y_up_ne (Or.inr (by omega)), y_up_eq]
          have v3 : U' 2 l0 = U 0 2 := by rw [hU', y_up_eq]
          refine ⟨1, Nat.le_refl _, Or.inl ⟨σ', U', _, s, fun fu i i0 i1 => ⟨i + 1, by rw [ar_add, one, ar_wr (by omega) (by omega)]; rfl, ?_⟩, Iw, ⟨u1, by omega, by omega, z4, z5, by omega, by omega⟩, Fw, ⟨⟨m + 1, ?_⟩, ?_⟩, by rw [tw.1 15 (by decide) (by decide)]; omega⟩⟩
          · rw [lc_end I hn he fu i i1, e, q_biP y σ', if_neg (by omega), q_letE]
          · have hF1 : fl (uV U') (uc (m_up c (4376 + 9 * s0 + 8) s)) m (s0 + 1) s (l0 + 1) (U 0 2) := fl_y m (fun id i a1 a2 a3 a4 => un (id - 17) i (by omega) (by omega) (by omega)) (fun j j0 j1 => by rw [uc_e, uc_e, m_up_ne (by omega)]) hF
            have lee := fl_le _ hF1
            have c8 : uc (m_up c (4376 + 9 * s0 + 8) s) (656 + 9 * s0 + 8) = s := by rw [uc_e, (by omega : 3720 + (656 + 9 * s0 + 8) = 4376 + 9 * s0 + 8), m_up_eq]
            have c0' : uc (m_up c (4376 + 9 * s0 + 8) s) (656 + 9 * s0) = c (4376 + 9 * s0) := by rw [uc_e, m_up_ne (by omega), (by omega : 3720 + (656 + 9 * s0) = 4376 + 9 * s0)]
            rw [u2]
            refine Or.inr ⟨hs0.2, hst.y (fun id h => un (id - 17) l0 (by omega) (by omega) (by omega)) (fun j j0 j1 => by rw [uc_e, uc_e, m_up_ne (by omega)]), Or.inr ⟨by rw [c0']; exact hc, U 0 2, s, c8, v1, v2, v3, hF1, fl_rf _ _ _ _ _⟩⟩
          · exact ⟨fun id i a1 a2 q => (un id i a1 (by omega) (by omega)).trans (hp.1 id i a1 a2 q), fun i q => by rw [hU', y_up_ne (Or.inl (by decide)), y_up_ne (Or.inl (by decide)), y_up_ne (Or.inl (by decide)), y_up_ne (Or.inl (by decide))]; exact hp.2.1 i q, fun j q => by rw [m_up_ne (by omega)]; exact hp.2.2 j q⟩
        · refine ⟨1, Nat.le_refl _, Or.inr ⟨σ', fun fu i i0 i1 => ?_, o2.tab Y.1 ha _ _, Fw, by omega⟩⟩
          rw [lc_end I hn he fu i i1, e, q_biP y σ', if_pos o1]

/-- a step with all that belongs to it, 3 bodies deep at most -/
theorem rA_s3 (Y : y_S X lb) (D : rd_D X lb R T) (ha : q_kd X a = 12) (G : y_G X lb g 1) (hn : n ≤ 300) (v : Int32) (I : rd_I X R T a g n B Vg w σ τ U dp c s) (hZ : rd_Z U s dp) (hP6 : 0 ≤ c 2 ∧ c 2 ≤ 6) (hP : Vg 1 4 = c 2) (N : y_nm Vg w 0 (c 2)) (hv : v.toInt = dp) (hd : dp = 3 - 3) (ht : ¬ (τ.1 a 14).toInt = 0) (he : (F_X12_isEnd X τ a).toInt = 0) : rd_A X R T a g n B Vg w σ τ (F_X12_readStep_d3 X τ a v) U c dp (rd_Q U c s dp) := by
  obtain ⟨c1, c2, c3, c4, c5⟩ := cl_step I hZ.1
  have ra := rd_act I
  have I0 := I
  have Z0 := hZ
  obtain ⟨S, M, Kk, h0, hV⟩ := I0
  obtain ⟨z1, z2, z3, z4, z5, z6, z7⟩ := Z0
  have fs : (τ.1 a 27).toInt = s := M.2.2.2.1
  rw [rs_d_3]
  rcases ra with ⟨r1, r2⟩ | ⟨hk, ty⟩
  · obtain ⟨σ', e, t1, t2, f⟩ := tl_wrong Kk h0
    have e7 := c1 r1
    rw [e] at e7
    rw [rs_a_3 _ _ v (by omega) f.2.1]
    exact rA_0f I hn ht he e7 rfl f (rd_Fr.rd Y.1 ha D S t1 t2)
  · have hk0 := hk
    unfold rd_k at hk0
    by_cases hs : s < 30
    · have s30 : ¬ (τ.1 a 27).toInt = 30 := by omega
      have e9 : (9 : Int32).toInt = 9 := rfl
      have e43 : (4376 : Int32).toInt = 4376 := rfl
      have e8 : (8 : Int32).toInt = 8 := rfl
      have zr : ((4376 : Int32) + 9 * τ.1 a 27).toInt = 4376 + 9 * s := by rw [ar_add, ar_mul, e9, e43, fs, ar_wr (n := 9 * s) (by omega) (by omega), ar_wr (by omega) (by omega)]
      have zz8 : (((4376 : Int32) + 9 * τ.1 a 27) + 8).toInt = 4376 + 9 * s + 8 := by rw [ar_add, e8, zr, ar_wr (by omega) (by omega)]
      by_cases hb : (F_X4_actionHere X σ R).toInt = 4 ∨ (F_X4_actionHere X σ R).toInt = 8
      · have x1 : (if (F_X12_stepWord X τ a).toInt = 3 ∨ (F_X12_stepWord X τ a).toInt = 4 then (1 : Int32) else 0) = 1 := if_pos (by omega)
        obtain ⟨fu, hf, e5⟩ := rs_e_3 (X := X) (a := a) (τ := τ) (F_X12_stepWord X τ a) (if (F_X12_stepWord X τ a).toInt = 3 ∨ (F_X12_stepWord X τ a).toInt = 4 then 1 else 0) v h0 (by omega) s30 (Or.inr (by omega))
        rw [e5]
        obtain ⟨z, σ', e6, F, O⟩ := op_block Y D ha G I hP6 hP N (r := F_X4_actionHere X σ R) (rk := F_X12_stepWord X τ a) z1 rfl ⟨z2, by omega⟩ ⟨z4, hs⟩ ⟨z6, by omega⟩ ht rfl rfl hk
        have e7 := c3 (by omega) hs hb (by omega)
        rw [e6] at e7
        rcases O with ⟨o1, ⟨U', c', I', ⟨y1, y2⟩, p2, p3⟩, o3⟩ | ⟨o1, o2⟩
        · have u2 : U' 0 2 = U 0 2 + 1 := by rw [y1 0 2 (Or.inl rfl), y_up_ne (Or.inl (by decide)), y_up_ne (Or.inr (by decide)), y_up_eq]
          have u1 : U' 0 1 = s + 1 := by rw [y1 0 1 (Or.inl rfl), y_up_ne (Or.inl (by decide)), y_up_eq]
          have u6 : U' 6 dp = U 0 2 := by rw [y1 6 dp (by omega), y_up_eq]
          have un : ∀ (id : Nat) (i : Int), id = 2 ∨ id = 6 ∧ i < dp ∨ 1 ≤ id ∧ id ≠ 6 ∧ i ≠ U 0 2 → U' id i = U id i := fun id i h => by rw [y1 id i (by omega), y_up_ne (by omega), y_up_ne (Or.inl (by omega)), y_up_ne (Or.inl (by omega))]
          have cc : ∀ j : Int, j < 4376 + 9 * s → c' j = c j := fun j q => y2 j (by omega)
          have hM : ((hd_M X a (F_X12_stepWord X τ a) τ).1 a 12).toInt = 0 := I'.2.2.2.1
          rw [hM] at hf
          refine rA_tr (k1 := 1) (fun fu i i0 i1 => rA_1 I hn ht he e7 o1 fu i i0 i1) (by omega) F (rB_3 Y D ha G hn v _ _ (by rw [x1]; decide) zr hv (by omega) fu I' ⟨u1, by omega, by omega, by omega, by omega, by omega, by omega⟩ (by rw [cc 2 (by omega)]; exact hP6) (by rw [cc 2 (by omega)]; exact hP) (by rw [cc 2 (by omega)]; exact N) hf ⟨z4, by omega⟩ u6 ⟨z2, by omega⟩ ⟨0, by rw [u2]; exact ⟨rfl, rfl⟩⟩ p3 (by rw [p2]; omega) ⟨fun id i a1 a2 a3 => un id i (by omega), fun i q => un 6 i (by omega), cc⟩) (fun _ _ _ q => q)
        · have bad : 0 < ((hd_M X a (F_X12_stepWord X τ a) τ).1 a 12).toInt := o2.2.1
          rw [ls_bad_3 (τ := hd_M X a (F_X12_stepWord X τ a) τ) _ _ v (by rw [x1]; decide) fu (by omega) bad]
          exact rA_0f I hn ht he e7 o1 (o2.tab Y.1 ha _ _) (F.tr (rd_Fr.cw (R := R) (τ := hd_M X a (F_X12_stepWord X τ a) τ) (v := (hd_M X a (F_X12_stepWord X τ a) τ).1 a 27) Y.1 ha rd_F.rf zz8 (by omega)))
      · have x0 : (if (F_X12_stepWord X τ a).toInt = 3 ∨ (F_X12_stepWord X τ a).toInt = 4 then (1 : Int32) else 0).toInt = 0 := by
          rw [if_neg (by omega)]
          rfl
        obtain ⟨fu, hf, e5⟩ := rs_e_3 (X := X) (a := a) (τ := τ) (F_X12_stepWord X τ a) (if (F_X12_stepWord X τ a).toInt = 3 ∨ (F_X12_stepWord X τ a).toInt = 4 then 1 else 0) v h0 (by omega) s30 (Or.inl x0)
        rw [e5, ls_flat_3 (τ := hd_M X a (F_X12_stepWord X τ a) τ) _ _ v x0 fu (by omega)]
        obtain ⟨z, σ', e6, O⟩ := op_flat Y D ha G I hP6 hP N (r := F_X4_actionHere X σ R) (rk := F_X12_stepWord X τ a) (x64 := 0) z1 rfl ⟨z2, by omega⟩ ⟨z4, hs⟩ ht rfl rfl hk rfl
        have e7 := c5 (by omega) hs (by omega)
        rw [e6] at e7
        exact rA_flat Y.1 ha I hn hZ hs ht he (by omega) e7 zr O
    · obtain ⟨σ', e, t1, t2, f⟩ := tl_fail Kk h0 (by omega) (k := 6) (by decide) (w := τ.1 a 15) rfl
      have e7 := c2 (by omega) hs
      rw [e] at e7
      rw [rs_b_3 _ _ v h0 (by omega) (by omega) f.2.1]
      exact rA_0f I hn ht he e7 rfl f (rd_Fr.rd Y.1 ha D S t1 t2)

end RA

/-! FROM 49zb.top.lean.txt -/
/-! A ROUND BEING READ: the whole text -/
section RB
variable {X : XW} {lb : Nat → Nat} {R T a g : Nat} {n : Int} {B w : Int → Int} {Vg : Nat → Int → Int}
/-- what the reading of a whole text comes to -/
def rT_O (X : XW) (R T a g : Nat) (n : Int) (B : Int → Int) (Vg : Nat → Int → Int) (w : Int → Int) (σ τ : ST) (U : Nat → Int → Int) (c : Int → Int) (s : Int) (τ' : ST) : Prop := ∃ (k : Nat) (σ' : ST), (τ.1 a 15).toInt + (k : Int) ≤ 301 ∧
  (((∀ (fu : Nat) (i : Int32), 0 ≤ i.toInt → i.toInt ≤ (τ.1 a 15).toInt → F_X4_takes_L21_1 X R (q_rf X g 0) (fu + k) i σ = (1, σ')) ∧ (∃ (U' : Nat → Int → Int) (c' : Int → Int) (s' : Int), rd_I X R T a g n B Vg w σ' τ' U' 0 c' s' ∧ rd_Z U' s' 0 ∧ U' 0 0 = 1 ∧ (∃ m : Nat, fl (uV U') (uc c') m s s' (U 0 2) (U' 0 2)) ∧ rd_p U U' c c' (U 0 2) s 0) ∧ rd_Fr X R a σ σ' τ τ') ∨
   ((∀ (fu : Nat) (i : Int32), 0 ≤ i.toInt → i.toInt ≤ (τ.1 a 15).toInt → F_X4_takes_L21_1 X R (q_rf X g 0) (fu + k) i σ = (0, σ')) ∧ tl_F σ' R τ' a ∧ rd_Fr X R a σ σ' τ τ'))
theorem rT (Y : y_S X lb) (D : rd_D X lb R T) (ha : q_kd X a = 12) (G : y_G X lb g 1) (hn : n ≤ 300) (fu : Nat) : ∀ {σ τ : ST} {U : Nat → Int → Int} {c : Int → Int} {s : Int}, rd_I X R T a g n B Vg w σ τ U 0 c s → rd_Z U s 0 → 0 ≤ c 2 ∧ c 2 ≤ 6 → Vg 1 4 = c 2 → y_nm Vg w 0 (c 2) → ((901 - (τ.1 a 15).toInt).toNat + (1 - (0 : Int)).toNat) < fu → ∃ τ' : ST, F_X12_round_L28_1 X a fu τ = F_X12_round_J50_2 X τ' a ∧ rT_O X R T a g n B Vg w σ τ U c s τ' := by
  have z0 : (0 : Int32).toInt = 0 := rfl
  induction fu with
  | zero => intro σ τ U c s _ _ _ _ _ hf; omega
  | succ fu ih =>
    intro σ τ U c s I hZ hP6 hP N hf
    have I0 := I
    have Z0 := hZ
    obtain ⟨S, M, Kk, h0, hV⟩ := I0
    obtain ⟨z1, z2, z3, z4, z5, z6, z7⟩ := Z0
    have kb := Kk.b
    have pk0 := Kk.2.2.2.2.2.2.1
    have step : F_X12_round_L28_1 X a (fu + 1) τ = if (τ.1 a 14).toInt = 0 then F_X12_round_J50_2 X τ a else F_X12_round_L28_1 X a fu (F_X12_readStep_d3 X τ a 0) := by
      rw [F_X12_round_L28_1_s]
      unfold F_X12_round_B28_1
      rw [q_letE (τ.1 a 12), if_pos h0, q_letE (τ.1 a 14)]
      by_cases q : (τ.1 a 14).toInt = 0
      · rw [if_pos q, if_pos q]
      · rw [if_neg q, if_neg q, q_letE]
    have bad : ∀ (τ1 : ST) , 0 < (τ1.1 a 12).toInt → F_X12_round_L28_1 X a fu τ1 = F_X12_round_J50_2 X τ1 a := by
      intro τ1 h
      obtain ⟨k, rfl⟩ : ∃ k, fu = k + 1 := ⟨fu - 1, by omega⟩
      rw [F_X12_round_L28_1_s]
      unfold F_X12_round_B28_1
      rw [q_letE (τ1.1 a 12), if_neg (by omega)]
    rw [step]
    by_cases ht : (τ.1 a 14).toInt = 0
    · rw [if_pos ht]
      obtain ⟨S1, x1⟩ := S.cell D (id := 0) (by decide) 0 1
      have sc1 := rd_same (σ := σ) D (id := 0) (by decide) 0 1
      have fr := rd_Fr.cl (a := a) (τ := τ) x1
      refine ⟨τ, rfl, 1, _, by omega, Or.inl ⟨fun fu i i0 i1 => ?_, ⟨_, c, s, ⟨S1, M, Kk.same sc1 (tl_same.rf (a := a) (τ := τ)), h0, by rw [fr.1.v Y D G (by decide), hV]⟩, ?_, ?_, ⟨0, ?_⟩, ?_⟩, fr⟩⟩
      · rw [lc_fin I ht fu i]
        unfold F_X4_takes_E72_3
        rw [q_letE (q_si σ (q_rf X R 8) 0 1)]
        have e1' : q_si σ (q_rf X R 8) 0 1 = q_si σ (rdA X R 0) 0 1 := rfl
        have f10 : ((q_si σ (rdA X R 0) 0 1).1 R 10).toInt = 0 := S1.2.2
        rw [e1', q_letE ((q_si σ (rdA X R 0) 0 1).1 R 10), if_pos f10]
      · refine ⟨?_, ?_, ?_, z4, z5, z6, z7⟩
        · rw [y_up_ne (Or.inr (by decide))]; exact z1
        · rw [y_up_ne (Or.inr (by decide))]; exact z2
        · rw [y_up_ne (Or.inr (by decide))]; exact z3
      · exact y_up_eq _ _ _ _
      · rw [y_up_ne (Or.inr (by decide))]; exact ⟨rfl, rfl⟩
      · exact ⟨fun id i a1 a2 a3 => by rw [y_up_ne (Or.inl (by omega))], fun i q => by rw [y_up_ne (Or.inl (by decide))], fun j q => rfl⟩
    · rw [if_neg ht]
      by_cases he : (F_X12_isEnd X τ a).toInt = 0
      · have A := rA_s3 Y D ha G hn 0 I hZ hP6 hP N z0 (by omega) ht he
        obtain ⟨τ1, hτ⟩ : ∃ t, t = F_X12_readStep_d3 X τ a 0 := ⟨_, rfl⟩
        rw [← hτ] at A ⊢
        obtain ⟨k, hk, A⟩ := A
        rcases A with ⟨σ1, U1, c1, s1, e2, I1, Z1, F1, ⟨⟨m1, q1⟩, q2⟩, p1⟩ | ⟨σ1, e2, F2, f2, b2⟩
        · have le := fl_le _ q1
          have cc : ∀ j : Int, j < 4376 + 9 * s → c1 j = c j := q2.2.2
          obtain ⟨τ', e3, k2, σ', b3, o⟩ := ih I1 Z1 (by rw [cc 2 (by omega)]; exact hP6) (by rw [cc 2 (by omega)]; exact hP) (by rw [cc 2 (by omega)]; exact N) (by omega)
          refine ⟨τ', e3, k2 + k, σ', by rw [Int.natCast_add]; omega, ?_⟩
          rcases o with ⟨o1, ⟨U', c', s', o2, o3, o4, ⟨m, o5⟩, o6⟩, o7⟩ | ⟨o1, o2, o3⟩
          · refine Or.inl ⟨fun fu i i0 i1 => ?_, ⟨U', c', s', o2, o3, o4, ⟨m1 + m, fl_app m1 (fl_y m1 (fun id i a1 a2 a3 a4 => o6.1 (id - 17) i (by omega) (by omega) a4) (fun j j0 j1 => o6.2.2 (3720 + j) (by omega)) q1) o5⟩, q2.tr o6 (by omega) (by omega) (by omega)⟩, F1.tr o7⟩
            obtain ⟨i', hi, e⟩ := e2 (fu + k2) i i0 i1
            rw [← Nat.add_assoc, e]
            exact o1 fu i' (by omega) (by omega)
          · refine Or.inr ⟨fun fu i i0 i1 => ?_, o2, F1.tr o3⟩
            obtain ⟨i', hi, e⟩ := e2 (fu + k2) i i0 i1
            rw [← Nat.add_assoc, e]
            exact o1 fu i' (by omega) (by omega)
        · exact ⟨τ1, bad τ1 F2.2.1, k, σ1, b2, Or.inr ⟨e2, F2, f2⟩⟩
      · -- an end without a body
        have r2 : (F_X12_stepWord X τ a).toInt = -1 := by
          rw [tm_isEnd] at he
          by_cases q : (τ.1 a 14).toInt = 1 ∧ (τ.2.1 a 19).toInt = 5572
          · rw [tm_stepWord, if_neg (by omega), if_neg (by omega), if_neg (by omega), if_neg (by omega), if_neg (by omega), if_neg (by omega)]
          · rw [if_neg q] at he
            exact absurd rfl he
        obtain ⟨σ', e, t1, t2, f⟩ := tl_wrong Kk h0
        rw [rs_d_3, rs_a_3 _ _ 0 (by omega) f.2.1]
        refine ⟨_, bad _ f.2.1, 1, σ', by omega, Or.inr ⟨fun fu i i0 i1 => ?_, f, rd_Fr.rd Y.1 ha D S t1 t2⟩⟩
        rw [lc_end I hn he fu i i1]
        unfold F_X4_readEnd
        have f10 : (σ.1 R 10).toInt = 0 := S.2.2
        rw [q_letE (σ.1 R 10), if_pos f10, e, q_biP (0 : Int32) σ', q_biP (0 : Int32) σ', if_pos (by decide)]
end RB

/-! FROM 49zc.ends.lean.txt -/
/-! A ROUND READ: begin, end, what is copied -/
section RC
variable {X : XW} {lb : Nat → Nat} {R T a g : Nat} {σ τ : ST} {n : Int} {B : Int → Int}
/-- the class's script goes into the game -/
theorem rr_cp (Y : y_S X lb) (D : rd_D X lb R T) (G : y_G X lb g 1) : ∃ V' : Nat → Int → Int, y_W X lb g 1 σ (F_X8_copyFrom X σ (q_rf X g 3) (q_rf X R 8)) V' ∧ V' 3 0 = rv X R σ 0 0 ∧ V' 3 1 = rv X R σ 0 1 ∧ V' 3 2 = rv X R σ 0 2 ∧ (∀ (id : Nat) (i : Int), 18 ≤ id → id < 23 → 0 ≤ i → i < 60 → V' id i = rv X R σ (id - 17) i) ∧ ∀ (id : Nat) (i : Int), id < 3 ∨ 3 < id ∧ id < 18 ∨ 22 < id → V' id i = y_v X g σ id i := by
  have own : ∀ id, id < 7 → lb (rdA X R id) / 8192 ≠ 1 := fun id hid => by
    rw [(D.2.2.2.2 id hid).1]
    have := (rdL_o id hid).1
    omega
  have src : ∀ (ρ : ST) (V : Nat → Int → Int), y_W X lb g 1 σ ρ V → ∀ id, id < 7 → ∀ f, ρ.1 (rdA X R id) f = σ.1 (rdA X R id) f := fun ρ V w id hid f => w.1 _ (own id hid) f
  have ln : ∀ id, 1 ≤ id → id < 6 → q_ln X (rdA X R id) = 60 := fun id h0 h1 => ((D.2.2.2.2 id (by omega)).2 h0).1.trans (by rcases (by omega : id = 1 ∨ id = 2 ∨ id = 3 ∨ id = 4 ∨ id = 5) with e | e | e | e | e <;> subst e <;> rfl)
  have nb : ∀ id k, id < 7 → k < 25 → rdA X R id ≠ y_gA X g k := fun id k h0 h1 => y_gA_ne Y G h1 (own id h0)
  have rw_ : ∀ (ρ : ST) (V : Nat → Int → Int), y_W X lb g 1 σ ρ V → ∀ id, id < 7 → ∀ i : Int, 0 ≤ i → (ρ.1 (rdA X R id) i.toNat).toInt = rv X R σ id i := fun ρ V w id hid i i0 => by
    rw [src ρ V w id hid]
    unfold rv
    rw [if_pos ⟨hid, i0⟩]
  unfold F_X8_copyFrom
  have w0 : y_W X lb g 1 σ σ (y_v X g σ) := y_W.rf
  have w1 := w0.si Y G (id := 3) (by decide) 0 (σ.1 (q_rf X R 8) 0)
  rw [q_letE (σ.1 (q_rf X R 8) 0), q_letE (q_si σ (q_rf X g 3) 0 (σ.1 (q_rf X R 8) 0))]
  obtain ⟨σ1, e1⟩ : ∃ t, t = q_si σ (q_rf X g 3) 0 (σ.1 (q_rf X R 8) 0) := ⟨_, rfl⟩
  have e1' : q_si σ (y_gA X g 3) 0 (σ.1 (q_rf X R 8) 0) = σ1 := e1.symm
  rw [← e1]
  rw [e1'] at w1
  have w2 := w1.si Y G (id := 3) (by decide) 1 (σ1.1 (q_rf X R 8) 1)
  rw [q_letE (σ1.1 (q_rf X R 8) 1), q_letE (q_si σ1 (q_rf X g 3) 1 (σ1.1 (q_rf X R 8) 1))]
  obtain ⟨σ2, e2⟩ : ∃ t, t = q_si σ1 (q_rf X g 3) 1 (σ1.1 (q_rf X R 8) 1) := ⟨_, rfl⟩
  have e2' : q_si σ1 (y_gA X g 3) 1 (σ1.1 (q_rf X R 8) 1) = σ2 := e2.symm
  rw [← e2]
  rw [e2'] at w2
  have w3 := w2.si Y G (id := 3) (by decide) 2 (σ2.1 (q_rf X R 8) 2)
  rw [q_letE (σ2.1 (q_rf X R 8) 2), q_letE (q_si σ2 (q_rf X g 3) 2 (σ2.1 (q_rf X R 8) 2))]
  obtain ⟨σ3, e3⟩ : ∃ t, t = q_si σ2 (q_rf X g 3) 2 (σ2.1 (q_rf X R 8) 2) := ⟨_, rfl⟩
  have e3' : q_si σ2 (y_gA X g 3) 2 (σ2.1 (q_rf X R 8) 2) = σ3 := e3.symm
  rw [← e3]
  rw [e3'] at w3
  have c0 : (σ.1 (q_rf X R 8) 0).toInt = rv X R σ 0 0 := rw_ σ _ w0 0 (by decide) 0 (by decide)
  have c1 : (σ1.1 (q_rf X R 8) 1).toInt = rv X R σ 0 1 := rw_ σ1 _ w1 0 (by decide) 1 (by decide)
  have c2 : (σ2.1 (q_rf X R 8) 2).toInt = rv X R σ 0 2 := rw_ σ2 _ w2 0 (by decide) 2 (by decide)
  have w4 := w3.copy Y G (id := 18) (r := q_rf X (q_rf X g 3) 3) (r' := q_rf X (q_rf X R 8) 3) ⟨by decide, by decide⟩ rfl (ln 1 (by decide) (by decide)) (nb 1 18 (by decide) (by decide))
  rw [q_letE (F_X5_copyFrom X σ3 (q_rf X (q_rf X g 3) 3) (q_rf X (q_rf X R 8) 3))]
  obtain ⟨σ4, e4⟩ : ∃ t, t = F_X5_copyFrom X σ3 (q_rf X (q_rf X g 3) 3) (q_rf X (q_rf X R 8) 3) := ⟨_, rfl⟩
  rw [← e4] at w4 ⊢
  have w5 := w4.copy Y G (id := 19) (r := q_rf X (q_rf X g 3) 4) (r' := q_rf X (q_rf X R 8) 4) ⟨by decide, by decide⟩ rfl (ln 2 (by decide) (by decide)) (nb 2 19 (by decide) (by decide))
  rw [q_letE (F_X5_copyFrom X σ4 (q_rf X (q_rf X g 3) 4) (q_rf X (q_rf X R 8) 4))]
  obtain ⟨σ5, e5⟩ : ∃ t, t = F_X5_copyFrom X σ4 (q_rf X (q_rf X g 3) 4) (q_rf X (q_rf X R 8) 4) := ⟨_, rfl⟩
  rw [← e5] at w5 ⊢
  have w6 := w5.copy Y G (id := 20) (r := q_rf X (q_rf X g 3) 5) (r' := q_rf X (q_rf X R 8) 5) ⟨by decide, by decide⟩ rfl (ln 3 (by decide) (by decide)) (nb 3 20 (by decide) (by decide))
  rw [q_letE (F_X5_copyFrom X σ5 (q_rf X (q_rf X g 3) 5) (q_rf X (q_rf X R 8) 5))]
  obtain ⟨σ6, e6⟩ : ∃ t, t = F_X5_copyFrom X σ5 (q_rf X (q_rf X g 3) 5) (q_rf X (q_rf X R 8) 5) := ⟨_, rfl⟩
  rw [← e6] at w6 ⊢
  have w7 := w6.copy Y G (id := 21) (r := q_rf X (q_rf X g 3) 6) (r' := q_rf X (q_rf X R 8) 6) ⟨by decide, by decide⟩ rfl (ln 4 (by decide) (by decide)) (nb 4 21 (by decide) (by decide))
  rw [q_letE (F_X5_copyFrom X σ6 (q_rf X (q_rf X g 3) 6) (q_rf X (q_rf X R 8) 6))]
  obtain ⟨σ7, e7⟩ : ∃ t, t = F_X5_copyFrom X σ6 (q_rf X (q_rf X g 3) 6) (q_rf X (q_rf X R 8) 6) := ⟨_, rfl⟩
  rw [← e7] at w7 ⊢
  have w8 := w7.copy Y G (id := 22) (r := q_rf X (q_rf X g 3) 7) (r' := q_rf X (q_rf X R 8) 7) ⟨by decide, by decide⟩ rfl (ln 5 (by decide) (by decide)) (nb 5 22 (by decide) (by decide))
  rw [q_letE (F_X5_copyFrom X σ7 (q_rf X (q_rf X g 3) 7) (q_rf X (q_rf X R 8) 7))]
  have n60 : ∀ k, k = 18 ∨ k = 19 ∨ k = 20 ∨ k = 21 ∨ k = 22 → ((y_gn k : Nat) : Int) = 60 := fun k h => by rcases h with e | e | e | e | e <;> subst e <;> rfl
  refine ⟨_, w8, ?_, ?_, ?_, fun id i h0 h1 i0 i1 => ?_, fun id i h => ?_⟩
  · rw [y_bl_ne (by decide), y_bl_ne (by decide), y_bl_ne (by decide), y_bl_ne (by decide), y_bl_ne (by decide), y_up_ne (Or.inr (by decide)), y_up_ne (Or.inr (by decide))]
    exact (y_up_eq _ _ _ _).trans c0
  · rw [y_bl_ne (by decide), y_bl_ne (by decide), y_bl_ne (by decide), y_bl_ne (by decide), y_bl_ne (by decide), y_up_ne (Or.inr (by decide))]
    exact (y_up_eq _ _ _ _).trans c1
  · rw [y_bl_ne (by decide), y_bl_ne (by decide), y_bl_ne (by decide), y_bl_ne (by decide), y_bl_ne (by decide)]
    exact (y_up_eq _ _ _ _).trans c2
  · rcases (by omega : id = 18 ∨ id = 19 ∨ id = 20 ∨ id = 21 ∨ id = 22) with e | e | e | e | e <;> subst e
    · rw [y_bl_ne (by decide), y_bl_ne (by decide), y_bl_ne (by decide), y_bl_ne (by decide), y_bl_in i0 (by rw [n60 18 (by decide)]; exact i1)]
      exact rw_ σ3 _ w3 1 (by decide) i i0
    · rw [y_bl_ne (by decide), y_bl_ne (by decide), y_bl_ne (by decide), y_bl_in i0 (by rw [n60 19 (by decide)]; exact i1)]
      exact rw_ σ4 _ w4 2 (by decide) i i0
    · rw [y_bl_ne (by decide), y_bl_ne (by decide), y_bl_in i0 (by rw [n60 20 (by decide)]; exact i1)]
      exact rw_ σ5 _ w5 3 (by decide) i i0
    · rw [y_bl_ne (by decide), y_bl_in i0 (by rw [n60 21 (by decide)]; exact i1)]
      exact rw_ σ6 _ w6 4 (by decide) i i0
    · rw [y_bl_in i0 (by rw [n60 22 (by decide)]; exact i1)]
      exact rw_ σ7 _ w7 5 (by decide) i i0
  · rw [y_bl_ne (by omega), y_bl_ne (by omega), y_bl_ne (by omega), y_bl_ne (by omega), y_bl_ne (by omega), y_up_ne (Or.inl (by omega)), y_up_ne (Or.inl (by omega)), y_up_ne (Or.inl (by omega))]
/-- the class begins -/
theorem rr_beg (D : rd_D X lb R T) (hTl : q_ln X T = 900) {v : Int32} (hv : v.toInt = n) (hn : 0 ≤ n ∧ n ≤ 900) (hB : ∀ p : Int, 0 ≤ p → p < n → (σ.1 T p.toNat).toInt = B p ∧ -128 ≤ B p ∧ B p ≤ 127) (r3 : Nat) :
    ∃ (ρ : ST) (U : Nat → Int → Int), F_X4_takes X σ R T v r3 = F_X4_takes_L21_1 X R r3 ((2147483647 - (0 : Int32).toInt).toNat + 1) 0 (F_X3_advance X ρ R) ∧ rd_S X R T ρ n B U 0 ∧ U 0 0 = 0 ∧ U 0 1 = 0 ∧ U 0 2 = 0 ∧ (ρ.1 R 3).toInt = 0 ∧ (ρ.1 R 6).toInt = 0 ∧ (ρ.1 R 7).toInt = -1 ∧ ∀ b, b ≠ R → (∀ i, i < 7 → b ≠ rdA X R i) → ∀ f, ρ.1 b f = σ.1 b f := by
  have nR : ∀ id, id < 7 → rdA X R id ≠ R ∧ rdA X R id ≠ T := fun id h => D.nR h
  have n0 := nR 0 (by decide)
  have hTR : T ≠ R := m_ne D.2.2.1 D.1 (by decide)
  unfold F_X4_takes F_X8_clear
  rw [q_letE (q_si σ (q_rf X R 8) 0 0), q_letE (q_si (q_si σ (q_rf X R 8) 0 0) (q_rf X R 8) 1 0), q_letE (q_si (q_si (q_si σ (q_rf X R 8) 0 0) (q_rf X R 8) 1 0) (q_rf X R 8) 2 0), q_letE (q_si (q_si (q_si σ (q_rf X R 8) 0 0) (q_rf X R 8) 1 0) (q_rf X R 8) 2 0), q_letE (q_si (q_si (q_si (q_si σ (q_rf X R 8) 0 0) (q_rf X R 8) 1 0) (q_rf X R 8) 2 0) R 10 0)]
  obtain ⟨σ3, e3⟩ : ∃ t, t = q_si (q_si (q_si (q_si σ (q_rf X R 8) 0 0) (q_rf X R 8) 1 0) (q_rf X R 8) 2 0) R 10 0 := ⟨_, rfl⟩
  rw [← e3]
  have r8 : q_rf X R 8 = rdA X R 0 := rfl
  have fr : ∀ b, b ≠ R → b ≠ rdA X R 0 → ∀ f, σ3.1 b f = σ.1 b f := fun b b1 b2 f => by
    rw [e3, q_si_ne b1, r8, q_si_ne b2, q_si_ne b2, q_si_ne b2]
  obtain ⟨ρ, e, E, c3, c6, c7, t⟩ := tc_start (σ := σ3) (D := R) hTl hTR hv hn (fun p p0 p1 => by rw [fr T hTR (Ne.symm n0.2)]; exact hB p p0 p1)
  rw [e, q_letE]
  have tR : ∀ b, b ≠ R → ∀ f, ρ.1 b f = σ3.1 b f := fun b hb f => t.1 b f (fun z => hb z.1)
  have cu : ∀ i : Nat, i = 0 ∨ i = 1 ∨ i = 2 → rv X R ρ 0 (i : Int) = 0 := fun i hi => by
    rw [← rv_n (by decide) i, tR _ n0.1, e3, q_si_ne n0.1, r8]
    rcases hi with h | h | h <;> subst h
    · rw [si_f (by decide), si_f (by decide), si_eq]; rfl
    · rw [si_f (by decide), si_eq]; rfl
    · rw [si_eq]; rfl
  refine ⟨ρ, rv X R ρ, rfl, ⟨E, rfl, ?_⟩, cu 0 (by decide), cu 1 (by decide), cu 2 (by decide), c3, c6, c7, fun b b1 b2 f => ?_⟩
  · rw [t.1 R 10 (fun z => absurd z.2 (by decide)), e3, si_eq]
    rfl
  · rw [tR b b1, fr b b1 (b2 0 (by decide))]
/-- the reference's round ends with a fault -/
theorem rr_end0 (h : 0 < (τ.1 a 12).toInt) : ∃ τ' : ST, F_X12_round_J50_2 X τ a = (-1, τ') ∧ τ'.1 a 10 = τ.1 a 12 ∧ τ'.1 a 11 = τ.1 a 13 ∧ (τ'.1 a 0).toInt = 10 ∧ tkl (fun b f => b = a ∧ (f = 0 ∨ f = 10 ∨ f = 11)) (fun _ _ => False) τ τ' := by
  have e12 : (q_si τ a 10 (τ.1 a 12)).1 a 12 = τ.1 a 12 := si_f (by decide) a
  have e12' : (q_si (q_si τ a 10 (τ.1 a 12)) a 11 ((q_si τ a 10 (τ.1 a 12)).1 a 13)).1 a 12 = τ.1 a 12 := (si_f (by decide) a).trans e12
  unfold F_X12_round_J50_2 F_X12_isWell F_X12_no
  rw [q_letE (τ.1 a 12), q_letE (q_si τ a 10 (τ.1 a 12)), q_letE ((q_si τ a 10 (τ.1 a 12)).1 a 12), e12, if_neg (by omega), q_letE, q_letE, q_letE, e12', if_neg (by omega), q_letE, q_biP (0 : Int32) (q_si (q_si (q_si τ a 10 (τ.1 a 12)) a 11 ((q_si τ a 10 (τ.1 a 12)).1 a 13)) a 0 10), if_pos (by decide : (0 : Int32).toInt = 0), q_biP (0 : Int32), if_pos (by decide : (0 : Int32).toInt = 0)]
  refine ⟨_, rfl, ?_, ?_, ?_, ?_⟩
  · rw [si_f (by decide), si_f (by decide), si_eq]
  · rw [si_f (by decide), si_eq, si_f (by decide)]
  · rw [si_eq]
    rfl
  · exact ((tkl.rf.si _ ⟨rfl, Or.inr (Or.inl rfl)⟩).si _ ⟨rfl, Or.inr (Or.inr rfl)⟩).si _ ⟨rfl, Or.inl rfl⟩
/-- the steps go to their place -/
theorem rr_L82 (hT : q_T X) (ha : q_kd X a = 12) {s : Int} (hs : 0 ≤ s ∧ s ≤ 30) (fu : Nat) : ∀ (x : Int32) (τ : ST), (τ.1 a 27).toInt = s → 0 ≤ x.toInt → x.toInt ≤ 9 * s → (9 * s - x.toInt).toNat < fu → ∃ (z : Int32) (τ' : ST), F_X12_round_L82_3 X a fu x τ = (z, τ') ∧ z.toInt = s ∧ tkl (fun b _ => b = q_rf X a 20) (fun _ _ => False) τ τ' ∧ ∀ j : Int, 0 ≤ j → m_c X τ' a j = if 656 + x.toInt ≤ j ∧ j < 656 + 9 * s then m_c X τ a (j + 3720) else m_c X τ a j := by
  have na : a ≠ q_rf X a 20 := Ne.symm (m_ne (tb_k hT ha).1 ha (by decide))
  have e9 : (9 : Int32).toInt = 9 := rfl
  have one : (1 : Int32).toInt = 1 := rfl
  have e656 : (656 : Int32).toInt = 656 := rfl
  have e4376 : (4376 : Int32).toInt = 4376 := rfl
  induction fu with
  | zero => intro x τ _ _ _ h; omega
  | succ fu ih =>
    intro x τ h27 h0 h1 hf
    have e99 : ((9 : Int32) * τ.1 a 27).toInt = 9 * s := by rw [ar_mul, e9, h27, ar_wr (by omega) (by omega)]
    rw [F_X12_round_L82_3_s]
    unfold F_X12_round_B82_3
    rw [q_letE (τ.1 a 27), q_letE ((9 : Int32) * τ.1 a 27), e99]
    by_cases q : x.toInt < 9 * s
    · rw [if_pos q, q_letE ((656 : Int32) + x), q_letE ((4376 : Int32) + x), q_letE (τ.1 (q_rf X a 20) ((4376 : Int32) + x).toNatClampNeg)]
      have i1 : ((656 : Int32) + x).toInt = 656 + x.toInt := by rw [ar_add, e656, ar_wr (by omega) (by omega)]
      have i2 : ((4376 : Int32) + x).toInt = 4376 + x.toInt := by rw [ar_add, e4376, ar_wr (by omega) (by omega)]
      have i3 : (x + 1).toInt = x.toInt + 1 := by rw [ar_add, one, ar_wr (by omega) (by omega)]
      have val := m_rd (X := X) (σ := τ) (a := a) (i := (4376 : Int32) + x) (A := 4376 + x.toInt) rfl i2
      obtain ⟨f, hf7⟩ : ∃ f, f = τ.1 (q_rf X a 20) ((4376 : Int32) + x).toNatClampNeg := ⟨_, rfl⟩
      rw [← hf7] at val ⊢
      have mc := m_c_up (X := X) (a := a) (τ := τ) (656 + x.toInt) (by omega) (v := f) i1
      rw [q_letE (q_si τ (q_rf X a 20) ((656 : Int32) + x).toNatClampNeg f), q_letE (x + 1)]
      have t1 : tkl (fun b _ => b = q_rf X a 20) (fun _ _ => False) τ (q_si τ (q_rf X a 20) ((656 : Int32) + x).toNatClampNeg f) := tkl.rf.si _ rfl
      obtain ⟨τ1, e1⟩ : ∃ t, t = q_si τ (q_rf X a 20) ((656 : Int32) + x).toNatClampNeg f := ⟨_, rfl⟩
      rw [← e1] at mc t1 ⊢
      obtain ⟨z, τ', y1, y2, y3, y4⟩ := ih (x + 1) τ1 (by rw [t1.1 a 27 na]; exact h27) (by omega) (by omega) (by omega)
      refine ⟨z, τ', y1, y2, t1.tr y3, fun j j0 => ?_⟩
      rw [y4 j j0, i3, mc]
      by_cases q1 : 656 + (x.toInt + 1) ≤ j ∧ j < 656 + 9 * s
      · rw [if_pos q1, if_pos (by omega), m_up_ne (by omega)]
      · rw [if_neg q1]
        by_cases q2 : j = 656 + x.toInt
        · rw [if_pos (by omega), q2, m_up_eq, val]
          congr 1
          omega
        · rw [if_neg (by omega), m_up_ne q2]
    · rw [if_neg q]
      unfold F_X12_round_E119_4
      rw [q_letE]
      exact ⟨_, _, rfl, h27, tkl.rf, fun j j0 => by rw [if_neg (by omega)]⟩
/-- the reference's round ends well -/
theorem rr_end1 (hT : q_T X) (ha : q_kd X a = 12) (h : (τ.1 a 12).toInt = 0) {s : Int} (hs : 0 ≤ s ∧ s ≤ 30) (h27 : (τ.1 a 27).toInt = s) : ∃ (z : Int32) (τ' : ST), F_X12_round_J50_2 X τ a = (z, τ') ∧ z.toInt = s ∧ (τ'.1 a 10).toInt = 0 ∧ (τ'.1 a 11).toInt = -1 ∧ tkl (fun b f => b = q_rf X a 20 ∨ b = a ∧ (f = 10 ∨ f = 11)) (fun _ _ => False) τ τ' ∧
    m_c X τ' a 654 = 1 ∧ m_c X τ' a 655 = s ∧ ∀ j : Int, 0 ≤ j → j ≠ 654 → j ≠ 655 → m_c X τ' a j = if 656 ≤ j ∧ j < 656 + 9 * s then m_c X τ a (j + 3720) else m_c X τ a j := by
  have na : a ≠ q_rf X a 20 := Ne.symm (m_ne (tb_k hT ha).1 ha (by decide))
  have m1 : ((-1) : Int32).toInt = -1 := rfl
  have e12 : (q_si τ a 10 (τ.1 a 12)).1 a 12 = τ.1 a 12 := si_f (by decide) a
  have e12' : (q_si (q_si τ a 10 (τ.1 a 12)) a 11 (-1)).1 a 12 = τ.1 a 12 := (si_f (by decide) a).trans e12
  unfold F_X12_round_J50_2 F_X12_isWell
  rw [q_letE (τ.1 a 12), q_letE (q_si τ a 10 (τ.1 a 12)), q_letE ((q_si τ a 10 (τ.1 a 12)).1 a 12), e12, if_pos h, q_letE (q_si (q_si τ a 10 (τ.1 a 12)) a 11 (-1)), q_letE ((q_si (q_si τ a 10 (τ.1 a 12)) a 11 (-1)).1 a 12), e12', if_pos h, q_biP (1 : Int32) (q_si (q_si τ a 10 (τ.1 a 12)) a 11 (-1)), if_neg (by decide : ¬ (1 : Int32).toInt = 0)]
  have t1 : tkl (fun b f => b = q_rf X a 20 ∨ b = a ∧ (f = 10 ∨ f = 11)) (fun _ _ => False) τ (q_si (q_si τ a 10 (τ.1 a 12)) a 11 (-1)) := (tkl.rf.si _ (Or.inr ⟨rfl, Or.inl rfl⟩)).si _ (Or.inr ⟨rfl, Or.inr rfl⟩)
  have d10 : ((q_si (q_si τ a 10 (τ.1 a 12)) a 11 (-1)).1 a 10).toInt = 0 := by rw [si_f (by decide), si_eq]; exact h
  have d11 : ((q_si (q_si τ a 10 (τ.1 a 12)) a 11 (-1)).1 a 11).toInt = -1 := by rw [si_eq]; exact m1
  have mc1 : m_c X (q_si (q_si τ a 10 (τ.1 a 12)) a 11 (-1)) a = m_c X τ a := (mv_cell hT ha 11 (-1)).trans (mv_cell hT ha 10 _)
  have d27 : ((q_si (q_si τ a 10 (τ.1 a 12)) a 11 (-1)).1 a 27).toInt = s := by rw [si_f (by decide), si_f (by decide)]; exact h27
  obtain ⟨τ1, e1⟩ : ∃ t, t = q_si (q_si τ a 10 (τ.1 a 12)) a 11 (-1) := ⟨_, rfl⟩
  rw [← e1] at t1 d10 d11 mc1 d27 ⊢
  have mc2 := m_c_up (X := X) (a := a) (τ := τ1) 654 (by decide) (i := 654) (v := 1) rfl
  have t2 := t1.si (a := q_rf X a 20) (f := (654 : Int32).toNatClampNeg) (1 : Int32) (Or.inl rfl)
  rw [q_letE (q_si τ1 (q_rf X a 20) (654 : Int32).toNatClampNeg 1)]
  have f27 : (q_si τ1 (q_rf X a 20) (654 : Int32).toNatClampNeg 1).1 a 27 = τ1.1 a 27 := q_si_ne na _
  rw [q_letE ((q_si τ1 (q_rf X a 20) (654 : Int32).toNatClampNeg 1).1 a 27), f27]
  have a10 : ((q_si τ1 (q_rf X a 20) (654 : Int32).toNatClampNeg 1).1 a 10) = τ1.1 a 10 := q_si_ne na _
  have a11 : ((q_si τ1 (q_rf X a 20) (654 : Int32).toNatClampNeg 1).1 a 11) = τ1.1 a 11 := q_si_ne na _
  obtain ⟨τ2, e2⟩ : ∃ t, t = q_si τ1 (q_rf X a 20) (654 : Int32).toNatClampNeg 1 := ⟨_, rfl⟩
  rw [← e2] at mc2 t2 f27 a10 a11 ⊢
  have mc3 := m_c_up (X := X) (a := a) (τ := τ2) 655 (by decide) (i := 655) (v := τ1.1 a 27) rfl
  have t3 := t2.si (a := q_rf X a 20) (f := (655 : Int32).toNatClampNeg) (τ1.1 a 27) (Or.inl rfl)
  rw [q_letE (q_si τ2 (q_rf X a 20) (655 : Int32).toNatClampNeg (τ1.1 a 27))]
  have g27 : ((q_si τ2 (q_rf X a 20) (655 : Int32).toNatClampNeg (τ1.1 a 27)).1 a 27).toInt = s := by rw [q_si_ne na, f27]; exact d27
  have b10 : ((q_si τ2 (q_rf X a 20) (655 : Int32).toNatClampNeg (τ1.1 a 27)).1 a 10).toInt = 0 := by rw [q_si_ne na, a10]; exact d10
  have b11 : ((q_si τ2 (q_rf X a 20) (655 : Int32).toNatClampNeg (τ1.1 a 27)).1 a 11).toInt = -1 := by rw [q_si_ne na, a11]; exact d11
  obtain ⟨τ3, e3⟩ : ∃ t, t = q_si τ2 (q_rf X a 20) (655 : Int32).toNatClampNeg (τ1.1 a 27) := ⟨_, rfl⟩
  rw [← e3] at mc3 t3 g27 b10 b11 ⊢
  have z0 : (0 : Int32).toInt = 0 := rfl
  obtain ⟨z, τ', y1, y2, y3, y4⟩ := rr_L82 hT ha hs ((2147483647 - (0 : Int32).toInt).toNat + 1) 0 τ3 g27 (by decide) (by omega) (by omega)
  have o1 : (1 : Int32).toInt = 1 := rfl
  rw [mc2, mc1, o1, d27] at mc3
  rw [mc3, z0] at y4
  refine ⟨z, τ', y1, y2, ?_, ?_, t3.tr (y3.mono (fun _ _ z => Or.inl z) (fun _ _ z => z)), ?_, ?_, fun j j0 j1 j2 => ?_⟩
  · rw [y3.1 a 10 na]; exact b10
  · rw [y3.1 a 11 na]; exact b11
  · rw [y4 654 (by decide), if_neg (by omega), m_up_ne (by decide), m_up_eq]
  · rw [y4 655 (by decide), if_neg (by omega), m_up_eq]
  · rw [y4 j j0]
    by_cases q : 656 ≤ j ∧ j < 656 + 9 * s
    · rw [if_pos (by omega), if_pos q, m_up_ne (by omega), m_up_ne (by omega)]
    · rw [if_neg (by omega), if_neg q, m_up_ne j2, m_up_ne j1]
end RC

/-! FROM 49zd.round.lean.txt -/
/-! A ROUND: both answer the same, all stays the same -/
/-- what a round leaves: a refusal, a text read -/
def rr_Out (C a : Nat) (σ τ : ST) (v : Int32) (m : Int) (σ' τ' : ST) : Prop :=
  ((v.toInt < 0 ∨ m < v.toInt ∨ 300 < v.toInt) ∧ tk (fun b f => b = C ∧ f = 0) σ σ' ∧ tkl (fun b f => b = a ∧ (f = 0 ∨ f = 1)) (fun _ _ => False) τ τ') ∨
  ((0 ≤ v.toInt ∧ v.toInt ≤ m ∧ v.toInt ≤ 300) ∧ (σ'.1 C 5).toInt = 0 ∧ (τ'.1 a 8).toInt = 0 ∧ (σ'.1 C 6).toInt = (τ'.1 a 10).toInt ∧ (σ'.1 C 7).toInt = (τ'.1 a 11).toInt)
theorem rg.w3 {V V' : Nat → Int → Int} {c : Int → Int} (R : rg V c) (hV : ∀ (id : Nat) (i : Int), id < 3 ∨ 3 < id ∧ id < 18 → V' id i = V id i) : rg V' c := by
  have h0 : ∀ i, V' 0 i = V 0 i := fun i => hV 0 i (by decide)
  have h1 : ∀ i, V' 1 i = V 1 i := fun i => hV 1 i (by decide)
  have h2 : ∀ i, V' 2 i = V 2 i := fun i => hV 2 i (by decide)
  have h4 : ∀ i, V' 4 i = V 4 i := fun i => hV 4 i (by decide)
  have h7 : ∀ i, V' 7 i = V 7 i := fun i => hV 7 i (by decide)
  have h8 : ∀ i, V' 8 i = V 8 i := fun i => hV 8 i (by decide)
  have h9 : ∀ i, V' 9 i = V 9 i := fun i => hV 9 i (by decide)
  have h10 : ∀ i, V' 10 i = V 10 i := fun i => hV 10 i (by decide)
  have h11 : ∀ i, V' 11 i = V 11 i := fun i => hV 11 i (by decide)
  have h12 : ∀ i, V' 12 i = V 12 i := fun i => hV 12 i (by decide)
  have h13 : ∀ i, V' 13 i = V 13 i := fun i => hV 13 i (by decide)
  have h14 : ∀ i, V' 14 i = V 14 i := fun i => hV 14 i (by decide)
  have h15 : ∀ i, V' 15 i = V 15 i := fun i => hV 15 i (by decide)
  have h16 : ∀ i, V' 16 i = V 16 i := fun i => hV 16 i (by decide)
  have h17 : ∀ i, V' 17 i = V 17 i := fun i => hV 17 i (by decide)
  unfold rg rg_t rg_s rg_p rg_h rg_l rg_a at R ⊢
  simp only [h0, h1, h2, h4, h7, h8, h9, h10, h11, h12, h13, h14, h15, h16, h17]
  exact R
section RDD
variable {X : XW} {lb : Nat → Nat} {C a : Nat} {σ τ : ST} {n m : Int} {B : Int → Int}
theorem rr_open0 (h8 : (τ.1 a 8).toInt = m) {v : Int32} (h : v.toInt < 0 ∨ m < v.toInt ∨ 300 < v.toInt) : F_X12_round X τ a v = (-1, q_si (q_si (q_si τ a 1 0) a 0 0) a 0 5) := by
  have d8 : ((q_si (q_si τ a 1 0) a 0 0).1 a 8).toInt = m := by rw [si_f (by decide), si_f (by decide)]; exact h8
  have e300 : (300 : Int32).toInt = 300 := rfl
  unfold F_X12_round F_X12_opens F_X12_no
  rw [q_letE (q_si τ a 1 0), q_letE (q_si (q_si τ a 1 0) a 0 0)]
  obtain ⟨τ2, e2⟩ : ∃ s, s = q_si (q_si τ a 1 0) a 0 0 := ⟨_, rfl⟩
  rw [← e2] at d8 ⊢
  by_cases q1 : v.toInt < 0
  · rw [if_pos q1, q_letE (q_si τ2 a 0 5), q_biP (0 : Int32) (q_si τ2 a 0 5), q_biP (0 : Int32) (q_si τ2 a 0 5), if_pos (by decide)]
  · rw [if_neg q1, q_letE (τ2.1 a 8), d8]
    by_cases q2 : m < v.toInt
    · rw [if_pos q2, q_letE (q_si τ2 a 0 5), q_biP (0 : Int32) (q_si τ2 a 0 5), q_biP (0 : Int32) (q_si τ2 a 0 5), if_pos (by decide)]
    · rw [if_neg q2, e300, if_pos (by omega), q_letE (q_si τ2 a 0 5), q_biP (0 : Int32) (q_si τ2 a 0 5), q_biP (0 : Int32) (q_si τ2 a 0 5), if_pos (by decide)]
theorem rr_open1 (h8 : (τ.1 a 8).toInt = m) {v : Int32} (h : 0 ≤ v.toInt ∧ v.toInt ≤ m ∧ v.toInt ≤ 300) : ∃ τ3 : ST, τ3 = q_si (q_si (q_si (q_si (q_si (q_si τ a 1 0) a 0 0) a 9 v) a 8 0) a 16 0) a 12 0 ∧ F_X12_round X τ a v = F_X12_round_L28_1 X a ((901 - ((q_si (F_X12_next X τ3 a) a 27 0).1 a 15).toInt).toNat + (1 - ((q_si (F_X12_next X τ3 a) a 27 0).1 a 12).toInt).toNat + 1) (q_si (F_X12_next X τ3 a) a 27 0) := by
  refine ⟨_, rfl, ?_⟩
  have d8 : ((q_si (q_si τ a 1 0) a 0 0).1 a 8).toInt = m := by rw [si_f (by decide), si_f (by decide)]; exact h8
  have e300 : (300 : Int32).toInt = 300 := rfl
  unfold F_X12_round F_X12_opens
  rw [q_letE (q_si τ a 1 0), q_letE (q_si (q_si τ a 1 0) a 0 0)]
  obtain ⟨τ2, e2⟩ : ∃ s, s = q_si (q_si τ a 1 0) a 0 0 := ⟨_, rfl⟩
  rw [← e2] at d8 ⊢
  rw [if_neg (by omega : ¬ v.toInt < 0), q_letE (τ2.1 a 8), d8, if_neg (by omega : ¬ m < v.toInt), e300, if_neg (by omega : ¬ (300 : Int) < v.toInt), q_letE (q_si τ2 a 9 v), q_letE (q_si (q_si τ2 a 9 v) a 8 0), q_letE (q_si (q_si (q_si τ2 a 9 v) a 8 0) a 16 0), q_letE (q_si (q_si (q_si (q_si τ2 a 9 v) a 8 0) a 16 0) a 12 0)]
  obtain ⟨τ3, e3⟩ : ∃ s, s = q_si (q_si (q_si (q_si τ2 a 9 v) a 8 0) a 16 0) a 12 0 := ⟨_, rfl⟩
  rw [← e3, q_letE (F_X12_next X τ3 a), q_biP (1 : Int32) (F_X12_next X τ3 a), if_neg (by decide), q_letE (q_si (F_X12_next X τ3 a) a 27 0)]
theorem rr_cl0 (h5 : (σ.1 C 5).toInt = m) {v : Int32} (h : v.toInt < 0 ∨ m < v.toInt ∨ 300 < v.toInt) : F_X11_round X σ C v = (-1, q_si σ C 0 5) := by
  have e300 : (300 : Int32).toInt = 300 := rfl
  unfold F_X11_round
  rw [mv_none σ 5]
  by_cases q1 : v.toInt < 0
  · rw [if_pos q1, q_biP (-1 : Int32) (q_si σ C 0 5)]
  · rw [if_neg q1, q_letE (σ.1 C 5), h5]
    by_cases q2 : m < v.toInt
    · rw [if_pos q2, q_biP (-1 : Int32) (q_si σ C 0 5)]
    · rw [if_neg q2, if_pos (by omega), q_biP (-1 : Int32) (q_si σ C 0 5)]
theorem rr_cl1 (h5 : (σ.1 C 5).toInt = m) {v : Int32} (h : 0 ≤ v.toInt ∧ v.toInt ≤ m ∧ v.toInt ≤ 300) {z : Int32} {σ' : ST} (e : F_X4_takes X σ (q_rf X C 13) (q_rf X C 4) v (q_rf X (q_rf X C 8) 0) = (z, σ')) : ∃ σ9 : ST, tk (fun b f => b = C ∧ (f = 5 ∨ f = 6 ∨ f = 7)) σ' σ9 ∧ σ9.1 C 5 = 0 ∧ (C ≠ q_rf X C 13 → σ9.1 C 6 = σ'.1 (q_rf X C 13) 6 ∧ σ9.1 C 7 = σ'.1 (q_rf X C 13) 7) ∧
    (z.toInt = 0 → F_X11_round X σ C v = (-1, q_si σ9 C 0 10)) ∧ (z.toInt = 1 → F_X11_round X σ C v = ((F_X8_copyFrom X σ9 (q_rf X (q_rf X C 8) 3) (q_rf X (q_rf X C 13) 8)).1 (q_rf X (q_rf X C 8) 3) 1, q_si (F_X8_copyFrom X σ9 (q_rf X (q_rf X C 8) 3) (q_rf X (q_rf X C 13) 8)) C 0 0)) := by
  have e300 : (300 : Int32).toInt = 300 := rfl
  have t9 : tk (fun b f => b = C ∧ (f = 5 ∨ f = 6 ∨ f = 7)) σ' (q_si (q_si (q_si σ' C 5 0) C 6 ((q_si σ' C 5 0).1 (q_rf X C 13) 6)) C 7 ((q_si (q_si σ' C 5 0) C 6 ((q_si σ' C 5 0).1 (q_rf X C 13) 6)).1 (q_rf X C 13) 7)) := ((tk.rf.si _ ⟨rfl, Or.inl rfl⟩).si _ ⟨rfl, Or.inr (Or.inl rfl)⟩).si _ ⟨rfl, Or.inr (Or.inr rfl)⟩
  have g5 : (q_si (q_si (q_si σ' C 5 0) C 6 ((q_si σ' C 5 0).1 (q_rf X C 13) 6)) C 7 ((q_si (q_si σ' C 5 0) C 6 ((q_si σ' C 5 0).1 (q_rf X C 13) 6)).1 (q_rf X C 13) 7)).1 C 5 = 0 := by rw [si_f (by decide), si_f (by decide), si_eq]
  have g67 : C ≠ q_rf X C 13 → (q_si (q_si (q_si σ' C 5 0) C 6 ((q_si σ' C 5 0).1 (q_rf X C 13) 6)) C 7 ((q_si (q_si σ' C 5 0) C 6 ((q_si σ' C 5 0).1 (q_rf X C 13) 6)).1 (q_rf X C 13) 7)).1 C 6 = σ'.1 (q_rf X C 13) 6 ∧ (q_si (q_si (q_si σ' C 5 0) C 6 ((q_si σ' C 5 0).1 (q_rf X C 13) 6)) C 7 ((q_si (q_si σ' C 5 0) C 6 ((q_si σ' C 5 0).1 (q_rf X C 13) 6)).1 (q_rf X C 13) 7)).1 C 7 = σ'.1 (q_rf X C 13) 7 := fun nCD => ⟨by rw [si_f (by decide), si_eq, q_si_ne (Ne.symm nCD)], by rw [si_eq, q_si_ne (Ne.symm nCD), q_si_ne (Ne.symm nCD)]⟩
  have er : F_X11_endReading X σ' C (q_rf X C 13) = q_si (q_si (q_si σ' C 5 0) C 6 ((q_si σ' C 5 0).1 (q_rf X C 13) 6)) C 7 ((q_si (q_si σ' C 5 0) C 6 ((q_si σ' C 5 0).1 (q_rf X C 13) 6)).1 (q_rf X C 13) 7) := by
    unfold F_X11_endReading
    rw [q_letE (q_si σ' C 5 0), q_letE ((q_si σ' C 5 0).1 (q_rf X C 13) 6), q_letE (q_si (q_si σ' C 5 0) C 6 ((q_si σ' C 5 0).1 (q_rf X C 13) 6)), q_letE ((q_si (q_si σ' C 5 0) C 6 ((q_si σ' C 5 0).1 (q_rf X C 13) 6)).1 (q_rf X C 13) 7), q_letE]
  obtain ⟨σ9, e9⟩ : ∃ s, s = q_si (q_si (q_si σ' C 5 0) C 6 ((q_si σ' C 5 0).1 (q_rf X C 13) 6)) C 7 ((q_si (q_si σ' C 5 0) C 6 ((q_si σ' C 5 0).1 (q_rf X C 13) 6)).1 (q_rf X C 13) 7) := ⟨_, rfl⟩
  rw [← e9] at t9 g5 g67 er
  have main : F_X11_round X σ C v = if z.toInt = 0 then (-1, q_si σ9 C 0 10) else ((F_X8_copyFrom X σ9 (q_rf X (q_rf X C 8) 3) (q_rf X (q_rf X C 13) 8)).1 (q_rf X (q_rf X C 8) 3) 1, q_si (F_X8_copyFrom X σ9 (q_rf X (q_rf X C 8) 3) (q_rf X (q_rf X C 13) 8)) C 0 0) := by
    unfold F_X11_round
    rw [if_neg (by omega : ¬ v.toInt < 0), q_letE (σ.1 C 5), h5, if_neg (by omega : ¬ m < v.toInt), if_neg (by omega), e, q_biP z σ', er, q_letE σ9]
    by_cases q : z.toInt = 0
    · rw [if_pos q, if_pos q, mv_none, q_biP (-1 : Int32) (q_si σ9 C 0 10)]
    · rw [if_neg q, if_neg q]
      obtain ⟨σ10, e10⟩ : ∃ s, s = F_X8_copyFrom X σ9 (q_rf X (q_rf X C 8) 3) (q_rf X (q_rf X C 13) 8) := ⟨_, rfl⟩
      rw [← e10, q_letE σ10, q_letE (σ10.1 (q_rf X (q_rf X C 8) 3) 1), mv_good, q_biP (σ10.1 (q_rf X (q_rf X C 8) 3) 1) (q_si σ10 C 0 0)]
  exact ⟨σ9, t9, g5, g67, fun q => by rw [main, if_pos q], fun q => by rw [main, if_neg (by omega)]⟩
end RDD

/-! FROM 49ze.alround.lean.txt -/
/-! A ROUND: both answer the same, all stays the same: the whole -/
section RE
variable {X : XW} {lb : Nat → Nat} {C a : Nat} {σ τ : ST} {n m : Int} {B : Int → Int}
theorem al_round (K : al_C X lb C a) (h9 : q_ln X (q_rf X a 7) = 900) (A : al_R X C a σ τ) (M : m_M (m_c X τ a) (τ.1 a 24).toInt n) (h5 : (σ.1 C 5).toInt = m) (h8 : (τ.1 a 8).toInt = m) (hm : 0 ≤ m ∧ m ≤ 900) (hB : ∀ p : Int, 0 ≤ p → p < m → (σ.1 (q_rf X C 4) p.toNat).toInt = B p ∧ -128 ≤ B p ∧ B p ≤ 127) (hB2 : ∀ p : Int, 0 ≤ p → p < m → (τ.1 (q_rf X a 7) p.toNat).toInt = B p) (v : Int32) :
    ∃ (z : Int32) (σ' : ST) (z' : Int32) (τ' : ST), F_X11_round X σ C v = (z, σ') ∧ F_X12_round X τ a v = (z', τ') ∧ z.toInt = z'.toInt ∧ (σ'.1 C 0).toInt = (τ'.1 a 0).toInt ∧ rr_Out C a σ τ v m σ' τ' ∧ al_R X C a σ' τ' := by
  obtain ⟨kC, ka, S, lC, G8, G9, GM⟩ := id K
  obtain ⟨A1, A2, A3, A4⟩ := id A
  have hTl : q_ln X (q_rf X C 4) = 900 := (y_Cls S kC ka lC h9).2.2.2.2.2.1
  have D := rd_Dmk S kC lC
  have k20 := (tb_k S.1 ka).1
  have k23 := (tb_k S.1 ka).2.2.1
  have k7 := (tb_k S.1 ka).2.2.2
  have na0 : a ≠ q_rf X a 20 := Ne.symm (m_ne k20 ka (by decide))
  have nU : q_rf X a 7 ≠ a := m_ne k7 ka (by decide)
  obtain ⟨m2, s2, t2⟩ := mv_beg S.1 ka (rfl : m_c X τ a = m_c X τ a)
  by_cases hv : v.toInt < 0 ∨ m < v.toInt ∨ 300 < v.toInt
  · have t2' : tkl (fun b f => b = a ∧ (f = 0 ∨ f = 1)) (fun _ _ => False) τ (q_si (q_si τ a 1 0) a 0 0) := (tkl.rf.si _ ⟨rfl, Or.inr rfl⟩).si _ ⟨rfl, Or.inl rfl⟩
    refine ⟨_, _, _, _, rr_cl0 h5 hv, rr_open0 h8 hv, rfl, by rw [si_eq, si_eq], Or.inl ⟨hv, tk.rf.si _ ⟨rfl, rfl⟩, t2'.si _ ⟨rfl, Or.inl rfl⟩⟩, A.mv K M ?_⟩
    exact mv_mk S G8 (by omega) y_W.rf A1.1 (fun _ _ _ => rfl) (fun _ _ _ => rfl) 5 ((mv_cell S.1 ka 0 5).trans m2) (t2.si _ (Or.inr (Or.inl ⟨rfl, Or.inl rfl⟩)))
  have hv' : 0 ≤ v.toInt ∧ v.toInt ≤ m ∧ v.toInt ≤ 300 := by omega
  obtain ⟨R, hR⟩ : ∃ R, R = q_rf X C 13 := ⟨_, rfl⟩
  obtain ⟨T, hT⟩ : ∃ T, T = q_rf X C 4 := ⟨_, rfl⟩
  obtain ⟨g, hg⟩ : ∃ g, g = q_rf X C 8 := ⟨_, rfl⟩
  rw [← hR, ← hT] at D
  rw [← hT] at hTl hB
  rw [← hg] at G8
  have lR : lb R = 29 := D.2.1
  have nCR : C ≠ R := m_ne kC D.1 (by decide)
  have nCi : ∀ i, i < 7 → C ≠ rdA X R i := fun i hi e => by
    have y := (D.2.2.2.2 i hi).1
    have y2 := (rdL_o i hi).2.2.2
    rw [← e, lC] at y
    exact y2 y.symm
  -- the reference opens
  obtain ⟨τ3, e3, eref⟩ := rr_open1 h8 hv'
  have t3 : tkl (fun b f => b = a ∧ (f = 0 ∨ f = 1 ∨ f = 9 ∨ f = 8 ∨ f = 16 ∨ f = 12)) (fun _ _ => False) τ τ3 := by
    rw [e3]
    exact (((((tkl.rf.si _ ⟨rfl, by omega⟩).si _ ⟨rfl, by omega⟩).si _ ⟨rfl, by omega⟩).si _ ⟨rfl, by omega⟩).si _ ⟨rfl, by omega⟩).si _ ⟨rfl, by omega⟩
  have c0 : τ3.1 a 0 = 0 := by rw [e3, si_f (by decide), si_f (by decide), si_f (by decide), si_f (by decide), si_eq]
  have c9 : τ3.1 a 9 = v := by rw [e3, si_f (by decide), si_f (by decide), si_f (by decide), si_eq]
  have c8 : τ3.1 a 8 = 0 := by rw [e3, si_f (by decide), si_f (by decide), si_eq]
  have c16 : τ3.1 a 16 = 0 := by rw [e3, si_f (by decide), si_eq]
  have c12 : τ3.1 a 12 = 0 := by rw [e3, si_eq]
  clear e3
  have z0 : (0 : Int32).toInt = 0 := rfl
  have M0 : tm_E X τ3 a v.toInt B := ⟨by rw [c9], ⟨by omega, by omega⟩, nU, fun p p0 p1 => by
    rw [t3.1 _ _ (fun q => nU q.1)]
    exact ⟨hB2 p p0 (by omega), (hB p p0 (by omega)).2⟩⟩
  -- the class begins
  obtain ⟨ρ, U, etk, S0, u0, u1, u2, r3, r6, r7, fρ⟩ := rr_beg (σ := σ) (n := v.toInt) (B := B) D hTl rfl ⟨by omega, by omega⟩ (fun p p0 p1 => hB p p0 (by omega)) (q_rf X g 0)
  obtain ⟨x1, x2, Kk, pk⟩ := tl_adv S0.1 M0 r3 (by rw [c16]; exact z0) ⟨Int.le_refl 0, by omega⟩ r6 r7
  obtain ⟨S1, f1⟩ := S0.rd D x1.S2
  obtain ⟨σ1, hσ1⟩ : ∃ s, s = F_X3_advance X ρ R := ⟨_, rfl⟩
  obtain ⟨τ4, hτ4⟩ : ∃ s, s = F_X12_next X τ3 a := ⟨_, rfl⟩
  rw [← hσ1] at Kk S1 f1 etk
  rw [← hτ4] at Kk x2 pk eref
  have M4 := M0.k2 x2.S2
  have h12 : (τ4.1 a 12).toInt = 0 := by rw [tn_12 x2, c12]; exact z0
  have mc4 : m_c X τ4 a = m_c X τ a := by
    funext j
    exact congrArg Int32.toInt ((x2.1 _ _ (fun q => na0 q.1.symm)).trans (t3.1 _ _ (fun q => na0 q.1.symm)))
  have mw4 : m_wd X τ4 a = m_wd X τ a := by
    funext j
    exact congrArg Int64.toInt ((x2.2.1 _ _ (fun q => m_ne k23 ka (by decide) q.1)).trans (t3.2.1 _ _ (fun q => q)))
  have M5 : rd_M X a τ4 v.toInt B (m_c X τ a) (m_wd X τ a) (τ4.1 a 27).toInt := ⟨M4, mc4, mw4, rfl, by rw [x2.1 a 0 (fun q => absurd q.2.1 (by decide)), c0]; exact z0, by rw [x2.1 a 8 (fun q => absurd q.2.1 (by decide)), c8]; exact z0⟩
  obtain ⟨M6, s6⟩ := M5.ns S.1 ka 0
  rw [z0] at M6
  have frσ1 : ∀ b, b ≠ R → (∀ i, i < 7 → b ≠ rdA X R i) → ∀ f, σ1.1 b f = σ.1 b f := fun b b1 b2 f => (f1.1 b b1 b2 f).trans (fρ b b1 b2 f)
  have ownR : ∀ (o : Nat), 1 ≤ o → o ≤ 5 → ∀ b, lb b / 8192 = o → b ≠ R ∧ (∀ i, i < 7 → b ≠ rdA X R i) ∧ b ≠ C := fun o o1 o2 b hb => ⟨fun e => by rw [e, lR] at hb; omega, fun i hi e => by
    have y := (D.2.2.2.2 i hi).1
    have y2 := (rdL_o i hi).1
    rw [e, y] at hb
    omega, fun e => by rw [e, lC] at hb; omega⟩
  have gv1 : y_v X g σ1 = y_v X g σ := y_v.k S G8 (fun b hb f => frσ1 b (ownR 1 (by decide) (by decide) b hb).1 (ownR 1 (by decide) (by decide) b hb).2.1 f)
  obtain ⟨τ5, hτ5⟩ : ∃ s, s = q_si τ4 a 27 0 := ⟨_, rfl⟩
  have t5 : tkl (fun b f => b = a ∧ f = 27) (fun _ _ => False) τ4 τ5 := by rw [hτ5]; exact tkl.rf.si _ ⟨rfl, rfl⟩
  rw [← hτ5] at M6 s6 eref
  have p12 : (τ5.1 a 12).toInt = 0 := by rw [t5.1 a 12 (fun q => absurd q.2 (by decide))]; exact h12
  have I : rd_I X R T a g v.toInt B (y_v X g σ) (m_wd X τ a) σ1 τ5 U 0 (m_c X τ a) 0 := ⟨S1, M6, Kk.same (fun _ _ _ => rfl) s6, p12, gv1⟩
  have mG := M.1.1
  have hP6 : 0 ≤ m_c X τ a 2 ∧ m_c X τ a 2 ≤ 6 := mG.1.2.1
  have Z0 : rd_Z U 0 0 := ⟨u1, by omega, by omega, by decide, by decide, by decide, by decide⟩
  have A1' : rb (y_v X g σ) (m_c X τ a) (m_wd X τ a) := by rw [hg]; exact A1
  have kb := I.2.2.1.b
  have pk0 := I.2.2.1.2.2.2.2.2.2.1
  obtain ⟨τ', eT, k, σ', hk, o⟩ := rT (fu := (901 - (τ5.1 a 15).toInt).toNat + (1 - (τ5.1 a 12).toInt).toNat + 1) S D ka G8 hv'.2.2 I Z0 hP6 A1'.1.1.2.2.2.2.1 A1'.2.1 (by rw [p12]; omega)
  rw [eT] at eref
  have fuel : ((2147483647 - (0 : Int32).toInt).toNat + 1) = (2147483648 - k) + k := by rw [z0]; omega
  rw [fuel] at etk
  -- what stays
  have pre : tkl (fun b f => b = a ∧ (f = 0 ∨ f = 1 ∨ f = 8 ∨ f = 9 ∨ 12 ≤ f ∧ f ≤ 18 ∨ f = 27)) (tn_L a) τ τ5 := ((t3.mono (fun _ _ q => ⟨q.1, by have := q.2; omega⟩) (fun _ _ q => q.elim)).tr (x2.S2.mono (fun _ _ q => ⟨q.1, by have := q.2; omega⟩) (fun _ _ q => q))).tr (t5.mono (fun _ _ q => ⟨q.1, by have := q.2; omega⟩) (fun _ _ q => q.elim))
  have mc5 : m_c X τ5 a = m_c X τ a := M6.2.1
  have nz0 : (0 : Int32).toNatClampNeg = 0 := rfl
  rcases o with ⟨o1, ⟨U', c', s', I', Z', o4, ⟨q, o5⟩, o6⟩, F⟩ | ⟨o1, o2, F⟩
  · -- read
    have e1 := o1 (2147483648 - k) 0 (by decide) (by omega)
    rw [e1] at etk
    obtain ⟨σ9, t9, g5, g67, -, ecl⟩ := rr_cl1 (X := X) (C := C) (σ := σ) h5 hv' (z := 1) (σ' := σ') (by rw [← hR, ← hT, ← hg]; exact etk)
    have ecl := ecl (by decide)
    rw [← hR, ← hg] at ecl
    rw [← hR] at g67
    obtain ⟨g6, g7⟩ := g67 nCR
    obtain ⟨Si, Mi, Ki, i12, iV⟩ := I'
    obtain ⟨y1, y2, y3, y4, y5, y6, y7⟩ := Z'
    obtain ⟨zz, τ9, j1, j2, j3, j4, j5, j6, j7, j8⟩ := rr_end1 (X := X) (τ := τ') S.1 ka i12 ⟨y4, y5⟩ Mi.2.2.2.1
    rw [j1] at eref
    have f9 : ∀ b, b ≠ R → (∀ i, i < 7 → b ≠ rdA X R i) → b ≠ C → ∀ f, σ9.1 b f = σ.1 b f := fun b b1 b2 b3 f => (t9.1 b f (fun q => b3 q.1)).trans ((F.1.1 b b1 b2 f).trans (frσ1 b b1 b2 f))
    have C9 : ∀ f, f ≠ 5 → f ≠ 6 → f ≠ 7 → σ9.1 C f = σ.1 C f := fun f f5 f6 f7 => (t9.1 C f (fun q => by have := q.2; omega)).trans ((F.1.1 C nCR nCi f).trans (frσ1 C nCR nCi f))
    have rv9 : rv X R σ9 = U' := by
      rw [← Si.2.1]
      funext id i
      unfold rv
      by_cases q : id < 7 ∧ 0 ≤ i
      · rw [if_pos q, if_pos q, t9.1 _ _ (fun z => nCi id q.1 z.1.symm)]
      · rw [if_neg q, if_neg q]
    obtain ⟨V', W, v0, v1, v2, v3, v4⟩ := rr_cp (σ := σ9) S D G8
    rw [rv9] at v0 v1 v2 v3
    obtain ⟨σ10, e10⟩ : ∃ s, s = F_X8_copyFrom X σ9 (q_rf X g 3) (q_rf X R 8) := ⟨_, rfl⟩
    rw [← e10] at W ecl
    have gv9 : y_v X g σ9 = y_v X g σ := y_v.k S G8 (fun b hb f => f9 b (ownR 1 (by decide) (by decide) b hb).1 (ownR 1 (by decide) (by decide) b hb).2.1 (ownR 1 (by decide) (by decide) b hb).2.2 f)
    rw [gv9] at v4
    have hC1 : lb C / 8192 ≠ 1 := by omega
    have C10 : ∀ f, σ10.1 C f = σ9.1 C f := W.1 C hC1
    have ans : (σ10.1 (q_rf X g 3) 1).toInt = s' := by
      have z1 := y_v_rdn (X := X) (g := g) (σ := σ10) (id := 3) (by decide) 1
      rw [W.2.2] at z1
      exact z1.trans (v1.trans y1)
    have gvF : y_v X g (q_si σ10 C 0 0) = V' := by
      rw [← W.2.2]
      exact y_v.k S G8 (fun b hb f => by rw [q_si_ne (ownR 1 (by decide) (by decide) b hb).2.2])
    have a9 : ∀ f, f ≠ 10 → f ≠ 11 → τ9.1 a f = τ'.1 a f := fun f q1 q2 => j5.1 a f (fun q => by
      rcases q with q | q
      · exact na0 q
      · have := q.2
        omega)
    have mwF : m_wd X τ9 a = m_wd X τ a := by
      rw [← Mi.2.2.1]
      funext j
      exact congrArg Int64.toInt (j5.2.1 _ _ (fun q => q))
    have mci : m_c X τ' a = c' := Mi.2.1
    have mlow : ∀ j : Int, 0 ≤ j → j < 654 ∨ 930 ≤ j ∧ j < 3720 → m_c X τ9 a j = m_c X τ a j := fun j j0 j1' => by
      rw [j8 j j0 (by omega) (by omega), if_neg (by omega), F.2.2 j j0 (by omega), mc5]
    have e24 : τ9.1 a 24 = τ.1 a 24 := by
      rw [a9 24 (by decide) (by decide), F.2.1.1 a 24 (fun q => by
        rcases q with q | q
        · exact na0 q
        · have := q.2
          omega), pre.1 a 24 (fun q => by have := q.2; omega)]
    have k67 := Ki.2.2.2.2.2.2.2.2
    refine ⟨_, _, zz, τ9, ecl, eref, ans.trans j2.symm, ?_, Or.inr ⟨hv', ?_, ?_, ?_, ?_⟩, ⟨⟨?_, ?_, ?_⟩, ?_, ?_, fun b b1 b2 => ?_⟩⟩
    · rw [si_eq, a9 0 (by decide) (by decide), Mi.2.2.2.2.1]
      exact z0
    · rw [si_f (by decide), C10, g5]
      exact z0
    · rw [a9 8 (by decide) (by decide)]
      exact Mi.2.2.2.2.2
    · rw [si_f (by decide), C10, g6, j3]
      exact k67.1
    · rw [si_f (by decide), C10, g7, j4]
      exact k67.2
    · rw [← hg, gvF]
      exact (A1'.1.x mG (fun _ _ _ => rfl) (fun j a0 a1 => mlow j a0 (Or.inl a1))).w3 (fun id i h => v4 id i (by omega))
    · rw [← hg, gvF, mwF, mlow 2 (by decide) (by decide)]
      intro p p0 p1
      obtain ⟨b1, b2, b3⟩ := A1'.2.1 p p0 p1
      rw [v4 6 p (by decide)]
      refine ⟨b1, fun i i0 i1 => by rw [v4 5 _ (by decide)]; exact b2 i i0 i1, ?_⟩
      rw [b3]
      refine tx_wv_ext (fun i hi => ?_)
      show y_v X g σ 5 (8 * p + (0 + (i : Int))) = V' 5 (8 * p + (0 + (i : Int)))
      rw [v4 5 _ (by decide)]
    · rw [← hg, gvF]
      have le := fl_le _ o5
      refine ⟨by rw [v0, o4, j6], by rw [j6]; exact Or.inr rfl, by rw [v1, y1, j7], by rw [v2]; exact ⟨y2, by omega⟩, q, ?_⟩
      rw [j7, v2]
      rw [u2] at o5
      exact fl_y q (fun id i i0 i1 i2 i3 => v3 id i i0 i1 i2 (by omega)) (fun j j0' j1' => by rw [j8 j (by omega) (by omega) (by omega), if_pos ⟨by omega, by omega⟩, mci, uc_e, Int.add_comm]) o5
    · rw [si_f (by decide), C10, C9 11 (by decide) (by decide) (by decide), e24]
      exact A2
    · rw [si_f (by decide), C10, C9 11 (by decide) (by decide) (by decide)]
      exact A3
    · rw [si_f (by decide), C10, C9 11 (by decide) (by decide) (by decide)] at b2
      have GMb := GM (b - 1) (by omega)
      have gvb : y_v X (q_rf X (q_rf X C 10) (b - 1)) (q_si σ10 C 0 0) = y_v X (q_rf X (q_rf X C 10) (b - 1)) σ := y_v.k S GMb (fun x hx f => by
        have ow := ownR (3 + (b - 1)) (by omega) (by omega) x hx
        rw [q_si_ne ow.2.2, W.1 x (by omega)]
        exact f9 x ow.1 ow.2.1 ow.2.2 f)
      refine (A4 b b1 b2).x (M.2 (b : Int) (by omega) (by rw [← A2]; exact b2)).1 (fun id i _ => by rw [gvb]) (fun j a0 a1 => ?_) (fun j a0 a1 => by rw [mwF])
      exact mlow _ (by omega) (Or.inr ⟨by omega, by omega⟩)
  · -- a fault
    have e1 := o1 (2147483648 - k) 0 (by decide) (by omega)
    rw [e1] at etk
    obtain ⟨σ9, t9, g5, g67, ecl, -⟩ := rr_cl1 (X := X) (C := C) (σ := σ) h5 hv' (z := 0) (σ' := σ') (by rw [← hR, ← hT, ← hg]; exact etk)
    have ecl := ecl (by decide)
    rw [← hR] at g67
    obtain ⟨g6, g7⟩ := g67 nCR
    obtain ⟨τ9, j1, j2, j3, j4, j5⟩ := rr_end0 (X := X) (τ := τ') o2.2.1
    rw [j1] at eref
    have f9 : ∀ b, b ≠ R → (∀ i, i < 7 → b ≠ rdA X R i) → b ≠ C → ∀ f, σ9.1 b f = σ.1 b f := fun b b1 b2 b3 f => (t9.1 b f (fun q => b3 q.1)).trans ((F.1.1 b b1 b2 f).trans (frσ1 b b1 b2 f))
    have C9 : ∀ f, f ≠ 5 → f ≠ 6 → f ≠ 7 → σ9.1 C f = σ.1 C f := fun f f5 f6 f7 => (t9.1 C f (fun q => by have := q.2; omega)).trans ((F.1.1 C nCR nCi f).trans (frσ1 C nCR nCi f))
    have a9 : ∀ f, f ≠ 0 → f ≠ 10 → f ≠ 11 → τ9.1 a f = τ'.1 a f := fun f q0 q1 q2 => j5.1 a f (fun q => by have := q.2; omega)
    have aR : ∀ f, f ≠ 27 → ¬ (12 ≤ f ∧ f ≤ 18) → τ'.1 a f = τ5.1 a f := fun f q1 q2 => F.2.1.1 a f (fun q => by
      rcases q with q | q
      · exact na0 q
      · have := q.2
        omega)
    have mlow : ∀ j : Int, 0 ≤ j → j < 3720 → m_c X τ9 a j = m_c X τ a j := fun j a0 a1 => by
      have y1 : m_c X τ9 a j = m_c X τ' a j := congrArg Int32.toInt (j5.1 _ _ (fun q => na0 q.1.symm))
      rw [y1, F.2.2 j a0 a1, mc5]
    have mwF : m_wd X τ9 a = m_wd X τ a := by
      funext j
      refine congrArg Int64.toInt ((j5.2.1 _ _ (fun q => q)).trans ((F.2.1.2.1 _ _ (fun q => m_ne k23 ka (by decide) q.1)).trans (pre.2.1 _ _ (fun q => m_ne k23 ka (by decide) q.1))))
    have e24 : τ9.1 a 24 = τ.1 a 24 := by rw [a9 24 (by decide) (by decide) (by decide), aR 24 (by decide) (by decide), pre.1 a 24 (fun q => by have := q.2; omega)]
    have gvF : y_v X g (q_si σ9 C 0 10) = y_v X g σ := y_v.k S G8 (fun b hb f => by
      have ow := ownR 1 (by decide) (by decide) b hb
      rw [q_si_ne ow.2.2]
      exact f9 b ow.1 ow.2.1 ow.2.2 f)
    refine ⟨_, _, _, τ9, ecl, eref, rfl, ?_, Or.inr ⟨hv', ?_, ?_, ?_, ?_⟩, ⟨?_, ?_, ?_, fun b b1 b2 => ?_⟩⟩
    · rw [si_eq, j4]
      rfl
    · rw [si_f (by decide), g5]
      exact z0
    · rw [a9 8 (by decide) (by decide) (by decide), aR 8 (by decide) (by decide)]
      exact M6.2.2.2.2.2
    · rw [si_f (by decide), g6, j2]
      exact o2.1
    · rw [si_f (by decide), g7, j3]
      exact o2.2.2
    · rw [← hg, gvF, mwF]
      exact A1'.x mG (fun _ _ _ => rfl) (fun j a0 a1 => mlow j a0 (by omega)) (fun _ _ _ => rfl)
    · rw [si_f (by decide), C9 11 (by decide) (by decide) (by decide), e24]
      exact A2
    · rw [si_f (by decide), C9 11 (by decide) (by decide) (by decide)]
      exact A3
    · rw [si_f (by decide), C9 11 (by decide) (by decide) (by decide)] at b2
      have GMb := GM (b - 1) (by omega)
      have gvb : y_v X (q_rf X (q_rf X C 10) (b - 1)) (q_si σ9 C 0 10) = y_v X (q_rf X (q_rf X C 10) (b - 1)) σ := y_v.k S GMb (fun x hx f => by
        have ow := ownR (3 + (b - 1)) (by omega) (by omega) x hx
        rw [q_si_ne ow.2.2]
        exact f9 x ow.1 ow.2.1 ow.2.2 f)
      refine (A4 b b1 b2).x (M.2 (b : Int) (by omega) (by rw [← A2]; exact b2)).1 (fun id i _ => by rw [gvb]) (fun j a0 a1 => ?_) (fun j a0 a1 => by rw [mwF])
      exact mlow _ (by omega) (by omega)
end RE

/-! FROM 49zf.look2.lean.txt -/
/-! OBSERVERS: both answer the same -/
def ob_O (X : XW) (C a : Nat) (P Q : Int32 × ST) : Prop := P.1.toInt = Q.1.toInt ∧ (P.2.1 C 0).toInt = (Q.2.1 a 0).toInt ∧ al_R X C a P.2 Q.2
theorem ob_pe (A : Int32 × ST) : q_bi A (fun r s => (r, s)) = A := by
  obtain ⟨r, s⟩ := A
  rw [q_biP r s]
section OB
variable {X : XW} {lb : Nat → Nat} {C a : Nat} {σ τ : ST} {n : Int}
theorem al_st (K : al_C X lb C a) (A : al_R X C a σ τ) (M : m_M (m_c X τ a) (τ.1 a 24).toInt n) (k : Int32) : al_R X C a (q_si σ C 0 k) (q_si (q_si τ a 1 0) a 0 0) ∧ ∀ k' : Int32, al_R X C a (q_si σ C 0 k) (q_si (q_si (q_si τ a 1 0) a 0 0) a 0 k') := by
  obtain ⟨kC, ka, S, lC, G8, G9, GM⟩ := id K
  obtain ⟨A1, A2, A3, A4⟩ := id A
  obtain ⟨m2, s2, t2⟩ := mv_beg S.1 ka (rfl : m_c X τ a = m_c X τ a)
  refine ⟨A.mv K M (mv_mk S G8 (by omega) y_W.rf A1.1 (fun _ _ _ => rfl) (fun _ _ _ => rfl) k m2 t2), fun k' => A.mv K M ?_⟩
  exact mv_mk S G8 (by omega) y_W.rf A1.1 (fun _ _ _ => rfl) (fun _ _ _ => rfl) k ((mv_cell S.1 ka 0 k').trans m2) (t2.si _ (Or.inr (Or.inl ⟨rfl, Or.inl rfl⟩)))
theorem ob_none (K : al_C X lb C a) (A : al_R X C a σ τ) (M : m_M (m_c X τ a) (τ.1 a 24).toInt n) (k : Int32) : ob_O X C a (q_bi (F_X11_none X σ C k) (fun r s => (r, s))) (q_bi (F_X12_refuse X (q_si (q_si τ a 1 0) a 0 0) a k) (fun r s => (r, s))) := by
  rw [ob_pe, ob_pe, mv_none, mv_refuse]
  refine ⟨rfl, ?_, (al_st K A M k).2 k⟩
  show ((q_si σ C 0 k).1 C 0).toInt = ((q_si (q_si (q_si τ a 1 0) a 0 0) a 0 k).1 a 0).toInt
  rw [si_eq, si_eq]
end OB

/-! FROM 49zg.laid.lean.txt -/
/-! OBSERVERS: what was laid, what is in the game -/
section OL
variable {X : XW} {lb : Nat → Nat} {C a : Nat} {σ τ : ST} {n : Int} {c : Int → Int}
theorem gm_laidI (hc : m_c X τ a = c) {r v2 : Int32} {w k m s0 : Int} (hr : r.toInt = w) (hw : 0 ≤ w ∧ w ≤ 700) (hk : v2.toInt = k) (hs : c (w + 2) = m) (hm : 0 ≤ m ∧ m ≤ 4) (h0 : 0 ≤ s0 ∧ s0 ≤ 1000) (x2 : Int32) (B5 : Int32 → Int32 → Int32) (fu : Nat) : ∀ x y : Int32, (2147483647 - y.toInt).toNat < fu → 0 ≤ y.toInt → y.toInt ≤ m → x.toInt = s0 + m_K c w k y.toInt.toNat → ∃ x' : Int32, x'.toInt = s0 + m_K c w k m.toNat ∧ F_X12_laidOf_L45_4 X r τ a v2 x2 B5 fu x y = B5 x' (x2 + 1) := by
  have e2 : (2 : Int32).toInt = 2 := rfl
  have e3 : (3 : Int32).toInt = 3 := rfl
  have one : (1 : Int32).toInt = 1 := rfl
  have z0 : (0 : Int32).toInt = 0 := rfl
  have i2 : (r + 2).toInt = w + 2 := by rw [ar_add, hr, e2, ar_wr (by omega) (by omega)]
  have i3 : (r + 3).toInt = w + 3 := by rw [ar_add, hr, e3, ar_wr (by omega) (by omega)]
  have c2 : (τ.1 (q_rf X a 20) (r + 2).toNatClampNeg).toInt = m := (gm_cell (A := w + 2) hc i2).trans hs
  induction fu with
  | zero => intro x y h; exact absurd h (Nat.not_lt_zero _)
  | succ fu ih =>
    intro x y hf y0 y1 hx
    have bd := m_K_bd c w k y.toInt.toNat
    rw [F_X12_laidOf_L45_4_s]
    unfold F_X12_laidOf_B45_4
    rw [q_letE (r + 2), q_letE (τ.1 (q_rf X a 20) (r + 2).toNatClampNeg), c2]
    by_cases q : y.toInt < m
    · have e1 : (y + 1).toInt = y.toInt + 1 := y_inc (by omega)
      have ks := m_K_succ c w k y.toInt y0
      have ex : ∀ d : Int32, d.toInt = 0 ∨ d.toInt = 1 → (x + d).toInt = x.toInt + d.toInt := fun d hd => by rw [ar_add, ar_wr (by omega) (by omega)]
      rw [if_pos q, hk]
      by_cases qk : k < 0
      · rw [if_pos qk, q_letE (x + 1), q_letE (y + 1)]
        rw [if_pos (Or.inl qk)] at ks
        exact ih _ _ (by omega) (by omega) (by omega) (by rw [ex 1 (Or.inr rfl), one, hx, e1, ks]; omega)
      · have i4 : (r + 3 + y).toInt = w + 3 + y.toInt := by rw [ar_add, i3, ar_wr (by omega) (by omega)]
        have c4 : (τ.1 (q_rf X a 20) (r + 3 + y).toNatClampNeg).toInt = c (w + 3 + y.toInt) := gm_cell (A := w + 3 + y.toInt) hc i4
        rw [if_neg qk, q_letE (r + 3), q_letE (r + 3 + y), q_letE (τ.1 (q_rf X a 20) (r + 3 + y).toNatClampNeg), c4]
        by_cases qe : c (w + 3 + y.toInt) = k
        · rw [if_pos qe, q_letE (x + 1), q_letE (y + 1)]
          rw [if_pos (Or.inr qe)] at ks
          exact ih _ _ (by omega) (by omega) (by omega) (by rw [ex 1 (Or.inr rfl), one, hx, e1, ks]; omega)
        · rw [if_neg qe, q_letE (x + 0), q_letE (y + 1)]
          rw [if_neg (by omega)] at ks
          exact ih _ _ (by omega) (by omega) (by omega) (by rw [ex 0 (Or.inl rfl), z0, hx, e1, ks]; omega)
    · have ey : y.toInt = m := by omega
      rw [if_neg q]
      unfold F_X12_laidOf_E93_5
      rw [q_letE]
      exact ⟨x, by rw [hx, ey], rfl⟩
theorem gm_laidL (hc : m_c X τ a = c) (hG : m_G c) {v1 v2 : Int32} {p k : Int} (hp : v1.toInt = p) (hk : v2.toInt = k) (fu : Nat) : ∀ x y : Int32, (2147483647 - y.toInt).toNat < fu → 0 ≤ y.toInt → y.toInt ≤ c 9 → x.toInt = m_A c p k y.toInt.toNat → (F_X12_laidOf_L5_1 X τ a v1 v2 fu x y).toInt = m_A c p k (c 9).toNat := by
  have b9 := hG.1.2.2.2.2.2.2.1
  have z0 : (0 : Int32).toInt = 0 := rfl
  have r9 : (τ.1 (q_rf X a 20) (9 : Int32).toNatClampNeg).toInt = c 9 := gm_cell (A := 9) hc rfl
  induction fu with
  | zero => intro x y h; exact absurd h (Nat.not_lt_zero _)
  | succ fu ih =>
    intro x y hf y0 y1 hx
    rw [F_X12_laidOf_L5_1_s]
    unfold F_X12_laidOf_B5_1
    rw [q_letE (τ.1 (q_rf X a 20) (9 : Int32).toNatClampNeg), r9]
    by_cases q : y.toInt < c 9
    · have e1 : (y + 1).toInt = y.toInt + 1 := y_inc (by omega)
      have lv : (F_X12_laid X τ y).toInt = 94 + 7 * y.toInt := gm_laid rfl ⟨y0, by omega⟩
      have sz := (hG.2.2.1 y.toInt y0 q).1
      have as := m_A_succ c p k y.toInt y0
      have ab := hG.A_bd p k y.toInt.toNat (by omega)
      have l80 := hG.L80 y0 (by omega : y.toInt ≤ c 9)
      have cp : (τ.1 (q_rf X a 20) (F_X12_laid X τ y).toNatClampNeg).toInt = c (94 + 7 * y.toInt) := gm_cell (A := 94 + 7 * y.toInt) hc lv
      rw [if_pos q, q_letE (F_X12_laid X τ y), hp]
      have cnt : (if 0 ≤ p ∧ c (94 + 7 * y.toInt) ≠ p then (0 : Int) else m_K c (94 + 7 * y.toInt) k (c (94 + 7 * y.toInt + 2)).toNat) = m_K c (94 + 7 * y.toInt) k (c (94 + 7 * y.toInt + 2)).toNat → (F_X12_laidOf_J42_3 X (F_X12_laid X τ y) τ a v2 y (F_X12_laidOf_L5_1 X τ a v1 v2 fu) x).toInt = m_A c p k (c 9).toNat := by
        intro h
        obtain ⟨x', h1, h2⟩ := gm_laidI (X := X) (τ := τ) (a := a) hc (k := k) (s0 := m_A c p k y.toInt.toNat) lv ⟨by omega, by omega⟩ hk rfl ⟨by omega, by omega⟩ ⟨by omega, by omega⟩ y (F_X12_laidOf_L5_1 X τ a v1 v2 fu) ((2147483647 - (0 : Int32).toInt).toNat + 1) x 0 (by omega) (by decide) (by rw [z0]; omega) (by rw [hx, z0]; show _ = m_A c p k y.toInt.toNat + 0; omega)
        unfold F_X12_laidOf_J42_3
        rw [h2]
        exact ih _ _ (by omega) (by omega) (by omega) (by rw [h1, e1, as, h])
      by_cases qp : p < 0
      · rw [if_pos qp]
        exact cnt (if_neg (by omega))
      · rw [if_neg qp, q_letE (τ.1 (q_rf X a 20) (F_X12_laid X τ y).toNatClampNeg), cp]
        by_cases qe : c (94 + 7 * y.toInt) = p
        · rw [if_pos qe]
          exact cnt (if_neg (by omega))
        · rw [if_neg qe, q_letE (y + 1)]
          rw [if_pos ⟨by omega, qe⟩] at as
          exact ih _ _ (by omega) (by omega) (by omega) (by rw [hx, e1, as]; omega)
    · have ey : y.toInt = c 9 := by omega
      rw [if_neg q, hx, ey]
/-- what a player laid -/
theorem gm_laidOf (hc : m_c X τ a = c) (hG : m_G c) {v1 v2 : Int32} {p k : Int} (hp : v1.toInt = p) (hk : v2.toInt = k) : (F_X12_laidOf X τ a v1 v2).toInt = m_A c p k (c 9).toNat := by
  have b9 := hG.1.2.2.2.2.2.2.1
  have z0 : (0 : Int32).toInt = 0 := rfl
  unfold F_X12_laidOf
  exact gm_laidL hc hG hp hk _ 0 0 (by decide) (by decide) (by rw [z0]; omega) (by rw [z0]; rfl)
theorem gm_inL (hc : m_c X τ a = c) (hG : m_G c) {v : Int32} {k : Int} (hk : v.toInt = k) (hk10 : 0 ≤ k ∧ k < 10) {s0 : Int} (h0 : 0 ≤ s0 ∧ s0 ≤ 1000) (fu : Nat) : ∀ x y : Int32, (2147483647 - y.toInt).toNat < fu → 0 ≤ y.toInt → y.toInt ≤ c 2 → x.toInt = s0 + m_P c k y.toInt.toNat → (0 ≤ x.toInt ∧ x.toInt ≤ s0 + 80 * y.toInt) → (F_X12_inGameOf_L9_1 X τ a v fu x y).toInt = s0 + m_P c k (c 2).toNat := by
  have h2 : 0 ≤ c 2 ∧ c 2 ≤ 6 := hG.1.2.1
  have r2 : (τ.1 (q_rf X a 20) (2 : Int32).toNatClampNeg).toInt = c 2 := gm_cell (A := 2) hc rfl
  induction fu with
  | zero => intro x y h; exact absurd h (Nat.not_lt_zero _)
  | succ fu ih =>
    intro x y hf y0 y1 hx xb
    rw [F_X12_inGameOf_L9_1_s]
    unfold F_X12_inGameOf_B9_1
    rw [q_letE (τ.1 (q_rf X a 20) (2 : Int32).toNatClampNeg), r2]
    by_cases q : y.toInt < c 2
    · have e1 : (y + 1).toInt = y.toInt + 1 := y_inc (by omega)
      have hh := gm_handOf hc (x := y) (y := v) rfl hk ⟨y0, by omega⟩ hk10
      have bb := hG.h80 y0 (by omega : y.toInt < 6) hk10.1 hk10.2
      have ex : (x + F_X12_handOf X τ a y v).toInt = x.toInt + c (34 + 10 * y.toInt + k) := by rw [ar_add, hh, ar_wr (by omega) (by omega)]
      rw [if_pos q, q_letE (F_X12_handOf X τ a y v), q_letE (x + F_X12_handOf X τ a y v), q_letE (y + 1)]
      refine ih _ _ (by omega) (by omega) (by omega) ?_ ⟨by omega, by omega⟩
      rw [ex, e1, hx, m_P_succ c k y.toInt y0]
      omega
    · have ey : y.toInt = c 2 := by omega
      rw [if_neg q, hx, ey]
/-- how many of a kind are in the game -/
theorem gm_inGameOf (hc : m_c X τ a = c) (hG : m_G c) {v : Int32} {k : Int} (hk : v.toInt = k) (hk10 : 0 ≤ k ∧ k < 10) : (F_X12_inGameOf X τ a v).toInt = m_I c k := by
  have h2 : 0 ≤ c 2 ∧ c 2 ≤ 6 := hG.1.2.1
  have b9 := hG.1.2.2.2.2.2.2.1
  have z0 : (0 : Int32).toInt = 0 := rfl
  have m1 : ((-1) : Int32).toInt = -1 := rfl
  have lo := gm_laidOf (X := X) (τ := τ) (a := a) hc hG (v1 := -1) (v2 := v) m1 hk
  have ab := hG.A_bd (-1) k (c 9).toNat (by omega)
  have l80 := hG.L80 b9.1 (Int.le_refl (c 9))
  unfold F_X12_inGameOf
  rw [q_letE (F_X12_laidOf X τ a (-1) v)]
  exact gm_inL hc hG hk hk10 ⟨ab.1, by omega⟩ _ _ 0 (by decide) (by decide) (by rw [z0]; exact h2.1) (by rw [lo, z0]; show _ = m_A c (-1) k (c 9).toNat + 0; omega) ⟨by omega, by rw [lo, z0]; omega⟩
end OL

/-! FROM 49zh.many.lean.txt -/
/-! OBSERVERS: many, player -/
section OM
variable {X : XW} {lb : Nat → Nat} {C a : Nat} {σ τ : ST} {n : Int}
end OM

/-! FROM 49zi.player.lean.txt -/
/-! OBSERVERS: player -/
section OP
variable {X : XW} {lb : Nat → Nat} {C a : Nat} {σ τ : ST} {n : Int}
end OP

/-! FROM 49zj.known.lean.txt -/
/-! OBSERVERS: known, unknown of a kind -/
section OK
variable {X : XW} {lb : Nat → Nat} {C a : Nat} {σ τ : ST} {n : Int}
theorem rg.know {V : Nat → Int → Int} {c : Int → Int} {g o : Nat} {σ0 : ST} (S : y_S X lb) (G8 : y_G X lb g o) (w : y_W X lb g o σ0 σ V) (R : rg V c) (G : m_G c) (hc : m_c X τ a = c) {v1 v2 : Int32} {p k : Int} (hv1 : v1.toInt = p) (hv2 : v2.toInt = k) (hp : 0 ≤ p ∧ p < c 2) (hk : 0 ≤ k ∧ k < 10) : (F_X1_knownTo X σ (q_rf X g 1) v1 v2).toInt = c (34 + 10 * p + k) + m_A c p k (c 9).toNat ∧ (F_X12_knownOf X τ a v1 v2).toInt = c (34 + 10 * p + k) + m_A c p k (c 9).toNat ∧ (F_X0_unknownTo X σ g v1 v2).toInt = m_U c p k ∧ (F_X12_unknownOf X τ a v1 v2).toInt = m_U c p k := by
  have h2 : 0 ≤ c 2 ∧ c 2 ≤ 6 := G.1.2.1
  have b9 := G.1.2.2.2.2.2.2.1
  have e10 : (10 : Int32).toInt = 10 := rfl
  have n7 : ((y_gn 7 : Nat) : Int) = 60 := rfl
  have n8 : ((y_gn 8 : Nat) : Int) = 60 := rfl
  have n4 : ((y_gn 4 : Nat) : Int) = 10 := rfl
  have ix : (v1 * (10 : Int32) + v2).toInt = 10 * p + k := by
    rw [ar_add, ar_mul, e10, hv1, hv2, ar_wr (n := p * 10) (by omega) (by omega), ar_wr (by omega) (by omega)]
    omega
  have hb := G.h80 hp.1 (by omega : p < 6) hk.1 hk.2
  have ab := G.A_bd p k (c 9).toNat (by omega)
  have l80 := G.L80 b9.1 (Int.le_refl (c 9))
  have ib := G.I_bd hk.1 hk.2
  have ho := gm_handOf (X := X) (τ := τ) (a := a) hc hv1 hv2 ⟨hp.1, by omega⟩ hk
  have lo := gm_laidOf (X := X) (τ := τ) (a := a) hc G hv1 hv2
  have io := gm_inGameOf (X := X) (τ := τ) (a := a) hc G hv2 hk
  have kn1 : (F_X1_knownTo X σ (q_rf X g 1) v1 v2).toInt = c (34 + 10 * p + k) + m_A c p k (c 9).toNat := by
    unfold F_X1_knownTo
    rw [q_letE (v1 * (10 : Int32)), q_letE (v1 * (10 : Int32) + v2), q_letE, q_letE, q_letE, ar_add, y_getI S G8 w (id := 7) (r := q_rf X (q_rf X g 1) 0) ⟨by decide, by decide⟩ rfl ix (by omega) (by rw [n7]; omega), y_getI S G8 w (id := 8) (r := q_rf X (q_rf X g 1) 1) ⟨by decide, by decide⟩ rfl ix (by omega) (by rw [n8]; omega), R.2.2.2.1.1 _ (by omega) (by omega), R.2.2.2.2.2.1 p k hp.1 (by omega) hk.1 hk.2]
    have e : (34 : Int) + (10 * p + k) = 34 + 10 * p + k := by omega
    rw [e, ar_wr (by omega) (by omega)]
  have kn2 : (F_X12_knownOf X τ a v1 v2).toInt = c (34 + 10 * p + k) + m_A c p k (c 9).toNat := by
    unfold F_X12_knownOf
    rw [q_letE (F_X12_handOf X τ a v1 v2), q_letE (F_X12_laidOf X τ a v1 v2), q_letE, ar_add, ho, lo, ar_wr (by omega) (by omega)]
  refine ⟨kn1, kn2, ?_, ?_⟩
  · unfold F_X0_unknownTo
    rw [q_letE, q_letE (F_X1_knownTo X σ (q_rf X g 1) v1 v2), q_letE, ar_sub, kn1, y_getI S G8 w (id := 4) (r := q_rf X (q_rf X g 0) 5) ⟨by decide, by decide⟩ rfl hv2 hk.1 (by rw [n4]; omega), R.2.2.2.2.2.2 k hk.1 hk.2, ar_wr (by omega) (by omega)]
    rfl
  · unfold F_X12_unknownOf
    rw [q_letE (F_X12_inGameOf X τ a v2), q_letE (F_X12_knownOf X τ a v1 v2), q_letE, ar_sub, kn2, io, ar_wr (by omega) (by omega)]
    rfl
end OK

/-! FROM 49zk.card.lean.txt -/
/-! OBSERVERS: cardOf -/
section OC
variable {X : XW} {lb : Nat → Nat} {C a : Nat} {σ τ : ST} {n : Int}
end OC
end
/-! FROM 49d.merged.lean.txt -/
section
/-! FROM 49zl.other.lean.txt -/
/-! A ROUND PLAYED: both draw alike, both find the same other kind -/
section PA
variable {X : XW} {lb : Nat → Nat} {g o a R : Nat} {σ τ σ0 : ST} {V : Nat → Int → Int} {c : Int → Int}
theorem pl_draw (h : σ.1 R 6 = τ.1 a 39) : ∃ (z s : Int32), F_X7_draw X σ R = (z, q_si σ R 6 s) ∧ F_X12_draw X τ a = (z, q_si τ a 39 s) := by
  obtain ⟨w, hw⟩ : ∃ w, w = (σ.1 R 6 * (2861 : Int32) + (10259 : Int32)) % (65536 : Int32) := ⟨_, rfl⟩
  refine ⟨w / 8 % 16, w, ?_, ?_⟩
  · unfold F_X7_draw
    rw [q_letE (σ.1 R 6), q_letE (σ.1 R 6 * (2861 : Int32)), q_letE (σ.1 R 6 * (2861 : Int32) + (10259 : Int32)), q_letE ((σ.1 R 6 * (2861 : Int32) + (10259 : Int32)) % (65536 : Int32)), ← hw, q_letE (q_si σ R 6 w), q_letE ((q_si σ R 6 w).1 R 6), si_eq, q_letE (w / (8 : Int32)), q_letE (w / (8 : Int32) % (16 : Int32))]
  · unfold F_X12_draw
    rw [← h, q_letE (σ.1 R 6), q_letE (σ.1 R 6 * (2861 : Int32)), q_letE (σ.1 R 6 * (2861 : Int32) + (10259 : Int32)), q_letE ((σ.1 R 6 * (2861 : Int32) + (10259 : Int32)) % (65536 : Int32)), ← hw, q_letE (q_si τ a 39 w), q_letE ((q_si τ a 39 w).1 a 39), si_eq, q_letE (w / (8 : Int32)), q_letE (w / (8 : Int32) % (16 : Int32))]
theorem gm_min (x y : Int32) : (F_J9_min_7cf53 X σ x y).toInt = if y.toInt < x.toInt then y.toInt else x.toInt := by
  unfold F_J9_min_7cf53
  split <;> rfl
theorem gm_held (Y : y_S X lb) (G : y_G X lb g o) (w : y_W X lb g o σ0 σ V) {x y : Int32} {p k : Int} (hx : x.toInt = p) (hy : y.toInt = k) (hp : 0 ≤ p ∧ p < 6) (hk : 0 ≤ k ∧ k < 10) : (F_X1_heldBy X σ (q_rf X g 1) x y).toInt = V 7 (10 * p + k) := by
  have e10 : (10 : Int32).toInt = 10 := rfl
  have n7 : ((y_gn 7 : Nat) : Int) = 60 := rfl
  have ix : (x * (10 : Int32) + y).toInt = 10 * p + k := by
    rw [ar_add, ar_mul, e10, hx, hy, ar_wr (n := p * 10) (by omega) (by omega), ar_wr (by omega) (by omega)]
    omega
  unfold F_X1_heldBy
  rw [q_letE (x * (10 : Int32)), q_letE (x * (10 : Int32) + y), q_letE]
  exact y_getI Y G w (id := 7) (r := q_rf X (q_rf X g 1) 0) ⟨by decide, by decide⟩ rfl ix (by omega) (by rw [n7]; omega)
theorem pl_otherL (Y : y_S X lb) (G : y_G X lb g o) (w : y_W X lb g o σ0 σ V) (Rg : rg V c) (hG : m_G c) (hc : m_c X τ a = c) {p : Int} (h6 : V 0 5 = p) (hp : 0 ≤ p ∧ p < 6) {v1 : Int32} (hv : v1.toInt = p) (fu : Nat) : ∀ x m y : Int32, (2147483647 - y.toInt).toNat < fu → 0 ≤ y.toInt → y.toInt ≤ c 0 →
    ((x.toInt = -1 ∧ m.toInt = 0 ∧ ∀ k : Int, 0 ≤ k → k < y.toInt → k ≠ c 5 → c (34 + 10 * p + k) ≤ 0) ∨ ((0 ≤ x.toInt ∧ x.toInt < c 0) ∧ x.toInt ≠ c 5 ∧ m.toInt = c (34 + 10 * p + x.toInt) ∧ 0 < m.toInt)) →
    ∃ z : Int32, F_X7_fullestOther_L6_1 X σ g fu x m y = z ∧ F_X12_otherKind_L4_1 X τ a v1 fu x y = z ∧ ((z.toInt = -1 ∧ ∀ k : Int, 0 ≤ k → k < c 0 → k ≠ c 5 → c (34 + 10 * p + k) ≤ 0) ∨ ((0 ≤ z.toInt ∧ z.toInt < c 0) ∧ z.toInt ≠ c 5 ∧ 0 < c (34 + 10 * p + z.toInt))) := by
  obtain ⟨b0, b2, b4, b5, b6, b7, b9, b79⟩ := hG.1
  have f0 : (σ.1 (q_rf X g 0) 0).toInt = c 0 := (w.rd (id := 1) (by decide) 0 rfl).trans Rg.1.1
  have f5 : (σ.1 g 5).toInt = p := (w.rd (id := 0) (by decide) 5 rfl).trans h6
  have f4 : (σ.1 g 4).toInt = c 5 := (w.rd (id := 0) (by decide) 4 rfl).trans Rg.2.1.1
  have t0 : (τ.1 (q_rf X a 20) (0 : Int32).toNatClampNeg).toInt = c 0 := gm_cell (A := 0) hc rfl
  have t5 : (τ.1 (q_rf X a 20) (5 : Int32).toNatClampNeg).toInt = c 5 := gm_cell (A := 5) hc rfl
  induction fu with
  | zero => intro x m y h; exact absurd h (Nat.not_lt_zero _)
  | succ fu ih =>
    intro x m y hf y0 y1 inv
    rw [F_X7_fullestOther_L6_1_s, F_X12_otherKind_L4_1_s]
    unfold F_X7_fullestOther_B6_1 F_X12_otherKind_B4_1
    rw [q_letE (σ.1 (q_rf X g 0) 0), f0, q_letE (τ.1 (q_rf X a 20) (0 : Int32).toNatClampNeg), t0]
    by_cases q : y.toInt < c 0
    · have e1 : (y + 1).toInt = y.toInt + 1 := y_inc (by omega)
      obtain ⟨hh, ehh⟩ : ∃ h, h = c (34 + 10 * p + y.toInt) := ⟨_, rfl⟩
      have e34 : (34 : Int) + (10 * p + y.toInt) = 34 + 10 * p + y.toInt := by omega
      have hl : (F_X1_heldBy X σ (q_rf X g 1) (σ.1 g 5) y).toInt = hh := by
        rw [gm_held Y G w f5 rfl hp ⟨y0, by omega⟩, Rg.2.2.2.1.1 _ (by omega) (by omega), e34, ehh]
      have ho : (F_X12_handOf X τ a v1 y).toInt = hh := (gm_handOf hc hv rfl hp ⟨y0, by omega⟩).trans ehh.symm
      rw [if_pos q, if_pos q, q_letE (σ.1 g 5), q_letE (F_X1_heldBy X σ (q_rf X g 1) (σ.1 g 5) y), q_letE (σ.1 g 4), f4, q_letE (τ.1 (q_rf X a 20) (5 : Int32).toNatClampNeg), t5, hl]
      by_cases q5 : y.toInt = c 5
      · rw [if_pos q5, if_pos q5, q_letE (y + 1), q_letE (y + 1)]
        refine ih x m (y + 1) (by omega) (by omega) (by omega) ?_
        rcases inv with ⟨i1, i2, i3⟩ | i
        · refine Or.inl ⟨i1, i2, fun k k0 k1 k5 => i3 k k0 ?_ k5⟩
          rw [e1] at k1
          rw [← q5] at k5
          omega
        · exact Or.inr i
      · rw [if_neg q5, if_neg q5, q_letE (F_X12_handOf X τ a v1 y), ho]
        rcases inv with ⟨i1, i2, i3⟩ | ⟨i1, i2, i3, i4⟩
        · rw [i2]
          by_cases q0 : 0 < hh
          · rw [if_pos q0, if_pos q0, if_pos (by omega : x.toInt < 0), q_letE (y + 1), q_letE (y + 1)]
            exact ih y _ (y + 1) (by omega) (by omega) (by omega) (Or.inr ⟨⟨y0, q⟩, q5, hl.trans ehh, by rw [hl]; exact q0⟩)
          · rw [if_neg q0, if_neg q0, q_letE (y + 1), q_letE (y + 1)]
            refine ih x m (y + 1) (by omega) (by omega) (by omega) (Or.inl ⟨i1, i2, fun k k0 k1 k5 => ?_⟩)
            rw [e1] at k1
            by_cases e : k = y.toInt
            · rw [e, ← ehh]; omega
            · exact i3 k k0 (by omega) k5
        · have hx : (F_X12_handOf X τ a v1 x).toInt = m.toInt := (gm_handOf hc hv rfl hp ⟨i1.1, by omega⟩).trans i3.symm
          by_cases q0 : m.toInt < hh
          · rw [if_pos q0, if_pos (by omega : 0 < hh), if_neg (by omega : ¬ x.toInt < 0), q_letE (F_X12_handOf X τ a v1 y), q_letE (F_X12_handOf X τ a v1 x), ho, hx, if_pos q0, q_letE (y + 1), q_letE (y + 1)]
            exact ih y _ (y + 1) (by omega) (by omega) (by omega) (Or.inr ⟨⟨y0, q⟩, q5, hl.trans ehh, by rw [hl]; omega⟩)
          · rw [if_neg q0, q_letE (y + 1)]
            have nx := ih x m (y + 1) (by omega) (by omega) (by omega) (Or.inr ⟨i1, i2, i3, i4⟩)
            by_cases q1 : 0 < hh
            · rw [if_pos q1, if_neg (by omega : ¬ x.toInt < 0), q_letE (F_X12_handOf X τ a v1 y), q_letE (F_X12_handOf X τ a v1 x), ho, hx, if_neg q0, q_letE (y + 1)]
              exact nx
            · rw [if_neg q1, q_letE (y + 1)]
              exact nx
    · have ey : y.toInt = c 0 := by omega
      rw [if_neg q, if_neg q]
      refine ⟨x, rfl, rfl, ?_⟩
      rcases inv with ⟨i1, i2, i3⟩ | ⟨i1, i2, i3, i4⟩
      · rw [ey] at i3
        exact Or.inl ⟨i1, i3⟩
      · rw [i3] at i4
        exact Or.inr ⟨i1, i2, i4⟩
/-- the fullest other kind -/
theorem pl_other (Y : y_S X lb) (G : y_G X lb g o) (w : y_W X lb g o σ0 σ V) (Rg : rg V c) (hG : m_G c) (hc : m_c X τ a = c) {p : Int} (h6 : V 0 5 = p) (hp : 0 ≤ p ∧ p < 6) {v1 : Int32} (hv : v1.toInt = p) :
    ∃ z : Int32, F_X7_fullestOther X σ g = z ∧ F_X12_otherKind X τ a v1 = z ∧ ((z.toInt = -1 ∧ ∀ k : Int, 0 ≤ k → k < c 0 → k ≠ c 5 → c (34 + 10 * p + k) ≤ 0) ∨ ((0 ≤ z.toInt ∧ z.toInt < c 0) ∧ z.toInt ≠ c 5 ∧ 0 < c (34 + 10 * p + z.toInt))) := by
  have z0 : (0 : Int32).toInt = 0 := rfl
  unfold F_X7_fullestOther F_X12_otherKind
  exact pl_otherL Y G w Rg hG hc h6 hp hv _ (-1) 0 0 (by decide) (by decide) (by rw [z0]; have := hG.1.1; omega) (Or.inl ⟨rfl, rfl, fun k k0 k1 => by rw [z0] at k1; omega⟩)
end PA

/-! FROM 49zm.choose.lean.txt -/
/-! A ROUND PLAYED: what is laid, in both -/
/-- what the class writes in a turn: the game's own cells, the run's numbers -/
def pl_Sc (lb : Nat → Nat) (o R : Nat) (b f : Nat) : Prop := lb b / 8192 = o ∨ b = R ∧ 1 ≤ f ∧ f ≤ 6 ∧ f ≠ 5
/-- what the reference writes in a turn -/
def pl_Sr (X : XW) (a : Nat) (b f : Nat) : Prop := b = q_rf X a 20 ∨ b = q_rf X a 28 ∨ b = a ∧ (f = 39 ∨ 42 ≤ f ∧ f ≤ 44)
/-- what stays in a turn -/
def pl_fix (V V' : Nat → Int → Int) (c c' : Int → Int) : Prop := (∀ (id : Nat) (i : Int), id = 1 ∨ id = 3 ∨ id = 5 ∨ id = 6 ∨ 18 ≤ id ∧ id < 23 → V' id i = V id i) ∧ ∀ j : Int, 0 ≤ j → j ≤ 4 ∨ 654 ≤ j → c' j = c j
theorem pl_fix.rf {V : Nat → Int → Int} {c : Int → Int} : pl_fix V V c c := ⟨fun _ _ _ => rfl, fun _ _ _ => rfl⟩
theorem pl_fix.tr {V V' V2 : Nat → Int → Int} {c c' c2 : Int → Int} (h : pl_fix V V' c c') (k : pl_fix V' V2 c' c2) : pl_fix V V2 c c2 := ⟨fun id i q => (k.1 id i q).trans (h.1 id i q), fun j j0 q => (k.2 j j0 q).trans (h.2 j j0 q)⟩
theorem m_S_z {f : Int → Int} {b : Int} {n : Nat} (h : ∀ j : Int, b ≤ j → j < b + (n : Int) → f j = 0) : m_S f b n = 0 := by
  induction n with
  | zero => rfl
  | succ n ih =>
    show m_S f b n + f (b + (n : Int)) = 0
    rw [ih (fun j j0 j1 => h j j0 (by omega)), h (b + (n : Int)) (by omega) (by omega)]
    rfl
/-- a hand of one kind alone, or of another one too -/
theorem pl_hand {c : Int → Int} (hG : m_G c) {p : Int} (hp : 0 ≤ p ∧ p < 6) : c (34 + 10 * p + c 5) ≤ m_S c (34 + 10 * p) 10 ∧ ((∀ k : Int, 0 ≤ k → k < c 0 → k ≠ c 5 → c (34 + 10 * p + k) ≤ 0) → m_S c (34 + 10 * p) 10 = c (34 + 10 * p + c 5)) ∧ ∀ z : Int, 0 ≤ z ∧ z < c 0 → z ≠ c 5 → c (34 + 10 * p + z) + c (34 + 10 * p + c 5) ≤ m_S c (34 + 10 * p) 10 := by
  obtain ⟨b0, b2, b4, b5, b6, b7, b9, b79⟩ := hG.1
  have nn : ∀ j : Int, 34 + 10 * p ≤ j → j < 34 + 10 * p + ((10 : Nat) : Int) → 0 ≤ c j := fun j j0 j1 => hG.hand0 (by omega) (by omega)
  obtain ⟨A, hA⟩ : ∃ A, A = 34 + 10 * p + c 5 := ⟨_, rfl⟩
  obtain ⟨f, hf⟩ : ∃ f : Int → Int, f = fun j => if j = A then 0 else c j := ⟨_, rfl⟩
  have f1 : ∀ j : Int, f j = if j = A then 0 else c j := fun j => by rw [hf]
  have u := m_S_upd (c := c) (c' := f) (b := 34 + 10 * p) (A := A) (v := 0) (n := 10) (fun j _ _ => f1 j) (by omega) (by omega)
  have fn : ∀ j : Int, 34 + 10 * p ≤ j → j < 34 + 10 * p + ((10 : Nat) : Int) → 0 ≤ f j := fun j j0 j1 => by
    rw [f1]
    split
    · exact Int.le_refl 0
    · exact nn j j0 j1
  rw [← hA]
  refine ⟨m_S_ge nn (by omega) (by omega), fun h => ?_, fun z z0 z5 => ?_⟩
  · have e := m_S_z (f := f) (b := 34 + 10 * p) (n := 10) (fun j j0 j1 => by
      rw [f1]
      split
      · rfl
      · rename_i q
        have x := nn j j0 j1
        have ej : j = 34 + 10 * p + (j - (34 + 10 * p)) := by omega
        by_cases k : j - (34 + 10 * p) < c 0
        · have y := h (j - (34 + 10 * p)) (by omega) k (by omega)
          rw [← ej] at y
          omega
        · have y := (hG.2.1 p (j - (34 + 10 * p)) hp.1 hp.2 (by omega) (by omega)).2 (by omega)
          rw [← ej] at y
          exact y)
    omega
  · have e := m_S_ge (c := f) (A := 34 + 10 * p + z) fn (by omega) (by omega)
    rw [f1 (34 + 10 * p + z), if_neg (by omega)] at e
    omega
section PB
variable {X : XW} {lb : Nat → Nat} {g o a R : Nat} {σ σ' τ τ' σ0 τ0 : ST} {V V' : Nat → Int → Int} {c : Int → Int}
theorem pl_W (hV : y_v X g σ = V) : y_W X lb g o σ σ V := ⟨fun _ _ _ => rfl, rfl, hV⟩
theorem pl_Wt (w : y_W X lb g o σ σ' V') : tkl (pl_Sc lb o R) (fun _ _ => False) σ σ' := ⟨fun b f q => w.1 b (fun e => q (Or.inl e)) f, fun b f _ => by rw [w.2.1], by rw [w.2.1]⟩
theorem pl_vR (Y : y_S X lb) (G : y_G X lb g o) (hR : lb R / 8192 ≠ o) (f : Nat) (v : Int32) : y_v X g (q_si σ R f v) = y_v X g σ := y_v.k Y G (fun b hb f' => q_si_ne (fun e => hR (by rw [← e]; exact hb)) f')
theorem pl_vt (Y : y_S X lb) (G : y_G X lb g o) (hR : lb R / 8192 ≠ o) {P : Nat → Prop} (h : tkl (fun b f => b = R ∧ P f) (fun _ _ => False) σ σ') : y_v X g σ' = y_v X g σ := y_v.k Y G (fun b hb f' => h.1 b f' (fun z => hR (by rw [← z.1]; exact hb)))
theorem pl_mc (h : ∀ f, τ'.1 (q_rf X a 20) f = τ.1 (q_rf X a 20) f) : m_c X τ' a = m_c X τ a := by
  funext j
  exact congrArg Int32.toInt (h _)
theorem pl_k28 (hT : q_T X) (ha : q_kd X a = 12) : q_rf X a 28 ≠ q_rf X a 20 ∧ q_rf X a 28 ≠ a ∧ q_rf X a 20 ≠ a := by
  have k28 : q_kd X (q_rf X a 28) = 39 := (hT.1 a 28 (by rw [ha]; decide)).trans (by rw [ha]; rfl)
  have k20 := (tb_k hT ha).1
  exact ⟨m_ne k28 k20 (by decide), m_ne k28 ha (by decide), m_ne k20 ha (by decide)⟩
theorem pl_want (Y : y_S X lb) (G : y_G X lb g o) (w : y_W X lb g o σ0 σ V) {v n : Int32} {k m : Int} (hv : v.toInt = k) (hn : n.toInt = m) (hk : 0 ≤ k ∧ k < 10) (hm : 0 ≤ m ∧ m ≤ 10) (b : 0 ≤ V 23 k ∧ V 23 k ≤ 10) (b9 : 0 ≤ V 0 9 ∧ V 0 9 ≤ 20) :
    ∃ V' : Nat → Int → Int, y_W X lb g o σ0 (F_X0_want X σ g v n) V' ∧ (∀ (id : Nat) (i : Int), id ≠ 23 → (id ≠ 0 ∨ i ≠ 9) → V' id i = V id i) ∧ (∀ j : Int, V' 23 j = V 23 j + (if j = k then m else 0)) ∧ V' 0 9 = V 0 9 + m := by
  have gn : ((y_gn 23 : Nat) : Int) = 10 := rfl
  unfold F_X0_want
  rw [if_neg (by omega : ¬ v.toInt = -1), q_letE (F_X5_add X σ (q_rf X g 8) v n)]
  have w1 := w.add Y G (id := 23) (r := q_rf X g 8) ⟨by decide, by decide⟩ rfl v n (by omega) (by rw [gn]; omega)
  rw [hv, hn, ar_wr (by omega) (by omega)] at w1
  obtain ⟨τ1, e1⟩ : ∃ s, s = F_X5_add X σ (q_rf X g 8) v n := ⟨_, rfl⟩
  rw [← e1] at w1 ⊢
  have f9 : (τ1.1 g 9).toInt = V 0 9 := (w1.rd (id := 0) (by decide) 9 rfl).trans (y_up_ne (Or.inl (by decide)))
  rw [q_letE (τ1.1 g 9)]
  obtain ⟨u, hu⟩ : ∃ u, u = τ1.1 g 9 + n := ⟨_, rfl⟩
  have uv : u.toInt = V 0 9 + m := by rw [hu, ar_add, f9, hn, ar_wr (by omega) (by omega)]
  rw [← hu, q_letE u, q_letE (q_si τ1 g 9 u)]
  have w2 : y_W X lb g o σ0 (q_si τ1 g 9 u) (y_up (y_up V 23 k (V 23 k + m)) 0 9 u.toInt) := w1.si Y G (id := 0) (by decide) 9 u
  rw [uv] at w2
  refine ⟨_, w2, fun id i i23 i0 => ?_, fun j => ?_, y_up_eq _ _ _ _⟩
  · rw [y_up_ne i0, y_up_ne (Or.inl i23)]
  · rw [y_up_ne (Or.inl (by decide))]
    by_cases e : j = k
    · rw [if_pos e, e, y_up_eq]
    · rw [if_neg e, y_up_ne (Or.inr e)]
      omega
theorem pl_clear (Y : y_S X lb) (G : y_G X lb g o) (w : y_W X lb g o σ0 σ V) :
    ∃ V' : Nat → Int → Int, y_W X lb g o σ0 (F_X0_clearWanted X σ g) V' ∧ (∀ (id : Nat) (i : Int), id ≠ 23 → (id ≠ 0 ∨ i ≠ 9) → V' id i = V id i) ∧ (∀ j : Int, 0 ≤ j → j < 10 → V' 23 j = 0) ∧ V' 0 9 = 0 := by
  have gn23 : ((y_gn 23 : Nat) : Int) = 10 := rfl
  have wa := w.clear Y G (id := 23) (r := q_rf X g 8) ⟨by decide, by decide⟩ rfl
  have wb : y_W X lb g o σ0 (q_si (F_X5_clear X σ (q_rf X g 8)) g 9 0) (y_up (y_bl V 23 ((y_gn 23 : Nat) : Int) (fun _ => 0)) 0 9 0) := wa.si Y G (id := 0) (by decide) 9 0
  refine ⟨y_up (y_bl V 23 ((y_gn 23 : Nat) : Int) (fun _ => 0)) 0 9 0, ?_, fun id i i23 i0 => (y_up_ne i0).trans (if_neg (fun z => i23 z.1)), fun j j0 j1 => (y_up_ne (Or.inl (by decide))).trans (if_pos ⟨rfl, j0, by rw [gn23]; exact j1⟩), y_up_eq _ _ _ _⟩
  unfold F_X0_clearWanted
  rw [q_letE (F_X5_clear X σ (q_rf X g 8)), q_letE (q_si (F_X5_clear X σ (q_rf X g 8)) g 9 0)]
  exact wb
theorem pl_clr {v1 : Int32} (fu : Nat) : ∀ (x : Int32) (τ : ST), (2147483647 - x.toInt).toNat < fu → 0 ≤ x.toInt → x.toInt ≤ 10 → (∀ j : Int, 0 ≤ j → j < x.toInt → (τ.1 (q_rf X a 28) j.toNat).toInt = 0) → ∃ τ' : ST, F_X12_turns_L61_2 X a v1 fu x τ = F_X12_turns_E80_8 X τ' a v1 ∧ tkl (fun b _ => b = q_rf X a 28) (fun _ _ => False) τ τ' ∧ ∀ j : Int, 0 ≤ j → j < 10 → (τ'.1 (q_rf X a 28) j.toNat).toInt = 0 := by
  induction fu with
  | zero => intro x τ h; exact absurd h (Nat.not_lt_zero _)
  | succ fu ih =>
    intro x τ hf x0 x1 hz
    rw [F_X12_turns_L61_2_s]
    unfold F_X12_turns_B61_2
    by_cases q : x.toInt < 10
    · have ex : (x + 1).toInt = x.toInt + 1 := y_inc (by omega)
      rw [if_pos q, q_letE (q_si τ (q_rf X a 28) x.toNatClampNeg 0), q_letE (x + 1)]
      obtain ⟨τ', i1, i2, i3⟩ := ih (x + 1) (q_si τ (q_rf X a 28) x.toNatClampNeg 0) (by omega) (by omega) (by omega) (fun j j0 j1 => by
        show (if q_rf X a 28 = q_rf X a 28 ∧ j.toNat = x.toNatClampNeg then (0 : Int32) else τ.1 (q_rf X a 28) j.toNat).toInt = 0
        by_cases e : j = x.toInt
        · rw [if_pos ⟨rfl, by rw [ar_cl, e]⟩]; rfl
        · rw [if_neg (fun z => e (by have := z.2; rw [ar_cl] at this; omega))]
          exact hz j j0 (by omega))
      have t0 : tkl (fun b _ => b = q_rf X a 28) (fun _ _ => False) τ (q_si τ (q_rf X a 28) x.toNatClampNeg 0) := tkl.rf.si _ rfl
      exact ⟨τ', i1, t0.tr i2, i3⟩
    · rw [if_neg q]
      exact ⟨τ, rfl, tkl.rf, fun j j0 j1 => hz j j0 (by omega)⟩
/-- a card of another kind beside -/
theorem pl_l28 {l : Int → Int} {x v : Int32} {k m : Int} (hl : ∀ j : Int, 0 ≤ j → j < 10 → (τ.1 (q_rf X a 28) j.toNat).toInt = l j) (hx : x.toInt = k) (hk : 0 ≤ k ∧ k < 10) (hv : v.toInt = m) : ∀ j : Int, 0 ≤ j → j < 10 → ((q_si τ (q_rf X a 28) x.toNatClampNeg v).1 (q_rf X a 28) j.toNat).toInt = if j = k then m else l j := by
  intro j j0 j1
  show (if q_rf X a 28 = q_rf X a 28 ∧ j.toNat = x.toNatClampNeg then v else τ.1 (q_rf X a 28) j.toNat).toInt = _
  by_cases e : j = k
  · rw [if_pos ⟨rfl, by rw [ar_cl, hx, e]⟩, if_pos e, hv]
  · rw [if_neg (fun z => e (by have := z.2; rw [ar_cl] at this; omega)), if_neg e, hl j j0 j1]
/-- what both choose to lay -/
def pl_chosen (X : XW) (lb : Nat → Nat) (g o a R : Nat) (σ σ' τ τ' : ST) (V : Nat → Int → Int) (c l : Int → Int) : Prop :=
  tkl (pl_Sc lb o R) (fun _ _ => False) σ σ' ∧ (∀ f, f ≠ 6 → σ'.1 R f = σ.1 R f) ∧ σ'.1 R 6 = τ'.1 a 39 ∧ (∃ V' : Nat → Int → Int, y_v X g σ' = V' ∧ (∀ (id : Nat) (i : Int), id ≠ 23 → (id ≠ 0 ∨ i ≠ 9) → V' id i = V id i) ∧ ∀ j : Int, 0 ≤ j → j < 10 → V' 23 j = l j) ∧
  tkl (fun b f => b = q_rf X a 28 ∨ b = a ∧ f = 39) (fun _ _ => False) τ τ' ∧ m_c X τ' a = c ∧ (∀ j : Int, 0 ≤ j → j < 10 → (τ'.1 (q_rf X a 28) j.toNat).toInt = l j) ∧ m_lo c l (c 6)
theorem pl_choose (Y : y_S X lb) (G : y_G X lb g o) (ha : q_kd X a = 12) (hR : lb R / 8192 ≠ o) (hV : y_v X g σ = V) (Rg : rg V c) (hG : m_G c) (hc : m_c X τ a = c) (hd : σ.1 R 6 = τ.1 a 39) (h2 : 2 ≤ c 2) (hS : m_S c (34 + 10 * c 6) 10 ≠ 0) {v1 : Int32} (hv : v1.toInt = c 6) :
    ∃ (σ' τ' : ST) (l : Int → Int), F_X7_choose X σ R g = σ' ∧ F_X12_turns_L61_2 X a v1 ((2147483647 - (0 : Int32).toInt).toNat + 1) 0 τ = F_X12_turns_J163_4 X a v1 τ' ∧ pl_chosen X lb g o a R σ σ' τ τ' V c l := by
  obtain ⟨b0, b2, b4, b5, b6, b7, b9, b79⟩ := hG.1
  have hp : 0 ≤ c 6 ∧ c 6 < 6 := by omega
  have gn9 : ((y_gn 9 : Nat) : Int) = 6 := rfl
  have gn10 : ((y_gn 10 : Nat) : Int) = 6 := rfl
  have one : (1 : Int32).toInt = 1 := rfl
  have e10 : (10 : Int32).toInt = 10 := rfl
  obtain ⟨n80, n8a, n0a⟩ := pl_k28 Y.1 ha
  have w := pl_W (lb := lb) (o := o) hV
  have v5 : V 0 5 = c 6 := by
    have z := Rg.2.1.2.1
    rw [if_neg (by omega)] at z
    exact z
  have v4 : V 0 4 = c 5 := Rg.2.1.1
  obtain ⟨hd1, hd2, hd3⟩ := pl_hand hG hp
  obtain ⟨h, hh⟩ : ∃ h, h = c (34 + 10 * c 6 + c 5) := ⟨_, rfl⟩
  obtain ⟨S, hSS⟩ : ∃ S, S = m_S c (34 + 10 * c 6) 10 := ⟨_, rfl⟩
  have hb := hG.h80 (p := c 6) (k := c 5) hp.1 hp.2 b5.1 (by omega)
  rw [← hh] at hd1 hd2 hd3 hb
  rw [← hSS] at hd1 hd2 hd3 hS
  have v9 : V 9 (c 6) = S := (Rg.2.2.2.1.2 (c 6) hp.1 hp.2).trans hSS.symm
  have v10 : V 10 (c 6) = c (10 + c 6) := (Rg.2.2.1 (c 6) hp.1 hp.2).1
  obtain ⟨n, hn⟩ : ∃ n, n = if c 4 < h then c 4 else h := ⟨_, rfl⟩
  have hn' : n = if h < c 4 then h else c 4 := by
    rw [hn]
    split <;> split <;> omega
  have nb : (0 ≤ n ∧ n ≤ c 4) ∧ n ≤ h ∧ (n < c 4 → n = h) ∧ (n = 0 ↔ h = 0) := by
    rw [hn]
    split <;> omega
  -- the class: as many of the kind as it has
  have f1 : (σ.1 g 5).toInt = c 6 := (w.rd (id := 0) (by decide) 5 rfl).trans v5
  have f2 : (σ.1 g 4).toInt = c 5 := (w.rd (id := 0) (by decide) 4 rfl).trans v4
  have f3 : (F_X1_heldBy X σ (q_rf X g 1) (σ.1 g 5) (σ.1 g 4)).toInt = h := by
    rw [gm_held Y G w f1 f2 hp ⟨b5.1, by omega⟩, Rg.2.2.2.1.1 _ (by omega) (by omega), hh]
    congr 1
    omega
  have f5 : (σ.1 (q_rf X g 0) 3).toInt = c 4 := (w.rd (id := 1) (by decide) 3 rfl).trans Rg.1.2.2.2.1
  have f6 : (F_J9_min_7cf53 X σ (F_X1_heldBy X σ (q_rf X g 1) (σ.1 g 5) (σ.1 g 4)) (σ.1 (q_rf X g 0) 3)).toInt = n := by
    rw [gm_min, f5, f3, hn]
  unfold F_X7_choose
  rw [q_letE (σ.1 g 5), q_letE (σ.1 g 4), q_letE (F_X1_heldBy X σ (q_rf X g 1) (σ.1 g 5) (σ.1 g 4))]
  obtain ⟨r3, e3⟩ : ∃ r, r = F_X1_heldBy X σ (q_rf X g 1) (σ.1 g 5) (σ.1 g 4) := ⟨_, rfl⟩
  rw [← e3] at f3 f6 ⊢
  rw [q_letE (σ.1 (q_rf X g 0) 3), q_letE (F_J9_min_7cf53 X σ r3 (σ.1 (q_rf X g 0) 3))]
  obtain ⟨r6, e6⟩ : ∃ r, r = F_J9_min_7cf53 X σ r3 (σ.1 (q_rf X g 0) 3) := ⟨_, rfl⟩
  rw [← e6] at f6 ⊢
  obtain ⟨V9, w9, k9, z9, s9⟩ := pl_clear Y G w
  rw [q_letE (F_X0_clearWanted X σ g)]
  obtain ⟨σ9, e9⟩ : ∃ s, s = F_X0_clearWanted X σ g := ⟨_, rfl⟩
  rw [← e9] at w9 ⊢
  have f10 : (σ9.1 g 4).toInt = c 5 := (w9.rd (id := 0) (by decide) 4 rfl).trans ((k9 0 4 (by decide) (Or.inr (by decide))).trans v4)
  rw [q_letE (σ9.1 g 4)]
  obtain ⟨V12, w12, k12, z12, s12⟩ := pl_want Y G w9 f10 f6 ⟨b5.1, by omega⟩ ⟨nb.1.1, by omega⟩ (by rw [z9 _ b5.1 (by omega)]; decide) (by rw [s9]; decide)
  rw [q_letE (F_X0_want X σ9 g (σ9.1 g 4) r6)]
  obtain ⟨σ12, e12⟩ : ∃ s, s = F_X0_want X σ9 g (σ9.1 g 4) r6 := ⟨_, rfl⟩
  rw [← e12] at w12 ⊢
  have K12 : ∀ (id : Nat) (i : Int), id ≠ 23 → (id ≠ 0 ∨ i ≠ 9) → V12 id i = V id i := fun id i i1 i2 => (k12 id i i1 i2).trans (k9 id i i1 i2)
  have Z12 : ∀ j : Int, 0 ≤ j → j < 10 → V12 23 j = if j = c 5 then n else 0 := fun j j0 j1 => by
    rw [z12 j, z9 j j0 j1]
    omega
  have S12 : V12 0 9 = n := by rw [s12, s9]; omega
  have R12 : rg V12 c := Rg.w hG (fun id i i1 i2 i3 => K12 id i i1 (by omega))
  have f13 : (σ12.1 (q_rf X g 0) 3).toInt = c 4 := (w12.rd (id := 1) (by decide) 3 rfl).trans R12.1.2.2.2.1
  have f33 : (σ12.1 g 5).toInt = c 6 := (w12.rd (id := 0) (by decide) 5 rfl).trans ((K12 0 5 (by decide) (Or.inr (by decide))).trans v5)
  have f34 : (F_X5_get X σ12 (q_rf X (q_rf X g 1) 2) (σ12.1 g 5)).toInt = S := by
    rw [y_getI Y G w12 (id := 9) (r := q_rf X (q_rf X g 1) 2) ⟨by decide, by decide⟩ rfl f33 hp.1 (by rw [gn9]; exact hp.2), K12 9 _ (by decide) (Or.inl (by decide)), v9]
  have t12 : tkl (pl_Sc lb o R) (fun _ _ => False) σ σ12 := pl_Wt w12
  have r12 : ∀ f, σ12.1 R f = σ.1 R f := fun f => w12.1 R hR f
  have v12 : y_v X g σ12 = V12 := w12.2.2
  rw [q_letE (σ12.1 (q_rf X g 0) 3), f6, f13]
  -- the reference
  have z0 : (0 : Int32).toInt = 0 := rfl
  obtain ⟨τz, tz, kz, lz⟩ := pl_clr (X := X) (a := a) (v1 := v1) ((2147483647 - (0 : Int32).toInt).toNat + 1) 0 τ (by omega) (by decide) (by decide) (fun j j0 j1 => by rw [z0] at j1; omega)
  rw [tz]
  have mz : m_c X τz a = c := (pl_mc (fun f => kz.1 _ f (fun e => n80 e.symm))).trans hc
  have dz : τz.1 a 39 = τ.1 a 39 := kz.1 a 39 (fun e => n8a e.symm)
  have g4 : (τz.1 (q_rf X a 20) (4 : Int32).toNatClampNeg).toInt = c 4 := gm_cell (A := 4) mz rfl
  have g5 : (τz.1 (q_rf X a 20) (5 : Int32).toNatClampNeg).toInt = c 5 := gm_cell (A := 5) mz rfl
  unfold F_X12_turns_E80_8
  rw [q_letE (τz.1 (q_rf X a 20) (4 : Int32).toNatClampNeg), q_letE (τz.1 (q_rf X a 20) (5 : Int32).toNatClampNeg)]
  obtain ⟨u4, q4⟩ : ∃ u, u = τz.1 (q_rf X a 20) (4 : Int32).toNatClampNeg := ⟨_, rfl⟩
  obtain ⟨u5, q5⟩ : ∃ u, u = τz.1 (q_rf X a 20) (5 : Int32).toNatClampNeg := ⟨_, rfl⟩
  rw [← q4] at g4 ⊢
  rw [← q5] at g5 ⊢
  have g18 : (F_X12_handOf X τz a v1 u5).toInt = h := (gm_handOf mz hv g5 hp ⟨b5.1, by omega⟩).trans hh.symm
  have g20 : (F_J9_min_7cf53 X τz u4 (F_X12_handOf X τz a v1 u5)).toInt = n := by rw [gm_min, g18, g4, hn']
  rw [q_letE (F_X12_handOf X τz a v1 u5), q_letE (F_J9_min_7cf53 X τz u4 (F_X12_handOf X τz a v1 u5))]
  obtain ⟨r20, e20⟩ : ∃ r, r = F_J9_min_7cf53 X τz u4 (F_X12_handOf X τz a v1 u5) := ⟨_, rfl⟩
  rw [← e20] at g20 ⊢
  rw [q_letE u5, q_letE (q_si τz (q_rf X a 28) u5.toNatClampNeg r20)]
  have l1 := pl_l28 (X := X) (a := a) lz g5 ⟨b5.1, by omega⟩ g20
  obtain ⟨τ1, e1⟩ : ∃ t, t = q_si τz (q_rf X a 28) u5.toNatClampNeg r20 := ⟨_, rfl⟩
  have k1 : tkl (fun b f => b = q_rf X a 28 ∨ b = a ∧ f = 39) (fun _ _ => False) τ τ1 := by
    rw [e1]
    exact (kz.mono (fun b f z => Or.inl z) (fun _ _ z => z)).si _ (Or.inl rfl)
  have m1 : m_c X τ1 a = c := (pl_mc (fun f => by rw [e1]; exact q_si_ne (fun e => n80 e.symm) f)).trans mz
  have d1 : τ1.1 a 39 = τ.1 a 39 := by rw [e1, q_si_ne (fun e => n8a e.symm), dz]
  rw [← e1] at l1 ⊢
  have g26 : (τ1.1 (q_rf X a 20) (4 : Int32).toNatClampNeg).toInt = c 4 := gm_cell (A := 4) m1 rfl
  obtain ⟨zo, o1, o2, o3⟩ := pl_other Y G w12 R12 hG m1 ((K12 0 5 (by decide) (Or.inr (by decide))).trans v5) hp hv
  rw [q_letE (F_X12_otherKind X τ1 a v1), o2, q_letE (τ1.1 (q_rf X a 20) (4 : Int32).toNatClampNeg), g20, g26]
  obtain ⟨f, hf⟩ : ∃ f : Int → Int, f = fun j => if j = c 5 then n else 0 := ⟨_, rfl⟩
  have ff : ∀ j : Int, f j = if j = c 5 then n else 0 := fun j => by rw [hf]
  have hm1 : m_l1 f (c 5) n := fun j _ _ => ff j
  -- of the kind alone
  have alone : ∀ (σ' τ' : ST), tkl (pl_Sc lb o R) (fun _ _ => False) σ12 σ' → (∀ f, f ≠ 6 → σ'.1 R f = σ12.1 R f) → σ'.1 R 6 = τ'.1 a 39 → y_v X g σ' = V12 → tkl (fun b f => b = a ∧ f = 39) (fun _ _ => False) τ1 τ' → 1 ≤ n → pl_chosen X lb g o a R σ σ' τ τ' V c f := by
    intro σ' τ' s1 s2 s3 s4 t1 n1
    refine ⟨t12.tr s1, fun f hf => (s2 f hf).trans (r12 f), s3, ⟨V12, s4, K12, fun j j0 j1 => by rw [ff]; exact Z12 j j0 j1⟩, k1.tr (t1.mono (fun b f z => Or.inr z) (fun _ _ z => z)), (pl_mc (fun f => t1.1 _ f (fun e => n0a e.1))).trans m1, fun j j0 j1 => ?_, ?_⟩
    · rw [t1.1 _ _ (fun e => n8a e.1), l1 j j0 j1, ff]
    · exact m_lo.one hG hp hm1 ⟨n1, by omega⟩ (by rw [← hh]; exact nb.2.1)
  -- and one of another kind
  have beside : ∀ (σ' τ' : ST), tkl (pl_Sc lb o R) (fun _ _ => False) σ12 σ' → (∀ f, f ≠ 6 → σ'.1 R f = σ12.1 R f) → σ'.1 R 6 = τ'.1 a 39 → y_v X g σ' = V12 → tkl (fun b f => b = a ∧ f = 39) (fun _ _ => False) τ1 τ' → n < c 4 → 0 ≤ zo.toInt → pl_chosen X lb g o a R σ (F_X0_want X σ' g zo 1) τ (q_si τ' (q_rf X a 28) zo.toNatClampNeg (τ'.1 (q_rf X a 28) zo.toNatClampNeg + 1)) V c (fun j => if j = zo.toInt then f j + 1 else f j) := by
    intro σ' τ' s1 s2 s3 s4 t1 n1 z1
    have zz : (0 ≤ zo.toInt ∧ zo.toInt < c 0) ∧ zo.toInt ≠ c 5 ∧ 0 < c (34 + 10 * c 6 + zo.toInt) := by
      rcases o3 with o | o
      · have := o.1; omega
      · exact o
    have fz : f zo.toInt = 0 := by rw [ff, if_neg zz.2.1]
    obtain ⟨V3, w3, k3, z3, -⟩ := pl_want (lb := lb) (o := o) Y G (pl_W s4) (v := zo) (n := 1) rfl one ⟨by omega, by omega⟩ ⟨by decide, by decide⟩ (by rw [Z12 _ (by omega) (by omega), if_neg zz.2.1]; decide) (by rw [S12]; omega)
    have lt : ∀ j : Int, 0 ≤ j → j < 10 → (τ'.1 (q_rf X a 28) j.toNat).toInt = f j := fun j j0 j1 => by rw [t1.1 _ _ (fun e => n8a e.1), l1 j j0 j1, ff]
    have ez : (τ'.1 (q_rf X a 28) zo.toNatClampNeg).toInt = 0 := by
      have q := lt zo.toInt (by omega) (by omega)
      rw [fz] at q
      exact q
    have ez1 : (τ'.1 (q_rf X a 28) zo.toNatClampNeg + 1).toInt = 1 := by rw [ar_add, ez, one, ar_wr (by decide) (by decide)]; rfl
    have l2 := pl_l28 (X := X) (a := a) (x := zo) lt rfl ⟨by omega, by omega⟩ ez1
    refine ⟨(t12.tr s1).tr (pl_Wt w3), fun f hf => (w3.1 R hR f).trans ((s2 f hf).trans (r12 f)), ?_, ⟨V3, w3.2.2, fun id i i1 i2 => (k3 id i i1 i2).trans (K12 id i i1 i2), fun j j0 j1 => ?_⟩, (k1.tr (t1.mono (fun b f z => Or.inr z) (fun _ _ z => z))).si _ (Or.inl rfl), ?_, fun j j0 j1 => ?_, ?_⟩
    · rw [w3.1 R hR 6, s3, q_si_ne (fun e => n8a e.symm)]
    · show V3 23 j = if j = zo.toInt then f j + 1 else f j
      rw [z3 j, Z12 j j0 j1, ← ff j]
      by_cases e : j = zo.toInt
      · rw [if_pos e, if_pos e]
      · rw [if_neg e, if_neg e]; omega
    · refine (pl_mc (fun f => q_si_ne (fun e => n80 e.symm) f)).trans ((pl_mc (fun f => t1.1 _ f (fun e => n0a e.1))).trans m1)
    · rw [l2 j j0 j1]
      show (if j = zo.toInt then (1 : Int) else f j) = if j = zo.toInt then f j + 1 else f j
      by_cases e : j = zo.toInt
      · rw [if_pos e, if_pos e, e, fz]; rfl
      · rw [if_neg e, if_neg e]
    · refine m_lo.two (v := f zo.toInt + 1) hG hp hm1 (fun j _ => ?_) rfl ⟨nb.1.1, by omega⟩ (by rw [← hh]; exact nb.2.1) ⟨by omega, by omega⟩ zz.2.1 zz.2.2
      by_cases e : j = zo.toInt
      · rw [if_pos e, if_pos e, e]
      · rw [if_neg e, if_neg e]
  have s12' : σ12.1 R 6 = τ1.1 a 39 := (r12 6).trans (hd.trans d1.symm)
  by_cases q1 : n < c 4
  · rw [if_pos q1, if_pos q1, q_letE (σ12.1 g 5), q_letE (F_X5_get X σ12 (q_rf X (q_rf X g 1) 2) (σ12.1 g 5)), f34, f3]
    by_cases q2 : h < S
    · have zp : 0 ≤ zo.toInt := by
        rcases o3 with o | o
        · have := hd2 o.2; omega
        · exact o.1.1
      rw [if_pos q2, if_neg (by decide : ¬ (1 : Int) = 0), if_neg (by omega : ¬ zo.toInt < 0)]
      by_cases q3 : h = 0
      · rw [if_pos q3, if_pos (nb.2.2.2.mpr q3), q_letE (F_X7_fullestOther X σ12 g), o1, q_letE (F_X0_want X σ12 g zo 1), q_letE (τ1.1 (q_rf X a 28) zo.toNatClampNeg), q_letE (τ1.1 (q_rf X a 28) zo.toNatClampNeg + 1), q_letE (q_si τ1 (q_rf X a 28) zo.toNatClampNeg (τ1.1 (q_rf X a 28) zo.toNatClampNeg + 1))]
        exact ⟨_, _, _, rfl, rfl, beside σ12 τ1 tkl.rf (fun _ _ => rfl) s12' v12 tkl.rf q1 zp⟩
      · have n0 : ¬ n = 0 := fun e => q3 (nb.2.2.2.mp e)
        obtain ⟨d, s, x1, x2⟩ := pl_draw (X := X) (a := a) (R := R) s12'
        rw [if_neg q3, if_neg n0, x1, q_biP d (q_si σ12 R 6 s), x2, q_biP d (q_si τ1 a 39 s)]
        have vs : y_v X g (q_si σ12 R 6 s) = V12 := (pl_vR Y G hR 6 s).trans v12
        have ws := pl_W (lb := lb) (o := o) vs
        have ms : m_c X (q_si τ1 a 39 s) a = c := (mv_cell Y.1 ha 39 s).trans m1
        have cs1 : tkl (pl_Sc lb o R) (fun _ _ => False) σ12 (q_si σ12 R 6 s) := tkl.rf.si _ (Or.inr ⟨rfl, by decide, by decide, by decide⟩)
        have cs2 : ∀ f, f ≠ 6 → (q_si σ12 R 6 s).1 R f = σ12.1 R f := fun f hf => si_f hf _
        have cs3 : (q_si σ12 R 6 s).1 R 6 = (q_si τ1 a 39 s).1 a 39 := by rw [si_eq, si_eq]
        have cs4 : tkl (fun b f => b = a ∧ f = 39) (fun _ _ => False) τ1 (q_si τ1 a 39 s) := tkl.rf.si _ ⟨rfl, rfl⟩
        have f64 : ((q_si σ12 R 6 s).1 g 5).toInt = c 6 := (ws.rd (id := 0) (by decide) 5 rfl).trans ((K12 0 5 (by decide) (Or.inr (by decide))).trans v5)
        have f65 : (F_X5_get X (q_si σ12 R 6 s) (q_rf X (q_rf X g 1) 3) ((q_si σ12 R 6 s).1 g 5)).toInt = c (10 + c 6) := by
          rw [y_getI Y G ws (id := 10) (r := q_rf X (q_rf X g 1) 3) ⟨by decide, by decide⟩ rfl f64 hp.1 (by rw [gn10]; exact hp.2), K12 10 _ (by decide) (Or.inl (by decide)), v10]
        have g82 : ((q_si τ1 a 39 s).1 (q_rf X a 20) ((10 : Int32) + v1).toNatClampNeg).toInt = c (10 + c 6) := gm_cell (A := 10 + c 6) ms (by rw [ar_add, e10, hv, ar_wr (by omega) (by omega)])
        obtain ⟨σs, es⟩ : ∃ t, t = q_si σ12 R 6 s := ⟨_, rfl⟩
        obtain ⟨τs, us⟩ : ∃ t, t = q_si τ1 a 39 s := ⟨_, rfl⟩
        rw [← es] at vs ws cs1 cs2 cs3 f64 f65 ⊢
        rw [← us] at ms cs3 cs4 g82 ⊢
        rw [q_letE (σs.1 g 5), q_letE (F_X5_get X σs (q_rf X (q_rf X g 1) 3) (σs.1 g 5)), f65, q_letE ((10 : Int32) + v1), q_letE (τs.1 (q_rf X a 20) ((10 : Int32) + v1).toNatClampNeg), g82]
        by_cases q4 : d.toInt < c (10 + c 6)
        · obtain ⟨zo', o1', o2', -⟩ := pl_other Y G ws R12 hG m1 ((K12 0 5 (by decide) (Or.inr (by decide))).trans v5) hp hv
          rw [o2] at o2'
          rw [← o2'] at o1'
          rw [if_pos q4, if_pos q4, q_letE (F_X7_fullestOther X σs g), o1', q_letE (F_X0_want X σs g zo 1), q_letE (τs.1 (q_rf X a 28) zo.toNatClampNeg), q_letE (τs.1 (q_rf X a 28) zo.toNatClampNeg + 1), q_letE (q_si τs (q_rf X a 28) zo.toNatClampNeg (τs.1 (q_rf X a 28) zo.toNatClampNeg + 1))]
          exact ⟨_, _, _, rfl, rfl, beside σs τs cs1 cs2 cs3 vs cs4 q1 zp⟩
        · rw [if_neg q4, if_neg q4]
          exact ⟨_, _, _, rfl, rfl, alone σs τs cs1 cs2 cs3 vs cs4 (by omega)⟩
    · have zn : zo.toInt < 0 := by
        rcases o3 with o | o
        · have := o.1; omega
        · have := hd3 _ o.1 o.2.1
          have := o.2.2
          omega
      rw [if_neg q2, if_pos (rfl : (0 : Int) = 0), if_pos zn]
      exact ⟨_, _, _, rfl, rfl, alone σ12 τ1 tkl.rf (fun _ _ => rfl) s12' v12 tkl.rf (by omega)⟩
  · rw [if_neg q1, if_neg q1, if_pos (rfl : (0 : Int) = 0)]
    exact ⟨_, _, _, rfl, rfl, alone σ12 τ1 tkl.rf (fun _ _ => rfl) s12' v12 tkl.rf (by omega)⟩
end PB

/-! FROM 49zn.first.lean.txt -/
/-! A ROUND PLAYED: who doubts first, in both -/
theorem pl_add1 {p x m : Int} (hm : 0 < m) (hp : 0 ≤ p ∧ p < m) (hx : 0 ≤ x) : ((p + x) % m + 1) % m = (p + (x + 1)) % m := by
  rw [Int.emod_add_emod]
  congr 1
  omega
theorem pl_round {p x m : Int} (hp : 0 ≤ p ∧ p < m) (hx : 1 ≤ x ∧ x ≤ m) : ((p + x) % m = p ↔ x = m) ∧ (0 ≤ (p + x) % m ∧ (p + x) % m < m) := by
  have e : (p + x) % m = if p + x < m then p + x else p + x - m := by
    split
    · exact Int.emod_eq_of_lt (by omega) (by omega)
    · have z := Int.sub_emod_right (p + x) m
      rw [← z]
      exact Int.emod_eq_of_lt (by omega) (by omega)
  rw [e]
  split <;> exact ⟨⟨fun z => by omega, fun z => by omega⟩, by omega, by omega⟩
section PC
variable {X : XW} {lb : Nat → Nat} {g o a R : Nat} {σ σ' τ τ' σ0 τ0 : ST} {V V' : Nat → Int → Int} {c : Int → Int}
/-- impossible for one, in both -/
theorem pl_imp (Y : y_S X lb) (G : y_G X lb g o) (hV : y_v X g σ = V) (Rg : rg V c) (hG : m_G c) (hc : m_c X τ a = c) (h9 : 1 ≤ c 9) {v v' : Int32} {q : Int} (hv : v.toInt = q) (hv' : v'.toInt = q) (hq : 0 ≤ q ∧ q < c 2) : (F_X0_isImpossibleFor X σ g v).toInt = (F_X12_isImpossible X τ a v').toInt ∧ ((F_X12_isImpossible X τ a v').toInt = 0 ∨ (F_X12_isImpossible X τ a v').toInt = 1) := by
  obtain ⟨b0, b2, b4, b5, b6, b7, b9, b79⟩ := hG.1
  have w := pl_W (lb := lb) (o := o) hV
  have one : (1 : Int32).toInt = 1 := rfl
  have e2 : (2 : Int32).toInt = 2 := rfl
  have n4 : ((y_gn 4 : Nat) : Int) = 10 := rfl
  have n16 : ((y_gn 16 : Nat) : Int) = 80 := rfl
  have ub := hG.U_bd (p := q) (k := c 5) hq.1 hq.2 b5.1 (by omega)
  have ib := hG.I_bd (k := c 5) b5.1 (by omega)
  have f4 : (σ.1 g 4).toInt = c 5 := (w.rd (id := 0) (by decide) 4 rfl).trans Rg.2.1.1
  have f0 : (σ.1 (q_rf X g 2) 0).toInt = c 9 := (w.rd (id := 2) (by decide) 0 rfl).trans Rg.2.2.2.2.1.1
  have g5 : (τ.1 (q_rf X a 20) (5 : Int32).toNatClampNeg).toInt = c 5 := gm_cell (A := 5) hc rfl
  have g9 : (τ.1 (q_rf X a 20) (9 : Int32).toNatClampNeg).toInt = c 9 := gm_cell (A := 9) hc rfl
  have kn1 := (rg.know (X := X) (τ := τ) Y G w Rg hG hc (v1 := v) (v2 := σ.1 g 4) hv f4 hq ⟨b5.1, by omega⟩).1
  have kn2 := (rg.know (X := X) (τ := τ) Y G w Rg hG hc (v1 := v') (v2 := τ.1 (q_rf X a 20) (5 : Int32).toNatClampNeg) hv' g5 hq ⟨b5.1, by omega⟩).2.2.2
  have top := (Rg.2.2.2.2.1.2.2 (c 9 - 1) (by omega) (by omega)).2.2.1
  have ts : (F_X2_topSize X σ (q_rf X g 2)).toInt = c (94 + 7 * (c 9 - 1) + 2) := by
    unfold F_X2_topSize
    rw [q_letE (σ.1 (q_rf X g 2) 0), q_letE (σ.1 (q_rf X g 2) 0 - 1), q_letE, y_getI Y G w (id := 16) (r := q_rf X (q_rf X g 2) 4) ⟨by decide, by decide⟩ rfl (i := c 9 - 1) (by rw [ar_sub, f0, one, ar_wr (by omega) (by omega)]) (by omega) (by rw [n16]; omega)]
    exact top
  have de : (F_X5_get X σ (q_rf X (q_rf X g 0) 5) (σ.1 g 4)).toInt = m_I c (c 5) := (y_getI Y G w (id := 4) (r := q_rf X (q_rf X g 0) 5) ⟨by decide, by decide⟩ rfl f4 b5.1 (by rw [n4]; omega)).trans (Rg.2.2.2.2.2.2 _ b5.1 (by omega))
  have ud : m_U c q (c 5) = m_I c (c 5) - (c (34 + 10 * q + c 5) + m_A c q (c 5) (c 9).toNat) := rfl
  have df : (F_X5_get X σ (q_rf X (q_rf X g 0) 5) (σ.1 g 4) - F_X1_knownTo X σ (q_rf X g 1) v (σ.1 g 4)).toInt = m_U c q (c 5) := by
    rw [ar_sub, de, kn1, ← ud, ar_wr (by omega) (by omega)]
  have cls : (F_X0_isImpossibleFor X σ g v).toInt = if m_U c q (c 5) < c (94 + 7 * (c 9 - 1) + 2) then 1 else 0 := by
    unfold F_X0_isImpossibleFor
    rw [q_letE (σ.1 g 4), q_letE (F_X5_get X σ (q_rf X (q_rf X g 0) 5) (σ.1 g 4)), q_letE (σ.1 g 4), q_letE (F_X1_knownTo X σ (q_rf X g 1) v (σ.1 g 4)), q_letE (F_X5_get X σ (q_rf X (q_rf X g 0) 5) (σ.1 g 4) - F_X1_knownTo X σ (q_rf X g 1) v (σ.1 g 4)), q_letE (F_X2_topSize X σ (q_rf X g 2)), df, ts]
    split <;> rfl
  have ref : (F_X12_isImpossible X τ a v').toInt = if m_U c q (c 5) < c (94 + 7 * (c 9 - 1) + 2) then 1 else 0 := by
    have l1 : (τ.1 (q_rf X a 20) (9 : Int32).toNatClampNeg - 1).toInt = c 9 - 1 := by rw [ar_sub, g9, one, ar_wr (by omega) (by omega)]
    have l2 := gm_laid (X := X) (τ := τ) l1 ⟨by omega, by omega⟩
    have l3 : (τ.1 (q_rf X a 20) (F_X12_laid X τ (τ.1 (q_rf X a 20) (9 : Int32).toNatClampNeg - 1) + 2).toNatClampNeg).toInt = c (94 + 7 * (c 9 - 1) + 2) := gm_cell hc (by rw [ar_add, l2, e2, ar_wr (by omega) (by omega)])
    unfold F_X12_isImpossible
    rw [q_letE (τ.1 (q_rf X a 20) (5 : Int32).toNatClampNeg), q_letE (F_X12_unknownOf X τ a v' (τ.1 (q_rf X a 20) (5 : Int32).toNatClampNeg)), q_letE (τ.1 (q_rf X a 20) (9 : Int32).toNatClampNeg), q_letE (τ.1 (q_rf X a 20) (9 : Int32).toNatClampNeg - 1), q_letE (F_X12_laid X τ (τ.1 (q_rf X a 20) (9 : Int32).toNatClampNeg - 1)), q_letE (F_X12_laid X τ (τ.1 (q_rf X a 20) (9 : Int32).toNatClampNeg - 1) + 2), q_letE, kn2, l3]
    split <;> rfl
  rw [cls, ref]
  refine ⟨rfl, ?_⟩
  split
  · exact Or.inr rfl
  · exact Or.inl rfl
theorem pl_after (Y : y_S X lb) (G : y_G X lb g o) (hV : y_v X g σ = V) (Rg : rg V c) (hG : m_G c) (h2 : 1 ≤ c 2) {x y : Int32} {p k : Int} (hx : x.toInt = p) (hy : y.toInt = k) (hp : 0 ≤ p ∧ p < c 2) (hk : 0 ≤ k ∧ k ≤ 400) : (F_X6_playerAfter X σ (q_rf X g 0) x y).toInt = (p + k) % c 2 := by
  have b2 := hG.1.2.1
  have w := pl_W (lb := lb) (o := o) hV
  have e4 : (σ.1 (q_rf X g 0) 4).toInt = c 2 := (w.rd (id := 1) (by decide) 4 rfl).trans Rg.1.2.2.2.2.1
  unfold F_X6_playerAfter
  rw [q_letE (σ.1 (q_rf X g 0) 4), e4, if_pos (by omega), q_letE, q_letE, q_letE]
  exact gm_fm (by rw [ar_add, hx, hy, ar_wr (by omega) (by omega)]) e4 ⟨by omega, by omega⟩ ⟨by omega, by omega⟩
/-- how far the reference has to go yet -/
def pl_mq (p q : Int) : Nat := (p - q + 20 * min 1 (max 0 (q - p))).toNat
theorem pl_mqE (p q : Int) : pl_mq p q = (if p < q then p - q + 20 else p - q).toNat := by
  unfold pl_mq
  split
  · congr 1; omega
  · congr 1; omega
theorem pl_mqS {p q m : Int} (hp : 0 ≤ p ∧ p < m) (hq : 0 ≤ q ∧ q < m) (hm : m ≤ 6) (h : q ≠ p) : pl_mq p ((q + 1) % m) < pl_mq p q := by
  have e : (q + 1) % m = if q + 1 < m then q + 1 else 0 := by
    split
    · exact Int.emod_eq_of_lt (by omega) (by omega)
    · have e1 : q + 1 = m := by omega
      rw [e1]
      exact Int.emod_self
  rw [e, pl_mqE, pl_mqE]
  split <;> split <;> split <;> omega
/-- what is the same behind the draws -/
def pl_drawn (X : XW) (a R : Nat) (σ σ' τ τ' : ST) : Prop := tkl (fun b f => b = R ∧ f = 6) (fun _ _ => False) σ σ' ∧ tkl (fun b f => b = a ∧ f = 39) (fun _ _ => False) τ τ' ∧ σ'.1 R 6 = τ'.1 a 39
theorem pl_firstL (Y : y_S X lb) (G : y_G X lb g o) (ha : q_kd X a = 12) (hR : lb R / 8192 ≠ o) (Rg : rg V c) (hG : m_G c) (h9 : 1 ≤ c 9) (h2 : 2 ≤ c 2) {v1 : Int32} (hv : v1.toInt = c 6) (fu : Nat) : ∀ (fv : Nat) (x q : Int32) (σ τ : ST), (2147483647 - x.toInt).toNat < fu → pl_mq (c 6) q.toInt < fv → 1 ≤ x.toInt → x.toInt ≤ c 2 → q.toInt = (c 6 + x.toInt) % c 2 → y_v X g σ = V → m_c X τ a = c → σ.1 R 6 = τ.1 a 39 →
    ∃ (z : Int32) (σ' τ' : ST), F_X7_firstDoubter_L2_1 X g R fu x σ = (z, σ') ∧ pl_drawn X a R σ σ' τ τ' ∧
      ((z.toInt = -1 ∧ F_X12_turns_L189_5 X v1 a fv q τ = F_X12_turns_E271_6 X τ' a) ∨ ((0 ≤ z.toInt ∧ z.toInt < c 2) ∧ z.toInt ≠ c 6 ∧ ∃ z' : Int32, z'.toInt = z.toInt ∧ F_X12_turns_L189_5 X v1 a fv q τ = F_X12_turns_E224_7 X τ' a z' v1)) := by
  obtain ⟨b0, b2, b4, b5, b6, b7, b9, b79⟩ := id hG.1
  obtain ⟨n80, n8a, n0a⟩ := pl_k28 Y.1 ha
  have hp : 0 ≤ c 6 ∧ c 6 < c 2 := by omega
  have n11 : ((y_gn 11 : Nat) : Int) = 6 := rfl
  have e16 : (16 : Int32).toInt = 16 := rfl
  have v5 : V 0 5 = c 6 := by
    have z := Rg.2.1.2.1
    rw [if_neg (by omega)] at z
    exact z
  induction fu with
  | zero => intro fv x q σ τ h; exact absurd h (Nat.not_lt_zero _)
  | succ fu ih =>
    intro fv x q σ τ hf hfv x1 x2 hq hV hc hd
    obtain ⟨fv', efv⟩ : ∃ k, fv = k + 1 := ⟨fv - 1, by omega⟩
    subst efv
    have w := pl_W (lb := lb) (o := o) hV
    have pr := pl_round (x := x.toInt) hp ⟨x1, x2⟩
    rw [← hq] at pr
    have f4 : (σ.1 (q_rf X g 0) 4).toInt = c 2 := (w.rd (id := 1) (by decide) 4 rfl).trans Rg.1.2.2.2.2.1
    have f5 : (σ.1 g 5).toInt = c 6 := (w.rd (id := 0) (by decide) 5 rfl).trans v5
    rw [F_X7_firstDoubter_L2_1_s, F_X12_turns_L189_5_s]
    unfold F_X7_firstDoubter_B2_1 F_X12_turns_B189_5
    rw [q_letE (σ.1 (q_rf X g 0) 4), f4, hv]
    by_cases qe : x.toInt = c 2
    · rw [if_neg (by omega : ¬ x.toInt < c 2), if_pos (pr.1.mpr qe)]
      exact ⟨-1, σ, τ, rfl, ⟨tkl.rf, tkl.rf, hd⟩, Or.inl ⟨rfl, rfl⟩⟩
    · have xl : x.toInt < c 2 := by omega
      have qn : q.toInt ≠ c 6 := fun e => qe (pr.1.mp e)
      have pa : (F_X6_playerAfter X σ (q_rf X g 0) (σ.1 g 5) x).toInt = q.toInt := (pl_after Y G hV Rg hG (by omega) f5 rfl hp ⟨by omega, by omega⟩).trans hq.symm
      rw [if_pos xl, if_neg qn, q_letE (σ.1 g 5), q_letE (F_X6_playerAfter X σ (q_rf X g 0) (σ.1 g 5) x)]
      obtain ⟨y, ey⟩ : ∃ y, y = F_X6_playerAfter X σ (q_rf X g 0) (σ.1 g 5) x := ⟨_, rfl⟩
      rw [← ey] at pa ⊢
      obtain ⟨im, im01⟩ := pl_imp (X := X) (τ := τ) (a := a) Y G hV Rg hG hc h9 pa (rfl : q.toInt = q.toInt) pr.2
      rw [q_letE (F_X0_isImpossibleFor X σ g y), im, q_letE (F_X12_isImpossible X τ a q)]
      by_cases qi : (F_X12_isImpossible X τ a q).toInt = 0
      · obtain ⟨d, s, d1, d2⟩ := pl_draw (X := X) (a := a) (R := R) hd
        have vs : y_v X g (q_si σ R 6 s) = V := (pl_vR Y G hR 6 s).trans hV
        have ms : m_c X (q_si τ a 39 s) a = c := (mv_cell Y.1 ha 39 s).trans hc
        have f14 : (F_X5_get X (q_si σ R 6 s) (q_rf X (q_rf X g 1) 4) y).toInt = c (16 + q.toInt) := by
          rw [y_getI Y G (pl_W (lb := lb) (o := o) vs) (id := 11) (r := q_rf X (q_rf X g 1) 4) ⟨by decide, by decide⟩ rfl pa pr.2.1 (by rw [n11]; omega)]
          exact (Rg.2.2.1 q.toInt pr.2.1 (by omega)).2.1
        have g58 : ((q_si τ a 39 s).1 (q_rf X a 20) ((16 : Int32) + q).toNatClampNeg).toInt = c (16 + q.toInt) := gm_cell (A := 16 + q.toInt) ms (by rw [ar_add, e16, ar_wr (by omega) (by omega)])
        have t1 : tkl (fun b f => b = R ∧ f = 6) (fun _ _ => False) σ (q_si σ R 6 s) := tkl.rf.si _ ⟨rfl, rfl⟩
        have t2 : tkl (fun b f => b = a ∧ f = 39) (fun _ _ => False) τ (q_si τ a 39 s) := tkl.rf.si _ ⟨rfl, rfl⟩
        have hd' : (q_si σ R 6 s).1 R 6 = (q_si τ a 39 s).1 a 39 := by rw [si_eq, si_eq]
        rw [if_pos qi, if_pos qi, d1, q_biP d (q_si σ R 6 s), d2, q_biP d (q_si τ a 39 s)]
        obtain ⟨σs, es⟩ : ∃ t, t = q_si σ R 6 s := ⟨_, rfl⟩
        obtain ⟨τs, us⟩ : ∃ t, t = q_si τ a 39 s := ⟨_, rfl⟩
        rw [← es] at vs f14 t1 hd' ⊢
        rw [← us] at ms g58 t2 hd' ⊢
        rw [q_letE (F_X5_get X σs (q_rf X (q_rf X g 1) 4) y), f14, q_letE ((16 : Int32) + q), q_letE (τs.1 (q_rf X a 20) ((16 : Int32) + q).toNatClampNeg), g58]
        by_cases qd : d.toInt < c (16 + q.toInt)
        · rw [if_pos qd, if_pos qd]
          exact ⟨y, σs, τs, rfl, ⟨t1, t2, hd'⟩, Or.inr ⟨by rw [pa]; exact pr.2, by rw [pa]; exact qn, q, pa.symm, rfl⟩⟩
        · have x1' : (x + 1).toInt = x.toInt + 1 := y_inc (by omega)
          have bq := gm_behindOf (X := X) ms b2 (rfl : q.toInt = q.toInt) pr.2
          rw [if_neg qd, if_neg qd, q_letE (x + 1), q_letE (F_X12_behindOf X τs a q)]
          obtain ⟨z, σ', τ', i1, ⟨i2, i3, i4⟩, i5⟩ := ih fv' (x + 1) (F_X12_behindOf X τs a q) σs τs (by omega) (by
            rw [bq]
            have := pl_mqS hp pr.2 b2.2 qn
            omega) (by omega) (by omega) (by rw [bq, hq, x1']; exact pl_add1 (by omega) hp (by omega)) vs ms hd'
          exact ⟨z, σ', τ', i1, ⟨t1.tr i2, t2.tr i3, i4⟩, i5⟩
      · rw [if_neg qi, if_neg qi]
        exact ⟨y, σ, τ, rfl, ⟨tkl.rf, tkl.rf, hd⟩, Or.inr ⟨by rw [pa]; exact pr.2, by rw [pa]; exact qn, q, pa.symm, rfl⟩⟩
end PC

/-! FROM 49zo.turn.lean.txt -/
/-! A ROUND PLAYED: a turn in both -/
def pl_cnt (a R : Nat) (σ τ : ST) : Prop := σ.1 R 6 = τ.1 a 39 ∧ σ.1 R 2 = τ.1 a 42 ∧ σ.1 R 3 = τ.1 a 43 ∧ σ.1 R 4 = τ.1 a 44
/-- both games the same, and what stays -/
def pl_gm (X : XW) (g a : Nat) (σ' τ' : ST) (V : Nat → Int → Int) (c : Int → Int) (n : Int) : Prop := ∃ (V' : Nat → Int → Int) (c' : Int → Int), y_v X g σ' = V' ∧ m_c X τ' a = c' ∧ rg V' c' ∧ m_G c' ∧ m_W c' n ∧ pl_fix V V' c c'
def pl_turned (X : XW) (lb : Nat → Nat) (g o a R : Nat) (σ σ' τ τ' : ST) (V : Nat → Int → Int) (c : Int → Int) (n : Int) (z : Int32) : Prop :=
  tkl (pl_Sc lb o R) (fun _ _ => False) σ σ' ∧ tkl (pl_Sr X a) (fun _ _ => False) τ τ' ∧ pl_cnt a R σ' τ' ∧ σ'.1 R 1 = (if z.toInt = 0 then σ.1 R 1 + 1 else σ.1 R 1) ∧ pl_gm X g a σ' τ' V c (n + 1)
section PD
variable {X : XW} {lb : Nat → Nat} {g o a R : Nat} {σ σ' τ τ' σ0 τ0 : ST} {V V' : Nat → Int → Int} {c : Int → Int} {n : Int}
theorem pl_20 : ∀ {τ τ' : ST}, tkl (fun b _ => b = q_rf X a 20) (fun _ _ => False) τ τ' → tkl (pl_Sr X a) (fun _ _ => False) τ τ' := fun h => h.mono (fun _ _ z => Or.inl z) (fun _ _ z => z)
theorem pl_top (Y : y_S X lb) (G : y_G X lb g o) (hV : y_v X g σ = V) (Rg : rg V c) (hG : m_G c) (hc : m_c X τ a = c) (h9 : 1 ≤ c 9) : (F_X2_topTruth X σ (q_rf X g 2)).toInt = (F_X12_sortOf X τ a (τ.1 (q_rf X a 20) (9 : Int32).toNatClampNeg - 1)).toInt := by
  have b9 := hG.1.2.2.2.2.2.2.1
  have w := pl_W (lb := lb) (o := o) hV
  have one : (1 : Int32).toInt = 1 := rfl
  have f0 : (σ.1 (q_rf X g 2) 0).toInt = c 9 := (w.rd (id := 2) (by decide) 0 rfl).trans Rg.2.2.2.2.1.1
  have g9 : (τ.1 (q_rf X a 20) (9 : Int32).toNatClampNeg).toInt = c 9 := gm_cell (A := 9) hc rfl
  unfold F_X2_topTruth
  rw [q_letE (σ.1 (q_rf X g 2) 0), q_letE (σ.1 (q_rf X g 2) 0 - 1), q_letE]
  exact (rg.sort Y G w Rg hG hc (k := c 9 - 1) (by rw [ar_sub, f0, one, ar_wr (by omega) (by omega)]) (by rw [ar_sub, g9, one, ar_wr (by omega) (by omega)]) ⟨by omega, by omega⟩).1
theorem pl_Wd {c c' : Int → Int} {t P kd tn W u : Int} (h : m_W c n) (hP : 0 ≤ P ∧ P < 6) (r : gd_C c c' t P kd tn W u) (ht : 0 ≤ t) (hu : u = 0 ∨ u = 1) : m_W c' (n + 1) := by
  intro q q0 q1
  have hq := h q q0 q1
  by_cases e : q = P
  · have e1 := r.2.2.1
    have e2 := r.2.2.2.1
    rw [e] at hq ⊢
    omega
  · have e1 := r.1 (22 + q) (by omega) (by omega) (by omega) (by omega) (by omega) (by omega) (by omega) (by omega) (by omega)
    have e2 := r.1 (28 + q) (by omega) (by omega) (by omega) (by omega) (by omega) (by omega) (by omega) (by omega) (by omega)
    omega
/-- left, or doubted -/
theorem pl_leave (Y : y_S X lb) (G : y_G X lb g o) (ha : q_kd X a = 12) (hR : lb R / 8192 ≠ o) (hV : y_v X g σ = V) (Rg : rg V c) (hG : m_G c) (hW : m_W c n) (hc : m_c X τ a = c) (h7 : c 7 = 1) (K : pl_cnt a R σ τ) :
    tkl (pl_Sc lb o R) (fun _ _ => False) σ (F_X0_letLie X σ g) ∧ tkl (pl_Sr X a) (fun _ _ => False) τ (F_X12_leaves X τ a) ∧ pl_cnt a R (F_X0_letLie X σ g) (F_X12_leaves X τ a) ∧ (∀ f, (F_X0_letLie X σ g).1 R f = σ.1 R f) ∧ pl_gm X g a (F_X0_letLie X σ g) (F_X12_leaves X τ a) V c n := by
  obtain ⟨n80, n8a, n0a⟩ := pl_k28 Y.1 ha
  obtain ⟨V', c', w', m', t', R', hV', hc', G'⟩ := gm_letLie Y G ha (pl_W (lb := lb) (o := o) hV) Rg hG hc h7
  have kr : ∀ f, (F_X0_letLie X σ g).1 R f = σ.1 R f := fun f => w'.1 R hR f
  have kt : ∀ f, (F_X12_leaves X τ a).1 a f = τ.1 a f := fun f => t'.1 a f (fun e => n0a e.symm)
  refine ⟨pl_Wt w', pl_20 t', ?_, kr, V', c', w'.2.2, m', R', G', m_W.ext (fun j j0 j1 => hc' j (by omega) (by omega) (by omega) (by omega)) hW, fun id i h => hV' id i (by omega), fun j j0 h => hc' j (by omega) (by omega) (by omega) (by omega)⟩
  unfold pl_cnt
  rw [kr, kr, kr, kr, kt, kt, kt, kt]
  exact K
theorem pl_doubt (Y : y_S X lb) (G : y_G X lb g o) (ha : q_kd X a = 12) (hR : lb R / 8192 ≠ o) (hV : y_v X g σ = V) (Rg : rg V c) (hG : m_G c) (hW : m_W c n) (hn : n ≤ 900000) (hc : m_c X τ a = c) (h7 : c 7 = 1) (h9 : 1 ≤ c 9) (K : pl_cnt a R σ τ) {v v' v1 : Int32} (hv : v'.toInt = v.toInt) (hq : 0 ≤ v.toInt ∧ v.toInt < c 2) (hne : v.toInt ≠ c 6) (hv1 : v1.toInt = c 6) {f3 : Int32} (ef3 : f3 = σ.1 R 3 + 1) (A B : ST → ST)
    (eA : ∀ s, A s = q_bi (F_X0_challenge X s g v) (fun _ s' => s')) (eB : ∀ s, B s = q_let (s.1 R 4) (fun f => q_let (f + 1) (fun z => q_let (q_si s R 4 z) (fun s' => q_bi (F_X0_challenge X s' g v) (fun _ s2 => s2))))) :
    ∃ (σ' τ' : ST), (if (F_X2_topTruth X (q_si σ R 3 f3) (q_rf X g 2)).toInt = 0 then A (q_si σ R 3 f3) else B (q_si σ R 3 f3)) = σ' ∧ F_X12_turns_E224_7 X τ a v' v1 = (1, τ') ∧ tkl (pl_Sc lb o R) (fun _ _ => False) σ σ' ∧ tkl (pl_Sr X a) (fun _ _ => False) τ τ' ∧ pl_cnt a R σ' τ' ∧ σ'.1 R 1 = σ.1 R 1 ∧ pl_gm X g a σ' τ' V c (n + 1) := by
  obtain ⟨b0, b2, b4, b5, b6, b7, b9, b79⟩ := id hG.1
  obtain ⟨n80, n8a, n0a⟩ := pl_k28 Y.1 ha
  obtain ⟨K6, K2, K3, K4⟩ := K
  have na0 : a ≠ q_rf X a 20 := fun e => n0a e.symm
  have hWW : ∀ q : Int, 0 ≤ q → q < 6 → (0 ≤ c (22 + q) ∧ c (22 + q) ≤ 1000000) ∧ 0 ≤ c (28 + q) ∧ c (28 + q) ≤ 1000000 := fun q q0 q1 => by
    have := hW q q0 q1
    omega
  -- the reference
  have m1 : m_c X (q_si τ a 43 f3) a = c := (mv_cell Y.1 ha 43 f3).trans hc
  have e43 : τ.1 a 43 + 1 = f3 := by rw [ef3, K3]
  have e44 : (q_si τ a 43 f3).1 a 44 = τ.1 a 44 := si_f (by decide) _
  have c1 : tkl (pl_Sc lb o R) (fun _ _ => False) σ (q_si σ R 3 f3) := tkl.rf.si _ (Or.inr ⟨rfl, by decide, by decide, by decide⟩)
  have v1' : y_v X g (q_si σ R 3 f3) = V := (pl_vR Y G hR 3 f3).trans hV
  have r1 : ∀ f, f ≠ 3 → (q_si σ R 3 f3).1 R f = σ.1 R f := fun f h => si_f h _
  have s3 : (q_si σ R 3 f3).1 R 3 = f3 := si_eq _ _ _ _
  obtain ⟨σ1, es⟩ : ∃ s, s = q_si σ R 3 f3 := ⟨_, rfl⟩
  obtain ⟨τ1, et⟩ : ∃ s, s = q_si τ a 43 f3 := ⟨_, rfl⟩
  have T1 : tkl (pl_Sr X a) (fun _ _ => False) τ τ1 := by
    rw [et]
    exact tkl.rf.si _ (Or.inr (Or.inr ⟨rfl, Or.inr ⟨by decide, by decide⟩⟩))
  have tt1 : ∀ f, f ≠ 43 → τ1.1 a f = τ.1 a f := fun f h => by rw [et]; exact si_f h _
  have t43 : τ1.1 a 43 = f3 := by rw [et]; exact si_eq _ _ _ _
  rw [← es] at c1 v1' r1 s3 ⊢
  rw [← et] at m1 e44
  have tp := pl_top Y G v1' Rg hG m1 h9
  have ref : ∀ (z : Int32) (τ2 : ST), F_X12_doubts X τ1 a v' = (z, τ2) → F_X12_turns_E224_7 X τ a v' v1 = (1, q_si τ2 a 44 (if z.toInt = c 6 then τ.1 a 44 + 1 else τ.1 a 44)) := by
    intro z τ2 h
    unfold F_X12_turns_E224_7
    rw [q_letE (τ.1 a 43), e43, q_letE f3, q_letE (q_si τ a 43 f3), ← et, q_letE (τ1.1 a 44), h, q_biP z τ2, hv1, e44]
    by_cases q : z.toInt = c 6
    · rw [if_pos q, if_pos q, q_letE, q_letE]
    · rw [if_neg q, if_neg q, q_letE, q_letE]
      congr 2
      exact Int32.add_zero _
  have key : ∀ (σ2 : ST) (s : Int32), y_v X g σ2 = V → tkl (pl_Sc lb o R) (fun _ _ => False) σ σ2 → (∀ f, f ≠ 4 → σ2.1 R f = σ1.1 R f) → σ2.1 R 4 = s → (F_X2_topTruth X σ2 (q_rf X g 2)).toInt = (F_X12_sortOf X τ1 a (τ1.1 (q_rf X a 20) (9 : Int32).toNatClampNeg - 1)).toInt → s = (if (F_X2_topTruth X σ2 (q_rf X g 2)).toInt = 0 then σ.1 R 4 else σ.1 R 4 + 1) →
      ∃ (σ' τ' : ST), q_bi (F_X0_challenge X σ2 g v) (fun _ s' => s') = σ' ∧ F_X12_turns_E224_7 X τ a v' v1 = (1, τ') ∧ tkl (pl_Sc lb o R) (fun _ _ => False) σ σ' ∧ tkl (pl_Sr X a) (fun _ _ => False) τ τ' ∧ pl_cnt a R σ' τ' ∧ σ'.1 R 1 = σ.1 R 1 ∧ pl_gm X g a σ' τ' V c (n + 1) := by
    intro σ2 s y2 x2 x3 x4 x5 x6
    obtain ⟨z, z', σ3, τ3, V3, c3, t, P, kd, tn, W, u, d1, d2, d3, d4, d5, d6, d7, d8, d9, d10, d11, d12, d13, d14, d15⟩ := gm_doubt2 Y G (pl_W (lb := lb) (o := o) y2) Rg m1 hG h7 hWW (v := v) (v' := v') rfl hv hq
    rw [d1, q_biP z σ3]
    have rr := ref z' τ3 d2
    have kr : ∀ f, σ3.1 R f = σ2.1 R f := fun f => d6.1 R hR f
    have kt : ∀ f, τ3.1 a f = τ1.1 a f := fun f => d8.1 a f na0
    obtain ⟨y, ey⟩ : ∃ y, y = if z'.toInt = c 6 then τ.1 a 44 + 1 else τ.1 a 44 := ⟨_, rfl⟩
    rw [← ey] at rr
    have ys : s = y := by
      rw [x6, ey, d4, K4]
      by_cases q : (F_X2_topTruth X σ2 (q_rf X g 2)).toInt = 0
      · rw [if_pos q, if_neg (fun e => by
          have := d14.mp (e.trans d13.symm)
          rcases this with k | k
          · exact k q
          · exact hne (k.trans d13))]
      · rw [if_neg q, if_pos ((d14.mpr (Or.inl q)).trans d13)]
    have t0 : 0 ≤ t := by rcases d5 with e | e <;> omega
    refine ⟨σ3, q_si τ3 a 44 y, rfl, rr, x2.tr (pl_Wt d6), (T1.tr (pl_20 d8)).si _ (Or.inr (Or.inr ⟨rfl, Or.inr ⟨by decide, by decide⟩⟩)), ⟨?_, ?_, ?_, ?_⟩, ?_, V3, c3, d6.2.2, (mv_cell Y.1 ha 44 y).trans d7, d9, d10, pl_Wd hW (by omega) d12 t0 d15, fun id i h => d11.1 id i (by omega) (by omega) (by omega) (by omega) (by omega) (by omega) (by omega), fun j j0 h => d12.1 j j0 (by omega) (by omega) (by omega) (by omega) (by omega) (by omega) (by omega) (by omega)⟩
    · rw [kr, x3 6 (by decide), r1 6 (by decide), si_f (by decide), kt, tt1 39 (by decide), K6]
    · rw [kr, x3 2 (by decide), r1 2 (by decide), si_f (by decide), kt, tt1 42 (by decide), K2]
    · rw [kr, x3 3 (by decide), s3, si_f (by decide), kt, t43]
    · rw [kr, x4, si_eq, ys]
    · rw [kr, x3 1 (by decide), r1 1 (by decide)]
  by_cases q : (F_X2_topTruth X σ1 (q_rf X g 2)).toInt = 0
  · rw [if_pos q, eA]
    exact key σ1 _ v1' c1 (fun _ _ => rfl) (r1 4 (by decide)) tp (by rw [if_pos q])
  · rw [if_neg q, eB, q_letE (σ1.1 R 4), q_letE (σ1.1 R 4 + 1), q_letE (q_si σ1 R 4 (σ1.1 R 4 + 1))]
    have v2' : y_v X g (q_si σ1 R 4 (σ1.1 R 4 + 1)) = V := (pl_vR Y G hR 4 _).trans v1'
    have tp2 := pl_top Y G v2' Rg hG m1 h9
    refine key _ _ v2' (c1.si _ (Or.inr ⟨rfl, by decide, by decide, by decide⟩)) (fun f h => si_f h _) (si_eq _ _ _ _) tp2 ?_
    rw [if_neg (by rw [tp2, ← tp]; exact q), r1 4 (by decide)]
/-- what comes behind what was left before -/
theorem pl_turnJ (Y : y_S X lb) (G : y_G X lb g o) (ha : q_kd X a = 12) (hR : lb R / 8192 ≠ o) (hV : y_v X g σ = V) (Rg : rg V c) (hG : m_G c) (hW : m_W c n) (hn : n ≤ 900000) (hc : m_c X τ a = c) (K : pl_cnt a R σ τ) :
    ∃ (z : Int32) (σ' τ' : ST), F_X7_takeTurn_J11_1 X g R σ = σ' ∧ F_X12_turns_J15_1 X a τ = (z, τ') ∧ pl_turned X lb g o a R σ σ' τ τ' V c n z := by
  obtain ⟨b0, b2, b4, b5, b6, b7, b9, b79⟩ := id hG.1
  obtain ⟨n80, n8a, n0a⟩ := pl_k28 Y.1 ha
  obtain ⟨K6, K2, K3, K4⟩ := id K
  have na0 : a ≠ q_rf X a 20 := fun e => n0a e.symm
  have gn9 : ((y_gn 9 : Nat) : Int) = 6 := rfl
  have w := pl_W (lb := lb) (o := o) hV
  have s3 := Rg.2.1.2.2.1
  have f6 : (σ.1 g 6).toInt = c 8 := (w.rd (id := 0) (by decide) 6 rfl).trans s3.1
  have f4 : (σ.1 (q_rf X g 0) 4).toInt = c 2 := (w.rd (id := 1) (by decide) 4 rfl).trans Rg.1.2.2.2.2.1
  have g8 : (τ.1 (q_rf X a 20) (8 : Int32).toNatClampNeg).toInt = c 8 := gm_cell (A := 8) hc rfl
  have g2 : (τ.1 (q_rf X a 20) (2 : Int32).toNatClampNeg).toInt = c 2 := gm_cell (A := 2) hc rfl
  have g6 : (τ.1 (q_rf X a 20) (6 : Int32).toNatClampNeg).toInt = c 6 := gm_cell (A := 6) hc rfl
  have missed : ∀ z : Int32, z.toInt = 0 → pl_turned X lb g o a R σ (q_si σ R 1 (σ.1 R 1 + 1)) τ τ V c n z := by
    intro z hz
    refine ⟨tkl.rf.si _ (Or.inr ⟨rfl, by decide, by decide, by decide⟩), tkl.rf, ⟨?_, ?_, ?_, ?_⟩, ?_, V, c, (pl_vR Y G hR 1 _).trans hV, hc, Rg, hG, hW.le (by omega), pl_fix.rf⟩
    · rw [si_f (by decide)]; exact K6
    · rw [si_f (by decide)]; exact K2
    · rw [si_f (by decide)]; exact K3
    · rw [si_f (by decide)]; exact K4
    · rw [if_pos hz, si_eq]
  unfold F_X7_takeTurn_J11_1 F_X12_turns_J15_1
  rw [q_letE (σ.1 g 6), f6, q_letE (τ.1 (q_rf X a 20) (8 : Int32).toNatClampNeg), g8]
  by_cases q8 : ¬ c 8 = -1
  · rw [if_neg q8, if_neg (by omega : ¬ c 8 < 0), q_letE (σ.1 R 1), q_letE (σ.1 R 1 + 1), q_letE (q_si σ R 1 (σ.1 R 1 + 1))]
    exact ⟨0, _, τ, rfl, rfl, missed 0 rfl⟩
  have q8' := Classical.not_not.mp q8
  rw [if_pos q8', if_pos (by omega : c 8 < 0), q_letE (σ.1 (q_rf X g 0) 4), f4, q_letE (τ.1 (q_rf X a 20) (2 : Int32).toNatClampNeg), g2]
  by_cases q2 : c 2 < 2
  · rw [if_pos q2, if_pos q2, q_letE (σ.1 R 1), q_letE (σ.1 R 1 + 1), q_letE (q_si σ R 1 (σ.1 R 1 + 1))]
    exact ⟨0, _, τ, rfl, rfl, missed 0 rfl⟩
  have hp : 0 ≤ c 6 ∧ c 6 < 6 := by omega
  have v5 : V 0 5 = c 6 := by
    have z := Rg.2.1.2.1
    rw [if_neg (by omega)] at z
    exact z
  have f5 : (σ.1 g 5).toInt = c 6 := (w.rd (id := 0) (by decide) 5 rfl).trans v5
  have f9 : (F_X5_get X σ (q_rf X (q_rf X g 1) 2) (σ.1 g 5)).toInt = m_S c (34 + 10 * c 6) 10 := (y_getI Y G w (id := 9) (r := q_rf X (q_rf X g 1) 2) ⟨by decide, by decide⟩ rfl f5 hp.1 (by rw [gn9]; exact hp.2)).trans (Rg.2.2.2.1.2 (c 6) hp.1 hp.2)
  have g9 := gm_cardsOf (X := X) hc hG g6 hp
  rw [if_neg q2, if_neg q2, q_letE (σ.1 g 5), q_letE (F_X5_get X σ (q_rf X (q_rf X g 1) 2) (σ.1 g 5)), f9, q_letE (τ.1 (q_rf X a 20) (6 : Int32).toNatClampNeg), q_letE (F_X12_cardsOf X τ a (τ.1 (q_rf X a 20) (6 : Int32).toNatClampNeg)), g9]
  by_cases qS : m_S c (34 + 10 * c 6) 10 = 0
  · rw [if_pos qS, if_pos qS, q_letE (σ.1 R 1), q_letE (σ.1 R 1 + 1), q_letE (q_si σ R 1 (σ.1 R 1 + 1))]
    exact ⟨0, _, τ, rfl, rfl, missed 0 rfl⟩
  rw [if_neg qS, if_neg qS, q_letE (τ.1 (q_rf X a 20) (6 : Int32).toNatClampNeg)]
  obtain ⟨v1, ev1⟩ : ∃ v, v = τ.1 (q_rf X a 20) (6 : Int32).toNatClampNeg := ⟨_, rfl⟩
  rw [← ev1] at g6 ⊢
  -- what is laid
  obtain ⟨σ1, τ1, l, x1, x2, t1, r1, d1, ⟨V1, hV1, kV1, l1⟩, u1, m1, of1, lo⟩ := pl_choose Y G ha hR hV Rg hG hc K6 (by omega) qS g6
  rw [q_letE (F_X7_choose X σ R g), x1, x2]
  have R1 : rg V1 c := Rg.w hG (fun id i i1 i2 i3 => kV1 id i i1 (by omega))
  have b79' := lo.c9
  have s80 := hG.S80 (p := c 6) (k := 10) hp.1 hp.2 (by decide) (by decide)
  have z10 : m_S c (34 + 10 * c 6) (10 : Int).toNat = m_S c (34 + 10 * c 6) 10 := rfl
  have l80 := hG.L80 b9.1 (Int.le_refl (c 9))
  have gp : gl_p V1 l (c 6) (c 9) (c 0) := by
    refine ⟨(kV1 0 5 (by decide) (Or.inr (by decide))).trans v5, R1.1.1, hp, ⟨by omega, by omega⟩, ⟨by omega, by omega⟩, fun t a0 a1 => ⟨l1 t a0 a1, (lo.2.2.1 t a0 a1).1⟩, lo.2.2.2.2, ?_, fun t a0 a1 => ⟨?_, ?_⟩, ?_⟩
    · rw [R1.2.2.2.2.1.2.1]; omega
    · rw [R1.2.2.2.1.1 (10 * c 6 + t) (by omega) (by omega)]
      have := hG.h80 (p := c 6) (k := t) hp.1 hp.2 a0 a1
      have e : (34 : Int) + (10 * c 6 + t) = 34 + 10 * c 6 + t := by omega
      rw [e]
      omega
    · rw [R1.2.2.2.2.2.1 (c 6) t hp.1 hp.2 a0 a1]
      have := hG.A_bd (c 6) t (c 9).toNat (by omega)
      omega
    · rw [R1.2.2.2.1.2 (c 6) hp.1 hp.2]; omega
  obtain ⟨V5, w5, gv⟩ := gm_layWanted Y G (pl_W (lb := lb) (o := o) hV1) gp R1.2.2.2.2.1.1
  unfold F_X12_turns_J163_4
  obtain ⟨c5, mc, tc, gr, gG⟩ := gm_laysDown (X := X) (τ := τ1) Y.1 ha m1 lo rfl (v1 := v1) g6 of1
  rw [q_letE (F_X0_layWanted X σ1 g), q_letE (F_X12_laysDown X τ1 a v1 (q_rf X a 28))]
  obtain ⟨σ5, e5⟩ : ∃ t, t = F_X0_layWanted X σ1 g := ⟨_, rfl⟩
  obtain ⟨τ5, u5⟩ : ∃ t, t = F_X12_laysDown X τ1 a v1 (q_rf X a 28) := ⟨_, rfl⟩
  rw [← e5] at w5 ⊢
  rw [← u5] at mc tc ⊢
  have R5 := rg.lay R1 lo rfl gv gr
  have hV5 : y_v X g σ5 = y_up V5 0 7 1 := w5.2.2
  obtain ⟨V6, e6⟩ : ∃ v, v = y_up V5 0 7 1 := ⟨_, rfl⟩
  rw [← e6] at R5 hV5
  have c57 : c5 7 = 1 := gr.2.2.2.2.2.2.1
  have c59 : c5 9 = c 9 + 1 := gr.2.2.2.2.2.1
  have c5j : ∀ j : Int, 0 ≤ j → j < 34 → j ≠ 7 → j ≠ 9 → c5 j = c j := fun j j0 j1 j2 j3 => gr.1 j j0 (by omega) (by omega) j3 j2
  have fx5 : pl_fix V V6 c c5 := by
    refine ⟨fun id i h => ?_, fun j j0 h => gr.1 j j0 (by omega) (by omega) (by omega) (by omega)⟩
    rw [e6, y_up_ne (by omega), gv.1 id i (by omega) (by omega) (by omega) (by omega) (by omega) (by omega) (by omega) (by omega)]
    exact kV1 id i (by omega) (by omega)
  have W5 : m_W c5 n := m_W.ext (fun j j0 j1 => c5j j (by omega) j1 (by omega) (by omega)) hW
  have c52 : c5 2 = c 2 := c5j 2 (by decide) (by decide) (by decide) (by decide)
  have c56 : c5 6 = c 6 := c5j 6 (by decide) (by decide) (by decide) (by decide)
  have kr5 : ∀ f, σ5.1 R f = σ1.1 R f := fun f => w5.1 R hR f
  have kt5 : ∀ f, τ5.1 a f = τ1.1 a f := fun f => tc.1 a f na0
  have kt1 : ∀ f, f ≠ 39 → τ1.1 a f = τ.1 a f := fun f h => u1.1 a f (fun z => by
    rcases z with z | z
    · exact n8a z.symm
    · exact h z.2)
  have T5 : tkl (pl_Sr X a) (fun _ _ => False) τ τ5 := (u1.mono (fun b f z => by
    rcases z with z | z
    · exact Or.inr (Or.inl z)
    · exact Or.inr (Or.inr ⟨z.1, Or.inl z.2⟩)) (fun _ _ z => z)).tr (pl_20 tc)
  have S5 : tkl (pl_Sc lb o R) (fun _ _ => False) σ σ5 := t1.tr (pl_Wt w5)
  -- one laying more
  have y42 : σ5.1 R 2 = τ5.1 a 42 := by rw [kr5, kt5, r1 2 (by decide), kt1 42 (by decide), K2]
  obtain ⟨m2, em2⟩ : ∃ m, m = τ5.1 a 42 + 1 := ⟨_, rfl⟩
  rw [q_letE (σ5.1 R 2), y42, q_letE (τ5.1 a 42), ← em2, q_letE m2, q_letE (q_si σ5 R 2 m2), q_letE m2, q_letE (q_si τ5 a 42 m2)]
  have hV6 : y_v X g (q_si σ5 R 2 m2) = V6 := (pl_vR Y G hR 2 m2).trans hV5
  have mc6 : m_c X (q_si τ5 a 42 m2) a = c5 := (mv_cell Y.1 ha 42 m2).trans mc
  have K6' : pl_cnt a R (q_si σ5 R 2 m2) (q_si τ5 a 42 m2) := by
    refine ⟨?_, by rw [si_eq, si_eq], ?_, ?_⟩
    · rw [si_f (by decide), si_f (by decide), kr5, kt5, d1]
    · rw [si_f (by decide), si_f (by decide), kr5, kt5, r1 3 (by decide), kt1 43 (by decide), K3]
    · rw [si_f (by decide), si_f (by decide), kr5, kt5, r1 4 (by decide), kt1 44 (by decide), K4]
  have R1' : (q_si σ5 R 2 m2).1 R 1 = σ.1 R 1 := by rw [si_f (by decide), kr5, r1 1 (by decide)]
  have S6 : tkl (pl_Sc lb o R) (fun _ _ => False) σ (q_si σ5 R 2 m2) := S5.si _ (Or.inr ⟨rfl, by decide, by decide, by decide⟩)
  have T6 : tkl (pl_Sr X a) (fun _ _ => False) τ (q_si τ5 a 42 m2) := T5.si _ (Or.inr (Or.inr ⟨rfl, Or.inr ⟨by decide, by decide⟩⟩))
  obtain ⟨σ6, es6⟩ : ∃ t, t = q_si σ5 R 2 m2 := ⟨_, rfl⟩
  obtain ⟨τ6, et6⟩ : ∃ t, t = q_si τ5 a 42 m2 := ⟨_, rfl⟩
  rw [← es6] at hV6 K6' R1' S6 ⊢
  rw [← et6] at mc6 K6' T6 ⊢
  -- who doubts
  have bq := gm_behindOf (X := X) mc6 (by rw [c52]; exact b2) (x := v1) (p := c5 6) (by rw [c56]; exact g6) (by rw [c56, c52]; omega)
  rw [q_letE (F_X12_behindOf X τ6 a v1)]
  obtain ⟨q, eq⟩ : ∃ q, q = F_X12_behindOf X τ6 a v1 := ⟨_, rfl⟩
  rw [← eq] at bq ⊢
  have one : (1 : Int32).toInt = 1 := rfl
  obtain ⟨z, σ7, τ7, y1, ⟨y2, y3, y4⟩, y5⟩ := pl_firstL (R := R) Y G ha hR R5 gG (by rw [c59]; omega) (by rw [c52]; omega) (v1 := v1) (by rw [c56]; exact g6) ((2147483647 - (1 : Int32).toInt).toNat + 1) ((v1.toInt - q.toInt + 20 * min 1 (max 0 (q.toInt - v1.toInt))).toNat + 1) 1 q σ6 τ6 (Nat.lt_succ_self _) (by
      rw [g6, c56]
      exact Nat.lt_succ_self _) (by decide) (by rw [one, c52]; omega) (by rw [bq, one]) hV6 mc6 K6'.1
  have fd : F_X7_firstDoubter X σ6 R g = (z, σ7) := y1
  rw [fd, q_biP z σ7]
  have hV7 : y_v X g σ7 = V6 := (pl_vt Y G hR y2).trans hV6
  have mc7 : m_c X τ7 a = c5 := (pl_mc (fun f => y3.1 _ f (fun e => n0a e.1))).trans mc6
  have kr7 : ∀ f, f ≠ 6 → σ7.1 R f = σ6.1 R f := fun f h => y2.1 R f (fun e => h e.2)
  have kt7 : ∀ f, f ≠ 39 → τ7.1 a f = τ6.1 a f := fun f h => y3.1 a f (fun e => h e.2)
  have K7 : pl_cnt a R σ7 τ7 := by
    refine ⟨y4, ?_, ?_, ?_⟩
    · rw [kr7 2 (by decide), kt7 42 (by decide)]; exact K6'.2.1
    · rw [kr7 3 (by decide), kt7 43 (by decide)]; exact K6'.2.2.1
    · rw [kr7 4 (by decide), kt7 44 (by decide)]; exact K6'.2.2.2
  have S7 : tkl (pl_Sc lb o R) (fun _ _ => False) σ σ7 := S6.tr (y2.mono (fun b f e => Or.inr ⟨e.1, by rw [e.2]; decide⟩) (fun _ _ e => e))
  have T7 : tkl (pl_Sr X a) (fun _ _ => False) τ τ7 := T6.tr (y3.mono (fun b f e => Or.inr (Or.inr ⟨e.1, Or.inl e.2⟩)) (fun _ _ e => e))
  have R7 : σ7.1 R 1 = σ.1 R 1 := (kr7 1 (by decide)).trans R1'
  rcases y5 with ⟨zn, yl⟩ | ⟨zb, zne, z', ez, yl⟩
  · have lv := pl_leave Y G ha hR hV7 R5 gG W5 mc7 c57 K7
    rw [if_pos zn, q_letE (F_X0_letLie X σ7 g), yl]
    unfold F_X12_turns_E271_6
    rw [q_letE (F_X12_leaves X τ7 a)]
    obtain ⟨V8, c8, i1, i2, i3, i4, i5, i6⟩ := lv.2.2.2.2
    refine ⟨1, _, _, rfl, rfl, S7.tr lv.1, T7.tr lv.2.1, lv.2.2.1, ?_, V8, c8, i1, i2, i3, i4, i5.le (by omega), fx5.tr i6⟩
    rw [if_neg (by decide), lv.2.2.2.1, R7]
  · obtain ⟨σ', τ', j1, j2, j3, j4, j5, j6, V8, c8, i1, i2, i3, i4, i5, i6⟩ := pl_doubt Y G ha hR hV7 R5 gG W5 hn mc7 c57 (by rw [c59]; omega) K7 (v := z) (v' := z') (v1 := v1) ez zb zne (by rw [c56]; exact g6) (f3 := σ7.1 R 3 + 1) rfl (fun s => q_bi (F_X0_challenge X s g z) (fun _ s' => s')) (fun s => q_let (s.1 R 4) (fun f => q_let (f + 1) (fun z_ => q_let (q_si s R 4 z_) (fun s' => q_bi (F_X0_challenge X s' g z) (fun _ s2 => s2))))) (fun _ => rfl) (fun _ => rfl)
    rw [if_neg (by omega : ¬ z.toInt = -1), yl, j2, q_letE (σ7.1 R 3), q_letE (σ7.1 R 3 + 1), q_letE (q_si σ7 R 3 (σ7.1 R 3 + 1)), q_letE (F_X2_topTruth X (q_si σ7 R 3 (σ7.1 R 3 + 1)) (q_rf X g 2))]
    refine ⟨1, σ', τ', j1, rfl, S7.tr j3, T7.tr j4, j5, ?_, V8, c8, i1, i2, i3, i4, i5, fx5.tr i6⟩
    rw [if_neg (by decide), j6, R7]
theorem pl_turn (Y : y_S X lb) (G : y_G X lb g o) (ha : q_kd X a = 12) (hR : lb R / 8192 ≠ o) (hV : y_v X g σ = V) (Rg : rg V c) (hG : m_G c) (hW : m_W c n) (hn : n ≤ 900000) (hc : m_c X τ a = c) (K : pl_cnt a R σ τ) :
    ∃ (z : Int32) (σ' τ' : ST), F_X7_takeTurn X σ R g = σ' ∧ F_X12_turns X τ a = (z, τ') ∧ pl_turned X lb g o a R σ σ' τ τ' V c n z := by
  have b7 := hG.1.2.2.2.2.2.1
  have w := pl_W (lb := lb) (o := o) hV
  have f7 : (σ.1 g 7).toInt = c 7 := (w.rd (id := 0) (by decide) 7 rfl).trans Rg.2.1.2.2.2
  have g7 : (τ.1 (q_rf X a 20) (7 : Int32).toNatClampNeg).toInt = c 7 := gm_cell (A := 7) hc rfl
  unfold F_X7_takeTurn F_X12_turns
  rw [q_letE (σ.1 g 7), f7, q_letE (τ.1 (q_rf X a 20) (7 : Int32).toNatClampNeg), g7]
  by_cases q : c 7 = 0
  · rw [if_pos q, if_neg (by omega)]
    exact pl_turnJ Y G ha hR hV Rg hG hW hn hc K
  · have q1 : c 7 = 1 := by omega
    obtain ⟨s1, s2, s3, s4, V1, c1, i1, i2, i3, i4, i5, i6⟩ := pl_leave Y G ha hR hV Rg hG hW hc q1 K
    rw [if_neg q, if_pos q1, q_letE (F_X0_letLie X σ g), q_letE (F_X12_leaves X τ a)]
    obtain ⟨z, σ', τ', j1, j2, k1, k2, k3, k4, V2, c2, l1, l2, l3, l4, l5, l6⟩ := pl_turnJ Y G ha hR i1 i3 i4 i5 hn i2 s3
    refine ⟨z, σ', τ', j1, j2, s1.tr k1, s2.tr k2, k3, ?_, V2, c2, l1, l2, l3, l4, l5, i6.tr l6⟩
    rw [k4, s4]
end PD

/-! FROM 49zp.moves.lean.txt -/
/-! A ROUND PLAYED: the moves of the class's loop, the marks of both -/
def pl_T (X : XW) (R : Nat) : Nat := q_rf X (q_rf X R 7) 0
/-- a run of its own, beside the game -/
def pl_D (X : XW) (lb : Nat → Nat) (o R : Nat) : Prop := q_kd X R = 7 ∧ lb R / 8192 ≠ o ∧ lb (pl_T X R) / 8192 ≠ o ∧ q_kd X (pl_T X R) = 20 ∧ q_ln X (pl_T X R) = 60
def pl_Sg (X : XW) (lb : Nat → Nat) (o R : Nat) (b f : Nat) : Prop := lb b / 8192 = o ∨ b = R ∧ f ≤ 6 ∨ b = pl_T X R
def pl_Sq (X : XW) (a : Nat) (b f : Nat) : Prop := b = q_rf X a 20 ∨ b = q_rf X a 28 ∨ b = a ∧ 38 ≤ f ∧ f ≤ 45
/-- both runs, both games the same -/
def pl_J (X : XW) (g a R : Nat) (V0 : Nat → Int → Int) (c0 : Int → Int) (n : Int) (σ τ : ST) : Prop :=
  pl_cnt a R σ τ ∧ σ.1 R 0 = τ.1 a 40 ∧ σ.1 R 1 = τ.1 a 41 ∧ σ.1 R 5 = τ.1 a 45 ∧ (0 ≤ (τ.1 a 40).toInt ∧ (τ.1 a 40).toInt ≤ 300) ∧ pl_gm X g a σ τ V0 c0 (n + (τ.1 a 40).toInt)
/-- neither is at its end -/
def pl_on (a : Nat) (τ : ST) : Prop := (τ.1 a 38).toInt = 0 ∧ (τ.1 a 45).toInt = 0
noncomputable def pl_L (X : XW) (g R : Nat) (x i : Int32) (σ : ST) : ST := F_X7_go_L46_1 X g R ((2147483647 - i.toInt).toNat + 1) x i σ
/-- what a piece of the round does: steps l to l', at most B moves more than a hundred a step -/
def pl_O (X : XW) (lb : Nat → Nat) (g o a R : Nat) (V0 : Nat → Int → Int) (c0 : Int → Int) (n : Int) (σ τ τ' : ST) (l l' B : Int) (x i : Int32) : Prop :=
  ∃ σ' : ST, tkl (pl_Sg X lb o R) (fun _ _ => False) σ σ' ∧ tkl (pl_Sq X a) (fun _ _ => False) τ τ' ∧ pl_J X g a R V0 c0 n σ' τ' ∧ (∀ y : Nat, (y : Int) < l ∨ l' ≤ (y : Int) → σ'.1 (pl_T X R) y = σ.1 (pl_T X R) y) ∧
    ((pl_on a τ' ∧ ∃ x' i' : Int32, x'.toInt = l' ∧ 0 ≤ i'.toInt ∧ i'.toInt - 100 * (τ'.1 a 40).toInt ≤ B ∧ pl_L X g R x i σ = pl_L X g R x' i' σ') ∨ ((τ'.1 a 38).toInt = 1 ∧ pl_L X g R x i σ = σ'))
section PE
variable {X : XW} {lb : Nat → Nat} {g o a R : Nat} {σ σ' τ τ' : ST} {V0 V : Nat → Int → Int} {c0 c : Int → Int} {n : Int}
theorem pl_len (Y : y_S X lb) (a : Nat) {k : Nat} (h : q_ln X a = k) : (q_len X a).toInt = (k : Int) := by rw [y_len Y, h]
theorem pl_tget (Y : y_S X lb) (D : pl_D X lb o R) {x : Int32} (hx : 0 ≤ x.toInt ∧ x.toInt < 60) : F_X5_get X σ (q_rf X R 7) x = σ.1 (pl_T X R) x.toNatClampNeg := by
  have e : (q_len X (pl_T X R)).toInt = 60 := pl_len Y _ D.2.2.2.2
  unfold F_X5_get
  show (if x.toInt < 0 then (0 : Int32) else q_let (q_len X (pl_T X R)) (fun n_2 => if x.toInt < n_2.toInt then q_let (σ.1 (pl_T X R) x.toNatClampNeg) (fun f_4 => f_4) else (0 : Int32))) = _
  rw [if_neg (by omega), q_letE (q_len X (pl_T X R)), e, if_pos hx.2, q_letE]
theorem pl_tset (Y : y_S X lb) (D : pl_D X lb o R) {x v : Int32} (hx : 0 ≤ x.toInt ∧ x.toInt < 60) : F_X5_set X σ (q_rf X R 7) x v = q_si σ (pl_T X R) x.toNatClampNeg v := by
  have e : (q_len X (pl_T X R)).toInt = 60 := pl_len Y _ D.2.2.2.2
  unfold F_X5_set
  show (if x.toInt < 0 then σ else q_let (q_len X (pl_T X R)) (fun n_2 => if x.toInt < n_2.toInt then q_let (q_si σ (pl_T X R) x.toNatClampNeg v) (fun f_4 => f_4) else σ)) = _
  rw [if_neg (by omega), q_letE (q_len X (pl_T X R)), e, if_pos hx.2, q_letE]
theorem pl_tadd (Y : y_S X lb) (D : pl_D X lb o R) {x v : Int32} (hx : 0 ≤ x.toInt ∧ x.toInt < 60) : F_X5_add X σ (q_rf X R 7) x v = q_si σ (pl_T X R) x.toNatClampNeg (σ.1 (pl_T X R) x.toNatClampNeg + v) := by
  have e : (q_len X (pl_T X R)).toInt = 60 := pl_len Y _ D.2.2.2.2
  unfold F_X5_add
  show (if x.toInt < 0 then σ else q_let (q_len X (pl_T X R)) (fun n_2 => if x.toInt < n_2.toInt then q_let (σ.1 (pl_T X R) x.toNatClampNeg) (fun f_4 => q_let (f_4 + v) (fun z_5 => q_let (q_si σ (pl_T X R) x.toNatClampNeg z_5) (fun s => s))) else σ)) = _
  rw [if_neg (by omega), q_letE (q_len X (pl_T X R)), e, if_pos hx.2, q_letE (σ.1 (pl_T X R) x.toNatClampNeg), q_letE (σ.1 (pl_T X R) x.toNatClampNeg + v), q_letE]
theorem pl_D.ne (D : pl_D X lb o R) : pl_T X R ≠ R := m_ne D.2.2.2.1 D.1 (by decide)
/-- a write beside the game -/
theorem pl_vo (Y : y_S X lb) (G : y_G X lb g o) {b : Nat} (hb : lb b / 8192 ≠ o) (f : Nat) (v : Int32) : y_v X g (q_si σ b f v) = y_v X g σ := pl_vR Y G hb f v
/-- a line of the round, in the class -/
theorem pl_line (Y : y_S X lb) (G : y_G X lb g o) (hV : y_v X g σ = V) {x : Int32} {l : Int} (hx : x.toInt = l) (hl : 0 ≤ l ∧ l < 60) : (F_X5_get X σ (q_rf X (q_rf X g 3) 3) x).toInt = V 18 l ∧ (F_X5_get X σ (q_rf X (q_rf X g 3) 4) x).toInt = V 19 l ∧ (F_X5_get X σ (q_rf X (q_rf X g 3) 5) x).toInt = V 20 l ∧ (F_X5_get X σ (q_rf X (q_rf X g 3) 6) x).toInt = V 21 l ∧ (F_X5_get X σ (q_rf X (q_rf X g 3) 7) x).toInt = V 22 l := by
  have w := pl_W (lb := lb) (o := o) hV
  have n18 : ((y_gn 18 : Nat) : Int) = 60 := rfl
  have n19 : ((y_gn 19 : Nat) : Int) = 60 := rfl
  have n20 : ((y_gn 20 : Nat) : Int) = 60 := rfl
  have n21 : ((y_gn 21 : Nat) : Int) = 60 := rfl
  have n22 : ((y_gn 22 : Nat) : Int) = 60 := rfl
  exact ⟨y_getI Y G w (id := 18) (r := q_rf X (q_rf X g 3) 3) ⟨by decide, by decide⟩ rfl hx hl.1 (by rw [n18]; exact hl.2), y_getI Y G w (id := 19) (r := q_rf X (q_rf X g 3) 4) ⟨by decide, by decide⟩ rfl hx hl.1 (by rw [n19]; exact hl.2), y_getI Y G w (id := 20) (r := q_rf X (q_rf X g 3) 5) ⟨by decide, by decide⟩ rfl hx hl.1 (by rw [n20]; exact hl.2), y_getI Y G w (id := 21) (r := q_rf X (q_rf X g 3) 6) ⟨by decide, by decide⟩ rfl hx hl.1 (by rw [n21]; exact hl.2), y_getI Y G w (id := 22) (r := q_rf X (q_rf X g 3) 7) ⟨by decide, by decide⟩ rfl hx hl.1 (by rw [n22]; exact hl.2)⟩
theorem pl_Ln {i x : Int32} (hi : 0 ≤ i.toInt ∧ i.toInt < 1000000) : F_X7_go_L46_1 X g R (2147483647 - i.toInt).toNat x (i + 1) σ = pl_L X g R x (i + 1) σ := by
  unfold pl_L
  have e : (i + 1).toInt = i.toInt + 1 := y_inc (by omega)
  have e2 : (2147483647 - i.toInt).toNat = (2147483647 - (i + 1).toInt).toNat + 1 := by rw [e]; omega
  rw [e2]
/-- one move -/
theorem pl_Lstep {i x : Int32} (hi : 0 ≤ i.toInt ∧ i.toInt < 1000000) (hx : x.toInt < (σ.1 (q_rf X g 3) 2).toInt) (h5 : (σ.1 R 5).toInt = 0) : pl_L X g R x i σ = if (F_X5_get X σ (q_rf X (q_rf X g 3) 3) x).toInt = 9 then q_bi (F_X7_behindEnd X σ R (q_rf X g 3) x) (fun r s => pl_L X g R r (i + 1) s) else if (σ.1 R 0).toInt = 300 then pl_L X g R x (i + 1) (q_si σ R 5 1) else q_bi (F_X7_behindStep X (q_si σ R 0 (σ.1 R 0 + 1)) R g x) (fun r s => pl_L X g R r (i + 1) s) := by
  have d : pl_L X g R x i σ = F_X7_go_B46_1 X g R (F_X7_go_L46_1 X g R (2147483647 - i.toInt).toNat) x i σ := by
    unfold pl_L
    rw [F_X7_go_L46_1_s]
  rw [d]
  unfold F_X7_go_B46_1
  rw [if_pos hi.2, q_letE (σ.1 (q_rf X g 3) 2), if_pos hx, q_letE (σ.1 R 5), if_pos h5, q_letE (F_X5_get X σ (q_rf X (q_rf X g 3) 3) x), q_letE (σ.1 R 0)]
  by_cases q : (F_X5_get X σ (q_rf X (q_rf X g 3) 3) x).toInt = 9
  · rw [if_pos q, if_pos q]
    obtain ⟨r, s, e⟩ : ∃ r s, F_X7_behindEnd X σ R (q_rf X g 3) x = (r, s) := ⟨_, _, rfl⟩
    rw [e, q_biP r s, q_biP r s, q_letE (i + 1), pl_Ln hi]
  · rw [if_neg q, if_neg q]
    by_cases q3 : (σ.1 R 0).toInt = 300
    · rw [if_pos q3, if_pos q3, q_letE (q_si σ R 5 1), q_letE (i + 1), pl_Ln hi]
    · rw [if_neg q3, if_neg q3, q_letE (σ.1 R 0), q_letE (σ.1 R 0 + 1), q_letE (q_si σ R 0 (σ.1 R 0 + 1))]
      obtain ⟨r, s, e⟩ : ∃ r s, F_X7_behindStep X (q_si σ R 0 (σ.1 R 0 + 1)) R g x = (r, s) := ⟨_, _, rfl⟩
      rw [e, q_biP r s, q_biP r s, q_letE (i + 1), pl_Ln hi]
/-- at its end -/
theorem pl_Lstop {i x : Int32} (h : (σ.1 R 5).toInt ≠ 0 ∨ (σ.1 (q_rf X g 3) 2).toInt ≤ x.toInt) : pl_L X g R x i σ = σ := by
  unfold pl_L
  rw [F_X7_go_L46_1_s]
  unfold F_X7_go_B46_1
  by_cases q : i.toInt < 1000000
  · rw [if_pos q, q_letE (σ.1 (q_rf X g 3) 2)]
    by_cases q2 : x.toInt < (σ.1 (q_rf X g 3) 2).toInt
    · rw [if_pos q2, q_letE (σ.1 R 5), if_neg (by
        rcases h with h | h
        · exact h
        · omega)]
    · rw [if_neg q2]
  · rw [if_neg q]
/-- behind a body -/
theorem pl_endMove (Y : y_S X lb) (G : y_G X lb g o) (D : pl_D X lb o R) (hV : y_v X g σ = V) {x i : Int32} {m l : Int} (hi : 0 ≤ i.toInt ∧ i.toInt < 1000000) (hx : x.toInt = m) (hm : l < m ∧ m < V 3 2) (hl : 0 ≤ l) (h60 : V 3 2 ≤ 60) (h5 : (σ.1 R 5).toInt = 0) (v18 : V 18 m = 9) (v19 : V 19 m = l) :
    ∃ y : Int32, y.toInt = l ∧ pl_L X g R x i σ = if V 18 l = 4 then pl_L X g R (if 0 < (σ.1 (pl_T X R) l.toNat - 1).toInt then y + 1 else x + 1) (i + 1) (q_si σ (pl_T X R) l.toNat (σ.1 (pl_T X R) l.toNat - 1)) else pl_L X g R (x + 1) (i + 1) σ := by
  have w := pl_W (lb := lb) (o := o) hV
  have f2 : (σ.1 (q_rf X g 3) 2).toInt = V 3 2 := w.rd (id := 3) (by decide) 2 rfl
  have ln := pl_line Y G hV hx ⟨by omega, by omega⟩
  obtain ⟨y, ey⟩ : ∃ y, y = F_X5_get X σ (q_rf X (q_rf X g 3) 4) x := ⟨_, rfl⟩
  have hy : y.toInt = l := by rw [ey, ln.2.1, v19]
  have l2 := pl_line Y G hV hy ⟨hl, by omega⟩
  have yn : y.toNatClampNeg = l.toNat := by rw [ar_cl, hy]
  refine ⟨y, hy, ?_⟩
  rw [pl_Lstep hi (by rw [f2]; omega) h5, ln.1, v18, if_pos rfl]
  unfold F_X7_behindEnd
  rw [q_letE (F_X5_get X σ (q_rf X (q_rf X g 3) 4) x), ← ey, q_letE (F_X5_get X σ (q_rf X (q_rf X g 3) 3) y), l2.1]
  by_cases q : V 18 l = 4
  · have em : σ.1 (pl_T X R) l.toNat + (-1) = σ.1 (pl_T X R) l.toNat - 1 := by
      apply Int32.toInt_inj.mp
      rw [ar_add, ar_sub, ar_m1]
      rfl
    rw [if_pos q, if_pos q, pl_tadd Y D ⟨by omega, by omega⟩, yn, em, q_letE (q_si σ (pl_T X R) l.toNat (σ.1 (pl_T X R) l.toNat - 1)), pl_tget Y D ⟨by omega, by omega⟩, yn, si_eq, q_letE (σ.1 (pl_T X R) l.toNat - 1)]
    by_cases q2 : 0 < (σ.1 (pl_T X R) l.toNat - 1).toInt
    · rw [if_pos q2, if_pos q2, q_letE (y + 1), q_biP (y + 1)]
    · rw [if_neg q2, if_neg q2, q_letE (x + 1), q_biP (x + 1)]
  · rw [if_neg q, if_neg q, q_letE (x + 1), q_biP (x + 1)]
theorem pl_J.sq (Y : y_S X lb) (ha : q_kd X a = 12) (J : pl_J X g a R V0 c0 n σ τ) {f : Nat} {v : Int32} (h : f ≠ 39 ∧ f ≠ 40 ∧ f ≠ 41 ∧ f ≠ 42 ∧ f ≠ 43 ∧ f ≠ 44 ∧ f ≠ 45) : pl_J X g a R V0 c0 n σ (q_si τ a f v) := by
  obtain ⟨⟨k6, k2, k3, k4⟩, j0, j1, j5, jb, V', c', i1, i2, i3⟩ := J
  have e : ∀ f', f' ≠ f → (q_si τ a f v).1 a f' = τ.1 a f' := fun f' hf => si_f hf _
  refine ⟨⟨?_, ?_, ?_, ?_⟩, ?_, ?_, ?_, ?_, V', c', i1, (mv_cell Y.1 ha f v).trans i2, ?_⟩
  · rw [e 39 (Ne.symm h.1)]; exact k6
  · rw [e 42 (by omega)]; exact k2
  · rw [e 43 (by omega)]; exact k3
  · rw [e 44 (by omega)]; exact k4
  · rw [e 40 (by omega)]; exact j0
  · rw [e 41 (by omega)]; exact j1
  · rw [e 45 (by omega)]; exact j5
  · rw [e 40 (by omega)]; exact jb
  · rw [e 40 (by omega)]; exact i3
theorem pl_J.st (Y : y_S X lb) (G : y_G X lb g o) (D : pl_D X lb o R) (J : pl_J X g a R V0 c0 n σ τ) (f : Nat) (v : Int32) : pl_J X g a R V0 c0 n (q_si σ (pl_T X R) f v) τ := by
  obtain ⟨⟨k6, k2, k3, k4⟩, j0, j1, j5, jb, V', c', i1, i2, i3⟩ := J
  have e : ∀ f', (q_si σ (pl_T X R) f v).1 R f' = σ.1 R f' := fun f' => q_si_ne (Ne.symm D.ne) f'
  refine ⟨⟨?_, ?_, ?_, ?_⟩, ?_, ?_, ?_, jb, V', c', (pl_vo Y G D.2.2.1 f v).trans i1, i2, i3⟩
  · rw [e]; exact k6
  · rw [e]; exact k2
  · rw [e]; exact k3
  · rw [e]; exact k4
  · rw [e]; exact j0
  · rw [e]; exact j1
  · rw [e]; exact j5
/-- a cell written as it was -/
theorem pl_same (τ : ST) (b f : Nat) : q_si τ b f (τ.1 b f) = τ := by
  have e : (fun b' f' => if b' = b ∧ f' = f then τ.1 b f else τ.1 b' f') = τ.1 := by
    funext b' f'
    split
    · rename_i h
      rw [h.1, h.2]
    · rfl
  unfold q_si
  rw [e]
/-- a step counted in both -/
theorem pl_J.step (Y : y_S X lb) (G : y_G X lb g o) (D : pl_D X lb o R) (ha : q_kd X a = 12) (J : pl_J X g a R V0 c0 n σ τ) (h : (τ.1 a 40).toInt ≠ 300) : pl_J X g a R V0 c0 n (q_si σ R 0 (σ.1 R 0 + 1)) (q_si τ a 40 (τ.1 a 40 + 1)) ∧ ((q_si τ a 40 (τ.1 a 40 + 1)).1 a 40).toInt = (τ.1 a 40).toInt + 1 := by
  obtain ⟨⟨k6, k2, k3, k4⟩, j0, j1, j5, jb, V', c', i1, i2, i3, i4, i5, i6⟩ := J
  have e : ∀ f', f' ≠ 40 → (q_si τ a 40 (τ.1 a 40 + 1)).1 a f' = τ.1 a f' := fun f' hf => si_f hf _
  have e' : ∀ f', f' ≠ 0 → (q_si σ R 0 (σ.1 R 0 + 1)).1 R f' = σ.1 R f' := fun f' hf => si_f hf _
  have e1 : ((q_si τ a 40 (τ.1 a 40 + 1)).1 a 40).toInt = (τ.1 a 40).toInt + 1 := by
    rw [si_eq]
    exact y_inc (by omega)
  refine ⟨⟨⟨?_, ?_, ?_, ?_⟩, ?_, ?_, ?_, ?_, V', c', (pl_vo Y G D.2.1 _ _).trans i1, (mv_cell Y.1 ha _ _).trans i2, i3, i4, i5.le (by omega), i6⟩, e1⟩
  · rw [e 39 (by decide), e' 6 (by decide)]; exact k6
  · rw [e 42 (by decide), e' 2 (by decide)]; exact k2
  · rw [e 43 (by decide), e' 3 (by decide)]; exact k3
  · rw [e 44 (by decide), e' 4 (by decide)]; exact k4
  · rw [si_eq, si_eq, j0]
  · rw [e 41 (by decide), e' 1 (by decide)]; exact j1
  · rw [e 45 (by decide), e' 5 (by decide)]; exact j5
  · omega
end PE

/-! FROM 49zq.plain.lean.txt -/
/-! A ROUND PLAYED: a step without a body -/
section PF
variable {X : XW} {lb : Nat → Nat} {g o a R : Nat} {σ σ' τ τ' : ST} {V0 V : Nat → Int → Int} {c0 c : Int → Int} {n : Int}
theorem st_l.act {s l : Int} (h : st_l V c s l) : 0 ≤ V 18 l ∧ V 18 l ≤ 8 ∧ (V 18 l = 4 ↔ c (656 + 9 * s) = 4) := by
  unfold st_l at h
  omega
theorem pl_fix.st (F : pl_fix V0 V c0 c) {s l : Int} (hs : 0 ≤ s ∧ s < 30) (hl : 0 ≤ l ∧ l < 60) (h : st_l V0 c0 s l) : st_l V c s l := h.x hs hl (fun id i h1 h2 _ _ => F.1 id i (by omega)) (fun j j0 _ => F.2 j (by omega) (by omega))
theorem pl_Sc_Sg (D : pl_D X lb o R) (h : tkl (pl_Sc lb o R) (fun _ _ => False) σ σ') : tkl (pl_Sg X lb o R) (fun _ _ => False) σ σ' ∧ σ'.1 R 0 = σ.1 R 0 ∧ σ'.1 R 5 = σ.1 R 5 ∧ ∀ y : Nat, σ'.1 (pl_T X R) y = σ.1 (pl_T X R) y := by
  refine ⟨h.mono (fun b f z => ?_) (fun _ _ z => z), h.1 R 0 ?_, h.1 R 5 ?_, fun y => h.1 _ y ?_⟩
  · rcases z with z | ⟨z, z1, z2, z3⟩
    · exact Or.inl z
    · exact Or.inr (Or.inl ⟨z, z2⟩)
  · rintro (z | ⟨-, z, -⟩)
    · exact D.2.1 z
    · omega
  · rintro (z | ⟨-, -, -, z⟩)
    · exact D.2.1 z
    · exact z rfl
  · rintro (z | ⟨z, -⟩)
    · exact D.2.2.1 z
    · exact D.ne z
theorem pl_Sr_Sq (ha : q_rf X a 20 ≠ a) (ha8 : q_rf X a 28 ≠ a) (h : tkl (pl_Sr X a) (fun _ _ => False) τ τ') : tkl (pl_Sq X a) (fun _ _ => False) τ τ' ∧ ∀ f, f ≠ 39 → f ≠ 42 → f ≠ 43 → f ≠ 44 → τ'.1 a f = τ.1 a f := by
  refine ⟨h.mono (fun b f z => ?_) (fun _ _ z => z), fun f h1 h2 h3 h4 => h.1 a f ?_⟩
  · rcases z with z | z | ⟨z, z1⟩
    · exact Or.inl z
    · exact Or.inr (Or.inl z)
    · exact Or.inr (Or.inr ⟨z, by omega, by omega⟩)
  · rintro (z | z | ⟨-, z⟩)
    · exact ha z.symm
    · exact ha8 z.symm
    · omega
theorem pl_w656 {v1 : Int32} {s : Int} (hv : v1.toInt = s) (hs : 0 ≤ s ∧ s < 30) : ((656 : Int32) + (9 : Int32) * v1).toInt = 656 + 9 * s := by
  have e9 : (9 : Int32).toInt = 9 := rfl
  have e6 : (656 : Int32).toInt = 656 := rfl
  rw [ar_add, ar_mul, e6, e9, hv, ar_wr (n := 9 * s) (by omega) (by omega), ar_wr (by omega) (by omega)]
theorem pl_cellk {z : Int32} {W : Int} (hc : m_c X τ a = c) (hz : z.toInt = W) (hW : 0 ≤ W ∧ W ≤ 5000) (k : Int32) {j : Int} (hk : k.toInt = j) (hj : 0 ≤ j ∧ j ≤ 10) : (τ.1 (q_rf X a 20) (z + k).toNatClampNeg).toInt = c (W + j) := gm_cell hc (by rw [ar_add, hz, hk, ar_wr (by omega) (by omega)])
/-- lies and doubts of a player set by a step -/
theorem pl_bent (Y : y_S X lb) (G : y_G X lb g o) (D : pl_D X lb o R) (ha : q_kd X a = 12) (J : pl_J X g a R V0 c0 n σ τ) {x y q z : Int32} {p : Int} {id : Nat} {r : Nat} {A : Int} (hid : id = 10 ∧ A = 10 ∧ r = q_rf X (q_rf X g 1) 3 ∨ id = 11 ∧ A = 16 ∧ r = q_rf X (q_rf X g 1) 4) (hx : x.toInt = p) (hp : 0 ≤ p ∧ p < 6) (hy : y.toInt = z.toInt) (hq : q.toInt = A + p) :
    pl_J X g a R V0 c0 n (F_X5_set X σ r x y) (q_si τ (q_rf X a 20) q.toNatClampNeg z) ∧ tkl (pl_Sc lb o R) (fun _ _ => False) σ (F_X5_set X σ r x y) := by
  obtain ⟨⟨k6, k2, k3, k4⟩, j0, j1, j5, jb, V', c', i1, i2, i3, i4, i5, i6⟩ := J
  obtain ⟨n80, n8a, n0a⟩ := pl_k28 Y.1 ha
  have n10 : ((y_gn 10 : Nat) : Int) = 6 := rfl
  have n11 : ((y_gn 11 : Nat) : Int) = 6 := rfl
  have w := pl_W (lb := lb) (o := o) i1
  have w1 : y_W X lb g o σ (F_X5_set X σ r x y) (y_up V' id p y.toInt) := by
    rw [← hx]
    rcases hid with ⟨h1, h2, h3⟩ | ⟨h1, h2, h3⟩
    · subst h1
      rw [h3]
      exact w.set Y G (id := 10) ⟨by decide, by decide⟩ rfl x y (by omega) (by rw [n10]; omega)
    · subst h1
      rw [h3]
      exact w.set Y G (id := 11) ⟨by decide, by decide⟩ rfl x y (by omega) (by rw [n11]; omega)
  have m1 : m_c X (q_si τ (q_rf X a 20) q.toNatClampNeg z) a = m_up c' (A + p) z.toInt := by rw [m_c_up (A + p) (by omega) hq, i2]
  have kr : ∀ f, (F_X5_set X σ r x y).1 R f = σ.1 R f := fun f => w1.1 R D.2.1 f
  have kt : ∀ f, (q_si τ (q_rf X a 20) q.toNatClampNeg z).1 a f = τ.1 a f := fun f => q_si_ne (Ne.symm n0a) f
  have ids : (id = 10 ∧ A = 10) ∨ (id = 11 ∧ A = 16) := by
    rcases hid with h | h
    · exact Or.inl ⟨h.1, h.2.1⟩
    · exact Or.inr ⟨h.1, h.2.1⟩
  refine ⟨⟨⟨?_, ?_, ?_, ?_⟩, ?_, ?_, ?_, ?_, y_up V' id p y.toInt, m_up c' (A + p) z.toInt, w1.2.2, m1, ?_, ?_, ?_, ?_⟩, pl_Wt w1⟩
  · rw [kr, kt]; exact k6
  · rw [kr, kt]; exact k2
  · rw [kr, kt]; exact k3
  · rw [kr, kt]; exact k4
  · rw [kr, kt]; exact j0
  · rw [kr, kt]; exact j1
  · rw [kr, kt]; exact j5
  · rw [kt]; exact jb
  · refine i3.bend (fun id' i h1 h2 => y_up_ne (Or.inl (by omega))) (fun j h => m_up_ne (by omega)) (fun p' p0 p1 => ?_)
    have hh := i3.2.2.1 p' p0 p1
    rcases ids with ⟨h1, h2⟩ | ⟨h1, h2⟩
    · subst h1
      subst h2
      refine ⟨?_, ?_⟩
      · by_cases e : p' = p
        · rw [e, y_up_eq, m_up_eq, hy]
        · rw [y_up_ne (Or.inr e), m_up_ne (by omega)]; exact hh.1
      · rw [y_up_ne (Or.inl (by decide)), m_up_ne (by omega)]; exact hh.2.1
    · subst h1
      subst h2
      refine ⟨?_, ?_⟩
      · rw [y_up_ne (Or.inl (by decide)), m_up_ne (by omega)]; exact hh.1
      · by_cases e : p' = p
        · rw [e, y_up_eq, m_up_eq, hy]
        · rw [y_up_ne (Or.inr e), m_up_ne (by omega)]; exact hh.2.1
  · exact i4.wr m_up_e (Or.inr (Or.inr (Or.inl ⟨by omega, by omega⟩)))
  · rw [kt]
    exact i5.wr m_up_e (Or.inl (by omega))
  · exact i6.tr ⟨fun id' i h => y_up_ne (Or.inl (by omega)), fun j j0 h => m_up_ne (by omega)⟩
/-- cut behind three hundred steps -/
theorem pl_cut (Y : y_S X lb) (G : y_G X lb g o) (D : pl_D X lb o R) (ha : q_kd X a = 12) (J : pl_J X g a R V0 c0 n σ τ) {l l' B : Int} {x i : Int32} (step : pl_L X g R x i σ = pl_L X g R x (i + 1) (q_si σ R 5 1)) : pl_O X lb g o a R V0 c0 n σ τ (q_si (q_si τ a 38 1) a 45 1) l l' B x i := by
  obtain ⟨⟨k6, k2, k3, k4⟩, j0, j1, j5, jb, V', c', i1, i2, i3, i4, i5, i6⟩ := J
  have r5 : (q_si σ R 5 1).1 R 5 = 1 := si_eq _ _ _ _
  have e' : ∀ f', f' ≠ 5 → (q_si σ R 5 1).1 R f' = σ.1 R f' := fun f' hf => si_f hf _
  have t' : ∀ f', f' ≠ 38 → f' ≠ 45 → (q_si (q_si τ a 38 1) a 45 1).1 a f' = τ.1 a f' := fun f' h1 h2 => (si_f h2 _).trans (si_f h1 _)
  have t45 : (q_si (q_si τ a 38 1) a 45 1).1 a 45 = 1 := si_eq _ _ _ _
  have t38 : (q_si (q_si τ a 38 1) a 45 1).1 a 38 = 1 := (si_f (by decide) _).trans (si_eq _ _ _ _)
  refine ⟨q_si σ R 5 1, tkl.rf.si _ (Or.inr (Or.inl ⟨rfl, by decide⟩)), (tkl.rf.si _ (Or.inr (Or.inr ⟨rfl, by decide, by decide⟩))).si _ (Or.inr (Or.inr ⟨rfl, by decide, by decide⟩)), ⟨⟨?_, ?_, ?_, ?_⟩, ?_, ?_, ?_, ?_, V', c', (pl_vo Y G D.2.1 5 1).trans i1, (mv_cell Y.1 ha 45 1).trans ((mv_cell Y.1 ha 38 1).trans i2), i3, i4, ?_, i6⟩, fun y _ => q_si_ne D.ne y, Or.inr ⟨by rw [t38]; rfl, ?_⟩⟩
  · rw [e' 6 (by decide), t' 39 (by decide) (by decide)]; exact k6
  · rw [e' 2 (by decide), t' 42 (by decide) (by decide)]; exact k2
  · rw [e' 3 (by decide), t' 43 (by decide) (by decide)]; exact k3
  · rw [e' 4 (by decide), t' 44 (by decide) (by decide)]; exact k4
  · rw [e' 0 (by decide), t' 40 (by decide) (by decide)]; exact j0
  · rw [e' 1 (by decide), t' 41 (by decide) (by decide)]; exact j1
  · rw [r5, t45]
  · rw [t' 40 (by decide) (by decide)]; exact jb
  · rw [t' 40 (by decide) (by decide)]; exact i5
  · rw [step]
    exact pl_Lstop (Or.inl (by rw [r5]; decide))
theorem pl_plain (Y : y_S X lb) (G : y_G X lb g o) (D : pl_D X lb o R) (ha : q_kd X a = 12) (hn : n ≤ 800000) (J : pl_J X g a R V0 c0 n σ τ) (on : pl_on a τ) {s l : Int} (S : st_l V0 c0 s l) (hs : 0 ≤ s ∧ s < c0 655) (hl : 0 ≤ l ∧ l < V0 3 2) (h60 : V0 3 2 ≤ 60) (hne : c0 (656 + 9 * s) ≠ 3 ∧ c0 (656 + 9 * s) ≠ 4) {x i v1 : Int32} (hx : x.toInt = l) (hv : v1.toInt = s) {B : Int} (hi : 0 ≤ i.toInt) (hB : i.toInt - 100 * (τ.1 a 40).toInt ≤ B) (hB0 : B ≤ 0) (FA : ST → Int32 → Int32 → ST) :
    pl_O X lb g o a R V0 c0 n σ τ (F_X12_doOne_s X τ a v1 FA) l (l + 1) B x i := by
  obtain ⟨n80, n8a, n0a⟩ := pl_k28 Y.1 ha
  obtain ⟨⟨k6, k2, k3, k4⟩, j0, j1, j5, jb, V', c', i1, i2, i3, i4, i5, i6⟩ := id J
  have one : (1 : Int32).toInt = 1 := rfl
  have two : (2 : Int32).toInt = 2 := rfl
  have w := pl_W (lb := lb) (o := o) i1
  have e655 : c' 655 = c0 655 := i6.2 655 (by decide) (Or.inr (by decide))
  have qq := i4.2.2.2.2.2.1
  have s30 : s < 30 := by omega
  have hl60 : 0 ≤ l ∧ l < 60 := ⟨hl.1, by omega⟩
  have v32 : V' 3 2 = V0 3 2 := i6.1 3 2 (by decide)
  have st := i6.st ⟨hs.1, s30⟩ hl60 S
  have ck : c' (656 + 9 * s) = c0 (656 + 9 * s) := i6.2 _ (by omega) (by omega)
  rw [← ck] at hne
  have act := st.act
  have f2 : (σ.1 (q_rf X g 3) 2).toInt = V0 3 2 := (w.rd (id := 3) (by decide) 2 rfl).trans v32
  have ln := pl_line Y G i1 hx hl60
  have h5 : (σ.1 R 5).toInt = 0 := by rw [j5]; exact on.2
  have hi6 : 0 ≤ i.toInt ∧ i.toInt < 1000000 := ⟨hi, by omega⟩
  have r0 : (σ.1 R 0).toInt = (τ.1 a 40).toInt := congrArg Int32.toInt j0
  have xi : (x + 1).toInt = l + 1 := by rw [y_inc (by omega), hx]
  have ii : (i + 1).toInt = i.toInt + 1 := y_inc (by omega)
  have step := pl_Lstep (X := X) (x := x) hi6 (by rw [f2]; omega) h5
  rw [if_neg (by rw [ln.1]; omega), r0] at step
  unfold F_X12_doOne_s
  rw [q_letE (τ.1 a 40)]
  by_cases q300 : (τ.1 a 40).toInt = 300
  · rw [if_pos q300] at step
    rw [if_pos q300, q_letE (q_si τ a 38 1), q_letE (q_si (q_si τ a 38 1) a 45 1)]
    exact pl_cut Y G D ha J step
  rw [if_neg q300] at step
  obtain ⟨J5, D5⟩ := J.step Y G D ha q300
  have v5 : y_v X g (q_si σ R 0 (σ.1 R 0 + 1)) = V' := (pl_vo Y G D.2.1 0 _).trans i1
  have m5 : m_c X (q_si τ a 40 (τ.1 a 40 + 1)) a = c' := (mv_cell Y.1 ha 40 _).trans i2
  have S5 : tkl (pl_Sg X lb o R) (fun _ _ => False) σ (q_si σ R 0 (σ.1 R 0 + 1)) := tkl.rf.si _ (Or.inr (Or.inl ⟨rfl, by decide⟩))
  have T5 : tkl (pl_Sq X a) (fun _ _ => False) τ (q_si τ a 40 (τ.1 a 40 + 1)) := tkl.rf.si _ (Or.inr (Or.inr ⟨rfl, by decide, by decide⟩))
  have u5 : ∀ y : Nat, (q_si σ R 0 (σ.1 R 0 + 1)).1 (pl_T X R) y = σ.1 (pl_T X R) y := fun y => q_si_ne D.ne y
  have on5 : pl_on a (q_si τ a 40 (τ.1 a 40 + 1)) := ⟨(congrArg Int32.toInt (si_f (by decide) a)).trans on.1, (congrArg Int32.toInt (si_f (by decide) a)).trans on.2⟩
  rw [if_neg q300, q_letE (τ.1 a 40), q_letE (τ.1 a 40 + 1), q_letE (q_si τ a 40 (τ.1 a 40 + 1)), q_letE ((9 : Int32) * v1), q_letE ((656 : Int32) + (9 : Int32) * v1)]
  obtain ⟨σ5, es⟩ : ∃ t, t = q_si σ R 0 (σ.1 R 0 + 1) := ⟨_, rfl⟩
  obtain ⟨τ5, et⟩ : ∃ t, t = q_si τ a 40 (τ.1 a 40 + 1) := ⟨_, rfl⟩
  rw [← es] at J5 v5 S5 u5 step
  rw [← et] at J5 D5 m5 T5 on5 ⊢
  have wz := pl_w656 hv ⟨hs.1, s30⟩
  obtain ⟨z7, ez⟩ : ∃ z, z = (656 : Int32) + (9 : Int32) * v1 := ⟨_, rfl⟩
  rw [← ez] at wz ⊢
  have g8 : (τ5.1 (q_rf X a 20) z7.toNatClampNeg).toInt = c' (656 + 9 * s) := gm_cell m5 wz
  have gk : ∀ (k : Int32) (j : Int), k.toInt = j → 0 ≤ j ∧ j ≤ 10 → (τ5.1 (q_rf X a 20) (z7 + k).toNatClampNeg).toInt = c' (656 + 9 * s + j) := fun k j h1 h2 => pl_cellk m5 wz ⟨by omega, by omega⟩ k h1 h2
  have ln5 := pl_line Y G v5 hx hl60
  rw [q_letE (τ5.1 (q_rf X a 20) z7.toNatClampNeg), g8]
  -- the class's step
  have bs := step
  unfold F_X7_behindStep at bs
  rw [q_letE (F_X5_get X σ5 (q_rf X (q_rf X g 3) 5) x), q_letE (F_X5_get X σ5 (q_rf X (q_rf X g 3) 7) x), q_letE (F_X5_get X σ5 (q_rf X (q_rf X g 3) 4) x), q_letE (F_X5_get X σ5 (q_rf X (q_rf X g 3) 4) x + 1), q_letE (F_X5_get X σ5 (q_rf X (q_rf X g 3) 3) x), ln5.1] at bs
  have close : ∀ (σ' τ' : ST), pl_J X g a R V0 c0 n σ' τ' → tkl (pl_Sc lb o R) (fun _ _ => False) σ5 σ' → tkl (pl_Sq X a) (fun _ _ => False) τ5 τ' → pl_on a τ' → τ'.1 a 40 = τ5.1 a 40 → pl_L X g R x i σ = pl_L X g R (x + 1) (i + 1) σ' → pl_O X lb g o a R V0 c0 n σ τ τ' l (l + 1) B x i := by
    intro σ' τ' h1 h2 h3 h4 h6 h7
    obtain ⟨p1, p2, p3, p4⟩ := pl_Sc_Sg D h2
    exact ⟨σ', S5.tr p1, T5.tr h3, h1, fun y _ => (p4 y).trans (u5 y), Or.inl ⟨h4, x + 1, i + 1, xi, by omega, by rw [h6, D5]; omega, h7⟩⟩
  have st' := st
  unfold st_l at st'
  have qs := (i4.2.2.2.2.2.2 s hs.1 (by rw [e655]; exact hs.2)).2.1
  rcases st' with ⟨h0, h1⟩ | ⟨h0, h1, h2, h3⟩ | ⟨h0, h1, h2, h3⟩ | ⟨h0, h1⟩ | ⟨h0, -⟩ | ⟨h0, -⟩ | ⟨h0, -⟩ | ⟨h0, -⟩ | ⟨h0, -⟩
  · -- a turn
    rw [h1, if_pos rfl] at bs
    rw [h0, if_pos (by decide : (0 : Int) < 3)]
    obtain ⟨z, σ6, τ6, x1, x2, y1, y2, y3, y4, y5⟩ := pl_turn Y G ha D.2.1 v5 i3 i4 i5 (by omega) m5 J5.1
    unfold F_X12_does
    rw [q_letE (τ5.1 a 41), q_letE (τ5.1 (q_rf X a 20) z7.toNatClampNeg), g8, h0, if_pos (rfl : (0 : Int) = 0), x2, q_biP z τ6, q_biP z τ6]
    rw [q_letE (F_X7_takeTurn X σ5 R g), x1, q_letE (x + 1), q_biP (x + 1)] at bs
    obtain ⟨p1, p2, p3, p4⟩ := pl_Sc_Sg D y1
    obtain ⟨r1, r2⟩ := pl_Sr_Sq n0a n8a y2
    obtain ⟨y, ey⟩ : ∃ y, y = if z.toInt = 0 then τ5.1 a 41 + 1 else τ5.1 a 41 := ⟨_, rfl⟩
    have rf : (if z.toInt = 0 then q_let (τ5.1 a 41 + 1) (fun z_59 => q_let (q_si τ6 a 41 z_59) (fun σ_60 => σ_60)) else q_let (τ5.1 a 41 + 0) (fun z_61 => q_let (q_si τ6 a 41 z_61) (fun σ_62 => σ_62))) = q_si τ6 a 41 y := by
      rw [ey]
      by_cases q : z.toInt = 0
      · rw [if_pos q, if_pos q, q_letE, q_letE]
      · rw [if_neg q, if_neg q, q_letE, q_letE, Int32.add_zero]
    rw [rf]
    have t6 : ∀ f, f ≠ 41 → (q_si τ6 a 41 y).1 a f = τ6.1 a f := fun f h => si_f h _
    have D6 : (q_si τ6 a 41 y).1 a 40 = τ5.1 a 40 := (t6 40 (by decide)).trans (r2 40 (by decide) (by decide) (by decide) (by decide))
    obtain ⟨V2, c2, o1, o2, o3, o4, o5, o6⟩ := y5
    refine close σ6 (q_si τ6 a 41 y) ⟨⟨?_, ?_, ?_, ?_⟩, ?_, ?_, ?_, ?_, V2, c2, o1, (mv_cell Y.1 ha 41 y).trans o2, o3, o4, ?_, i6.tr o6⟩ y1 (r1.si _ (Or.inr (Or.inr ⟨rfl, by decide, by decide⟩))) ⟨?_, ?_⟩ D6 bs
    · rw [t6 39 (by decide)]; exact y3.1
    · rw [t6 42 (by decide)]; exact y3.2.1
    · rw [t6 43 (by decide)]; exact y3.2.2.1
    · rw [t6 44 (by decide)]; exact y3.2.2.2
    · rw [p2, D6]; exact J5.2.1
    · rw [y4, si_eq, ey, J5.2.2.1]
    · rw [p3, t6 45 (by decide), r2 45 (by decide) (by decide) (by decide) (by decide)]; exact J5.2.2.2.1
    · rw [D6]; exact J5.2.2.2.2.1
    · rw [D6, D5]
      have e : n + (τ.1 a 40).toInt + 1 = n + ((τ.1 a 40).toInt + 1) := by omega
      rw [← e]
      exact o5
    · rw [t6 38 (by decide), r2 38 (by decide) (by decide) (by decide) (by decide)]; exact on5.1
    · rw [t6 45 (by decide), r2 45 (by decide) (by decide) (by decide) (by decide)]; exact on5.2
  · -- lies
    have hp := qs (Or.inl h0)
    rw [h1, if_neg (by decide : ¬ (1 : Int) = 0), if_pos rfl, q_letE (F_X5_set X σ5 (q_rf X (q_rf X g 1) 3) (F_X5_get X σ5 (q_rf X (q_rf X g 3) 5) x) (F_X5_get X σ5 (q_rf X (q_rf X g 3) 7) x)), q_letE (x + 1), q_biP (x + 1)] at bs
    rw [h0, if_pos (by decide : (1 : Int) < 3)]
    unfold F_X12_does
    rw [q_letE (τ5.1 a 41), q_letE (τ5.1 (q_rf X a 20) z7.toNatClampNeg), g8, h0, if_neg (by decide : ¬ (1 : Int) = 0), if_pos rfl, q_letE (z7 + 1), q_letE (τ5.1 (q_rf X a 20) (z7 + 1).toNatClampNeg), q_letE ((10 : Int32) + τ5.1 (q_rf X a 20) (z7 + 1).toNatClampNeg), q_letE (z7 + 2), q_letE (τ5.1 (q_rf X a 20) (z7 + 2).toNatClampNeg)]
    have e1 := gk 1 1 rfl (by decide)
    have e2 := gk 2 2 rfl (by decide)
    have e10 : (10 : Int32).toInt = 10 := rfl
    obtain ⟨J6, y1⟩ := pl_bent Y G D ha J5 (x := F_X5_get X σ5 (q_rf X (q_rf X g 3) 5) x) (y := F_X5_get X σ5 (q_rf X (q_rf X g 3) 7) x) (q := (10 : Int32) + τ5.1 (q_rf X a 20) (z7 + 1).toNatClampNeg) (z := τ5.1 (q_rf X a 20) (z7 + 2).toNatClampNeg) (p := c' (656 + 9 * s + 1)) (Or.inl ⟨rfl, rfl, rfl⟩) (ln5.2.2.1.trans h2) ⟨hp.1, by omega⟩ ((ln5.2.2.2.2.trans h3).trans e2.symm) (by rw [ar_add, e10, e1, ar_wr (by omega) (by omega)])
    rw [q_letE (q_si τ5 (q_rf X a 20) ((10 : Int32) + τ5.1 (q_rf X a 20) (z7 + 1).toNatClampNeg).toNatClampNeg (τ5.1 (q_rf X a 20) (z7 + 2).toNatClampNeg)), q_biP (1 : Int32), if_neg (by decide : ¬ (1 : Int32).toInt = 0), q_letE (τ5.1 a 41 + 0)]
    obtain ⟨τ6, e6⟩ : ∃ t, t = q_si τ5 (q_rf X a 20) ((10 : Int32) + τ5.1 (q_rf X a 20) (z7 + 1).toNatClampNeg).toNatClampNeg (τ5.1 (q_rf X a 20) (z7 + 2).toNatClampNeg) := ⟨_, rfl⟩
    have t6 : ∀ f, τ6.1 a f = τ5.1 a f := fun f => by rw [e6]; exact q_si_ne (Ne.symm n0a) f
    have T6 : tkl (pl_Sq X a) (fun _ _ => False) τ5 τ6 := by rw [e6]; exact tkl.rf.si _ (Or.inl rfl)
    rw [← e6] at J6 ⊢
    have same : q_si τ6 a 41 (τ5.1 a 41 + 0) = τ6 := by
      rw [Int32.add_zero, ← t6 41]
      exact pl_same τ6 a 41
    rw [q_letE (q_si τ6 a 41 (τ5.1 a 41 + 0)), same]
    exact close _ τ6 J6 y1 T6 ⟨by rw [t6]; exact on5.1, by rw [t6]; exact on5.2⟩ (t6 40) bs
  · -- doubts
    have hp := qs (Or.inr (Or.inl h0))
    rw [h1, if_neg (by decide : ¬ (2 : Int) = 0), if_neg (by decide : ¬ (2 : Int) = 1), if_pos rfl, q_letE (F_X5_set X σ5 (q_rf X (q_rf X g 1) 4) (F_X5_get X σ5 (q_rf X (q_rf X g 3) 5) x) (F_X5_get X σ5 (q_rf X (q_rf X g 3) 7) x)), q_letE (x + 1), q_biP (x + 1)] at bs
    rw [h0, if_pos (by decide : (2 : Int) < 3)]
    unfold F_X12_does
    rw [q_letE (τ5.1 a 41), q_letE (τ5.1 (q_rf X a 20) z7.toNatClampNeg), g8, h0, if_neg (by decide : ¬ (2 : Int) = 0), if_neg (by decide : ¬ (2 : Int) = 1), q_letE (z7 + 1), q_letE (τ5.1 (q_rf X a 20) (z7 + 1).toNatClampNeg), q_letE ((16 : Int32) + τ5.1 (q_rf X a 20) (z7 + 1).toNatClampNeg), q_letE (z7 + 2), q_letE (τ5.1 (q_rf X a 20) (z7 + 2).toNatClampNeg)]
    have e1 := gk 1 1 rfl (by decide)
    have e2 := gk 2 2 rfl (by decide)
    have e16 : (16 : Int32).toInt = 16 := rfl
    obtain ⟨J6, y1⟩ := pl_bent Y G D ha J5 (x := F_X5_get X σ5 (q_rf X (q_rf X g 3) 5) x) (y := F_X5_get X σ5 (q_rf X (q_rf X g 3) 7) x) (q := (16 : Int32) + τ5.1 (q_rf X a 20) (z7 + 1).toNatClampNeg) (z := τ5.1 (q_rf X a 20) (z7 + 2).toNatClampNeg) (p := c' (656 + 9 * s + 1)) (Or.inr ⟨rfl, rfl, rfl⟩) (ln5.2.2.1.trans h2) ⟨hp.1, by omega⟩ ((ln5.2.2.2.2.trans h3).trans e2.symm) (by rw [ar_add, e16, e1, ar_wr (by omega) (by omega)])
    rw [q_letE (q_si τ5 (q_rf X a 20) ((16 : Int32) + τ5.1 (q_rf X a 20) (z7 + 1).toNatClampNeg).toNatClampNeg (τ5.1 (q_rf X a 20) (z7 + 2).toNatClampNeg)), q_biP (1 : Int32), if_neg (by decide : ¬ (1 : Int32).toInt = 0), q_letE (τ5.1 a 41 + 0)]
    obtain ⟨τ6, e6⟩ : ∃ t, t = q_si τ5 (q_rf X a 20) ((16 : Int32) + τ5.1 (q_rf X a 20) (z7 + 1).toNatClampNeg).toNatClampNeg (τ5.1 (q_rf X a 20) (z7 + 2).toNatClampNeg) := ⟨_, rfl⟩
    have t6 : ∀ f, τ6.1 a f = τ5.1 a f := fun f => by rw [e6]; exact q_si_ne (Ne.symm n0a) f
    have T6 : tkl (pl_Sq X a) (fun _ _ => False) τ5 τ6 := by rw [e6]; exact tkl.rf.si _ (Or.inl rfl)
    rw [← e6] at J6 ⊢
    have same : q_si τ6 a 41 (τ5.1 a 41 + 0) = τ6 := by
      rw [Int32.add_zero, ← t6 41]
      exact pl_same τ6 a 41
    rw [q_letE (q_si τ6 a 41 (τ5.1 a 41 + 0)), same]
    exact close _ τ6 J6 y1 T6 ⟨by rw [t6]; exact on5.1, by rw [t6]; exact on5.2⟩ (t6 40) bs
  · -- stop
    have f52 : (σ5.1 (q_rf X g 3) 2).toInt = V0 3 2 := ((pl_W (lb := lb) (o := o) v5).rd (id := 3) (by decide) 2 rfl).trans v32
    rw [h1, if_neg (by decide : ¬ (3 : Int) = 0), if_neg (by decide : ¬ (3 : Int) = 1), if_neg (by decide : ¬ (3 : Int) = 2), if_pos rfl, q_letE (σ5.1 (q_rf X g 3) 2), q_biP (σ5.1 (q_rf X g 3) 2)] at bs
    rw [h0, if_neg (by decide : ¬ (5 : Int) < 3), if_neg (by decide : ¬ (5 : Int) = 3), if_neg (by decide : ¬ (5 : Int) = 4), if_pos (by decide : (4 : Int) < 5), q_letE (q_si τ5 a 38 1)]
    refine ⟨σ5, S5, T5.si _ (Or.inr (Or.inr ⟨rfl, by decide, by decide⟩)), J5.sq Y ha (by decide), fun y _ => u5 y, Or.inr ⟨by rw [si_eq]; rfl, ?_⟩⟩
    rw [bs]
    exact pl_Lstop (Or.inr (Int.le_refl _))
  · exact absurd h0 hne.2
  · exact absurd h0 hne.1
  · exact absurd h0 hne.1
  · exact absurd h0 hne.1
  · exact absurd h0 hne.1
end PF

/-! FROM 49zr.blocks.lean.txt -/
/-! A ROUND PLAYED: steps with a body; all steps -/
section PG
variable {X : XW} {lb : Nat → Nat} {g o a R : Nat} {σ σ' σ1 τ τ' τ1 : ST} {V0 V : Nat → Int → Int} {c0 c : Int → Int} {n l l' B : Int} {x i x1 i1 : Int32}
theorem pl_O.pre (h1 : tkl (pl_Sg X lb o R) (fun _ _ => False) σ σ1) (h2 : tkl (pl_Sq X a) (fun _ _ => False) τ τ1) (hT : ∀ y : Nat, (y : Int) < l ∨ l' ≤ (y : Int) → σ1.1 (pl_T X R) y = σ.1 (pl_T X R) y) (hL : pl_L X g R x i σ = pl_L X g R x1 i1 σ1) (h : pl_O X lb g o a R V0 c0 n σ1 τ1 τ' l l' B x1 i1) : pl_O X lb g o a R V0 c0 n σ τ τ' l l' B x i := by
  obtain ⟨σ', a1, a2, a3, a4, a5⟩ := h
  refine ⟨σ', h1.tr a1, h2.tr a2, a3, fun y hy => (a4 y hy).trans (hT y hy), ?_⟩
  rcases a5 with ⟨b1, x', i', b2, b3, b4, b5⟩ | ⟨b1, b2⟩
  · exact Or.inl ⟨b1, x', i', b2, b3, b4, hL.trans b5⟩
  · exact Or.inr ⟨b1, hL.trans b2⟩
theorem pl_J.lines (J : pl_J X g a R V0 c0 n σ τ) : (σ.1 (q_rf X g 3) 2).toInt = V0 3 2 := by
  obtain ⟨-, -, -, -, -, V', c', i1, -, -, -, -, i6⟩ := J
  exact ((pl_W (lb := fun _ => 0) (o := 0) i1).rd (id := 3) (by decide) 2 rfl).trans (i6.1 3 2 (by decide))
theorem pl_meets (Y : y_S X lb) (G : y_G X lb g o) (hV : y_v X g σ = V) (hc : m_c X τ a = c) {s : Int} (hx : x.toInt = l) (hl : 0 ≤ l ∧ l < 60) {z7 : Int32} (wz : z7.toInt = 656 + 9 * s) (hs : 0 ≤ s ∧ s < 30) (h1 : V 21 l = c (656 + 9 * s + 7)) (h2 : V 22 l = c (656 + 9 * s + 2)) {u u' : Int32} (hu : u.toInt = u'.toInt) : (F_X8_meets X σ (q_rf X g 3) x u).toInt = (F_X12_isSo_J78_1 X z7 τ a u').toInt := by
  have ln := pl_line Y G hV hx hl
  have e7 := pl_cellk hc wz ⟨by omega, by omega⟩ 7 (j := 7) rfl (by decide)
  have e2 := pl_cellk hc wz ⟨by omega, by omega⟩ 2 (j := 2) rfl (by decide)
  unfold F_X8_meets F_X12_isSo_J78_1
  rw [q_letE (F_X5_get X σ (q_rf X (q_rf X g 3) 7) x), q_letE (F_X5_get X σ (q_rf X (q_rf X g 3) 6) x), ln.2.2.2.1, ln.2.2.2.2, h1, h2, q_letE (z7 + 7), q_letE (τ.1 (q_rf X a 20) (z7 + 7).toNatClampNeg), e7, hu]
  by_cases q : c (656 + 9 * s + 7) = 60
  · rw [if_pos q, if_pos q, q_letE (z7 + 2), q_letE (τ.1 (q_rf X a 20) (z7 + 2).toNatClampNeg), e2]
  · rw [if_neg q, if_neg q, q_letE (z7 + 7), q_letE (τ.1 (q_rf X a 20) (z7 + 7).toNatClampNeg), e7]
    by_cases q2 : c (656 + 9 * s + 7) = 62
    · rw [if_pos q2, if_pos q2, q_letE (z7 + 2), q_letE (τ.1 (q_rf X a 20) (z7 + 2).toNatClampNeg), e2]
    · rw [if_neg q2, if_neg q2, q_letE (z7 + 2), q_letE (τ.1 (q_rf X a 20) (z7 + 2).toNatClampNeg), e2]
/-- a test, in both -/
theorem pl_so (Y : y_S X lb) (G : y_G X lb g o) (hV : y_v X g σ = V) (Rg : rg V c) (hG : m_G c) (hc : m_c X τ a = c) {s : Int} (hx : x.toInt = l) (hl : 0 ≤ l ∧ l < 60) (st : st_l V c s l) (h3 : c (656 + 9 * s) = 3) {z7 : Int32} (wz : z7.toInt = 656 + 9 * s) (hs : 0 ≤ s ∧ s < c 655) (hm : 0 ≤ V 19 l ∧ V 19 l < 60) :
    ∃ y : Int32, y.toInt = V 19 l + 1 ∧ F_X7_behindStep X σ R g x = if (F_X12_isSo X τ a z7).toInt = 0 then (y, σ) else (x + 1, σ) := by
  have one : (1 : Int32).toInt = 1 := rfl
  have e22 : (22 : Int32).toInt = 22 := rfl
  have n9 : ((y_gn 9 : Nat) : Int) = 6 := rfl
  have n12 : ((y_gn 12 : Nat) : Int) = 6 := rfl
  have qq := hG.2.2.2.2.2.1
  have s30 : 0 ≤ s ∧ s < 30 := by omega
  have w := pl_W (lb := lb) (o := o) hV
  have ln := pl_line Y G hV hx hl
  have yv : (F_X5_get X σ (q_rf X (q_rf X g 3) 4) x + 1).toInt = V 19 l + 1 := by
    rw [y_inc (by rw [ln.2.1]; omega), ln.2.1]
  refine ⟨_, yv, ?_⟩
  have gk : ∀ (k : Int32) (j : Int), k.toInt = j → 0 ≤ j ∧ j ≤ 10 → (τ.1 (q_rf X a 20) (z7 + k).toNatClampNeg).toInt = c (656 + 9 * s + j) := fun k j h1 h2 => pl_cellk hc wz ⟨by omega, by omega⟩ k h1 h2
  have e6 := gk 6 6 rfl (by decide)
  have e1 := gk 1 1 rfl (by decide)
  unfold F_X7_behindStep
  rw [q_letE (F_X5_get X σ (q_rf X (q_rf X g 3) 5) x), q_letE (F_X5_get X σ (q_rf X (q_rf X g 3) 7) x), q_letE (F_X5_get X σ (q_rf X (q_rf X g 3) 4) x), q_letE (F_X5_get X σ (q_rf X (q_rf X g 3) 4) x + 1), q_letE (F_X5_get X σ (q_rf X (q_rf X g 3) 3) x), ln.1]
  have qs := (hG.2.2.2.2.2.2 s hs.1 hs.2).2.1
  have st' := st
  unfold st_l at st'
  rcases st' with ⟨h0, -⟩ | ⟨h0, -⟩ | ⟨h0, -⟩ | ⟨h0, -⟩ | ⟨h0, -⟩ | ⟨-, k6, k18, k20, k21, k22⟩ | ⟨-, k6, k18, k21, k22⟩ | ⟨-, k6, k18, k20, k21, k22⟩ | ⟨-, k6, k18⟩
  · omega
  · omega
  · omega
  · omega
  · omega
  · have hp := qs (Or.inr (Or.inr ⟨h3, Or.inl k6⟩))
    have is : F_X12_isSo X τ a z7 = F_X12_isSo_J78_1 X z7 τ a (F_X12_cardsOf X τ a (τ.1 (q_rf X a 20) (z7 + 1).toNatClampNeg)) := by
      unfold F_X12_isSo
      rw [q_letE (z7 + 6), q_letE (τ.1 (q_rf X a 20) (z7 + 6).toNatClampNeg), e6, k6, if_neg (by decide : ¬ (0 : Int) = 3), if_pos (rfl : (0 : Int) = 0), q_letE (z7 + 1), q_letE (τ.1 (q_rf X a 20) (z7 + 1).toNatClampNeg), q_letE (F_X12_cardsOf X τ a (τ.1 (q_rf X a 20) (z7 + 1).toNatClampNeg))]
    rw [k18, is, if_neg (by decide : ¬ (5 : Int) = 0), if_neg (by decide : ¬ (5 : Int) = 1), if_neg (by decide : ¬ (5 : Int) = 2), if_neg (by decide : ¬ (5 : Int) = 3), if_neg (by decide : ¬ (5 : Int) = 4), if_pos (rfl : (5 : Int) = 5)]
    have c1 : (F_X5_get X σ (q_rf X (q_rf X g 1) 2) (F_X5_get X σ (q_rf X (q_rf X g 3) 5) x)).toInt = m_S c (34 + 10 * c (656 + 9 * s + 1)) 10 := (y_getI Y G w (id := 9) (r := q_rf X (q_rf X g 1) 2) ⟨by decide, by decide⟩ rfl (ln.2.2.1.trans k20) hp.1 (by rw [n9]; omega)).trans (Rg.2.2.2.1.2 _ hp.1 (by omega))
    have c2 := gm_cardsOf (X := X) hc hG e1 ⟨hp.1, by omega⟩
    have mm := pl_meets (X := X) (τ := τ) (a := a) Y G hV hc hx hl wz s30 k21 k22 (c1.trans c2.symm)
    rw [q_letE (F_X5_get X σ (q_rf X (q_rf X g 1) 2) (F_X5_get X σ (q_rf X (q_rf X g 3) 5) x)), q_letE (F_X8_meets X σ (q_rf X g 3) x (F_X5_get X σ (q_rf X (q_rf X g 1) 2) (F_X5_get X σ (q_rf X (q_rf X g 3) 5) x))), mm, q_letE (x + 1)]
  · have is : F_X12_isSo X τ a z7 = F_X12_isSo_J78_1 X z7 τ a (F_X12_heapMany X τ a) := by
      unfold F_X12_isSo
      rw [q_letE (z7 + 6), q_letE (τ.1 (q_rf X a 20) (z7 + 6).toNatClampNeg), e6, k6, if_neg (by decide : ¬ (1 : Int) = 3), if_neg (by decide : ¬ (1 : Int) = 0), if_pos (rfl : (1 : Int) = 1), q_letE (F_X12_heapMany X τ a)]
    rw [k18, is, if_neg (by decide : ¬ (6 : Int) = 0), if_neg (by decide : ¬ (6 : Int) = 1), if_neg (by decide : ¬ (6 : Int) = 2), if_neg (by decide : ¬ (6 : Int) = 3), if_neg (by decide : ¬ (6 : Int) = 4), if_neg (by decide : ¬ (6 : Int) = 5), if_pos (rfl : (6 : Int) = 6)]
    have c1 : (σ.1 (q_rf X g 2) 1).toInt = m_L c (c 9).toNat := (w.rd (id := 2) (by decide) 1 rfl).trans Rg.2.2.2.2.1.2.1
    have c2 := lk_heap (X := X) hc hG
    have mm := pl_meets (X := X) (τ := τ) (a := a) Y G hV hc hx hl wz s30 k21 k22 (c1.trans c2.symm)
    rw [q_letE (σ.1 (q_rf X g 2) 1), q_letE (F_X8_meets X σ (q_rf X g 3) x (σ.1 (q_rf X g 2) 1)), mm, q_letE (x + 1)]
  · have hp := qs (Or.inr (Or.inr ⟨h3, Or.inr k6⟩))
    have is : F_X12_isSo X τ a z7 = F_X12_isSo_J78_1 X z7 τ a (τ.1 (q_rf X a 20) ((22 : Int32) + τ.1 (q_rf X a 20) (z7 + 1).toNatClampNeg).toNatClampNeg) := by
      unfold F_X12_isSo
      rw [q_letE (z7 + 6), q_letE (τ.1 (q_rf X a 20) (z7 + 6).toNatClampNeg), e6, k6, if_neg (by decide : ¬ (2 : Int) = 3), if_neg (by decide : ¬ (2 : Int) = 0), if_neg (by decide : ¬ (2 : Int) = 1), q_letE (z7 + 1), q_letE (τ.1 (q_rf X a 20) (z7 + 1).toNatClampNeg), q_letE ((22 : Int32) + τ.1 (q_rf X a 20) (z7 + 1).toNatClampNeg), q_letE (τ.1 (q_rf X a 20) ((22 : Int32) + τ.1 (q_rf X a 20) (z7 + 1).toNatClampNeg).toNatClampNeg)]
    rw [k18, is, if_neg (by decide : ¬ (7 : Int) = 0), if_neg (by decide : ¬ (7 : Int) = 1), if_neg (by decide : ¬ (7 : Int) = 2), if_neg (by decide : ¬ (7 : Int) = 3), if_neg (by decide : ¬ (7 : Int) = 4), if_neg (by decide : ¬ (7 : Int) = 5), if_neg (by decide : ¬ (7 : Int) = 6), if_pos (rfl : (7 : Int) = 7)]
    have c1 : (F_X5_get X σ (q_rf X (q_rf X g 1) 5) (F_X5_get X σ (q_rf X (q_rf X g 3) 5) x)).toInt = c (22 + c (656 + 9 * s + 1)) := (y_getI Y G w (id := 12) (r := q_rf X (q_rf X g 1) 5) ⟨by decide, by decide⟩ rfl (ln.2.2.1.trans k20) hp.1 (by rw [n12]; omega)).trans (Rg.2.2.1 _ hp.1 (by omega)).2.2.1
    have c2 : (τ.1 (q_rf X a 20) ((22 : Int32) + τ.1 (q_rf X a 20) (z7 + 1).toNatClampNeg).toNatClampNeg).toInt = c (22 + c (656 + 9 * s + 1)) := gm_cell hc (by rw [ar_add, e22, e1, ar_wr (by omega) (by omega)])
    have mm := pl_meets (X := X) (τ := τ) (a := a) Y G hV hc hx hl wz s30 k21 k22 (c1.trans c2.symm)
    rw [q_letE (F_X5_get X σ (q_rf X (q_rf X g 1) 5) (F_X5_get X σ (q_rf X (q_rf X g 3) 5) x)), q_letE (F_X8_meets X σ (q_rf X g 3) x (F_X5_get X σ (q_rf X (q_rf X g 1) 5) (F_X5_get X σ (q_rf X (q_rf X g 3) 5) x))), mm, q_letE (x + 1)]
  · have s3 := Rg.2.1.2.2.1
    have c1 : (σ.1 g 6).toInt = c 8 := (w.rd (id := 0) (by decide) 6 rfl).trans s3.1
    have c2 : (τ.1 (q_rf X a 20) (8 : Int32).toNatClampNeg).toInt = c 8 := gm_cell (A := 8) hc rfl
    have is : F_X12_isSo X τ a z7 = if c 8 < 0 then 0 else 1 := by
      unfold F_X12_isSo
      rw [q_letE (z7 + 6), q_letE (τ.1 (q_rf X a 20) (z7 + 6).toNatClampNeg), e6, k6, if_pos (rfl : (3 : Int) = 3), q_letE (τ.1 (q_rf X a 20) (8 : Int32).toNatClampNeg), c2]
    rw [k18, is, if_neg (by decide : ¬ (8 : Int) = 0), if_neg (by decide : ¬ (8 : Int) = 1), if_neg (by decide : ¬ (8 : Int) = 2), if_neg (by decide : ¬ (8 : Int) = 3), if_neg (by decide : ¬ (8 : Int) = 4), if_neg (by decide : ¬ (8 : Int) = 5), if_neg (by decide : ¬ (8 : Int) = 6), if_neg (by decide : ¬ (8 : Int) = 7), if_pos (rfl : (8 : Int) = 8), q_letE (σ.1 g 6), c1, q_letE (x + 1)]
    by_cases q : c 8 = -1
    · rw [if_pos q, if_pos (by omega : c 8 < 0), if_pos (by decide : (0 : Int32).toInt = 0)]
    · rw [if_neg q, if_neg (by omega : ¬ c 8 < 0), if_neg (by decide : ¬ (1 : Int32).toInt = 0)]
/-- a loop of the reference at its end -/
theorem pl_loopEnd {z7 v1 : Int32} {FA : ST → Int32 → Int32 → ST} {fu : Nat} {y : Int32} {s N : Int} (hc : m_c X τ a = c) (wz : z7.toInt = 656 + 9 * s) (hs : 0 ≤ s ∧ s < 30) (hN : c (656 + 9 * s + 1) = N) (h : N ≤ y.toInt ∨ (τ.1 a 38).toInt ≠ 0) : F_X12_doOne_s_L117_1 X z7 a v1 FA (fu + 1) y τ = τ := by
  have e1 := pl_cellk hc wz ⟨by omega, by omega⟩ 1 (j := 1) rfl (by decide)
  rw [F_X12_doOne_s_L117_1_s]
  unfold F_X12_doOne_s_B117_1
  rw [q_letE (z7 + 1), q_letE (τ.1 (q_rf X a 20) (z7 + 1).toNatClampNeg), e1, hN]
  by_cases q : y.toInt < N
  · rw [if_pos q, q_letE (τ.1 a 38), if_neg (by
      rcases h with h | h
      · omega
      · exact h)]
  · rw [if_neg q]
/-- a body of its own -/
def pl_body (X : XW) (lb : Nat → Nat) (g o a R : Nat) (V0 : Nat → Int → Int) (c0 : Int → Int) (n : Int) (FA : ST → Int32 → Int32 → ST) (s b l m : Int) : Prop := ∀ (σ τ : ST) (v1 v2 x i : Int32) (B : Int), pl_J X g a R V0 c0 n σ τ → pl_on a τ → v1.toInt = s → v2.toInt = b → x.toInt = l → 0 ≤ i.toInt → i.toInt - 100 * (τ.1 a 40).toInt ≤ B → B ≤ 0 → pl_O X lb g o a R V0 c0 n σ τ (FA τ v1 v2) l m B x i
theorem pl_loop (Y : y_S X lb) (G : y_G X lb g o) (D : pl_D X lb o R) {FA : ST → Int32 → Int32 → ST} {s b m N : Int} (FB : pl_body X lb g o a R V0 c0 n FA (s + 1) b (l + 1) m) (hs : 0 ≤ s ∧ s < 30) (hl : 0 ≤ l ∧ l < m ∧ m < V0 3 2) (h60 : V0 3 2 ≤ 60) (hN : c0 (656 + 9 * s + 1) = N) (bN : 1 ≤ N ∧ N ≤ 99) (hb : c0 (656 + 9 * s + 8) = b) (m9 : V0 18 m = 9) (mm : V0 19 m = l) (l4 : V0 18 l = 4) {z7 v1 : Int32} (wz : z7.toInt = 656 + 9 * s) (hv : v1.toInt = s) (hB0 : B ≤ 0) (fu : Nat) :
    ∀ (y x i : Int32) (σ τ : ST) (k : Int), (2147483647 - y.toInt).toNat < fu → y.toInt = k → 0 ≤ k → k < N → pl_J X g a R V0 c0 n σ τ → pl_on a τ → (σ.1 (pl_T X R) l.toNat).toInt = N - k → x.toInt = l + 1 → 0 ≤ i.toInt → i.toInt - 100 * (τ.1 a 40).toInt ≤ B - 99 + k → pl_O X lb g o a R V0 c0 n σ τ (F_X12_doOne_s_L117_1 X z7 a v1 FA fu y τ) l (m + 1) B x i := by
  induction fu with
  | zero => intro y x i σ τ k h; exact absurd h (Nat.not_lt_zero _)
  | succ fu ih =>
    intro y x i σ τ k hf hy k0 k1 J on hT hx hi hB
    obtain ⟨fu', efu⟩ : ∃ q, fu = q + 1 := ⟨fu - 1, by omega⟩
    have one : (1 : Int32).toInt = 1 := rfl
    have J0 := J
    obtain ⟨-, -, -, -, -, V', c', i1, i2, i3, i4, i5, i6⟩ := J
    have e1 : (τ.1 (q_rf X a 20) (z7 + 1).toNatClampNeg).toInt = N := (pl_cellk i2 wz ⟨by omega, by omega⟩ 1 (j := 1) rfl (by decide)).trans ((i6.2 _ (by omega) (by omega)).trans hN)
    have e8 : (τ.1 (q_rf X a 20) (z7 + 8).toNatClampNeg).toInt = b := (pl_cellk i2 wz ⟨by omega, by omega⟩ 8 (j := 8) rfl (by decide)).trans ((i6.2 _ (by omega) (by omega)).trans hb)
    have y1 : (y + 1).toInt = k + 1 := by rw [y_inc (by omega), hy]
    have v1' : (v1 + 1).toInt = s + 1 := by rw [y_inc (by omega), hv]
    rw [F_X12_doOne_s_L117_1_s]
    unfold F_X12_doOne_s_B117_1
    rw [q_letE (z7 + 1), q_letE (τ.1 (q_rf X a 20) (z7 + 1).toNatClampNeg), e1, hy, if_pos k1, q_letE (τ.1 a 38), if_pos on.1, q_letE (v1 + 1), q_letE (z7 + 8), q_letE (τ.1 (q_rf X a 20) (z7 + 8).toNatClampNeg), q_letE (FA τ (v1 + 1) (τ.1 (q_rf X a 20) (z7 + 8).toNatClampNeg)), q_letE (y + 1)]
    have bo := FB σ τ (v1 + 1) (τ.1 (q_rf X a 20) (z7 + 8).toNatClampNeg) x i (B - 99 + k) J0 on v1' e8 hx hi hB (by omega)
    obtain ⟨τ1, et⟩ : ∃ t, t = FA τ (v1 + 1) (τ.1 (q_rf X a 20) (z7 + 8).toNatClampNeg) := ⟨_, rfl⟩
    rw [← et] at bo ⊢
    obtain ⟨σ1, a1, a2, a3, a4, a5⟩ := bo
    have J1 := a3
    obtain ⟨-, -, -, j5, jb, V1, c1, o1, o2, o3, o4, o5, o6⟩ := a3
    have N1 : c1 (656 + 9 * s + 1) = N := (o6.2 _ (by omega) (by omega)).trans hN
    rcases a5 with ⟨b1, x', i', b2, b3, b4, b5⟩ | ⟨b1, b2⟩
    · have T1 : σ1.1 (pl_T X R) l.toNat = σ.1 (pl_T X R) l.toNat := a4 _ (Or.inl (by omega))
      have T1v : (σ1.1 (pl_T X R) l.toNat - 1).toInt = N - k - 1 := by rw [ar_sub, T1, hT, one, ar_wr (by omega) (by omega)]
      have w32 : V1 3 2 = V0 3 2 := o6.1 3 2 (by decide)
      obtain ⟨u, hu, em⟩ := pl_endMove Y G D o1 (x := x') (i := i') (m := m) (l := l) ⟨b3, by omega⟩ b2 (by rw [w32]; exact ⟨hl.2.1, hl.2.2⟩) hl.1 (by rw [w32]; exact h60) ((congrArg Int32.toInt j5).trans b1.2) ((o6.1 18 m (by omega)).trans m9) ((o6.1 19 m (by omega)).trans mm)
      rw [if_pos ((o6.1 18 l (by omega)).trans l4), T1v] at em
      have i1' : (i' + 1).toInt = i'.toInt + 1 := y_inc (by omega)
      have x1' : (x' + 1).toInt = m + 1 := by rw [y_inc (by omega), b2]
      have u1' : (u + 1).toInt = l + 1 := by rw [y_inc (by omega), hu]
      have J2 := J1.st Y G D l.toNat (σ1.1 (pl_T X R) l.toNat - 1)
      have S2 : tkl (pl_Sg X lb o R) (fun _ _ => False) σ (q_si σ1 (pl_T X R) l.toNat (σ1.1 (pl_T X R) l.toNat - 1)) := a1.si _ (Or.inr (Or.inr rfl))
      have F2 : ∀ y : Nat, (y : Int) < l ∨ m + 1 ≤ (y : Int) → (q_si σ1 (pl_T X R) l.toNat (σ1.1 (pl_T X R) l.toNat - 1)).1 (pl_T X R) y = σ.1 (pl_T X R) y := fun y hy => by
        rw [si_f (by omega)]
        exact a4 y (by omega)
      by_cases q : 0 < N - k - 1
      · rw [if_pos q] at em
        refine pl_O.pre S2 a2 F2 (b5.trans em) (ih (y + 1) (u + 1) (i' + 1) _ τ1 (k + 1) (by omega) y1 (by omega) (by omega) J2 b1 ?_ u1' (by omega) (by omega))
        rw [si_eq, T1v]
        omega
      · rw [if_neg q] at em
        rw [efu, pl_loopEnd o2 wz hs N1 (Or.inl (by omega))]
        exact ⟨_, S2, a2, J2, F2, Or.inl ⟨b1, x' + 1, i' + 1, x1', by omega, by omega, b5.trans em⟩⟩
    · rw [efu, pl_loopEnd o2 wz hs N1 (Or.inr (by omega))]
      exact ⟨σ1, a1, a2, J1, fun y hy => a4 y (by omega), Or.inr ⟨b1, b2⟩⟩
/-- a step with a body -/
theorem pl_block (Y : y_S X lb) (G : y_G X lb g o) (D : pl_D X lb o R) (ha : q_kd X a = 12) (hn : n ≤ 800000) {FA : ST → Int32 → Int32 → ST} {s b m : Int} (FB : pl_body X lb g o a R V0 c0 n FA (s + 1) b (l + 1) m) (J : pl_J X g a R V0 c0 n σ τ) (on : pl_on a τ) (S : st_l V0 c0 s l) (hs : 0 ≤ s ∧ s < c0 655) (hl : 0 ≤ l ∧ l < m ∧ m < V0 3 2) (h60 : V0 3 2 ≤ 60) (hk : c0 (656 + 9 * s) = 3 ∨ c0 (656 + 9 * s) = 4) (hb : c0 (656 + 9 * s + 8) = b) (m9 : V0 18 m = 9) (mm : V0 19 m = l) (ml : V0 19 l = m) {v1 : Int32} (hx : x.toInt = l) (hv : v1.toInt = s) (hi : 0 ≤ i.toInt) (hB : i.toInt - 100 * (τ.1 a 40).toInt ≤ B) (hB0 : B ≤ 0) :
    pl_O X lb g o a R V0 c0 n σ τ (F_X12_doOne_s X τ a v1 FA) l (m + 1) B x i := by
  obtain ⟨n80, n8a, n0a⟩ := pl_k28 Y.1 ha
  obtain ⟨⟨k6, k2, k3, k4⟩, j0, j1, j5, jb, V', c', i1, i2, i3, i4, i5, i6⟩ := id J
  have one : (1 : Int32).toInt = 1 := rfl
  have w := pl_W (lb := lb) (o := o) i1
  have e655 : c' 655 = c0 655 := i6.2 655 (by decide) (Or.inr (by decide))
  have qq := i4.2.2.2.2.2.1
  have s30 : s < 30 := by omega
  have hl60 : 0 ≤ l ∧ l < 60 := ⟨hl.1, by omega⟩
  have v32 : V' 3 2 = V0 3 2 := i6.1 3 2 (by decide)
  have st := i6.st ⟨hs.1, s30⟩ hl60 S
  have ck : ∀ j : Int, 0 ≤ j ∧ j ≤ 10 → c' (656 + 9 * s + j) = c0 (656 + 9 * s + j) := fun j h => i6.2 _ (by omega) (by omega)
  have ck0 : c' (656 + 9 * s) = c0 (656 + 9 * s) := i6.2 _ (by omega) (by omega)
  have act := st.act
  have f2 : (σ.1 (q_rf X g 3) 2).toInt = V0 3 2 := (w.rd (id := 3) (by decide) 2 rfl).trans v32
  have ln := pl_line Y G i1 hx hl60
  have h5 : (σ.1 R 5).toInt = 0 := by rw [j5]; exact on.2
  have hi6 : 0 ≤ i.toInt ∧ i.toInt < 1000000 := ⟨hi, by omega⟩
  have r0 : (σ.1 R 0).toInt = (τ.1 a 40).toInt := congrArg Int32.toInt j0
  have xi : (x + 1).toInt = l + 1 := by rw [y_inc (by omega), hx]
  have ii : (i + 1).toInt = i.toInt + 1 := y_inc (by omega)
  have v1' : (v1 + 1).toInt = s + 1 := by rw [y_inc (by omega), hv]
  have step := pl_Lstep (X := X) (x := x) hi6 (by rw [f2]; omega) h5
  rw [if_neg (by rw [ln.1]; omega), r0] at step
  unfold F_X12_doOne_s
  rw [q_letE (τ.1 a 40)]
  by_cases q300 : (τ.1 a 40).toInt = 300
  · rw [if_pos q300] at step
    rw [if_pos q300, q_letE (q_si τ a 38 1), q_letE (q_si (q_si τ a 38 1) a 45 1)]
    exact pl_cut Y G D ha J step
  rw [if_neg q300] at step
  obtain ⟨J5, D5⟩ := J.step Y G D ha q300
  have v5 : y_v X g (q_si σ R 0 (σ.1 R 0 + 1)) = V' := (pl_vo Y G D.2.1 0 _).trans i1
  have m5 : m_c X (q_si τ a 40 (τ.1 a 40 + 1)) a = c' := (mv_cell Y.1 ha 40 _).trans i2
  have S5 : tkl (pl_Sg X lb o R) (fun _ _ => False) σ (q_si σ R 0 (σ.1 R 0 + 1)) := tkl.rf.si _ (Or.inr (Or.inl ⟨rfl, by decide⟩))
  have T5 : tkl (pl_Sq X a) (fun _ _ => False) τ (q_si τ a 40 (τ.1 a 40 + 1)) := tkl.rf.si _ (Or.inr (Or.inr ⟨rfl, by decide, by decide⟩))
  have u5 : ∀ y : Nat, (q_si σ R 0 (σ.1 R 0 + 1)).1 (pl_T X R) y = σ.1 (pl_T X R) y := fun y => q_si_ne D.ne y
  have on5 : pl_on a (q_si τ a 40 (τ.1 a 40 + 1)) := ⟨(congrArg Int32.toInt (si_f (by decide) a)).trans on.1, (congrArg Int32.toInt (si_f (by decide) a)).trans on.2⟩
  rw [if_neg q300, q_letE (τ.1 a 40), q_letE (τ.1 a 40 + 1), q_letE (q_si τ a 40 (τ.1 a 40 + 1)), q_letE ((9 : Int32) * v1), q_letE ((656 : Int32) + (9 : Int32) * v1)]
  obtain ⟨σ5, es⟩ : ∃ t, t = q_si σ R 0 (σ.1 R 0 + 1) := ⟨_, rfl⟩
  obtain ⟨τ5, et⟩ : ∃ t, t = q_si τ a 40 (τ.1 a 40 + 1) := ⟨_, rfl⟩
  rw [← es] at J5 v5 S5 u5 step
  rw [← et] at J5 D5 m5 T5 on5 ⊢
  have wz := pl_w656 hv ⟨hs.1, s30⟩
  obtain ⟨z7, ez⟩ : ∃ z, z = (656 : Int32) + (9 : Int32) * v1 := ⟨_, rfl⟩
  rw [← ez] at wz ⊢
  have g8 : (τ5.1 (q_rf X a 20) z7.toNatClampNeg).toInt = c' (656 + 9 * s) := gm_cell m5 wz
  have e8 : (τ5.1 (q_rf X a 20) (z7 + 8).toNatClampNeg).toInt = b := (pl_cellk m5 wz ⟨by omega, by omega⟩ 8 (j := 8) rfl (by decide)).trans ((ck 8 (by decide)).trans hb)
  rw [q_letE (τ5.1 (q_rf X a 20) z7.toNatClampNeg), g8, ck0]
  rcases hk with hk | hk
  · -- when
    rw [hk, if_neg (by decide : ¬ (3 : Int) < 3), if_pos rfl, q_letE (F_X12_isSo X τ5 a z7)]
    have vm : V' 19 l = m := (i6.1 19 l (by omega)).trans ml
    obtain ⟨y, hy, so⟩ := pl_so (R := R) Y G v5 i3 i4 m5 hx hl60 st (ck0.trans hk) wz ⟨hs.1, by rw [e655]; exact hs.2⟩ (by rw [vm]; omega)
    rw [vm] at hy
    rw [so] at step
    by_cases q : (F_X12_isSo X τ5 a z7).toInt = 0
    · rw [if_pos q, q_biP y σ5] at step
      rw [if_pos q, if_neg (by decide : ¬ (3 : Int) = 4), if_neg (by decide : ¬ (4 : Int) < 3)]
      exact ⟨σ5, S5, T5, J5, fun y _ => u5 y, Or.inl ⟨on5, y, i + 1, hy, by omega, by rw [D5]; omega, step⟩⟩
    · rw [if_neg q, q_biP (x + 1) σ5] at step
      rw [if_neg q, q_letE (v1 + 1), q_letE (z7 + 8), q_letE (τ5.1 (q_rf X a 20) (z7 + 8).toNatClampNeg), q_letE (FA τ5 (v1 + 1) (τ5.1 (q_rf X a 20) (z7 + 8).toNatClampNeg))]
      refine pl_O.pre S5 T5 (fun y _ => u5 y) step ?_
      have bo := FB σ5 τ5 (v1 + 1) (τ5.1 (q_rf X a 20) (z7 + 8).toNatClampNeg) (x + 1) (i + 1) (B - 99) J5 on5 v1' e8 xi (by omega) (by rw [D5]; omega) (by omega)
      obtain ⟨τ1, et1⟩ : ∃ t, t = FA τ5 (v1 + 1) (τ5.1 (q_rf X a 20) (z7 + 8).toNatClampNeg) := ⟨_, rfl⟩
      rw [← et1] at bo ⊢
      obtain ⟨σ1, a1, a2, a3, a4, a5⟩ := bo
      have J1 := a3
      obtain ⟨-, -, -, p5, pb, V1, c1, o1, o2, o3, o4, o5, o6⟩ := a3
      rcases a5 with ⟨b1, x', i', b2, b3, b4, b5⟩ | ⟨b1, b2⟩
      · have w32 : V1 3 2 = V0 3 2 := o6.1 3 2 (by decide)
        obtain ⟨u, hu, em⟩ := pl_endMove Y G D o1 (x := x') (i := i') (m := m) (l := l) ⟨b3, by omega⟩ b2 (by rw [w32]; exact ⟨hl.2.1, hl.2.2⟩) hl.1 (by rw [w32]; exact h60) ((congrArg Int32.toInt p5).trans b1.2) ((o6.1 18 m (by omega)).trans m9) ((o6.1 19 m (by omega)).trans mm)
        have n4 : ¬ V1 18 l = 4 := fun e => by
          have z1 := o6.1 18 l (by omega)
          have z2 := i6.1 18 l (by omega)
          have z3 := act.2.2.mp (by rw [z2, ← z1]; exact e)
          omega
        rw [if_neg n4] at em
        have i1' : (i' + 1).toInt = i'.toInt + 1 := y_inc (by omega)
        have x1' : (x' + 1).toInt = m + 1 := by rw [y_inc (by omega), b2]
        exact ⟨σ1, a1, a2, J1, fun y hy => a4 y (by omega), Or.inl ⟨b1, x' + 1, i' + 1, x1', by omega, by omega, b5.trans em⟩⟩
      · exact ⟨σ1, a1, a2, J1, fun y hy => a4 y (by omega), Or.inr ⟨b1, b2⟩⟩
  · -- loop
    rw [hk, if_neg (by decide : ¬ (4 : Int) < 3), if_neg (by decide : ¬ (4 : Int) = 3), if_pos rfl]
    have l4 : V' 18 l = 4 := act.2.2.mpr (ck0.trans hk)
    have nn : V' 22 l = c' (656 + 9 * s + 1) ∧ 1 ≤ c' (656 + 9 * s + 1) ∧ c' (656 + 9 * s + 1) ≤ 99 := by
      have st' := st
      unfold st_l at st'
      rw [ck0, hk] at st'
      omega
    have ln5 := pl_line Y G v5 hx hl60
    have xn : x.toNatClampNeg = l.toNat := by rw [ar_cl, hx]
    unfold F_X7_behindStep at step
    rw [q_letE (F_X5_get X σ5 (q_rf X (q_rf X g 3) 5) x), q_letE (F_X5_get X σ5 (q_rf X (q_rf X g 3) 7) x), q_letE (F_X5_get X σ5 (q_rf X (q_rf X g 3) 4) x), q_letE (F_X5_get X σ5 (q_rf X (q_rf X g 3) 4) x + 1), q_letE (F_X5_get X σ5 (q_rf X (q_rf X g 3) 3) x), ln5.1, l4, if_neg (by decide : ¬ (4 : Int) = 0), if_neg (by decide : ¬ (4 : Int) = 1), if_neg (by decide : ¬ (4 : Int) = 2), if_neg (by decide : ¬ (4 : Int) = 3), if_pos rfl, pl_tset Y D ⟨by omega, by omega⟩, xn, q_letE (q_si σ5 (pl_T X R) l.toNat (F_X5_get X σ5 (q_rf X (q_rf X g 3) 7) x)), q_letE (x + 1), q_biP (x + 1)] at step
    obtain ⟨N, eN⟩ : ∃ N, N = c' (656 + 9 * s + 1) := ⟨_, rfl⟩
    rw [← eN] at nn
    have lN : (F_X5_get X σ5 (q_rf X (q_rf X g 3) 7) x).toInt = N := ln5.2.2.2.2.trans nn.1
    obtain ⟨num, en⟩ : ∃ v, v = F_X5_get X σ5 (q_rf X (q_rf X g 3) 7) x := ⟨_, rfl⟩
    rw [← en] at step lN
    have S6 : tkl (pl_Sg X lb o R) (fun _ _ => False) σ (q_si σ5 (pl_T X R) l.toNat num) := S5.si _ (Or.inr (Or.inr rfl))
    refine pl_O.pre S6 T5 (fun y hy => by rw [si_f (by omega)]; exact u5 y) step ?_
    have z0 : (0 : Int32).toInt = 0 := rfl
    exact pl_loop Y G D FB ⟨hs.1, s30⟩ hl h60 (N := N) ((ck 1 (by decide)).symm.trans eN.symm) ⟨nn.2.1, nn.2.2⟩ hb m9 mm ((i6.1 18 l (by omega)).symm.trans l4) wz hv hB0 _ 0 (x + 1) (i + 1) _ τ5 0 (Nat.lt_succ_self _) z0 (by decide) (by omega) (J5.st Y G D l.toNat num) on5 (by rw [si_eq, lN]; omega) xi (by omega) (by rw [D5]; omega)
/-- nothing to do, or nothing more -/
theorem pl_allEnd {v2 y : Int32} {FO : ST → Int32 → ST} {fu : Nat} (h : v2.toInt ≤ y.toInt ∨ (τ.1 a 38).toInt ≠ 0) : F_X12_doAll_s_L2_1 X v2 a FO (fu + 1) y τ = τ := by
  rw [F_X12_doAll_s_L2_1_s]
  unfold F_X12_doAll_s_B2_1
  by_cases q : y.toInt < v2.toInt
  · rw [if_pos q, q_letE (τ.1 a 38), if_neg (by
      rcases h with h | h
      · omega
      · exact h)]
  · rw [if_neg q]
theorem pl_O.rf (J : pl_J X g a R V0 c0 n σ τ) (on : pl_on a τ) (hx : x.toInt = l) (hi : 0 ≤ i.toInt) (hB : i.toInt - 100 * (τ.1 a 40).toInt ≤ B) : pl_O X lb g o a R V0 c0 n σ τ τ l l B x i :=
  ⟨σ, tkl.rf, tkl.rf, J, fun _ _ => rfl, Or.inl ⟨on, x, i, hx, hi, hB, rfl⟩⟩
/-- one piece behind another -/
theorem pl_O.tr {τ2 : ST} {m : Int} (h : pl_O X lb g o a R V0 c0 n σ τ τ1 l m B x i) (hlm : l ≤ m) (hml : m ≤ l') (over : (τ1.1 a 38).toInt = 1 → τ2 = τ1) (k : ∀ (σ1 : ST) (x1 i1 : Int32), pl_J X g a R V0 c0 n σ1 τ1 → pl_on a τ1 → x1.toInt = m → 0 ≤ i1.toInt → i1.toInt - 100 * (τ1.1 a 40).toInt ≤ B → pl_O X lb g o a R V0 c0 n σ1 τ1 τ2 m l' B x1 i1) : pl_O X lb g o a R V0 c0 n σ τ τ2 l l' B x i := by
  obtain ⟨σ1, a1, a2, a3, a4, a5⟩ := h
  rcases a5 with ⟨b1, x', i', b2, b3, b4, b5⟩ | ⟨b1, b2⟩
  · obtain ⟨σ2, d1, d2, d3, d4, d5⟩ := k σ1 x' i' a3 b1 b2 b3 b4
    refine ⟨σ2, a1.tr d1, a2.tr d2, d3, fun y hy => (d4 y (by omega)).trans (a4 y (by omega)), ?_⟩
    rcases d5 with ⟨e1, x2, i2, e2, e3, e4, e5⟩ | ⟨e1, e2⟩
    · exact Or.inl ⟨e1, x2, i2, e2, e3, e4, b5.trans e5⟩
    · exact Or.inr ⟨e1, b5.trans e2⟩
  · rw [over b1]
    exact ⟨σ1, a1, a2, a3, fun y hy => a4 y (by omega), Or.inr ⟨b1, b2⟩⟩
theorem pl_allL (Y : y_S X lb) (G : y_G X lb g o) (D : pl_D X lb o R) (ha : q_kd X a = 12) (hn : n ≤ 800000) (h60 : V0 3 2 ≤ 60) (h30 : c0 655 ≤ 30) {FA : ST → Int32 → Int32 → ST} {d : Nat} (FB : ∀ (k : Nat) (s b l m : Int), 30 - (d : Int) ≤ s → 0 ≤ s → b ≤ c0 655 → 0 ≤ l → m ≤ V0 3 2 → fl V0 c0 k s b l m → pl_body X lb g o a R V0 c0 n FA s b l m) (k : Nat) :
    ∀ (fu : Nat) (s e l l' : Int) (σ τ : ST) (v1 v2 x i : Int32) (B : Int), (31 - s).toNat < fu → 30 - ((d + 1 : Nat) : Int) ≤ s → 0 ≤ s → e ≤ c0 655 → 0 ≤ l → l' ≤ V0 3 2 → fl V0 c0 k s e l l' → pl_J X g a R V0 c0 n σ τ → pl_on a τ → v1.toInt = s → v2.toInt = e → x.toInt = l → 0 ≤ i.toInt → i.toInt - 100 * (τ.1 a 40).toInt ≤ B → B ≤ 0 → pl_O X lb g o a R V0 c0 n σ τ (F_X12_doAll_s_L2_1 X v2 a (fun t w => F_X12_doOne_s X t a w FA) fu v1 τ) l l' B x i := by
  induction k with
  | zero =>
    intro fu s e l l' σ τ v1 v2 x i B hf hd s0 he l0 hl' F J on hv1 hv2 hx hi hB hB0
    have F' : s = e ∧ l = l' := F
    obtain ⟨fu', efu⟩ : ∃ q, fu = q + 1 := ⟨fu - 1, by omega⟩
    rw [efu, pl_allEnd (Or.inl (by omega)), ← F'.2]
    exact pl_O.rf J on hx hi hB
  | succ k ih =>
    intro fu s e l l' σ τ v1 v2 x i B hf hd s0 he l0 hl' F J on hv1 hv2 hx hi hB hB0
    obtain ⟨fu', efu⟩ : ∃ q, fu = q + 1 := ⟨fu - 1, by omega⟩
    rcases F with F | ⟨F1, F2, F3⟩
    · rw [efu, pl_allEnd (Or.inl (by omega)), ← F.2]
      exact pl_O.rf J on hx hi hB
    · obtain ⟨fu2, efu2⟩ : ∃ q, fu' = q + 1 := ⟨fu' - 1, by omega⟩
      rw [efu, F_X12_doAll_s_L2_1_s]
      unfold F_X12_doAll_s_B2_1
      rw [if_pos (by omega : v1.toInt < v2.toInt), q_letE (τ.1 a 38), if_pos on.1, q_letE (F_X12_doOne_s X τ a v1 FA), q_letE ((9 : Int32) * v1), q_letE ((656 : Int32) + (9 : Int32) * v1), q_letE ((656 : Int32) + (9 : Int32) * v1 + 8)]
      have wz := pl_w656 hv1 ⟨s0, by omega⟩
      -- the next step's number
      have next : ∀ (m : Int) (b : Int), pl_O X lb g o a R V0 c0 n σ τ (F_X12_doOne_s X τ a v1 FA) l m B x i → c0 (656 + 9 * s + 8) = b → l ≤ m → m ≤ l' → s < b → fl V0 c0 k b e m l' → pl_O X lb g o a R V0 c0 n σ τ (q_let ((F_X12_doOne_s X τ a v1 FA).1 (q_rf X a 20) ((656 : Int32) + (9 : Int32) * v1 + 8).toNatClampNeg) (fun f_12 => F_X12_doAll_s_L2_1 X v2 a (fun t w => F_X12_doOne_s X t a w FA) fu' f_12 (F_X12_doOne_s X τ a v1 FA))) l l' B x i := by
        intro m b O hb h1 h2 h3 F4
        obtain ⟨τ1, et⟩ : ∃ t, t = F_X12_doOne_s X τ a v1 FA := ⟨_, rfl⟩
        rw [← et] at O ⊢
        have O' := O
        obtain ⟨σ9, -, -, ⟨-, -, -, -, -, V1, c1, o1, o2, o3, o4, o5, o6⟩, -, -⟩ := O'
        have e8 : (τ1.1 (q_rf X a 20) ((656 : Int32) + (9 : Int32) * v1 + 8).toNatClampNeg).toInt = b := (pl_cellk o2 wz ⟨by omega, by omega⟩ 8 (j := 8) rfl (by decide)).trans ((o6.2 _ (by omega) (by omega)).trans hb)
        rw [q_letE (τ1.1 (q_rf X a 20) ((656 : Int32) + (9 : Int32) * v1 + 8).toNatClampNeg)]
        obtain ⟨y, ey⟩ : ∃ y, y = τ1.1 (q_rf X a 20) ((656 : Int32) + (9 : Int32) * v1 + 8).toNatClampNeg := ⟨_, rfl⟩
        rw [← ey] at e8 ⊢
        refine O.tr h1 h2 (fun h => by rw [efu2, pl_allEnd (Or.inr (by omega))]) (fun σ1 x1 i1 J1 on1 hx1 hi1 hB1 => ?_)
        exact ih fu' b e m l' σ1 τ1 y v2 x1 i1 B (by omega) (by omega) (by omega) he (by omega) hl' F4 J1 on1 e8 hv2 hx1 hi1 hB1 hB0
      rcases F3 with ⟨n3, n4, n8, F4⟩ | ⟨n3, m, b, n8, n18, n19, nl19, F4, F5⟩
      · have le := fl_le k F4
        exact next (l + 1) (s + 1) (pl_plain Y G D ha hn J on F2 ⟨s0, by omega⟩ ⟨l0, by omega⟩ h60 ⟨n3, n4⟩ hx hv1 hi hB hB0 FA) n8 (by omega) le.2 (by omega) F4
      · have le4 := fl_le k F4
        have le5 := fl_le k F5
        exact next (m + 1) b (pl_block Y G D ha hn (FB k (s + 1) b (l + 1) m (by omega) (by omega) (by omega) (by omega) (by omega) F4) J on F2 ⟨s0, by omega⟩ ⟨l0, by omega, by omega⟩ h60 n3 n8 n18 n19 nl19 hx hv1 hi hB hB0) n8 (by omega) le5.2 (by omega) F5
/-- all steps of a piece, in both -/
theorem pl_all (Y : y_S X lb) (G : y_G X lb g o) (D : pl_D X lb o R) (ha : q_kd X a = 12) (hn : n ≤ 800000) (h60 : V0 3 2 ≤ 60) (h30 : c0 655 ≤ 30) (d : Nat) : ∀ (k : Nat) (s b l m : Int), 30 - (d : Int) ≤ s → 0 ≤ s → b ≤ c0 655 → 0 ≤ l → m ≤ V0 3 2 → fl V0 c0 k s b l m → pl_body X lb g o a R V0 c0 n (F_X12_doAllN X a d) s b l m := by
  induction d with
  | zero =>
    intro k s b l m hd s0 hb l0 hm F σ τ v1 v2 x i B J on hv1 hv2 hx hi hB hB0
    have lm : l = m := by
      cases k with
      | zero => exact (show s = b ∧ l = m from F).2
      | succ k =>
        rcases F with F | ⟨F1, -⟩
        · exact F.2
        · omega
    have e : F_X12_doAllN X a 0 τ v1 v2 = τ := by
      show F_X12_doAll_z X τ a v1 v2 = τ
      unfold F_X12_doAll_z
      rw [F_X12_doAll_z_L2_1_s]
      unfold F_X12_doAll_z_B2_1
      split <;> rfl
    rw [e, ← lm]
    exact pl_O.rf J on hx hi hB
  | succ d ih =>
    intro k s b l m hd s0 hb l0 hm F σ τ v1 v2 x i B J on hv1 hv2 hx hi hB hB0
    have e : F_X12_doAllN X a (d + 1) τ v1 v2 = F_X12_doAll_s_L2_1 X v2 a (fun t w => F_X12_doOne_s X t a w (F_X12_doAllN X a d)) ((31 - v1.toInt).toNat + 1) v1 τ := rfl
    rw [e]
    exact pl_allL Y G D ha hn h60 h30 ih k _ s b l m σ τ v1 v2 x i B (by rw [hv1]; exact Nat.lt_succ_self _) hd s0 hb l0 hm F J on hv1 hv2 hx hi hB hB0
end PG

/-! FROM 49zs.play.lean.txt -/
/-! A ROUND PLAYED: go and plays; play called -/
section PH
variable {X : XW} {lb : Nat → Nat} {g o a R C : Nat} {σ σ' σ1 τ τ' τ1 : ST} {V0 V V' : Nat → Int → Int} {c0 c c' : Int → Int} {n : Int}
/-- a whole round -/
theorem pl_go (Y : y_S X lb) (G : y_G X lb g o) (D : pl_D X lb o R) (ha : q_kd X a = 12) (hn : n ≤ 800000) (hV : y_v X g σ = V) (Rg : rg V c) (hG : m_G c) (hW : m_W c n) (hc : m_c X τ a = c) (hr : rs V c) (v : Int32) :
    tkl (pl_Sg X lb o R) (fun _ _ => False) σ (F_X7_go X σ R g v) ∧ tkl (pl_Sq X a) (fun _ _ => False) τ (F_X12_plays X τ a v) ∧ pl_J X g a R V c n (F_X7_go X σ R g v) (F_X12_plays X τ a v) := by
  obtain ⟨n80, n8a, n0a⟩ := pl_k28 Y.1 ha
  obtain ⟨r0, r1, r2, ⟨r3, r4⟩, k, fk⟩ := hr
  have qq := hG.2.2.2.2.2.1
  have z0 : (0 : Int32).toInt = 0 := rfl
  unfold F_X7_go F_X12_plays
  -- the class begins
  obtain ⟨σ7, es⟩ : ∃ s, s = q_si (q_si (q_si (q_si (q_si (q_si (q_si σ R 0 0) R 1 0) R 2 0) R 3 0) R 4 0) R 5 0) R 6 v := ⟨_, rfl⟩
  rw [q_letE (q_si σ R 0 0), q_letE (q_si (q_si σ R 0 0) R 1 0), q_letE (q_si (q_si (q_si σ R 0 0) R 1 0) R 2 0), q_letE (q_si (q_si (q_si (q_si σ R 0 0) R 1 0) R 2 0) R 3 0), q_letE (q_si (q_si (q_si (q_si (q_si σ R 0 0) R 1 0) R 2 0) R 3 0) R 4 0), q_letE (q_si (q_si (q_si (q_si (q_si (q_si σ R 0 0) R 1 0) R 2 0) R 3 0) R 4 0) R 5 0), q_letE (q_si (q_si (q_si (q_si (q_si (q_si (q_si σ R 0 0) R 1 0) R 2 0) R 3 0) R 4 0) R 5 0) R 6 v), ← es]
  have s0 : σ7.1 R 0 = 0 := by rw [es, si_f (by decide), si_f (by decide), si_f (by decide), si_f (by decide), si_f (by decide), si_f (by decide), si_eq]
  have s1 : σ7.1 R 1 = 0 := by rw [es, si_f (by decide), si_f (by decide), si_f (by decide), si_f (by decide), si_f (by decide), si_eq]
  have s2 : σ7.1 R 2 = 0 := by rw [es, si_f (by decide), si_f (by decide), si_f (by decide), si_f (by decide), si_eq]
  have s3 : σ7.1 R 3 = 0 := by rw [es, si_f (by decide), si_f (by decide), si_f (by decide), si_eq]
  have s4 : σ7.1 R 4 = 0 := by rw [es, si_f (by decide), si_f (by decide), si_eq]
  have s5 : σ7.1 R 5 = 0 := by rw [es, si_f (by decide), si_eq]
  have s6 : σ7.1 R 6 = v := by rw [es, si_eq]
  have v7 : y_v X g σ7 = V := by
    rw [es, pl_vo Y G D.2.1, pl_vo Y G D.2.1, pl_vo Y G D.2.1, pl_vo Y G D.2.1, pl_vo Y G D.2.1, pl_vo Y G D.2.1, pl_vo Y G D.2.1]
    exact hV
  have S7 : tkl (pl_Sg X lb o R) (fun _ _ => False) σ σ7 := by
    rw [es]
    exact ((((((tkl.rf.si _ (Or.inr (Or.inl ⟨rfl, by decide⟩))).si _ (Or.inr (Or.inl ⟨rfl, by decide⟩))).si _ (Or.inr (Or.inl ⟨rfl, by decide⟩))).si _ (Or.inr (Or.inl ⟨rfl, by decide⟩))).si _ (Or.inr (Or.inl ⟨rfl, by decide⟩))).si _ (Or.inr (Or.inl ⟨rfl, by decide⟩))).si _ (Or.inr (Or.inl ⟨rfl, by decide⟩))
  -- the reference begins
  obtain ⟨τ8, et⟩ : ∃ s, s = q_si (q_si (q_si (q_si (q_si (q_si (q_si (q_si τ a 39 v) a 40 0) a 41 0) a 42 0) a 43 0) a 44 0) a 45 0) a 38 0 := ⟨_, rfl⟩
  rw [q_letE (q_si τ a 39 v), q_letE (q_si (q_si τ a 39 v) a 40 0), q_letE (q_si (q_si (q_si τ a 39 v) a 40 0) a 41 0), q_letE (q_si (q_si (q_si (q_si τ a 39 v) a 40 0) a 41 0) a 42 0), q_letE (q_si (q_si (q_si (q_si (q_si τ a 39 v) a 40 0) a 41 0) a 42 0) a 43 0), q_letE (q_si (q_si (q_si (q_si (q_si (q_si τ a 39 v) a 40 0) a 41 0) a 42 0) a 43 0) a 44 0), q_letE (q_si (q_si (q_si (q_si (q_si (q_si (q_si τ a 39 v) a 40 0) a 41 0) a 42 0) a 43 0) a 44 0) a 45 0), q_letE (q_si (q_si (q_si (q_si (q_si (q_si (q_si (q_si τ a 39 v) a 40 0) a 41 0) a 42 0) a 43 0) a 44 0) a 45 0) a 38 0), ← et]
  have t39 : τ8.1 a 39 = v := by rw [et, si_f (by decide), si_f (by decide), si_f (by decide), si_f (by decide), si_f (by decide), si_f (by decide), si_f (by decide), si_eq]
  have t40 : τ8.1 a 40 = 0 := by rw [et, si_f (by decide), si_f (by decide), si_f (by decide), si_f (by decide), si_f (by decide), si_f (by decide), si_eq]
  have t41 : τ8.1 a 41 = 0 := by rw [et, si_f (by decide), si_f (by decide), si_f (by decide), si_f (by decide), si_f (by decide), si_eq]
  have t42 : τ8.1 a 42 = 0 := by rw [et, si_f (by decide), si_f (by decide), si_f (by decide), si_f (by decide), si_eq]
  have t43 : τ8.1 a 43 = 0 := by rw [et, si_f (by decide), si_f (by decide), si_f (by decide), si_eq]
  have t44 : τ8.1 a 44 = 0 := by rw [et, si_f (by decide), si_f (by decide), si_eq]
  have t45 : τ8.1 a 45 = 0 := by rw [et, si_f (by decide), si_eq]
  have t38 : τ8.1 a 38 = 0 := by rw [et, si_eq]
  have m8 : m_c X τ8 a = c := by
    rw [et, mv_cell Y.1 ha, mv_cell Y.1 ha, mv_cell Y.1 ha, mv_cell Y.1 ha, mv_cell Y.1 ha, mv_cell Y.1 ha, mv_cell Y.1 ha, mv_cell Y.1 ha]
    exact hc
  have T8 : tkl (pl_Sq X a) (fun _ _ => False) τ τ8 := by
    rw [et]
    exact (((((((tkl.rf.si _ (Or.inr (Or.inr ⟨rfl, by decide, by decide⟩))).si _ (Or.inr (Or.inr ⟨rfl, by decide, by decide⟩))).si _ (Or.inr (Or.inr ⟨rfl, by decide, by decide⟩))).si _ (Or.inr (Or.inr ⟨rfl, by decide, by decide⟩))).si _ (Or.inr (Or.inr ⟨rfl, by decide, by decide⟩))).si _ (Or.inr (Or.inr ⟨rfl, by decide, by decide⟩))).si _ (Or.inr (Or.inr ⟨rfl, by decide, by decide⟩))).si _ (Or.inr (Or.inr ⟨rfl, by decide, by decide⟩))
  have J : pl_J X g a R V c n σ7 τ8 := by
    refine ⟨⟨?_, ?_, ?_, ?_⟩, ?_, ?_, ?_, ?_, V, c, v7, m8, Rg, hG, ?_, pl_fix.rf⟩
    · rw [s6, t39]
    · rw [s2, t42]
    · rw [s3, t43]
    · rw [s4, t44]
    · rw [s0, t40]
    · rw [s1, t41]
    · rw [s5, t45]
    · rw [t40, z0]
      decide
    · rw [t40, z0]
      exact hW.le (by omega)
  have on : pl_on a τ8 := ⟨by rw [t38, z0], by rw [t45, z0]⟩
  have g655 : (τ8.1 (q_rf X a 20) (655 : Int32).toNatClampNeg).toInt = c 655 := gm_cell (A := 655) m8 rfl
  rw [q_letE (τ8.1 (q_rf X a 20) (655 : Int32).toNatClampNeg), q_letE (F_X12_doAllN X a 30 τ8 0 (τ8.1 (q_rf X a 20) (655 : Int32).toNatClampNeg))]
  obtain ⟨σ2, a1, a2, a3, a4, a5⟩ := pl_all Y G D ha hn r4 qq.2 30 k 0 (c 655) 0 (V 3 2) (by decide) (by decide) (Int.le_refl _) (by decide) (Int.le_refl _) fk σ7 τ8 0 (τ8.1 (q_rf X a 20) (655 : Int32).toNatClampNeg) 0 0 0 J on rfl g655 rfl (by decide) (by rw [t40]; decide) (by decide)
  have e : pl_L X g R 0 0 σ7 = σ2 := by
    rcases a5 with ⟨-, x', i', b2, -, -, b5⟩ | ⟨-, b2⟩
    · rw [b5]
      exact pl_Lstop (Or.inr (by rw [a3.lines, b2]; exact Int.le_refl _))
    · exact b2
  have e' : F_X7_go_L46_1 X g R ((2147483647 - (0 : Int32).toInt).toNat + 1) 0 0 σ7 = σ2 := e
  rw [e']
  exact ⟨S7.tr a1, T8.tr a2, a3⟩
/-- game and marks behind a change of the game alone -/
theorem al_R.fr (K : al_C X lb C a) (A : al_R X C a σ τ) (M : m_M (m_c X τ a) (τ.1 a 24).toInt n) (v1 : y_v X (q_rf X C 8) σ' = V') (m1 : m_c X τ' a = c') (R' : rg V' c') (F : pl_fix (y_v X (q_rf X C 8) σ) V' (m_c X τ a) c') (fr : ∀ b, 3 ≤ lb b / 8192 → ∀ f, σ'.1 b f = σ.1 b f) (e11 : σ'.1 C 11 = σ.1 C 11) (e24 : τ'.1 a 24 = τ.1 a 24) (w1 : m_wd X τ' a = m_wd X τ a) : al_R X C a σ' τ' := by
  obtain ⟨kC, ka, S, lC, G8, G9, GM⟩ := K
  obtain ⟨⟨A1, A1b, A1c⟩, A2, A3, A4⟩ := A
  obtain ⟨fV, fc⟩ := F
  refine ⟨⟨?_, ?_, ?_⟩, by rw [e11, e24]; exact A2, by rw [e11]; exact A3, fun b b1 b2 => ?_⟩
  · rw [v1, m1]; exact R'
  · rw [v1, m1, w1, fc 2 (by decide) (by decide)]
    intro p p0 p1
    obtain ⟨a1, a2, a3⟩ := A1b p p0 p1
    rw [fV 6 p (by decide)]
    refine ⟨a1, fun i i0 i1 => by rw [fV 5 _ (by decide)]; exact a2 i i0 i1, ?_⟩
    rw [a3]
    refine tx_wv_ext (fun i hi => ?_)
    show y_v X (q_rf X C 8) σ 5 (8 * p + (0 + (i : Int))) = V' 5 (8 * p + (0 + (i : Int)))
    rw [fV 5 _ (by decide)]
  · rw [v1, m1]
    obtain ⟨h1, h2, h3, h4, n, h5⟩ := A1c
    have q := M.1.1.2.2.2.2.2.1
    refine ⟨?_, ?_, ?_, ?_, n, ?_⟩
    · rw [fV 3 0 (by decide), fc 654 (by decide) (by decide)]; exact h1
    · rw [fc 654 (by decide) (by decide)]; exact h2
    · rw [fV 3 1 (by decide), fc 655 (by decide) (by decide)]; exact h3
    · rw [fV 3 2 (by decide)]; exact h4
    · rw [fV 3 2 (by decide), fc 655 (by decide) (by decide)]
      exact fl_x (fun id i i0 i1 j0 j1 => fV id i (by omega)) (fun j j0 j1 => fc j (by omega) (by omega)) n (by decide) q.2 (by decide) h4.2 h5
  · rw [e11] at b2
    have z := A4 b b1 b2
    have gv : y_v X (q_rf X (q_rf X C 10) (b - 1)) σ' = y_v X (q_rf X (q_rf X C 10) (b - 1)) σ := y_v.k S (GM (b - 1) (by omega)) (fun x hx f => fr x (by omega) f)
    refine z.x (M.2 (b : Int) (by omega) (by rw [A2] at b2; exact b2)).1 (fun id i _ => by rw [gv]) (fun j j0 j1 => ?_) (fun j j0 j1 => by rw [w1])
    show m_c X τ' a (930 * (b : Int) + j) = m_c X τ a (930 * (b : Int) + j)
    rw [m1]
    exact fc _ (by omega) (by omega)
/-- both runs of an object -/
theorem al_run (K : al_C X lb C a) : pl_D X lb 1 (q_rf X C 14) ∧ pl_D X lb 2 (q_rf X C 15) := by
  obtain ⟨kC, ka, S, lC, G8, G9, GM⟩ := K
  obtain ⟨T, L, N⟩ := id S
  have k14 : q_kd X (q_rf X C 14) = 7 := (T.1 C 14 (by rw [kC]; decide)).trans (by rw [kC]; rfl)
  have k15 : q_kd X (q_rf X C 15) = 7 := (T.1 C 15 (by rw [kC]; decide)).trans (by rw [kC]; rfl)
  have l14 : lb (q_rf X C 14) = 30 := (L C 14 (by rw [kC]; decide)).trans (by rw [lC]; decide)
  have l15 : lb (q_rf X C 15) = 31 := (L C 15 (by rw [kC]; decide)).trans (by rw [lC]; decide)
  have one : ∀ (r l : Nat), q_kd X r = 7 → lb r = l → y_lc l 7 < 8192 → y_lc (y_lc l 7) 0 < 8192 → q_kd X (pl_T X r) = 20 ∧ q_ln X (pl_T X r) = 60 ∧ lb (pl_T X r) / 8192 = 0 := by
    intro r l kr lr h1 h2
    have k7 : q_kd X (q_rf X r 7) = 5 := (T.1 r 7 (by rw [kr]; decide)).trans (by rw [kr]; rfl)
    have l7 : lb (q_rf X r 7) = y_lc l 7 := (L r 7 (by rw [kr]; decide)).trans (by rw [lr])
    have k70 : q_kd X (q_rf X (q_rf X r 7) 0) = 20 := (T.1 (q_rf X r 7) 0 (by rw [k7]; decide)).trans (by rw [k7]; rfl)
    have l70 : lb (q_rf X (q_rf X r 7) 0) = y_lc (y_lc l 7) 0 := (L (q_rf X r 7) 0 (by rw [k7]; decide)).trans (by rw [l7])
    refine ⟨k70, (N r 7 (by rw [kr]; rfl)).trans (by rw [kr]; rfl), ?_⟩
    show lb (q_rf X (q_rf X r 7) 0) / 8192 = 0
    rw [l70]
    omega
  obtain ⟨p1, p2, p3⟩ := one _ _ k14 l14 (by decide) (by decide)
  obtain ⟨q1, q2, q3⟩ := one _ _ k15 l15 (by decide) (by decide)
  exact ⟨⟨k14, by rw [l14]; decide, by rw [p3]; decide, p1, p2⟩, ⟨k15, by rw [l15]; decide, by rw [q3]; decide, q1, q2⟩⟩
theorem al_T0 (K : al_C X lb C a) : lb (pl_T X (q_rf X C 14)) / 8192 = 0 := by
  obtain ⟨kC, ka, S, lC, G8, G9, GM⟩ := K
  obtain ⟨T, L, N⟩ := id S
  have k14 : q_kd X (q_rf X C 14) = 7 := (T.1 C 14 (by rw [kC]; decide)).trans (by rw [kC]; rfl)
  have l14 : lb (q_rf X C 14) = 30 := (L C 14 (by rw [kC]; decide)).trans (by rw [lC]; decide)
  have k7 : q_kd X (q_rf X (q_rf X C 14) 7) = 5 := (T.1 _ 7 (by rw [k14]; decide)).trans (by rw [k14]; rfl)
  have l7 : lb (q_rf X (q_rf X C 14) 7) = 487 := (L _ 7 (by rw [k14]; decide)).trans (by rw [l14]; decide)
  have l70 : lb (q_rf X (q_rf X (q_rf X C 14) 7) 0) = 7792 := (L _ 0 (by rw [k7]; decide)).trans (by rw [l7]; decide)
  show lb (q_rf X (q_rf X (q_rf X C 14) 7) 0) / 8192 = 0
  rw [l70]
/-- a number within bounds, for the reference -/
theorem lk_in (v : Int32) {x y : Int64} {A B : Int} (hx : x.toInt = A) (hy : y.toInt = B) : (F_X12_isIn X τ v.toInt64 x y).toInt = if A ≤ v.toInt ∧ v.toInt ≤ B then 1 else 0 := by
  rw [tm_isIn, ar_i2l, hx, hy]
/-- what was played, in both -/
def al_P (X : XW) (C a : Nat) (σ τ : ST) : Prop := (σ.1 C 16).toInt = (τ.1 a 37).toInt ∧ ((τ.1 a 37).toInt ≠ 0 → ∀ k : Nat, k < 5 → σ.1 (q_rf X C 14) (k + 1) = τ.1 (q_rf X a 36) k)
theorem al_play (K : al_C X lb C a) (A : al_R X C a σ τ) (M : m_M (m_c X τ a) (τ.1 a 24).toInt n) (hn : n ≤ 800000) (v : Int32) : ob_O X C a (F_X11_play X σ C v) (F_X12_play X τ a v) ∧ (al_P X C a σ τ → al_P X C a (F_X11_play X σ C v).2 (F_X12_play X τ a v).2) := by
  obtain ⟨kC, ka, S, lC, G8, G9, GM⟩ := id K
  obtain ⟨A1, A2, A3, A4⟩ := id A
  obtain ⟨D, -⟩ := al_run K
  obtain ⟨m2, s2, t2⟩ := mv_beg S.1 ka (rfl : m_c X τ a = m_c X τ a)
  obtain ⟨n80, n8a, n0a⟩ := pl_k28 S.1 ka
  have k36 : q_kd X (q_rf X a 36) = 41 := (S.1.1 a 36 (by rw [ka]; decide)).trans (by rw [ka]; rfl)
  have n36a : q_rf X a 36 ≠ a := m_ne k36 ka (by decide)
  have n36c : q_rf X a 36 ≠ q_rf X a 20 := m_ne k36 (tb_k S.1 ka).1 (by decide)
  have k28 : q_kd X (q_rf X a 28) = 39 := (S.1.1 a 28 (by rw [ka]; decide)).trans (by rw [ka]; rfl)
  have n36l : q_rf X a 36 ≠ q_rf X a 28 := m_ne k36 k28 (by decide)
  have nRC : C ≠ q_rf X C 14 := m_ne kC D.1 (by decide)
  have nTC : C ≠ pl_T X (q_rf X C 14) := m_ne kC D.2.2.2.1 (by decide)
  have ef : (σ.1 (q_rf X (q_rf X C 8) 3) 0).toInt = m_c X τ a 654 := ((y_W.rf (X := X) (lb := lb) (g := q_rf X C 8) (o := 1) (σ := σ)).rd (id := 3) (by decide) 0 rfl).trans A1.2.2.1
  -- a refused call
  have nop : ∀ k : Int32, (al_P X C a σ τ → al_P X C a (q_bi (F_X11_none X σ C k) (fun r s => (r, s))).2 (q_bi (F_X12_refuse X (q_si (q_si τ a 1 0) a 0 0) a k) (fun r s => (r, s))).2) := by
    intro k P
    rw [ob_pe, ob_pe, mv_none, mv_refuse]
    have c1 : ∀ f, f ≠ 0 → (q_si σ C 0 k).1 C f = σ.1 C f := fun f h => si_f h _
    have c2 : ∀ f, f ≠ 0 → f ≠ 1 → (q_si (q_si (q_si τ a 1 0) a 0 0) a 0 k).1 a f = τ.1 a f := fun f h1 h2 => (si_f h1 _).trans ((si_f h1 _).trans (si_f h2 _))
    show ((q_si σ C 0 k).1 C 16).toInt = ((q_si (q_si (q_si τ a 1 0) a 0 0) a 0 k).1 a 37).toInt ∧ (((q_si (q_si (q_si τ a 1 0) a 0 0) a 0 k).1 a 37).toInt ≠ 0 → ∀ j : Nat, j < 5 → (q_si σ C 0 k).1 (q_rf X C 14) (j + 1) = (q_si (q_si (q_si τ a 1 0) a 0 0) a 0 k).1 (q_rf X a 36) j)
    rw [c1 16 (by decide), c2 37 (by decide) (by decide)]
    refine ⟨P.1, fun h j hj => ?_⟩
    rw [q_si_ne (Ne.symm nRC), q_si_ne n36a, q_si_ne n36a, q_si_ne n36a]
    exact P.2 h j hj
  have i1 : (F_X12_isIn X (q_si (q_si τ a 1 0) a 0 0) v.toInt64 (0 : Int64) (9999 : Int64)).toInt = if 0 ≤ v.toInt ∧ v.toInt ≤ 9999 then 1 else 0 := lk_in (X := X) v rfl rfl
  unfold F_X11_play F_X12_play
  rw [q_letE (q_si τ a 1 0), q_letE (q_si (q_si τ a 1 0) a 0 0), q_letE v.toInt64, q_letE (F_X12_isIn X (q_si (q_si τ a 1 0) a 0 0) v.toInt64 (0 : Int64) (9999 : Int64)), i1]
  by_cases q0 : v.toInt < 0
  · rw [if_pos q0, if_neg (by omega : ¬ (0 ≤ v.toInt ∧ v.toInt ≤ 9999)), if_pos rfl]
    exact ⟨ob_none K A M 5, nop 5⟩
  by_cases q1 : 9999 < v.toInt
  · rw [if_neg q0, if_pos q1, if_neg (by omega : ¬ (0 ≤ v.toInt ∧ v.toInt ≤ 9999)), if_pos rfl]
    exact ⟨ob_none K A M 5, nop 5⟩
  rw [if_neg q0, if_neg q1, if_pos (⟨by omega, by omega⟩ : 0 ≤ v.toInt ∧ v.toInt ≤ 9999), if_neg (by decide : ¬ (1 : Int) = 0), q_letE (σ.1 (q_rf X (q_rf X C 8) 3) 0), ef]
  have g654 : ((q_si (q_si τ a 1 0) a 0 0).1 (q_rf X a 20) (654 : Int32).toNatClampNeg).toInt = m_c X τ a 654 := gm_cell (A := 654) m2 rfl
  rw [q_letE ((q_si (q_si τ a 1 0) a 0 0).1 (q_rf X a 20) (654 : Int32).toNatClampNeg), g654]
  by_cases q2 : m_c X τ a 654 = 0
  · rw [if_pos q2, if_pos q2]
    exact ⟨ob_none K A M 8, nop 8⟩
  rw [if_neg q2, if_neg q2]
  obtain ⟨h1, h2, J⟩ := pl_go S G8 D ka hn (rfl : y_v X (q_rf X C 8) σ = _) A1.1 M.1.1 M.1.2 m2 A1.2.2 v
  rw [q_letE (F_X7_go X σ (q_rf X C 14) (q_rf X C 8) v), q_letE (F_X12_plays X (q_si (q_si τ a 1 0) a 0 0) a v)]
  obtain ⟨σ9, es⟩ : ∃ s, s = F_X7_go X σ (q_rf X C 14) (q_rf X C 8) v := ⟨_, rfl⟩
  obtain ⟨τ9, et⟩ : ∃ s, s = F_X12_plays X (q_si (q_si τ a 1 0) a 0 0) a v := ⟨_, rfl⟩
  rw [← es] at h1 J ⊢
  rw [← et] at h2 J ⊢
  obtain ⟨⟨k6, k2, k3, k4⟩, j0, j1, j5, jb, V1, c1, o1, o2, o3, o4, o5, o6⟩ := J
  -- the class's end
  have f11 : (q_si σ9 C 16 1).1 (q_rf X C 14) 0 = σ9.1 (q_rf X C 14) 0 := q_si_ne (Ne.symm nRC) 0
  rw [q_letE (q_si σ9 C 16 1), q_letE ((q_si σ9 C 16 1).1 (q_rf X C 14) 0), f11, ob_pe, mv_good]
  have oC : lb C / 8192 ≠ 1 := by rw [lC]; decide
  have kCf : ∀ f, σ9.1 C f = σ.1 C f := fun f => h1.1 C f (by
    rintro (z | ⟨z, -⟩ | z)
    · exact oC z
    · exact nRC z
    · exact nTC z)
  -- the reference's end
  obtain ⟨y1, ey1⟩ : ∃ y, y = q_si τ9 (q_rf X a 36) 0 (τ9.1 a 41) := ⟨_, rfl⟩
  obtain ⟨y2, ey2⟩ : ∃ y, y = q_si y1 (q_rf X a 36) 1 (y1.1 a 42) := ⟨_, rfl⟩
  obtain ⟨y3, ey3⟩ : ∃ y, y = q_si y2 (q_rf X a 36) 2 (y2.1 a 43) := ⟨_, rfl⟩
  obtain ⟨y4, ey4⟩ : ∃ y, y = q_si y3 (q_rf X a 36) 3 (y3.1 a 44) := ⟨_, rfl⟩
  obtain ⟨y5, ey5⟩ : ∃ y, y = q_si y4 (q_rf X a 36) 4 (y4.1 a 45) := ⟨_, rfl⟩
  obtain ⟨y6, ey6⟩ : ∃ y, y = q_si y5 a 37 1 := ⟨_, rfl⟩
  have n0 : (0 : Int32).toNatClampNeg = 0 := rfl
  have n1 : (1 : Int32).toNatClampNeg = 1 := rfl
  have n2 : (2 : Int32).toNatClampNeg = 2 := rfl
  have n3 : (3 : Int32).toNatClampNeg = 3 := rfl
  have n4 : (4 : Int32).toNatClampNeg = 4 := rfl
  rw [n0, n1, n2, n3, n4, q_letE (τ9.1 a 41), q_letE (q_si τ9 (q_rf X a 36) 0 (τ9.1 a 41)), ← ey1, q_letE (y1.1 a 42), q_letE (q_si y1 (q_rf X a 36) 1 (y1.1 a 42)), ← ey2, q_letE (y2.1 a 43), q_letE (q_si y2 (q_rf X a 36) 2 (y2.1 a 43)), ← ey3, q_letE (y3.1 a 44), q_letE (q_si y3 (q_rf X a 36) 3 (y3.1 a 44)), ← ey4, q_letE (y4.1 a 45), q_letE (q_si y4 (q_rf X a 36) 4 (y4.1 a 45)), ← ey5, q_letE (q_si y5 a 37 1), ← ey6, q_letE (y6.1 a 40)]
  have ne : a ≠ q_rf X a 36 := Ne.symm n36a
  have a1 : ∀ f, y1.1 a f = τ9.1 a f := fun f => by rw [ey1]; exact q_si_ne ne f
  have a2 : ∀ f, y2.1 a f = τ9.1 a f := fun f => by rw [ey2, q_si_ne ne]; exact a1 f
  have a3 : ∀ f, y3.1 a f = τ9.1 a f := fun f => by rw [ey3, q_si_ne ne]; exact a2 f
  have a4 : ∀ f, y4.1 a f = τ9.1 a f := fun f => by rw [ey4, q_si_ne ne]; exact a3 f
  have a5 : ∀ f, y5.1 a f = τ9.1 a f := fun f => by rw [ey5, q_si_ne ne]; exact a4 f
  have a6 : ∀ f, f ≠ 37 → y6.1 a f = τ9.1 a f := fun f h => by rw [ey6, si_f h]; exact a5 f
  have a37 : y6.1 a 37 = 1 := by rw [ey6, si_eq]
  have m6 : m_c X y6 a = c1 := by
    rw [ey6, mv_cell S.1 ka]
    exact (pl_mc (fun f => by rw [ey5, q_si_ne (Ne.symm n36c), ey4, q_si_ne (Ne.symm n36c), ey3, q_si_ne (Ne.symm n36c), ey2, q_si_ne (Ne.symm n36c), ey1, q_si_ne (Ne.symm n36c)])).trans o2
  have l6 : y6.2 = τ9.2 := by rw [ey6, ey5, ey4, ey3, ey2, ey1]; rfl
  have p0 : y6.1 (q_rf X a 36) 0 = τ9.1 a 41 := by rw [ey6, q_si_ne n36a, ey5, si_f (by decide), ey4, si_f (by decide), ey3, si_f (by decide), ey2, si_f (by decide), ey1, si_eq]
  have p1 : y6.1 (q_rf X a 36) 1 = τ9.1 a 42 := by rw [ey6, q_si_ne n36a, ey5, si_f (by decide), ey4, si_f (by decide), ey3, si_f (by decide), ey2, si_eq, a1]
  have p2 : y6.1 (q_rf X a 36) 2 = τ9.1 a 43 := by rw [ey6, q_si_ne n36a, ey5, si_f (by decide), ey4, si_f (by decide), ey3, si_eq, a2]
  have p3 : y6.1 (q_rf X a 36) 3 = τ9.1 a 44 := by rw [ey6, q_si_ne n36a, ey5, si_f (by decide), ey4, si_eq, a3]
  have p4 : y6.1 (q_rf X a 36) 4 = τ9.1 a 45 := by rw [ey6, q_si_ne n36a, ey5, si_eq, a4]
  -- all together
  have q9 : y_v X (q_rf X C 8) (q_si (q_si σ9 C 16 1) C 0 0) = V1 := (pl_vo S G8 oC 0 0).trans ((pl_vo S G8 oC 16 1).trans o1)
  have kt : ∀ f, f < 38 → f ≠ 0 → f ≠ 1 → τ9.1 a f = τ.1 a f := fun f h h0 h1 => (h2.1 a f (by
    rintro (z | z | ⟨-, z, -⟩)
    · exact n0a z.symm
    · exact n8a z.symm
    · omega)).trans ((si_f h0 _).trans (si_f h1 _))
  have s0 : τ9.1 a 0 = 0 := (h2.1 a 0 (by
    rintro (z | z | ⟨-, z, -⟩)
    · exact n0a z.symm
    · exact n8a z.symm
    · omega)).trans s2
  refine ⟨⟨?_, ?_, ?_⟩, fun _ => ⟨?_, fun _ k hk => ?_⟩⟩
  · show (σ9.1 (q_rf X C 14) 0).toInt = (y6.1 a 40).toInt
    rw [a6 40 (by decide), j0]
  · show ((q_si (q_si σ9 C 16 1) C 0 0).1 C 0).toInt = (y6.1 a 0).toInt
    rw [si_eq, a6 0 (by decide), s0]
  · refine A.fr K M q9 m6 o3 o6 (fun b hb f => ?_) ?_ ?_ ?_
    · have nb : b ≠ C := fun e => by rw [e, lC] at hb; omega
      rw [q_si_ne nb, q_si_ne nb]
      refine h1.1 b f ?_
      have w0 := D.2.2.1
      rintro (z | ⟨z, -⟩ | z)
      · omega
      · have := (S.2.1 C 14 (by rw [kC]; decide))
        rw [← z, lC] at this
        have e : y_lc 1 14 = 30 := by decide
        rw [e] at this
        omega
      · exact absurd (al_T0 K) (by rw [← z]; omega)
    · rw [si_f (by decide), si_f (by decide), kCf]
    · rw [a6 24 (by decide), kt 24 (by decide) (by decide) (by decide)]
    · funext j
      show (y6.2.1 (q_rf X a 23) j.toNat).toInt = (τ.2.1 (q_rf X a 23) j.toNat).toInt
      rw [l6, h2.2.1 _ _ (fun z => z)]
      rfl
  · show ((q_si (q_si σ9 C 16 1) C 0 0).1 C 16).toInt = (y6.1 a 37).toInt
    rw [si_f (by decide), si_eq, a37]
  · show (q_si (q_si σ9 C 16 1) C 0 0).1 (q_rf X C 14) (k + 1) = y6.1 (q_rf X a 36) k
    rw [q_si_ne (Ne.symm nRC), q_si_ne (Ne.symm nRC)]
    rcases (by omega : k = 0 ∨ k = 1 ∨ k = 2 ∨ k = 3 ∨ k = 4) with e | e | e | e | e <;> subst e
    · rw [p0]; exact j1
    · rw [p1]; exact k2
    · rw [p2]; exact k3
    · rw [p3]; exact k4
    · rw [p4]; exact j5
end PH

/-! FROM 49zt.tries.lean.txt -/
/-! ROUNDS TRIED: wins and left -/
section PI
variable {X : XW} {lb : Nat → Nat} {g o a R C : Nat} {σ σ' σ1 τ τ' τ1 : ST} {V0 V V' : Nat → Int → Int} {c0 c c' : Int → Int} {n : Int}
/-- the class's fraction told: the answer, what is written -/
theorem fr_tell (σ : ST) (x y : Int64) : ∃ σ' : ST, F_X11_tell X σ C x y = (1, σ') ∧ σ'.1 = (q_si σ C 0 0).1 ∧ σ'.2.2 = σ.2.2 ∧ ∀ b f, b ≠ C → σ'.2.1 b f = σ.2.1 b f := by
  have one : ∀ u v : Int64, ∃ σ' : ST, q_bi (F_X11_yes X (q_sl (q_sl σ C 1 u) C 2 v) C) (fun r s => (r, s)) = (1, σ') ∧ σ'.1 = (q_si σ C 0 0).1 ∧ σ'.2.2 = σ.2.2 ∧ ∀ b f, b ≠ C → σ'.2.1 b f = σ.2.1 b f := by
    intro u v
    rw [ob_pe, mv_yes]
    exact ⟨_, rfl, rfl, rfl, fun b f h => (q_sl_ne h f).trans (q_sl_ne h f)⟩
  unfold F_X11_tell
  rw [q_letE (F_J9_abs_067f4 X σ x), q_letE (F_X11_commonDivisor X σ (F_J9_abs_067f4 X σ x) y), q_letE (lg_cmp x 0)]
  obtain ⟨d, hd⟩ : ∃ d, d = F_X11_commonDivisor X σ (F_J9_abs_067f4 X σ x) y := ⟨_, rfl⟩
  rw [← hd]
  by_cases q : (lg_cmp x 0).toInt = 0
  · rw [if_pos q, q_letE (q_sl σ C 1 0), q_letE (q_sl (q_sl σ C 1 0) C 2 1)]
    exact one 0 1
  · rw [if_neg q, q_letE (lg_cmp y 0)]
    by_cases q2 : 0 < (lg_cmp y 0).toInt
    · rw [if_pos q2, q_letE (lg_cmp d 0)]
      by_cases q3 : 0 < (lg_cmp d 0).toInt
      · rw [if_pos q3, q_letE (x / d), q_letE (q_sl σ C 1 (x / d)), q_letE (y / d), q_letE (q_sl (q_sl σ C 1 (x / d)) C 2 (y / d))]
        exact one _ _
      · rw [if_neg q3, q_letE (q_sl σ C 1 0), q_letE (q_sl (q_sl σ C 1 0) C 2 1)]
        exact one 0 1
    · rw [if_neg q2, q_letE (q_sl σ C 1 0), q_letE (q_sl (q_sl σ C 1 0) C 2 1)]
      exact one 0 1
/-- the reference's -/
theorem fr_fracL {x y : Int64} (k : Nat) : ∀ u v : Int64, v.toInt.natAbs < k → ∃ τ' : ST, F_X12_fraction_L9_1 X x τ a y k u v = (1, τ') ∧ τ'.1 = τ.1 ∧ τ'.2.2 = τ.2.2 ∧ ∀ b f, b ≠ a → τ'.2.1 b f = τ.2.1 b f := by
  induction k with
  | zero => intro u v h; exact absurd h (Nat.not_lt_zero _)
  | succ k ih =>
    intro u v h
    rw [F_X12_fraction_L9_1_s]
    unfold F_X12_fraction_B9_1
    have z0 : (0 : Int64).toInt = 0 := rfl
    have e0 : (lg_cmp v 0).toInt = 0 ↔ v.toInt = 0 := by
      have h1 := lg_cmp_lt v 0
      have h2 := lg_cmp_gt v 0
      rw [Int32.lt_iff_toInt_lt, q_z0, Int64.lt_iff_toInt_lt, z0] at h1
      rw [Int32.lt_iff_toInt_lt, q_z0, Int64.lt_iff_toInt_lt, z0] at h2
      constructor
      · intro e
        by_cases p : v.toInt < 0
        · have := h1.mpr p; omega
        · by_cases p2 : 0 < v.toInt
          · have := h2.mpr p2; omega
          · omega
      · intro e
        by_cases p : (lg_cmp v 0).toInt < 0
        · have := h1.mp p; omega
        · by_cases p2 : 0 < (lg_cmp v 0).toInt
          · have := h2.mp p2; omega
          · omega
    rw [q_letE (lg_cmp v 0)]
    by_cases q : v.toInt = 0
    · rw [if_pos (e0.mpr q)]
      unfold F_X12_fraction_E34_2
      rw [q_letE (x / u), q_letE (q_sl τ a 2 (x / u)), q_letE (y / u), q_letE (q_sl (q_sl τ a 2 (x / u)) a 3 (y / u))]
      exact ⟨_, rfl, rfl, rfl, fun b f h => (q_sl_ne h f).trans (q_sl_ne h f)⟩
    · rw [if_neg (fun z => q (e0.mp z)), q_letE (u % v)]
      have m := m_remabs (x := u) (y := v) (z := u % v) (q_remJ u v).symm q
      exact ih v (u % v) (by omega)
theorem fr_frac (τ : ST) (x y : Int64) : ∃ τ' : ST, F_X12_fraction X τ a x y = (1, τ') ∧ τ'.1 = τ.1 ∧ τ'.2.2 = τ.2.2 ∧ ∀ b f, b ≠ a → τ'.2.1 b f = τ.2.1 b f := by
  unfold F_X12_fraction
  rw [q_letE (F_J9_abs_m X τ x)]
  exact fr_fracL _ _ _ (Nat.lt_succ_self _)
/-- both tell a fraction -/
theorem al_told (K : al_C X lb C a) (A : al_R X C a σ τ) (h0 : (τ.1 a 0).toInt = 0) (x y x' y' : Int64) : ob_O X C a (F_X11_tell X σ C x y) (F_X12_fraction X τ a x' y') := by
  obtain ⟨kC, ka, S, lC, G8, G9, GM⟩ := id K
  obtain ⟨A1, A2, A3, A4⟩ := A
  obtain ⟨σ', e1, e2, e3, e4⟩ := fr_tell (X := X) (C := C) σ x y
  obtain ⟨τ', u1, u2, u3, u4⟩ := fr_frac (X := X) (a := a) τ x' y'
  rw [e1, u1]
  have k23 := (tb_k S.1 ka).2.2.1
  have n23 : q_rf X a 23 ≠ a := m_ne k23 ka (by decide)
  have c11 : σ'.1 C 11 = σ.1 C 11 := by rw [e2, si_f (by decide)]
  have oth : ∀ b, b ≠ C → ∀ f, σ'.1 b f = σ.1 b f := fun b hb f => by rw [e2, q_si_ne hb]
  have vv : ∀ (g o : Nat), y_G X lb g o → y_v X g σ' = y_v X g σ := fun g o Gg => y_v.k S Gg (fun b hb f => oth b (fun e => by rw [e, lC] at hb; have := Gg.2.2; omega) f)
  have mm : m_c X τ' a = m_c X τ a := pl_mc (fun f => by rw [u2])
  have ww : m_wd X τ' a = m_wd X τ a := by
    funext j
    exact congrArg Int64.toInt (u4 _ _ n23)
  refine ⟨rfl, ?_, ?_, ?_, ?_, fun b b1 b2 => ?_⟩
  · show (σ'.1 C 0).toInt = (τ'.1 a 0).toInt
    rw [e2, si_eq, u2, h0]
    rfl
  · rw [vv _ _ G8, mm, ww]; exact A1
  · rw [c11, u2]; exact A2
  · rw [c11]; exact A3
  · rw [c11] at b2
    rw [vv _ _ (GM (b - 1) (by omega)), mm, ww]
    exact A4 b b1 b2
/-- all kept in a try: the game is the same as before in both -/
def tr_K (X : XW) (lb : Nat → Nat) (C a : Nat) (σ0 σ τ0 τ : ST) (c : Int → Int) : Prop :=
  (∀ b, lb b / 8192 ≠ 2 → b ≠ q_rf X C 15 → b ≠ pl_T X (q_rf X C 15) → ∀ f, σ.1 b f = σ0.1 b f) ∧ σ.2 = σ0.2 ∧ m_c X τ a = c ∧ tkl (fun b f => pl_Sq X a b f ∨ b = q_rf X a 21) (fun _ _ => False) τ0 τ ∧ ∀ j : Int, 0 ≤ j → j < 654 → (τ.1 (q_rf X a 21) j.toNat).toInt = c j
theorem al_T15 (K : al_C X lb C a) : lb (q_rf X C 15) = 31 ∧ lb (pl_T X (q_rf X C 15)) = 8048 := by
  obtain ⟨kC, ka, S, lC, G8, G9, GM⟩ := K
  obtain ⟨T, L, N⟩ := id S
  have k14 : q_kd X (q_rf X C 15) = 7 := (T.1 C 15 (by rw [kC]; decide)).trans (by rw [kC]; rfl)
  have l14 : lb (q_rf X C 15) = 31 := (L C 15 (by rw [kC]; decide)).trans (by rw [lC]; decide)
  have k7 : q_kd X (q_rf X (q_rf X C 15) 7) = 5 := (T.1 _ 7 (by rw [k14]; decide)).trans (by rw [k14]; rfl)
  have l7 : lb (q_rf X (q_rf X C 15) 7) = 503 := (L _ 7 (by rw [k14]; decide)).trans (by rw [l14]; decide)
  exact ⟨l14, (L _ 0 (by rw [k7]; decide)).trans (by rw [l7]; decide)⟩
/-- the game as it was kept, copied back -/
theorem tr_back (hT : q_T X) (ha : q_kd X a = 12) (hk : ∀ j : Int, 0 ≤ j → j < 654 → (τ.1 (q_rf X a 21) j.toNat).toInt = c j) (hc : ∀ j : Int, 654 ≤ j → m_c X τ a j = c j) (c_neg : ∀ j : Int, j < 0 → c j = c 0) (L : Nat → Int32 → ST → Int32 × ST) (E : ST → Int32 × ST) (hS : ∀ k x s, L (k + 1) x s = if x.toInt < 654 then q_let (s.1 (q_rf X a 21) x.toNatClampNeg) (fun f => q_let (q_si s (q_rf X a 20) x.toNatClampNeg f) (fun s' => q_let (x + 1) (fun z => L k z s'))) else E s) (fu : Nat) :
    ∀ (x : Int32) (τ2 : ST), (2147483647 - x.toInt).toNat < fu → 0 ≤ x.toInt → x.toInt ≤ 654 → tkl (fun b _ => b = q_rf X a 20) (fun _ _ => False) τ τ2 → (∀ j : Int, 0 ≤ j → m_c X τ2 a j = if j < x.toInt then c j else m_c X τ a j) → ∃ τ3 : ST, L fu x τ2 = E τ3 ∧ tkl (fun b _ => b = q_rf X a 20) (fun _ _ => False) τ τ3 ∧ m_c X τ3 a = c := by
  have k21 : q_kd X (q_rf X a 21) = 35 := (hT.1 a 21 (by rw [ha]; decide)).trans (by rw [ha]; rfl)
  have n10 : q_rf X a 21 ≠ q_rf X a 20 := m_ne k21 (tb_k hT ha).1 (by decide)
  induction fu with
  | zero => intro x τ2 h; exact absurd h (Nat.not_lt_zero _)
  | succ fu ih =>
    intro x τ2 hf x0 x1 ht hm
    rw [hS]
    by_cases q : x.toInt < 654
    · have e1 : (x + 1).toInt = x.toInt + 1 := y_inc (by omega)
      have ek : (τ2.1 (q_rf X a 21) x.toNatClampNeg).toInt = c x.toInt := by
        rw [ht.1 _ _ n10]
        exact hk x.toInt x0 q
      rw [if_pos q, q_letE (τ2.1 (q_rf X a 21) x.toNatClampNeg), q_letE (q_si τ2 (q_rf X a 20) x.toNatClampNeg (τ2.1 (q_rf X a 21) x.toNatClampNeg)), q_letE (x + 1)]
      refine ih (x + 1) _ (by omega) (by omega) (by omega) (ht.si _ rfl) (fun j j0 => ?_)
      show ((q_si τ2 (q_rf X a 20) x.toNatClampNeg (τ2.1 (q_rf X a 21) x.toNatClampNeg)).1 (q_rf X a 20) j.toNat).toInt = _
      show (if q_rf X a 20 = q_rf X a 20 ∧ j.toNat = x.toNatClampNeg then τ2.1 (q_rf X a 21) x.toNatClampNeg else τ2.1 (q_rf X a 20) j.toNat).toInt = _
      rw [e1]
      by_cases e : j = x.toInt
      · rw [if_pos ⟨rfl, by rw [ar_cl, e]⟩, if_pos (by omega), ek, e]
      · rw [if_neg (fun z => e (by have := z.2; rw [ar_cl] at this; omega))]
        have z := hm j j0
        rw [show (τ2.1 (q_rf X a 20) j.toNat).toInt = m_c X τ2 a j from rfl, z]
        by_cases p : j < x.toInt
        · rw [if_pos p, if_pos (by omega)]
        · rw [if_neg p, if_neg (by omega)]
    · rw [if_neg q]
      refine ⟨τ2, rfl, ht, ?_⟩
      have ex : x.toInt = 654 := by omega
      have all : ∀ j : Int, 0 ≤ j → m_c X τ2 a j = c j := fun j j0 => by
        rw [hm j j0, ex]
        by_cases p : j < 654
        · rw [if_pos p]
        · rw [if_neg p]; exact hc j (by omega)
      funext j
      by_cases j0 : 0 ≤ j
      · exact all j j0
      · rw [m_c_neg X τ2 a (by omega), all 0 (by decide), c_neg j (by omega)]
/-- the game kept before the tries -/
theorem tr_keep (hT : q_T X) (ha : q_kd X a = 12) (hc : m_c X τ a = c) {v1 v2 v3 v4 : Int32} (fu : Nat) :
    ∀ (x : Int32) (τ2 : ST), (2147483647 - x.toInt).toNat < fu → 0 ≤ x.toInt → x.toInt ≤ 654 → tkl (fun b _ => b = q_rf X a 21) (fun _ _ => False) τ τ2 → (∀ j : Int, 0 ≤ j → j < x.toInt → (τ2.1 (q_rf X a 21) j.toNat).toInt = c j) → ∃ τ3 : ST, F_X12_tries_L78_1 X a v3 v2 v4 v1 fu x τ2 = F_X12_tries_L112_3 X v3 v2 a v4 v1 ((2147483647 - (0 : Int32).toInt).toNat + 1) 0 0 τ3 ∧ tkl (fun b _ => b = q_rf X a 21) (fun _ _ => False) τ τ3 ∧ ∀ j : Int, 0 ≤ j → j < 654 → (τ3.1 (q_rf X a 21) j.toNat).toInt = c j := by
  have k21 : q_kd X (q_rf X a 21) = 35 := (hT.1 a 21 (by rw [ha]; decide)).trans (by rw [ha]; rfl)
  have n10 : q_rf X a 20 ≠ q_rf X a 21 := m_ne (tb_k hT ha).1 k21 (by decide)
  induction fu with
  | zero => intro x τ2 h; exact absurd h (Nat.not_lt_zero _)
  | succ fu ih =>
    intro x τ2 hf x0 x1 ht hm
    rw [F_X12_tries_L78_1_s]
    unfold F_X12_tries_B78_1
    by_cases q : x.toInt < 654
    · have e1 : (x + 1).toInt = x.toInt + 1 := y_inc (by omega)
      have ek : (τ2.1 (q_rf X a 20) x.toNatClampNeg).toInt = c x.toInt := by
        rw [ht.1 _ _ n10]
        exact gm_cell hc rfl
      rw [if_pos q, q_letE (τ2.1 (q_rf X a 20) x.toNatClampNeg), q_letE (q_si τ2 (q_rf X a 21) x.toNatClampNeg (τ2.1 (q_rf X a 20) x.toNatClampNeg)), q_letE (x + 1)]
      refine ih (x + 1) _ (by omega) (by omega) (by omega) (ht.si _ rfl) (fun j j0 j1 => ?_)
      show (if q_rf X a 21 = q_rf X a 21 ∧ j.toNat = x.toNatClampNeg then τ2.1 (q_rf X a 20) x.toNatClampNeg else τ2.1 (q_rf X a 21) j.toNat).toInt = _
      by_cases e : j = x.toInt
      · rw [if_pos ⟨rfl, by rw [ar_cl, e]⟩, ek, e]
      · rw [if_neg (fun z => e (by have := z.2; rw [ar_cl] at this; omega))]
        exact hm j j0 (by omega)
    · rw [if_neg q]
      exact ⟨τ2, rfl, ht, fun j j0 j1 => hm j j0 (by omega)⟩
end PI

/-! FROM 49zu.wins.lean.txt -/
/-! ROUNDS TRIED: both answer the same, all stays the same -/
theorem pl_pair {α β : Type} {p q : α × β} (h1 : p.1 = q.1) (h2 : p.2 = q.2) : p = q := by
  show (p.1, p.2) = (q.1, q.2)
  rw [h1, h2]
section PJ
variable {X : XW} {lb : Nat → Nat} {a C : Nat} {σ0 σ τ0 τ : ST} {n : Int}
/-- one try: the spare game and the reference's own play the same round -/
theorem tr_step (K : al_C X lb C a) (A : al_R X C a σ0 τ0) (M : m_M (m_c X τ0 a) (τ0.1 a 24).toInt n) (hn : n ≤ 800000) (T : tr_K X lb C a σ0 σ τ0 τ (m_c X τ0 a)) (z : Int32) :
    ∃ (σ1 τ1 : ST) (V1 : Nat → Int → Int) (c1 : Int → Int), F_X7_go X (F_X0_copyFrom X σ (q_rf X C 9) (q_rf X C 8)) (q_rf X C 15) (q_rf X C 9) z = σ1 ∧ F_X12_plays X τ a z = τ1 ∧ y_v X (q_rf X C 9) σ1 = V1 ∧ m_c X τ1 a = c1 ∧ rg V1 c1 ∧ m_G c1 ∧ c1 2 = m_c X τ0 a 2 ∧ (∀ j : Int, 654 ≤ j → c1 j = m_c X τ0 a j) ∧
      (∀ b, lb b / 8192 ≠ 2 → b ≠ q_rf X C 15 → b ≠ pl_T X (q_rf X C 15) → ∀ f, σ1.1 b f = σ0.1 b f) ∧ σ1.2 = σ0.2 ∧ tkl (fun b f => pl_Sq X a b f ∨ b = q_rf X a 21) (fun _ _ => False) τ0 τ1 ∧ ∀ j : Int, 0 ≤ j → j < 654 → (τ1.1 (q_rf X a 21) j.toNat).toInt = m_c X τ0 a j := by
  obtain ⟨kC, ka, S, lC, G8, G9, GM⟩ := id K
  obtain ⟨A1, A2, A3, A4⟩ := id A
  obtain ⟨-, D⟩ := al_run K
  obtain ⟨l15, lT⟩ := al_T15 K
  obtain ⟨T1, T2, T3, T4, T5⟩ := T
  have k21 : q_kd X (q_rf X a 21) = 35 := (S.1.1 a 21 (by rw [ka]; decide)).trans (by rw [ka]; rfl)
  have k28 : q_kd X (q_rf X a 28) = 39 := (S.1.1 a 28 (by rw [ka]; decide)).trans (by rw [ka]; rfl)
  have k20 := (tb_k S.1 ka).1
  have v8 : y_v X (q_rf X C 8) σ = y_v X (q_rf X C 8) σ0 := y_v.k S G8 (fun b hb f => T1 b (by omega) (fun e => by rw [e, l15] at hb; omega) (fun e => by rw [e, lT] at hb; omega) f)
  obtain ⟨ow, o2, oV⟩ := (tb_copy (σ := σ) (g := q_rf X C 8) S G9 G8 (by decide)).cp
  obtain ⟨σ4, es⟩ : ∃ s, s = F_X0_copyFrom X σ (q_rf X C 9) (q_rf X C 8) := ⟨_, rfl⟩
  rw [← es] at ow o2 oV ⊢
  rw [v8] at oV
  have rb9 : rb (y_v X (q_rf X C 9) σ4) (m_c X τ0 a) (m_wd X τ0 a) := A1.x M.1.1 oV (fun _ _ _ => rfl) (fun _ _ _ => rfl)
  obtain ⟨h1, h2, J⟩ := pl_go S G9 D ka hn (rfl : y_v X (q_rf X C 9) σ4 = _) rb9.1 M.1.1 M.1.2 T3 rb9.2.2 z
  obtain ⟨-, -, -, -, -, V1, c1, o1, o2', o3, o4, o5, o6⟩ := J
  refine ⟨_, _, V1, c1, rfl, rfl, o1, o2', o3, o4, o6.2 2 (by decide) (Or.inl (by decide)), fun j hj => o6.2 j (by omega) (Or.inr hj), fun b b1 b2 b3 f => ?_, ?_, T4.tr (h2.mono (fun b f z => Or.inl z) (fun _ _ z => z)), fun j j0 j1 => ?_⟩
  · rw [h1.1 b f (by
      rintro (z | ⟨z, -⟩ | z)
      · exact b1 z
      · exact b2 z
      · exact b3 z), ow b b1 f, T1 b b1 b2 b3 f]
  · have e : (F_X7_go X σ4 (q_rf X C 15) (q_rf X C 9) z).2 = σ4.2 := pl_pair (funext (fun b => funext (fun f => h1.2.1 b f (fun z => z)))) h1.2.2
    rw [e, o2, T2]
  · rw [h2.1 _ _ (by
      rintro (z | z | ⟨z, -⟩)
      · exact m_ne k21 k20 (by decide) z
      · exact m_ne k21 k28 (by decide) z
      · exact m_ne k21 ka (by decide) z)]
    exact T5 j j0 j1
/-- a try taken back -/
theorem tr_next (K : al_C X lb C a) {σ1 τ1 : ST} {c1 : Int → Int} (m1 : m_c X τ1 a = c1) (c654 : ∀ j : Int, 654 ≤ j → c1 j = m_c X τ0 a j) (f1 : ∀ b, lb b / 8192 ≠ 2 → b ≠ q_rf X C 15 → b ≠ pl_T X (q_rf X C 15) → ∀ f, σ1.1 b f = σ0.1 b f) (f2 : σ1.2 = σ0.2) (f3 : tkl (fun b f => pl_Sq X a b f ∨ b = q_rf X a 21) (fun _ _ => False) τ0 τ1) (f4 : ∀ j : Int, 0 ≤ j → j < 654 → (τ1.1 (q_rf X a 21) j.toNat).toInt = m_c X τ0 a j) (L : Nat → Int32 → ST → Int32 × ST) (E : ST → Int32 × ST) (hS : ∀ k x s, L (k + 1) x s = if x.toInt < 654 then q_let (s.1 (q_rf X a 21) x.toNatClampNeg) (fun f => q_let (q_si s (q_rf X a 20) x.toNatClampNeg f) (fun s' => q_let (x + 1) (fun z => L k z s'))) else E s) :
    ∃ τ3 : ST, L ((2147483647 - (0 : Int32).toInt).toNat + 1) 0 τ1 = E τ3 ∧ tr_K X lb C a σ0 σ1 τ0 τ3 (m_c X τ0 a) := by
  obtain ⟨kC, ka, S, lC, G8, G9, GM⟩ := id K
  have k21 : q_kd X (q_rf X a 21) = 35 := (S.1.1 a 21 (by rw [ka]; decide)).trans (by rw [ka]; rfl)
  have k20 := (tb_k S.1 ka).1
  have z0 : (0 : Int32).toInt = 0 := rfl
  obtain ⟨τ3, x1, x2, x3⟩ := tr_back (τ := τ1) (c := m_c X τ0 a) S.1 ka f4 (fun j hj => by rw [m1]; exact c654 j hj) (fun j hj => m_c_neg X τ0 a hj) L E hS ((2147483647 - (0 : Int32).toInt).toNat + 1) 0 τ1 (Nat.lt_succ_self _) (by decide) (by decide) tkl.rf (fun j j0 => by rw [z0, if_neg (by omega)])
  refine ⟨τ3, x1, f1, f2, x3, f3.tr (x2.mono (fun b f z => Or.inl (Or.inl z)) (fun _ _ z => z)), fun j j0 j1 => ?_⟩
  rw [x2.1 _ _ (m_ne k21 k20 (by decide))]
  exact f4 j j0 j1
theorem tr_winsL (K : al_C X lb C a) (A : al_R X C a σ0 τ0) (M : m_M (m_c X τ0 a) (τ0.1 a 24).toInt n) (hn : n ≤ 800000) {v1 v2 v3 : Int32} (h3 : v3.toInt ≤ 20) (fu : Nat) :
    ∀ (fv : Nat) (x y : Int32) (σ τ : ST), (2147483647 - y.toInt).toNat < fu → (2147483647 - y.toInt).toNat < fv → 0 ≤ y.toInt → tr_K X lb C a σ0 σ τ0 τ (m_c X τ0 a) → ∃ (w : Int32) (σ' τ' : ST), F_X11_wins_L27_1 X v3 C v2 v1 fu x y σ = F_X11_tell X σ' C w.toInt64 v3.toInt64 ∧ F_X12_tries_L112_3 X v3 v2 a 1 v1 fv x y τ = F_X12_fraction X τ' a w.toInt64 v3.toInt64 ∧ tr_K X lb C a σ0 σ' τ0 τ' (m_c X τ0 a) := by
  obtain ⟨kC, ka, S, lC, G8, G9, GM⟩ := id K
  induction fu with
  | zero => intro fv x y σ τ h; exact absurd h (Nat.not_lt_zero _)
  | succ fu ih =>
    intro fv x y σ τ hf hfv y0 T
    obtain ⟨fv', efv⟩ : ∃ k, fv = k + 1 := ⟨fv - 1, by omega⟩
    subst efv
    rw [F_X11_wins_L27_1_s, F_X12_tries_L112_3_s]
    unfold F_X11_wins_B27_1 F_X12_tries_B112_3
    by_cases q : y.toInt < v3.toInt
    · have y1 : (y + 1).toInt = y.toInt + 1 := y_inc (by omega)
      obtain ⟨σ1, τ1, V1, c1, e1, e2, p1, p2, p3, p4, p5, p6, p7, p8, p9, p10⟩ := tr_step K A M hn T (v2 + y)
      rw [if_pos q, if_pos q, q_letE (F_X0_copyFrom X σ (q_rf X C 9) (q_rf X C 8)), q_letE (v2 + y), q_letE (F_X7_go X (F_X0_copyFrom X σ (q_rf X C 9) (q_rf X C 8)) (q_rf X C 15) (q_rf X C 9) (v2 + y)), e1, q_letE (v2 + y), q_letE (F_X12_plays X τ a (v2 + y)), e2, if_neg (by decide : ¬ (1 : Int32).toInt = 0)]
      have f18 : (σ1.1 (q_rf X C 9) 6).toInt = c1 8 := ((pl_W (lb := lb) (o := 2) p1).rd (id := 0) (by decide) 6 rfl).trans p3.2.1.2.2.1.1
      have g53 : (τ1.1 (q_rf X a 20) (8 : Int32).toNatClampNeg).toInt = c1 8 := gm_cell (A := 8) p2 rfl
      rw [q_letE (σ1.1 (q_rf X C 9) 6), f18, q_letE (τ1.1 (q_rf X a 20) (8 : Int32).toNatClampNeg), g53]
      by_cases qw : c1 8 = v1.toInt
      · obtain ⟨τ3, x1, x2⟩ := tr_next K p2 p6 p7 p8 p9 p10 (F_X12_tries_L163_9 X a y (F_X12_tries_L112_3 X v3 v2 a 1 v1 fv') (x + 1)) (F_X12_tries_E191_10 X y (F_X12_tries_L112_3 X v3 v2 a 1 v1 fv') (x + 1)) (fun k x s => by
          rw [F_X12_tries_L163_9_s]
          rfl)
        rw [if_pos qw, if_pos qw, q_letE (x + 1), q_letE (y + 1), q_letE (x + 1), x1]
        unfold F_X12_tries_E191_10
        rw [q_letE (y + 1)]
        exact ih fv' (x + 1) (y + 1) σ1 τ3 (by omega) (by omega) (by omega) x2
      · obtain ⟨τ3, x1, x2⟩ := tr_next K p2 p6 p7 p8 p9 p10 (F_X12_tries_L163_7 X a y (F_X12_tries_L112_3 X v3 v2 a 1 v1 fv') (x + 0)) (F_X12_tries_E191_8 X y (F_X12_tries_L112_3 X v3 v2 a 1 v1 fv') (x + 0)) (fun k x s => by
          rw [F_X12_tries_L163_7_s]
          rfl)
        rw [if_neg qw, if_neg qw, q_letE (y + 1), q_letE (x + 0), x1]
        unfold F_X12_tries_E191_8
        rw [q_letE (y + 1), Int32.add_zero]
        exact ih fv' x (y + 1) σ1 τ3 (by omega) (by omega) (by omega) x2
    · rw [if_neg q, if_neg q]
      unfold F_X11_wins_E79_2 F_X12_tries_E197_4
      rw [q_letE x.toInt64, q_letE v3.toInt64, ob_pe, q_letE x.toInt64, q_letE v3.toInt64, ob_pe]
      exact ⟨x, σ, τ, rfl, rfl, T⟩
theorem tr_leftL (K : al_C X lb C a) (A : al_R X C a σ0 τ0) (M : m_M (m_c X τ0 a) (τ0.1 a 24).toInt n) (hn : n ≤ 800000) {v1 v2 v3 : Int32} (h3 : v3.toInt ≤ 20) (h1 : 0 ≤ v1.toInt ∧ v1.toInt < m_c X τ0 a 2) (fu : Nat) :
    ∀ (fv : Nat) (x y : Int32) (σ τ : ST), (2147483647 - y.toInt).toNat < fu → (2147483647 - y.toInt).toNat < fv → 0 ≤ y.toInt → tr_K X lb C a σ0 σ τ0 τ (m_c X τ0 a) → ∃ (w : Int32) (σ' τ' : ST), F_X11_left_L27_1 X v3 C v2 v1 fu x y σ = F_X11_tell X σ' C w.toInt64 v3.toInt64 ∧ F_X12_tries_L112_3 X v3 v2 a 0 v1 fv x y τ = F_X12_fraction X τ' a w.toInt64 v3.toInt64 ∧ tr_K X lb C a σ0 σ' τ0 τ' (m_c X τ0 a) := by
  obtain ⟨kC, ka, S, lC, G8, G9, GM⟩ := id K
  have b2 : 0 ≤ m_c X τ0 a 2 ∧ m_c X τ0 a 2 ≤ 6 := M.1.1.1.2.1
  have n9 : ((y_gn 9 : Nat) : Int) = 6 := rfl
  induction fu with
  | zero => intro fv x y σ τ h; exact absurd h (Nat.not_lt_zero _)
  | succ fu ih =>
    intro fv x y σ τ hf hfv y0 T
    obtain ⟨fv', efv⟩ : ∃ k, fv = k + 1 := ⟨fv - 1, by omega⟩
    subst efv
    rw [F_X11_left_L27_1_s, F_X12_tries_L112_3_s]
    unfold F_X11_left_B27_1 F_X12_tries_B112_3
    by_cases q : y.toInt < v3.toInt
    · have y1 : (y + 1).toInt = y.toInt + 1 := y_inc (by omega)
      obtain ⟨σ1, τ1, V1, c1, e1, e2, p1, p2, p3, p4, p5, p6, p7, p8, p9, p10⟩ := tr_step K A M hn T (v2 + y)
      rw [if_pos q, if_pos q, q_letE (F_X0_copyFrom X σ (q_rf X C 9) (q_rf X C 8)), q_letE (v2 + y), q_letE (F_X7_go X (F_X0_copyFrom X σ (q_rf X C 9) (q_rf X C 8)) (q_rf X C 15) (q_rf X C 9) (v2 + y)), e1, q_letE (v2 + y), q_letE (F_X12_plays X τ a (v2 + y)), e2, if_pos (by decide : (0 : Int32).toInt = 0)]
      have f18 : (F_X5_get X σ1 (q_rf X (q_rf X (q_rf X C 9) 1) 2) v1).toInt = m_S c1 (34 + 10 * v1.toInt) 10 := (y_getI S G9 (pl_W (lb := lb) (o := 2) p1) (id := 9) (r := q_rf X (q_rf X (q_rf X C 9) 1) 2) ⟨by decide, by decide⟩ rfl rfl h1.1 (by rw [n9]; omega)).trans (p3.2.2.2.1.2 _ h1.1 (by omega))
      have g41 := gm_cardsOf (X := X) (a := a) (τ := τ1) p2 p4 (rfl : v1.toInt = _) ⟨h1.1, by omega⟩
      have ee : F_X5_get X σ1 (q_rf X (q_rf X (q_rf X C 9) 1) 2) v1 = F_X12_cardsOf X τ1 a v1 := Int32.toInt_inj.mp (f18.trans g41.symm)
      obtain ⟨τ3, x1, x2⟩ := tr_next K p2 p6 p7 p8 p9 p10 (F_X12_tries_L163_5 X a y (F_X12_tries_L112_3 X v3 v2 a 0 v1 fv') (x + F_X12_cardsOf X τ1 a v1)) (F_X12_tries_E191_6 X y (F_X12_tries_L112_3 X v3 v2 a 0 v1 fv') (x + F_X12_cardsOf X τ1 a v1)) (fun k x s => by
        rw [F_X12_tries_L163_5_s]
        rfl)
      rw [q_letE (F_X5_get X σ1 (q_rf X (q_rf X (q_rf X C 9) 1) 2) v1), ee, q_letE (x + F_X12_cardsOf X τ1 a v1), q_letE (y + 1), q_letE (F_X12_cardsOf X τ1 a v1), q_letE (x + F_X12_cardsOf X τ1 a v1), x1]
      unfold F_X12_tries_E191_6
      rw [q_letE (y + 1)]
      exact ih fv' _ (y + 1) σ1 τ3 (by omega) (by omega) (by omega) x2
    · rw [if_neg q, if_neg q]
      unfold F_X11_left_E84_2 F_X12_tries_E197_4
      rw [q_letE x.toInt64, q_letE v3.toInt64, ob_pe, q_letE x.toInt64, q_letE v3.toInt64, ob_pe]
      exact ⟨x, σ, τ, rfl, rfl, T⟩
/-- behind the tries all is as before -/
theorem tr_K.al (K : al_C X lb C a) (A : al_R X C a σ0 τ0) (M : m_M (m_c X τ0 a) (τ0.1 a 24).toInt n) (T : tr_K X lb C a σ0 σ τ0 τ (m_c X τ0 a)) : al_R X C a σ τ ∧ τ.1 a 0 = τ0.1 a 0 := by
  obtain ⟨kC, ka, S, lC, G8, G9, GM⟩ := id K
  obtain ⟨l15, lT⟩ := al_T15 K
  obtain ⟨T1, T2, T3, T4, T5⟩ := T
  have k21 : q_kd X (q_rf X a 21) = 35 := (S.1.1 a 21 (by rw [ka]; decide)).trans (by rw [ka]; rfl)
  obtain ⟨n80, n8a, n0a⟩ := pl_k28 S.1 ka
  have v8 : y_v X (q_rf X C 8) σ = y_v X (q_rf X C 8) σ0 := y_v.k S G8 (fun b hb f => T1 b (by omega) (fun e => by rw [e, l15] at hb; omega) (fun e => by rw [e, lT] at hb; omega) f)
  have ta : ∀ f, f < 38 → τ.1 a f = τ0.1 a f := fun f h => T4.1 a f (by
    rintro ((z | z | ⟨-, z, -⟩) | z)
    · exact n0a z.symm
    · exact n8a z.symm
    · omega
    · exact m_ne k21 ka (by decide) z.symm)
  refine ⟨A.fr K M v8 T3 A.1.1 pl_fix.rf (fun b hb f => T1 b (by omega) (fun e => by rw [e, l15] at hb; omega) (fun e => by rw [e, lT] at hb; omega) f) (T1 C (by omega) (fun e => by rw [e, l15] at lC; omega) (fun e => by rw [e, lT] at lC; omega) 11) (ta 24 (by decide)) ?_, ta 0 (by decide)⟩
  funext j
  exact congrArg Int64.toInt (T4.2.1 _ _ (fun z => z))
/-- whether seeds can be tried -/
theorem tr_status (K : al_C X lb C a) (A : al_R X C a σ τ) (M : m_M (m_c X τ a) (τ.1 a 24).toInt n) (v1 v2 v3 : Int32) : (F_X11_seedsStatus X σ C v1 v2 v3).toInt = if ¬ (0 ≤ v1.toInt ∧ v1.toInt < m_c X τ a 2) then 2 else if ¬ ((1 ≤ v3.toInt ∧ v3.toInt ≤ 20) ∧ 0 ≤ v2.toInt ∧ v2.toInt ≤ 10000 - v3.toInt) then 5 else if m_c X τ a 654 = 0 then 8 else 0 := by
  obtain ⟨A1, A2, A3, A4⟩ := A
  have w : y_W X lb (q_rf X C 8) 1 σ σ (y_v X (q_rf X C 8) σ) := y_W.rf
  have hP : y_v X (q_rf X C 8) σ 1 4 = m_c X τ a 2 := A1.1.1.2.2.2.2.1
  have p1 := lk_player w v1
  rw [hP] at p1
  have one : (1 : Int32).toInt = 1 := rfl
  have e9 : (9999 : Int32).toInt = 9999 := rfl
  have ef : (σ.1 (q_rf X (q_rf X C 8) 3) 0).toInt = m_c X τ a 654 := (w.rd (id := 3) (by decide) 0 rfl).trans A1.2.2.1
  unfold F_X11_seedsStatus
  rw [q_letE (F_X11_isPlayer X σ C v1), p1]
  by_cases q : 0 ≤ v1.toInt ∧ v1.toInt < m_c X τ a 2
  · rw [if_pos q, if_neg (by decide : ¬ (1 : Int) = 0), if_neg (not_not_intro q)]
    by_cases a1 : v2.toInt < 0
    · rw [if_pos a1, if_pos (by omega : ¬ ((1 ≤ v3.toInt ∧ v3.toInt ≤ 20) ∧ 0 ≤ v2.toInt ∧ v2.toInt ≤ 10000 - v3.toInt))]; rfl
    · rw [if_neg a1]
      by_cases a2 : v3.toInt < 1
      · rw [if_pos a2, if_pos (by omega : ¬ ((1 ≤ v3.toInt ∧ v3.toInt ≤ 20) ∧ 0 ≤ v2.toInt ∧ v2.toInt ≤ 10000 - v3.toInt))]; rfl
      · rw [if_neg a2]
        by_cases a3 : 20 < v3.toInt
        · rw [if_pos a3, if_pos (by omega : ¬ ((1 ≤ v3.toInt ∧ v3.toInt ≤ 20) ∧ 0 ≤ v2.toInt ∧ v2.toInt ≤ 10000 - v3.toInt))]; rfl
        · have e : ((9999 : Int32) - v3 + 1).toInt = 10000 - v3.toInt := by
            rw [ar_add, ar_sub, e9, one, ar_wr (n := 9999 - v3.toInt) (by omega) (by omega), ar_wr (by omega) (by omega)]
            omega
          rw [if_neg a3, q_letE ((9999 : Int32) - v3), q_letE ((9999 : Int32) - v3 + 1), e]
          by_cases a4 : 10000 - v3.toInt < v2.toInt
          · rw [if_pos a4, if_pos (by omega : ¬ ((1 ≤ v3.toInt ∧ v3.toInt ≤ 20) ∧ 0 ≤ v2.toInt ∧ v2.toInt ≤ 10000 - v3.toInt))]; rfl
          · rw [if_neg a4, if_neg (by omega : ¬ ¬ ((1 ≤ v3.toInt ∧ v3.toInt ≤ 20) ∧ 0 ≤ v2.toInt ∧ v2.toInt ≤ 10000 - v3.toInt)), q_letE (σ.1 (q_rf X (q_rf X C 8) 3) 0), ef]
            split <;> rfl
  · rw [if_neg q, if_pos rfl, if_pos q]
    rfl
theorem al_tries (K : al_C X lb C a) (A : al_R X C a σ τ) (M : m_M (m_c X τ a) (τ.1 a 24).toInt n) (hn : n ≤ 800000) (v1 v2 v3 : Int32) : ob_O X C a (F_X11_wins X σ C v1 v2 v3) (F_X12_wins X τ a v1 v2 v3) ∧ ob_O X C a (F_X11_left X σ C v1 v2 v3) (F_X12_left X τ a v1 v2 v3) := by
  obtain ⟨kC, ka, S, lC, G8, G9, GM⟩ := id K
  obtain ⟨m2, s2, t2⟩ := mv_beg S.1 ka (rfl : m_c X τ a = m_c X τ a)
  have b2 : 0 ≤ m_c X τ a 2 ∧ m_c X τ a 2 ≤ 6 := M.1.1.1.2.1
  have st := tr_status K A M v1 v2 v3
  have p2 := lk_playerAt m2 b2 v1
  have one : (1 : Int64).toInt = 1 := rfl
  have e20 : (20 : Int64).toInt = 20 := rfl
  have e0 : (0 : Int64).toInt = 0 := rfl
  have ek : (10000 : Int32).toInt = 10000 := rfl
  have g654 : ((q_si (q_si τ a 1 0) a 0 0).1 (q_rf X a 20) (654 : Int32).toNatClampNeg).toInt = m_c X τ a 654 := gm_cell (A := 654) m2 rfl
  have A' : al_R X C a σ (q_si (q_si τ a 1 0) a 0 0) := by
    refine A.fr K M rfl m2 A.1.1 pl_fix.rf (fun _ _ _ => rfl) rfl ?_ rfl
    rw [si_f (by decide), si_f (by decide)]
  have M' : m_M (m_c X (q_si (q_si τ a 1 0) a 0 0) a) ((q_si (q_si τ a 1 0) a 0 0).1 a 24).toInt n := by
    rw [m2, si_f (by decide), si_f (by decide)]
    exact M
  have noN : ∀ k : Int32, ob_O X C a (q_bi (F_X11_no X σ C k) (fun r s => (r, s))) (q_bi (F_X12_no X (q_si (q_si τ a 1 0) a 0 0) a k) (fun r s => (r, s))) := fun k => by
    rw [ob_pe, ob_pe, mv_no, mv_noM]
    refine ⟨rfl, ?_, (al_st K A M k).2 k⟩
    show ((q_si σ C 0 k).1 C 0).toInt = ((q_si (q_si (q_si τ a 1 0) a 0 0) a 0 k).1 a 0).toInt
    rw [si_eq, si_eq]
  unfold F_X11_wins F_X11_left F_X12_wins F_X12_left F_X12_tries
  rw [q_letE (F_X11_seedsStatus X σ C v1 v2 v3), q_letE (F_X11_seedsStatus X σ C v1 v2 v3), q_letE (q_si τ a 1 0), q_letE (q_si (q_si τ a 1 0) a 0 0), q_letE (q_si τ a 1 0), q_letE (q_si (q_si τ a 1 0) a 0 0)]
  obtain ⟨τ2, et⟩ : ∃ t, t = q_si (q_si τ a 1 0) a 0 0 := ⟨_, rfl⟩
  rw [← et] at m2 s2 p2 g654 A' M' noN ⊢
  have i3 : (F_X12_isIn X τ2 v3.toInt64 (1 : Int64) (20 : Int64)).toInt = if 1 ≤ v3.toInt ∧ v3.toInt ≤ 20 then 1 else 0 := lk_in (X := X) v3 one e20
  rw [q_letE (F_X12_isPlayerAt X τ2 a v1), q_letE (F_X12_isPlayerAt X τ2 a v1), p2]
  obtain ⟨w, ew⟩ : ∃ w, w = F_X11_seedsStatus X σ C v1 v2 v3 := ⟨_, rfl⟩
  rw [← ew] at st ⊢
  by_cases q1 : ¬ (0 ≤ v1.toInt ∧ v1.toInt < m_c X τ a 2)
  · rw [if_pos q1] at st
    have e : w = 2 := Int32.toInt_inj.mp (st.trans rfl)
    rw [e, if_neg (by decide : ¬ (2 : Int32).toInt = 0), if_neg (by decide : ¬ (2 : Int32).toInt = 0), if_neg q1, if_pos rfl, if_pos rfl, ob_pe (q_bi (F_X12_no X τ2 a 2) (fun r s => (r, s)))]
    exact ⟨noN 2, noN 2⟩
  have q1' := Classical.not_not.mp q1
  rw [if_neg q1] at st
  rw [if_pos q1', if_neg (by decide : ¬ (1 : Int) = 0), if_neg (by decide : ¬ (1 : Int) = 0), q_letE v3.toInt64, q_letE v3.toInt64, q_letE (F_X12_isIn X τ2 v3.toInt64 (1 : Int64) (20 : Int64)), q_letE (F_X12_isIn X τ2 v3.toInt64 (1 : Int64) (20 : Int64)), i3]
  by_cases q3 : ¬ (1 ≤ v3.toInt ∧ v3.toInt ≤ 20)
  · rw [if_pos (fun z => q3 z.1)] at st
    have e : w = 5 := Int32.toInt_inj.mp (st.trans rfl)
    rw [e, if_neg (by decide : ¬ (5 : Int32).toInt = 0), if_neg (by decide : ¬ (5 : Int32).toInt = 0), if_neg q3, if_pos rfl, if_pos rfl, ob_pe (q_bi (F_X12_no X τ2 a 5) (fun r s => (r, s)))]
    exact ⟨noN 5, noN 5⟩
  have q3' := Classical.not_not.mp q3
  have ez : ((10000 : Int32) - v3).toInt64.toInt = 10000 - v3.toInt := by rw [ar_i2l, ar_sub, ek, ar_wr (by omega) (by omega)]
  have i2 : (F_X12_isIn X τ2 v2.toInt64 (0 : Int64) ((10000 : Int32) - v3).toInt64).toInt = if 0 ≤ v2.toInt ∧ v2.toInt ≤ 10000 - v3.toInt then 1 else 0 := lk_in (X := X) v2 e0 ez
  rw [if_pos q3', if_neg (by decide : ¬ (1 : Int) = 0), if_neg (by decide : ¬ (1 : Int) = 0), q_letE v2.toInt64, q_letE ((10000 : Int32) - v3), q_letE ((10000 : Int32) - v3).toInt64, q_letE (F_X12_isIn X τ2 v2.toInt64 (0 : Int64) ((10000 : Int32) - v3).toInt64), q_letE v2.toInt64, q_letE ((10000 : Int32) - v3), q_letE ((10000 : Int32) - v3).toInt64, q_letE (F_X12_isIn X τ2 v2.toInt64 (0 : Int64) ((10000 : Int32) - v3).toInt64), i2]
  by_cases q4 : ¬ (0 ≤ v2.toInt ∧ v2.toInt ≤ 10000 - v3.toInt)
  · rw [if_pos (fun z => q4 z.2)] at st
    have e : w = 5 := Int32.toInt_inj.mp (st.trans rfl)
    rw [e, if_neg (by decide : ¬ (5 : Int32).toInt = 0), if_neg (by decide : ¬ (5 : Int32).toInt = 0), if_neg q4, if_pos rfl, if_pos rfl, ob_pe (q_bi (F_X12_no X τ2 a 5) (fun r s => (r, s)))]
    exact ⟨noN 5, noN 5⟩
  have q4' := Classical.not_not.mp q4
  rw [if_neg (fun z => z ⟨q3', q4'⟩)] at st
  rw [if_pos q4', if_neg (by decide : ¬ (1 : Int) = 0), if_neg (by decide : ¬ (1 : Int) = 0), q_letE (τ2.1 (q_rf X a 20) (654 : Int32).toNatClampNeg), q_letE (τ2.1 (q_rf X a 20) (654 : Int32).toNatClampNeg), g654]
  by_cases q5 : m_c X τ a 654 = 0
  · rw [if_pos q5] at st
    have e : w = 8 := Int32.toInt_inj.mp (st.trans rfl)
    rw [e, if_neg (by decide : ¬ (8 : Int32).toInt = 0), if_neg (by decide : ¬ (8 : Int32).toInt = 0), if_pos q5, if_pos q5, ob_pe (q_bi (F_X12_no X τ2 a 8) (fun r s => (r, s)))]
    exact ⟨noN 8, noN 8⟩
  rw [if_neg q5] at st
  rw [if_pos st, if_pos st, if_neg q5, if_neg q5]
  have z0 : (0 : Int32).toInt = 0 := rfl
  have k21 : q_kd X (q_rf X a 21) = 35 := (S.1.1 a 21 (by rw [ka]; decide)).trans (by rw [ka]; rfl)
  have keep : ∀ v4 : Int32, ∃ τ3 : ST, F_X12_tries_L78_1 X a v3 v2 v4 v1 ((2147483647 - (0 : Int32).toInt).toNat + 1) 0 τ2 = F_X12_tries_L112_3 X v3 v2 a v4 v1 ((2147483647 - (0 : Int32).toInt).toNat + 1) 0 0 τ3 ∧ tr_K X lb C a σ σ τ2 τ3 (m_c X τ2 a) := fun v4 => by
    obtain ⟨τ3, x1, x2, x3⟩ := tr_keep (v1 := v1) (v2 := v2) (v3 := v3) (v4 := v4) (c := m_c X τ2 a) S.1 ka rfl ((2147483647 - (0 : Int32).toInt).toNat + 1) 0 τ2 (Nat.lt_succ_self _) (by decide) (by decide) tkl.rf (fun j j0 j1 => by rw [z0] at j1; omega)
    exact ⟨τ3, x1, fun _ _ _ _ _ => rfl, rfl, pl_mc (fun f => x2.1 _ f (m_ne (tb_k S.1 ka).1 k21 (by decide))), x2.mono (fun b f z => Or.inr z) (fun _ _ z => z), x3⟩
  have fin : ∀ (σ' τ' : ST) (x y : Int64), tr_K X lb C a σ σ' τ2 τ' (m_c X τ2 a) → ob_O X C a (F_X11_tell X σ' C x y) (F_X12_fraction X τ' a x y) := fun σ' τ' x y T => by
    obtain ⟨B, b0⟩ := T.al K A' M'
    exact al_told K B (by rw [b0, s2]; rfl) x y x y
  refine ⟨?_, ?_⟩
  · obtain ⟨τ3, x1, x2⟩ := keep 1
    obtain ⟨w', σ', τ', j1, j2, j3⟩ := tr_winsL (v1 := v1) (v2 := v2) (v3 := v3) K A' M' hn q3'.2 ((2147483647 - (0 : Int32).toInt).toNat + 1) ((2147483647 - (0 : Int32).toInt).toNat + 1) 0 0 σ τ3 (Nat.lt_succ_self _) (Nat.lt_succ_self _) (by decide) x2
    rw [j1, x1, j2, ob_pe]
    exact fin σ' τ' _ _ j3
  · obtain ⟨τ3, x1, x2⟩ := keep 0
    obtain ⟨w', σ', τ', j1, j2, j3⟩ := tr_leftL (v1 := v1) (v2 := v2) (v3 := v3) K A' M' hn q3'.2 (by rw [m2]; exact q1') ((2147483647 - (0 : Int32).toInt).toNat + 1) ((2147483647 - (0 : Int32).toInt).toNat + 1) 0 0 σ τ3 (Nat.lt_succ_self _) (Nat.lt_succ_self _) (by decide) x2
    rw [j1, x1, j2, ob_pe]
    exact fin σ' τ' _ _ j3
end PJ

/-! FROM 49zv.keep.lean.txt -/
/-! WHAT STANDS BEHIND A CALL THAT MOVES NOTHING -/
def kp_C (L : List (Nat × Nat)) : Bool := L.all (fun x => x.1 != 1 && x.1 != 3 && x.1 != 6 && x.1 != 8 && x.1 != 20 && (x.1 != 11 || (x.2 != 11 && x.2 != 99)))
def kp_M (L M : List (Nat × Nat)) : Bool := L.all (fun x => x.1 != 34 && (x.1 != 12 || (x.2 != 24 && x.2 != 99))) && M.all (fun x => x.1 != 37)
theorem kp_no {L : List (Nat × Nat)} {k f : Nat} (h : L.all (fun x => x.1 != k || (x.2 != f && x.2 != 99)) = true) : q_in2 L k f = false := by
  unfold q_in2
  rw [List.any_eq_false]
  intro x hx
  have h1 := List.all_eq_true.mp h x hx
  intro e
  have e' : x.1 = k ∧ (x.2 = 99 ∨ x.2 = f) := by simpa using e
  have h1' : ¬ x.1 = k ∨ (x.2 ≠ f ∧ x.2 ≠ 99) := by simpa using h1
  have h2 : x.2 ≠ f ∧ x.2 ≠ 99 := by
    rcases h1' with h1' | h1'
    · exact absurd e'.1 h1'
    · exact h1'
  rcases e'.2 with e2 | e2
  · exact h2.2 e2
  · exact h2.1 e2
theorem kp_no1 {L : List (Nat × Nat)} {k : Nat} (h : L.all (fun x => x.1 != k) = true) (f : Nat) : q_in2 L k f = false := by
  refine kp_no (List.all_eq_true.mpr (fun x hx => ?_))
  have h1 := List.all_eq_true.mp h x hx
  rw [Bool.or_eq_true]
  exact Or.inl h1
theorem kp_Ce {L : List (Nat × Nat)} (h : kp_C L = true) : (∀ f, q_in2 L 1 f = false) ∧ (∀ f, q_in2 L 3 f = false) ∧ (∀ f, q_in2 L 6 f = false) ∧ (∀ f, q_in2 L 8 f = false) ∧ (∀ f, q_in2 L 20 f = false) ∧ q_in2 L 11 11 = false := by
  unfold kp_C at h
  rw [List.all_eq_true] at h
  have hs : ∀ x ∈ L, x.1 ≠ 1 ∧ x.1 ≠ 3 ∧ x.1 ≠ 6 ∧ x.1 ≠ 8 ∧ x.1 ≠ 20 ∧ (¬ x.1 = 11 ∨ (x.2 ≠ 11 ∧ x.2 ≠ 99)) := fun x hx => by
    have := h x hx
    simpa [and_assoc] using this
  have one : ∀ k, (∀ x ∈ L, x.1 ≠ k) → ∀ f, q_in2 L k f = false := fun k hk f => kp_no1 (List.all_eq_true.mpr (fun x hx => by simpa using hk x hx)) f
  refine ⟨one 1 (fun x hx => (hs x hx).1), one 3 (fun x hx => (hs x hx).2.1), one 6 (fun x hx => (hs x hx).2.2.1), one 8 (fun x hx => (hs x hx).2.2.2.1), one 20 (fun x hx => (hs x hx).2.2.2.2.1), kp_no (List.all_eq_true.mpr (fun x hx => ?_))⟩
  have := (hs x hx).2.2.2.2.2
  simpa using this
theorem kp_Me {L M : List (Nat × Nat)} (h : kp_M L M = true) : (∀ f, q_in2 L 34 f = false) ∧ q_in2 L 12 24 = false ∧ ∀ f, q_in2 M 37 f = false := by
  unfold kp_M at h
  rw [Bool.and_eq_true, List.all_eq_true, List.all_eq_true] at h
  have hs : ∀ x ∈ L, x.1 ≠ 34 ∧ (¬ x.1 = 12 ∨ (x.2 ≠ 24 ∧ x.2 ≠ 99)) := fun x hx => by
    have := h.1 x hx
    simpa using this
  refine ⟨fun f => kp_no1 (List.all_eq_true.mpr (fun x hx => by simpa using (hs x hx).1)) f, kp_no (List.all_eq_true.mpr (fun x hx => ?_)), fun f => kp_no1 (List.all_eq_true.mpr (fun x hx => h.2 x hx)) f⟩
  have := (hs x hx).2
  simpa using this
section KP
variable {X : XW} {lb : Nat → Nat} {g o C a : Nat} {σ σ' σ1 τ τ' : ST} {L M : List (Nat × Nat)} {n : Int}
theorem kp_v (S : y_S X lb) (G : y_G X lb g o) (ow : q_ow L M X σ σ') (h : kp_C L = true) : y_v X g σ' = y_v X g σ := by
  obtain ⟨h1, h3, h6, h8, h20, -⟩ := kp_Ce h
  funext id i
  unfold y_v
  by_cases q : id < 25 ∧ 0 ≤ i
  · rw [if_pos q, if_pos q]
    have k := (y_gf S G id q.1).2.1
    refine congrArg Int32.toInt (ow.1 _ _ ?_)
    rw [k]
    unfold y_ki
    split
    · exact h1 _
    · exact h6 _
    · exact h3 _
    · exact h8 _
    · exact h20 _
  · rw [if_neg q, if_neg q]
/-- the class's cells stand -/
theorem al_R.post (K : al_C X lb C a) (A : al_R X C a σ τ) (ow : q_ow L M X σ σ') (h : kp_C L = true) : al_R X C a σ' τ := by
  obtain ⟨kC, ka, S, lC, G8, G9, GM⟩ := id K
  obtain ⟨A1, A2, A3, A4⟩ := A
  have e11 : σ'.1 C 11 = σ.1 C 11 := ow.1 C 11 (by rw [kC]; exact (kp_Ce h).2.2.2.2.2)
  refine ⟨by rw [kp_v S G8 ow h]; exact A1, by rw [e11]; exact A2, by rw [e11]; exact A3, fun b b1 b2 => ?_⟩
  rw [e11] at b2
  rw [kp_v S (GM (b - 1) (by omega)) ow h]
  exact A4 b b1 b2
/-- the reference's cells stand -/
theorem al_R.pre (K : al_C X lb C a) (A : al_R X C a σ τ) (ow : q_ow L M X τ τ') (h : kp_M L M = true) : al_R X C a σ τ' := by
  obtain ⟨kC, ka, S, lC, G8, G9, GM⟩ := id K
  obtain ⟨h34, h24, h37⟩ := kp_Me h
  obtain ⟨A1, A2, A3, A4⟩ := A
  obtain ⟨k20, -, k23, -⟩ := tb_k S.1 ka
  have e24 : τ'.1 a 24 = τ.1 a 24 := ow.1 a 24 (by rw [ka]; exact h24)
  have m : m_c X τ' a = m_c X τ a := pl_mc (fun f => ow.1 _ f (by rw [k20]; exact h34 f))
  have w : m_wd X τ' a = m_wd X τ a := by
    funext j
    exact congrArg Int64.toInt (ow.2 _ _ (by rw [k23]; exact h37 _))
  exact ⟨by rw [m, w]; exact A1, by rw [e24]; exact A2, A3, fun b b1 b2 => by rw [m, w]; exact A4 b b1 b2⟩
/-! what a look ahead writes -/
def fs_S (X : XW) (g : Nat) (b f : Nat) : Prop := b = q_rf X (q_rf X g 10) 0 ∨ b = g ∧ 9 ≤ f
theorem fs_set (x v : Int32) : tkl (fs_S X g) (fun _ _ => False) σ (F_X5_set X σ (q_rf X g 10) x v) := by
  unfold F_X5_set
  split
  · exact tkl.rf
  · rw [q_letE (q_len X (q_rf X (q_rf X g 10) 0))]
    split
    · rw [q_letE]
      exact tkl.rf.si _ (Or.inl rfl)
    · exact tkl.rf
theorem fs_add (x v : Int32) : tkl (fs_S X g) (fun _ _ => False) σ (F_X5_add X σ (q_rf X g 10) x v) := by
  unfold F_X5_add
  split
  · exact tkl.rf
  · rw [q_letE (q_len X (q_rf X (q_rf X g 10) 0))]
    split
    · rw [q_letE, q_letE, q_letE]
      exact tkl.rf.si _ (Or.inl rfl)
    · exact tkl.rf
theorem fs_L {v1 v2 r : Int32} (fu : Nat) : ∀ (x : Int32) (σ1 : ST), tkl (fs_S X g) (fun _ _ => False) σ σ1 → tkl (fs_S X g) (fun _ _ => False) σ (F_X0_foresee_L83_4 X v2 g v1 r fu x σ1) := by
  induction fu with
  | zero => intro x σ1 h; exact h
  | succ fu ih =>
    intro x σ1 h
    have s : ∀ {s1 : ST}, tkl (fs_S X g) (fun _ _ => False) σ s1 → ∀ (f : Nat) (v : Int32), 9 ≤ f → tkl (fs_S X g) (fun _ _ => False) σ (q_si s1 g f v) := fun k f v hf => k.si _ (Or.inr ⟨rfl, hf⟩)
    rw [F_X0_foresee_L83_4_s]
    unfold F_X0_foresee_B83_4
    split
    · rw [q_letE (σ1.1 g 12)]
      split
      · rw [q_letE (F_X0_fallingKind X σ1 g v1 x)]
        obtain ⟨k, ek⟩ : ∃ k, k = F_X0_fallingKind X σ1 g v1 x := ⟨_, rfl⟩
        rw [← ek, q_letE (F_X5_get X σ1 (q_rf X g 10) k), q_letE (σ1.1 (q_rf X g 0) 3)]
        obtain ⟨m, em⟩ : ∃ m, m = F_J9_min_7cf53 X σ1 (F_X5_get X σ1 (q_rf X g 10) k) (σ1.1 (q_rf X g 0) 3) := ⟨_, rfl⟩
        rw [← em, q_letE m, q_letE (-m), q_letE (F_X5_add X σ1 (q_rf X g 10) k (-m))]
        have h2 := h.tr (fs_add (X := X) (g := g) (σ := σ1) k (-m))
        obtain ⟨σ2, e2⟩ : ∃ t, t = F_X5_add X σ1 (q_rf X g 10) k (-m) := ⟨_, rfl⟩
        rw [← e2] at h2 ⊢
        rw [q_letE (σ2.1 g 11), q_letE (σ2.1 g 11 + m), q_letE (q_si σ2 g 11 (σ2.1 g 11 + m))]
        have h3 := s h2 11 (σ2.1 g 11 + m) (by decide)
        obtain ⟨σ3, e3⟩ : ∃ t, t = q_si σ2 g 11 (σ2.1 g 11 + m) := ⟨_, rfl⟩
        rw [← e3] at h3 ⊢
        split
        · rw [q_letE (q_si σ3 g 13 k), q_letE ((q_si σ3 g 13 k).1 g 11)]
          have h4 := s h3 13 k (by decide)
          split
          · rw [q_letE (x + 1), q_letE (q_si (q_si σ3 g 13 k) g 12 (x + 1)), q_letE (x + 1)]
            exact ih _ _ (s h4 12 _ (by decide))
          · rw [q_letE (x + 1)]
            exact ih _ _ h4
        · rw [q_letE (σ3.1 g 14)]
          split
          · rw [q_letE (q_si σ3 g 14 x), q_letE ((q_si σ3 g 14 x).1 g 11)]
            have h4 := s h3 14 x (by decide)
            split
            · rw [q_letE (x + 1), q_letE (q_si (q_si σ3 g 14 x) g 12 (x + 1)), q_letE (x + 1)]
              exact ih _ _ (s h4 12 _ (by decide))
            · rw [q_letE (x + 1)]
              exact ih _ _ h4
          · rw [q_letE (σ3.1 g 11)]
            split
            · rw [q_letE (x + 1), q_letE (q_si σ3 g 12 (x + 1)), q_letE (x + 1)]
              exact ih _ _ (s h3 12 _ (by decide))
            · rw [q_letE (x + 1)]
              exact ih _ _ h3
      · exact h
    · exact h
theorem fs_J {v1 v2 r x : Int32} (h : tkl (fs_S X g) (fun _ _ => False) σ σ1) : tkl (fs_S X g) (fun _ _ => False) σ (F_X0_foresee_J67_3 X σ1 g v2 v1 r x) := by
  unfold F_X0_foresee_J67_3
  rw [q_letE, q_letE, q_letE]
  exact fs_L _ _ _ (((h.si _ (Or.inr ⟨rfl, by decide⟩)).si _ (Or.inr ⟨rfl, by decide⟩)).si _ (Or.inr ⟨rfl, by decide⟩))
theorem fs_K {v1 v2 r : Int32} (fu : Nat) : ∀ (x : Int32) (σ1 : ST), tkl (fs_S X g) (fun _ _ => False) σ σ1 → tkl (fs_S X g) (fun _ _ => False) σ (F_X0_foresee_L15_1 X g v1 r v2 fu x σ1) := by
  induction fu with
  | zero => intro x σ1 h; exact h
  | succ fu ih =>
    intro x σ1 h
    rw [F_X0_foresee_L15_1_s]
    unfold F_X0_foresee_B15_1
    rw [q_letE (σ1.1 (q_rf X g 0) 0)]
    split
    · rw [q_letE (F_X1_heldBy X σ1 (q_rf X g 1) v1 x), q_letE (F_X5_set X σ1 (q_rf X g 10) x (F_X1_heldBy X σ1 (q_rf X g 1) v1 x)), q_letE (x + 1)]
      exact ih _ _ (h.tr (fs_set _ _))
    · unfold F_X0_foresee_E52_6
      rw [q_letE (q_si σ1 g 11 0)]
      have h1 : tkl (fs_S X g) (fun _ _ => False) σ (q_si σ1 g 11 0) := h.si _ (Or.inr ⟨rfl, by decide⟩)
      split
      · exact fs_J h1
      · exact fs_J h1
theorem fs_all (v1 v2 : Int32) : tkl (fs_S X g) (fun _ _ => False) σ (F_X0_foresee X σ g v1 v2) := by
  unfold F_X0_foresee
  rw [q_letE (F_X5_get X σ (q_rf X (q_rf X g 1) 2) v1)]
  exact fs_K _ _ _ tkl.rf
/-- behind a look ahead both are the same -/
def fs_C (X : XW) (C : Nat) (b f : Nat) : Prop := fs_S X (q_rf X C 8) b f ∨ b = C ∧ f = 0
theorem al_R.fs (K : al_C X lb C a) (A : al_R X C a σ τ) (M : m_M (m_c X τ a) (τ.1 a 24).toInt n) (h : tkl (fs_C X C) (fun _ _ => False) σ σ') : al_R X C a σ' τ := by
  obtain ⟨kC, ka, S, lC, G8, G9, GM⟩ := id K
  have k8 := G8.1
  have n8 : C ≠ q_rf X C 8 := m_ne kC k8 (by decide)
  have k24 := (y_gf S G8 24 (by decide)).2.1
  have o24 := y_own S G8 (id := 24) (by decide)
  have o0 := y_own S G8 (id := 0) (by decide)
  have e : ∀ (id : Nat) (i : Int), id ≠ 24 → (id ≠ 0 ∨ i ≤ 8) → y_v X (q_rf X C 8) σ' id i = y_v X (q_rf X C 8) σ id i := by
    intro id i h1 h2
    unfold y_v
    by_cases q : id < 25 ∧ 0 ≤ i
    · rw [if_pos q, if_pos q]
      refine congrArg Int32.toInt (h.1 _ _ ?_)
      rintro ((z | ⟨z, z2⟩) | ⟨z, -⟩)
      · exact h1 (y_gA_inj S G8 (i := id) (j := 24) q.1 (by decide) z)
      · have := y_gA_inj S G8 (i := id) (j := 0) q.1 (by decide) z
        omega
      · have := y_own S G8 q.1
        rw [z, lC] at this
        omega
    · rw [if_neg q, if_neg q]
  refine A.fr K M rfl rfl (A.1.1.w M.1.1 (fun id i h1 h2 h3 => e id i h2 (by omega))) ⟨fun id i h1 => e id i (by omega) (by omega), fun _ _ _ => rfl⟩ (fun b hb f => h.1 b f ?_) (h.1 C 11 ?_) rfl rfl
  · rintro ((z | ⟨z, -⟩) | ⟨z, -⟩)
    · have : lb b / 8192 = 1 := by rw [z]; exact o24
      omega
    · have : lb b / 8192 = 1 := by rw [z]; exact o0
      omega
    · rw [z, lC] at hb
      omega
  · rintro ((z | ⟨z, -⟩) | ⟨-, z⟩)
    · have o24' : lb (q_rf X (q_rf X (q_rf X C 8) 10) 0) / 8192 = 1 := o24
      rw [← z, lC] at o24'
      omega
    · exact n8 z
    · omega
theorem fs_C0 (k : Int32) : tkl (fs_C X C) (fun _ _ => False) σ (q_si σ C 0 k) := tkl.rf.si _ (Or.inr ⟨rfl, rfl⟩)
theorem fs_Cs (v1 v2 : Int32) : tkl (fs_C X C) (fun _ _ => False) σ (F_X0_foresee X σ (q_rf X C 8) v1 v2) := (fs_all v1 v2).mono (fun b f z => Or.inl z) (fun _ _ z => z)
theorem fs_gn {σ1 : ST} (h : tkl (fs_C X C) (fun _ _ => False) σ σ1) (v : Int32) : tkl (fs_C X C) (fun _ _ => False) σ (q_bi (F_X11_goodOrNotThere X σ1 C v) (fun r s => (r, s))).2 := by
  rw [ob_pe]
  unfold F_X11_goodOrNotThere
  split
  · rw [ob_pe, mv_none]
    exact h.tr (fs_C0 _)
  · rw [ob_pe, mv_good]
    exact h.tr (fs_C0 _)
theorem fs_honestly (v1 v2 : Int32) : tkl (fs_C X C) (fun _ _ => False) σ (F_X11_honestly X σ C v1 v2).2 := by
  unfold F_X11_honestly
  rw [q_letE (F_X11_forecastStatus X σ C v1 v2)]
  split
  · rw [q_letE (F_X0_foresee X σ (q_rf X C 8) v1 v2), q_letE, ob_pe, mv_good]
    exact (fs_Cs v1 v2).tr (fs_C0 _)
  · rw [ob_pe, mv_none]
    exact fs_C0 _
theorem fs_rid (v1 : Int32) : tkl (fs_C X C) (fun _ _ => False) σ (F_X11_rid X σ C v1).2 := by
  unfold F_X11_rid
  rw [q_letE (F_X11_isPlayer X σ C v1)]
  split
  · rw [ob_pe, mv_none]
    exact fs_C0 _
  · rw [q_letE (F_X0_foresee X σ (q_rf X C 8) v1 60), q_letE]
    exact fs_gn (fs_Cs v1 60) _
theorem fs_mustLie (v1 : Int32) : tkl (fs_C X C) (fun _ _ => False) σ (F_X11_mustLie X σ C v1).2 := by
  unfold F_X11_mustLie
  rw [q_letE (F_X11_isPlayer X σ C v1)]
  split
  · rw [ob_pe, mv_none]
    exact fs_C0 _
  · rw [q_letE (F_X0_foresee X σ (q_rf X C 8) v1 60), q_letE]
    exact fs_gn (fs_Cs v1 60) _
theorem fs_lastKind (v1 : Int32) : tkl (fs_C X C) (fun _ _ => False) σ (F_X11_lastKind X σ C v1).2 := by
  unfold F_X11_lastKind
  rw [q_letE (F_X11_isPlayer X σ C v1)]
  split
  · rw [ob_pe, mv_none]
    exact fs_C0 _
  · rw [q_letE (F_X0_foresee X σ (q_rf X C 8) v1 60)]
    have h := fs_Cs (X := X) (C := C) (σ := σ) v1 60
    obtain ⟨σ6, e6⟩ : ∃ t, t = F_X0_foresee X σ (q_rf X C 8) v1 60 := ⟨_, rfl⟩
    rw [← e6] at h ⊢
    rw [q_letE (σ6.1 (q_rf X C 8) 12)]
    split
    · exact fs_gn h _
    · rw [q_letE (σ6.1 (q_rf X C 8) 13)]
      exact fs_gn h _
theorem fs_soonestL (fu : Nat) : ∀ (x y z : Int32) (σ1 : ST), tkl (fs_C X C) (fun _ _ => False) σ σ1 → tkl (fs_C X C) (fun _ _ => False) σ (F_X11_soonest_L7_1 X C fu x y z σ1).2 := by
  induction fu with
  | zero => intro x y z σ1 h; exact h
  | succ fu ih =>
    intro x y z σ1 h
    rw [F_X11_soonest_L7_1_s]
    unfold F_X11_soonest_B7_1
    rw [q_letE (σ1.1 (q_rf X (q_rf X C 8) 0) 4)]
    split
    · rw [q_letE (F_X0_foresee X σ1 (q_rf X C 8) z 60)]
      have h2 := h.tr (fs_Cs (X := X) (C := C) (σ := σ1) z 60)
      obtain ⟨σ6, e6⟩ : ∃ t, t = F_X0_foresee X σ1 (q_rf X C 8) z 60 := ⟨_, rfl⟩
      rw [← e6] at h2 ⊢
      rw [q_letE (σ6.1 (q_rf X C 8) 12)]
      split
      · rw [q_letE (z + 1)]
        exact ih _ _ _ _ h2
      · rw [q_letE (σ6.1 (q_rf X C 8) 12)]
        split
        · rw [q_letE (σ6.1 (q_rf X C 8) 12), q_letE (z + 1)]
          exact ih _ _ _ _ h2
        · rw [q_letE (z + 1)]
          exact ih _ _ _ _ h2
    · unfold F_X11_soonest_E69_2
      exact fs_gn h _
theorem fs_soonest : tkl (fs_C X C) (fun _ _ => False) σ (F_X11_soonest X σ C).2 := by
  unfold F_X11_soonest
  exact fs_soonestL _ _ _ _ _ tkl.rf
end KP

/-! FROM 49zw.wrap.lean.txt -/
/-- what an object's cells hold as it begins -/
def y_ik (k : Nat) : Bool := k == 1 || k == 3 || k == 6 || k == 7 || k == 8 || k == 10 || k == 11 || k == 12 || k == 20
def y_iv (k f : Nat) : Int32 := match k with
  | 1 => match f with | 6 => -1 | 12 => -1 | 13 => -1 | 14 => -1 | _ => 0
  | 6 => match f with | 0 => 2 | 1 => 1 | 3 => 4 | _ => 0
  | 10 => match f with | 1 => -1 | _ => 0
  | 11 => match f with | 6 => -1 | 7 => -1 | _ => 0
  | 12 => match f with | 10 => -1 | 11 => -1 | _ => 0
  | _ => 0
def y_il (k f : Nat) : Int64 := match k with
  | 11 => match f with | 2 => 1 | _ => 0
  | 12 => match f with | 3 => 1 | _ => 0
  | _ => 0
def y_IV (X : XW) (σ : ST) : Prop := ∀ a, y_ik (q_kd X a) = true → ∀ f, (20 ≤ q_kd X a ∨ f < 60) → σ.1 a f = y_iv (q_kd X a) f ∧ σ.2.1 a f = y_il (q_kd X a) f
/-! THE MOVERS AS ONE -/
section OW
variable {X : XW} {lb : Nat → Nat} {C a : Nat} {σ τ : ST} {n : Int}
theorem ob_mk {P Q : Int32 × ST} {z z' : Int32} {σ' τ' : ST} (e1 : P = (z, σ')) (e2 : Q = (z', τ')) (h : z.toInt = z'.toInt) (s : (σ'.1 C 0).toInt = (τ'.1 a 0).toInt) (A : al_R X C a σ' τ') : ob_O X C a P Q := by
  rw [e1, e2]
  exact ⟨h, s, A⟩
theorem ob_W (M : m_M (m_c X τ a) (τ.1 a 24).toInt n) (hn : n ≤ 1000000) : ∀ q : Int, 0 ≤ q → q < 6 → (0 ≤ m_c X τ a (22 + q) ∧ m_c X τ a (22 + q) ≤ 1000000) ∧ 0 ≤ m_c X τ a (28 + q) ∧ m_c X τ a (28 + q) ≤ 1000000 := fun q q0 q1 => by
  have := M.1.2 q q0 q1
  omega
theorem ob_lay (K : al_C X lb C a) (A : al_R X C a σ τ) (M : m_M (m_c X τ a) (τ.1 a 24).toInt n) (p q r s : Int32) : ob_O X C a (F_X11_lay X σ C p q r s) (F_X12_lay X τ a p q r s) := by
  obtain ⟨kC, ka, S, lC, G8, G9, GM⟩ := id K
  obtain ⟨z, σ', z', τ', e1, e2, h, s, m⟩ := mv_lay S G8 (by omega) ka A.1.1 M.1.1 rfl p q r s
  exact ob_mk e1 e2 h s (A.mv K M m)
theorem ob_leave (K : al_C X lb C a) (A : al_R X C a σ τ) (M : m_M (m_c X τ a) (τ.1 a 24).toInt n) : ob_O X C a (F_X11_leave X σ C) (F_X12_leave X τ a) := by
  obtain ⟨kC, ka, S, lC, G8, G9, GM⟩ := id K
  obtain ⟨z, σ', z', τ', e1, e2, h, s, m⟩ := mv_leave S G8 (by omega) ka A.1.1 M.1.1 rfl
  exact ob_mk e1 e2 h s (A.mv K M m)
theorem ob_doubt (K : al_C X lb C a) (A : al_R X C a σ τ) (M : m_M (m_c X τ a) (τ.1 a 24).toInt n) (hn : n ≤ 1000000) (v : Int32) : ob_O X C a (F_X11_doubt X σ C v) (F_X12_doubt X τ a v) := by
  obtain ⟨kC, ka, S, lC, G8, G9, GM⟩ := id K
  obtain ⟨z, σ', z', τ', e1, e2, h, s, m⟩ := mv_doubt S G8 (by omega) ka A.1.1 M.1.1 (ob_W M hn) rfl v
  exact ob_mk e1 e2 h s (A.mv K M m)
theorem ob_bend (K : al_C X lb C a) (A : al_R X C a σ τ) (M : m_M (m_c X τ a) (τ.1 a 24).toInt n) (v x y : Int32) : ob_O X C a (F_X11_bend X σ C v x y) (F_X12_bend X τ a v x y) := by
  obtain ⟨kC, ka, S, lC, G8, G9, GM⟩ := id K
  obtain ⟨z, σ', z', τ', e1, e2, h, s, m⟩ := mv_bend S G8 (by omega) ka A.1.1 M.1.1 rfl v x y
  exact ob_mk e1 e2 h s (A.mv K M m)
theorem ob_mark (K : al_C X lb C a) (A : al_R X C a σ τ) (M : m_M (m_c X τ a) (τ.1 a 24).toInt n) : ob_O X C a (F_X11_mark X σ C) (F_X12_mark X τ a) := by
  obtain ⟨z, σ', z', τ', e1, e2, h, s, m⟩ := al_mark K A M
  exact ob_mk e1 e2 h s m
theorem ob_back (K : al_C X lb C a) (A : al_R X C a σ τ) (M : m_M (m_c X τ a) (τ.1 a 24).toInt n) : ob_O X C a (F_X11_back X σ C) (F_X12_back X τ a) := by
  obtain ⟨z, σ', z', τ', e1, e2, h, s, m⟩ := al_back K A M
  exact ob_mk e1 e2 h s m
/-! THE START OF BOTH -/
theorem al_start (K : al_C X lb C a) (I : y_IV X σ) (h24 : σ.1 a 24 = 0) (hc : ∀ j, σ.1 (q_rf X a 20) j = if j = 6 then -1 else if j = 8 then -1 else if j = 4 then 4 else if j = 1 then 1 else if j = 0 then 2 else 0) : al_R X C a σ σ ∧ al_P X C a σ σ ∧ (σ.1 C 0).toInt = (σ.1 a 0).toInt ∧ (σ.1 C 6).toInt = (σ.1 a 10).toInt ∧ (σ.1 C 7).toInt = (σ.1 a 11).toInt ∧ σ.2.1 C 1 = σ.2.1 a 2 ∧ σ.2.1 C 2 = σ.2.1 a 3 := by
  obtain ⟨kC, ka, S, lC, G8, G9, GM⟩ := id K
  have z0 : (0 : Int32).toInt = 0 := rfl
  have c11 : ∀ f, f < 60 → σ.1 C f = y_iv 11 f ∧ σ.2.1 C f = y_il 11 f := fun f hf => by
    have z := I C (by rw [kC]; rfl) f (Or.inr hf)
    rw [kC] at z
    exact z
  have c12 : ∀ f, f < 60 → σ.1 a f = y_iv 12 f ∧ σ.2.1 a f = y_il 12 f := fun f hf => by
    have z := I a (by rw [ka]; rfl) f (Or.inr hf)
    rw [ka] at z
    exact z
  have vk : ∀ (id : Nat) (i : Int), id < 25 → 0 ≤ i → (y_ki id = 20 ∨ i < 60) → y_v X (q_rf X C 8) σ id i = (y_iv (y_ki id) i.toNat).toInt := fun id i h h0 h1 => by
    have k := (y_gf S G8 id h).2.1
    have ik : y_ik (y_ki id) = true := by
      rcases (by omega : id = 0 ∨ id = 1 ∨ id = 2 ∨ id = 3 ∨ 4 ≤ id) with e | e | e | e | e
      · subst e; rfl
      · subst e; rfl
      · subst e; rfl
      · subst e; rfl
      · have : y_ki id = 20 := by
          unfold y_ki
          split <;> first | omega | rfl
        rw [this]
        rfl
    have z := (I (y_gA X (q_rf X C 8) id) (by rw [k]; exact ik) i.toNat (by
      rw [k]
      rcases h1 with h1 | h1
      · exact Or.inl (by omega)
      · exact Or.inr (by omega))).1
    rw [k] at z
    unfold y_v
    rw [if_pos ⟨h, h0⟩, z]
  have v20 : ∀ (id : Nat) (i : Int), 4 ≤ id → id < 25 → 0 ≤ i → y_v X (q_rf X C 8) σ id i = 0 := fun id i h h' h0 => by
    have k : y_ki id = 20 := by
      unfold y_ki
      split <;> first | omega | rfl
    rw [vk id i h' h0 (Or.inl k), k]
    rfl
  have mc : ∀ j : Int, 0 ≤ j → m_c X σ a j = if j = 6 then -1 else if j = 8 then -1 else if j = 4 then 4 else if j = 1 then 1 else if j = 0 then 2 else 0 := fun j j0 => by
    show (σ.1 (q_rf X a 20) j.toNat).toInt = _
    rw [hc]
    rcases (by omega : j = 6 ∨ j = 8 ∨ j = 4 ∨ j = 1 ∨ j = 0 ∨ (j ≠ 6 ∧ j ≠ 8 ∧ j ≠ 4 ∧ j ≠ 1 ∧ j ≠ 0)) with e | e | e | e | e | e
    · subst e; rfl
    · subst e; rfl
    · subst e; rfl
    · subst e; rfl
    · subst e; rfl
    · rw [if_neg (by omega), if_neg (by omega), if_neg (by omega), if_neg (by omega), if_neg (by omega), if_neg e.1, if_neg e.2.1, if_neg e.2.2.1, if_neg e.2.2.2.1, if_neg e.2.2.2.2]
      rfl
  have m0 : ∀ j : Int, j ≠ 6 → j ≠ 8 → j ≠ 4 → j ≠ 1 → 1 ≤ j → m_c X σ a j = 0 := fun j h6 h8 h4 h1 h0 => by
    rw [mc j (by omega), if_neg h6, if_neg h8, if_neg h4, if_neg h1, if_neg (by omega)]
  have c0 : m_c X σ a 0 = 2 := mc 0 (by decide)
  have c1 : m_c X σ a 1 = 1 := mc 1 (by decide)
  have c4 : m_c X σ a 4 = 4 := mc 4 (by decide)
  have c8 : m_c X σ a 8 = -1 := mc 8 (by decide)
  have c2 : m_c X σ a 2 = 0 := m0 2 (by decide) (by decide) (by decide) (by decide) (by decide)
  have c9 : m_c X σ a 9 = 0 := m0 9 (by decide) (by decide) (by decide) (by decide) (by decide)
  have c655 : m_c X σ a 655 = 0 := m0 655 (by decide) (by decide) (by decide) (by decide) (by decide)
  have c654 : m_c X σ a 654 = 0 := m0 654 (by decide) (by decide) (by decide) (by decide) (by decide)
  have e11 : σ.1 C 11 = 0 := (c11 11 (by decide)).1
  refine ⟨⟨⟨⟨⟨?_, ?_, ?_, ?_, ?_, ?_, ?_⟩, ⟨?_, ?_, ⟨?_, ?_⟩, ?_⟩, fun p p0 p1 => ?_, ⟨fun j j0 j1 => ?_, fun p p0 p1 => ?_⟩, ⟨?_, ?_, fun k k0 k1 => ?_⟩, ⟨fun p k p0 p1 k0 k1 => ?_, fun k k0 k1 => ?_⟩⟩, ?_, ?_, ?_, ?_, ?_, 0, ?_⟩, ?_, ?_, fun b b1 b2 => ?_⟩, ⟨?_, ?_⟩, ?_, ?_, ?_, ?_, ?_⟩
  · rw [vk 1 0 (by decide) (by decide) (Or.inr (by decide)), c0]; rfl
  · rw [vk 1 1 (by decide) (by decide) (Or.inr (by decide)), c1]; rfl
  · rw [vk 1 2 (by decide) (by decide) (Or.inr (by decide)), m0 3 (by decide) (by decide) (by decide) (by decide) (by decide)]; rfl
  · rw [vk 1 3 (by decide) (by decide) (Or.inr (by decide)), c4]; rfl
  · rw [vk 1 4 (by decide) (by decide) (Or.inr (by decide)), c2]; rfl
  · rw [m0 3 (by decide) (by decide) (by decide) (by decide) (by decide)]; decide
  · rw [m0 3 (by decide) (by decide) (by decide) (by decide) (by decide)]; decide
  · rw [vk 0 4 (by decide) (by decide) (Or.inr (by decide)), m0 5 (by decide) (by decide) (by decide) (by decide) (by decide)]; rfl
  · rw [vk 0 5 (by decide) (by decide) (Or.inr (by decide)), if_pos c2]; rfl
  · rw [vk 0 6 (by decide) (by decide) (Or.inr (by decide)), c8]; rfl
  · rw [c8]; decide
  · rw [vk 0 7 (by decide) (by decide) (Or.inr (by decide)), m0 7 (by decide) (by decide) (by decide) (by decide) (by decide)]; rfl
  · rw [v20 10 p (by decide) (by decide) p0, v20 11 p (by decide) (by decide) p0, v20 12 p (by decide) (by decide) p0, v20 13 p (by decide) (by decide) p0, m0 _ (by omega) (by omega) (by omega) (by omega) (by omega), m0 _ (by omega) (by omega) (by omega) (by omega) (by omega), m0 _ (by omega) (by omega) (by omega) (by omega) (by omega), m0 _ (by omega) (by omega) (by omega) (by omega) (by omega)]
    exact ⟨rfl, rfl, rfl, rfl⟩
  · rw [v20 7 j (by decide) (by decide) j0, m0 _ (by omega) (by omega) (by omega) (by omega) (by omega)]
  · rw [v20 9 p (by decide) (by decide) p0]
    exact (m_S_z (fun j j0 j1 => m0 j (by omega) (by omega) (by omega) (by omega) (by omega))).symm
  · rw [vk 2 0 (by decide) (by decide) (Or.inr (by decide)), c9]; rfl
  · rw [vk 2 1 (by decide) (by decide) (Or.inr (by decide)), c9]; rfl
  · rw [c9] at k1; omega
  · rw [v20 8 _ (by decide) (by decide) (by omega), c9]; rfl
  · rw [v20 4 k (by decide) (by decide) k0]
    unfold m_I
    rw [c9, c2]
    rfl
  · intro p p0 p1
    rw [c2] at p1
    omega
  · rw [vk 3 0 (by decide) (by decide) (Or.inr (by decide)), c654]; rfl
  · exact Or.inl c654
  · rw [vk 3 1 (by decide) (by decide) (Or.inr (by decide)), c655]; rfl
  · rw [vk 3 2 (by decide) (by decide) (Or.inr (by decide))]; decide
  · rw [vk 3 2 (by decide) (by decide) (Or.inr (by decide)), c655]
    exact ⟨rfl, rfl⟩
  · rw [e11, h24]
  · rw [e11]; decide
  · rw [e11, z0] at b2; omega
  · rw [(c11 16 (by decide)).1, (c12 37 (by decide)).1]; rfl
  · intro h
    exact absurd (by rw [(c12 37 (by decide)).1]; rfl) h
  · rw [(c11 0 (by decide)).1, (c12 0 (by decide)).1]; rfl
  · rw [(c11 6 (by decide)).1, (c12 10 (by decide)).1]; rfl
  · rw [(c11 7 (by decide)).1, (c12 11 (by decide)).1]; rfl
  · rw [(c11 1 (by decide)).2, (c12 2 (by decide)).2]; rfl
  · rw [(c11 2 (by decide)).2, (c12 3 (by decide)).2]; rfl
end OW
end
/-! FROM 50.born.lean.txt -/
section
/-! CONSTRUCTORS: the world grows -/
abbrev DW : Type := va_G × (Nat → ClassId)
def q_tyD (D : DW) : List (ClassId × FieldType) := [(D.2 0, .byte), (D.2 1, .int), (D.2 2, .long), (D.2 3, .object "CheatHeap$Tray"), (D.2 4, .object "CheatHeap$Game")]
def q_w (X : XW) (σ : ST) (H : Heap) : Prop := q_T X ∧ q_R X σ H ∧ q_B X σ ∧ q_TT X σ ∧ y_Fo X ∧ y_IV X σ
def q_nw (h n : Nat) : Nat → Prop := fun q => q = h ∨ n ≤ q
def q_ext (A : Nat → Prop) (X X' : XW) (σ σ' : ST) : Prop := X'.1 = X.1 ∧ q_sk X' = q_sk X ∧ q_sv X' = q_sv X ∧ (∀ a, q_kd X a ≠ 0 → q_kd X' a = q_kd X a ∧ q_ln X' a = q_ln X a ∧ (∀ f, q_rf X' a f = q_rf X a f) ∧ ∀ f, σ'.1 a f = σ.1 a f) ∧ ∀ a, q_kd X' a ≠ 0 → q_kd X a ≠ 0 ∨ A a
theorem q_ext.rf {A : Nat → Prop} {X : XW} {σ : ST} : q_ext A X X σ σ := ⟨rfl, rfl, rfl, fun _ _ => ⟨rfl, rfl, fun _ => rfl, fun _ => rfl⟩, fun _ h => Or.inl h⟩
theorem q_ext.tr {A B : Nat → Prop} {X X1 X2 : XW} {σ σ1 σ2 : ST} (h : q_ext A X X1 σ σ1) (k : q_ext B X1 X2 σ1 σ2) (hb : ∀ a, B a → A a) : q_ext A X X2 σ σ2 := by
  obtain ⟨h1, h2, h3, h4, h5⟩ := h
  obtain ⟨k1, k2, k3, k4, k5⟩ := k
  refine ⟨k1.trans h1, k2.trans h2, k3.trans h3, fun a ha => ?_, fun a ha => ?_⟩
  · obtain ⟨p1, p2, p3, p4⟩ := h4 a ha
    obtain ⟨r1, r2, r3, r4⟩ := k4 a (by rw [p1]; exact ha)
    exact ⟨r1.trans p1, r2.trans p2, fun f => (r3 f).trans (p3 f), fun f => (r4 f).trans (p4 f)⟩
  · rcases k5 a ha with q | q
    · exact h5 a q
    · exact Or.inr (hb a q)
theorem q_ext.kd {A : Nat → Prop} {X X' : XW} {σ σ' : ST} {a k : Nat} (h : q_ext A X X' σ σ') (ha : q_kd X a = k) (hk : k ≠ 0) : q_kd X' a = k := ((h.2.2.2.1 a (by rw [ha]; exact hk)).1).trans ha
theorem q_ext.k0 {A : Nat → Prop} {X X' : XW} {σ σ' : ST} {a : Nat} (h : q_ext A X X' σ σ') (ha : q_kd X a = 0) (hA : ¬ A a) : q_kd X' a = 0 := by
  by_cases q : q_kd X' a = 0
  · exact q
  · rcases h.2.2.2.2 a q with w | w
    · exact absurd ha w
    · exact absurd w hA
def q_xg (X : XW) (h k n : Nat) (rf : Nat → Nat) : XW := (X.1, (fun a => if a = h then k else q_kd X a), (fun a f => if a = h then rf f else q_rf X a f), (fun a => if a = h then n else q_ln X a), q_sk X, q_sv X)
def q_sg (σ : ST) (h : Nat) (iv : Nat → Int32) (lv : Nat → Int64) (t : Nat) : ST := ((fun a f => if a = h then iv f else σ.1 a f), (fun a f => if a = h then lv f else σ.2.1 a f), fun a => if a = h then t else σ.2.2 a)
theorem q_xg_h {X : XW} {h k n : Nat} {rf : Nat → Nat} : q_kd (q_xg X h k n rf) h = k := if_pos rfl
theorem q_xg_ne {X : XW} {h k n a : Nat} {rf : Nat → Nat} (q : a ≠ h) : q_kd (q_xg X h k n rf) a = q_kd X a := if_neg q
theorem q_w.lt {X : XW} {σ : ST} {H : Heap} (w : q_w X σ H) {a : Nat} (ha : q_kd X a ≠ 0) : a < H.size := by
  have c := w.2.1 a ha
  by_cases q : q_kd X a < 20
  · obtain ⟨r, -, cell, h1, -⟩ := c.1 q
    exact (Array.getElem?_eq_some_iff.mp h1).1
  · exact (Array.getElem?_eq_some_iff.mp (c.2 (by omega))).1
theorem q_w.kept {X : XW} {σ : ST} {H H1 : Heap} (w : q_w X σ H) (hq : ∀ a, q_kd X a ≠ 0 → H1[a]? = H[a]?) : q_w X σ H1 := ⟨w.1, fun a ha => (w.2.1 a ha).ne (fun _ => rfl) (fun _ => rfl) rfl (hq a ha), w.2.2⟩
theorem q_w.fresh {X : XW} {σ : ST} {H : Heap} (w : q_w X σ H) {a : Nat} (ha : H.size ≤ a) : q_kd X a = 0 := by
  by_cases q : q_kd X a = 0
  · exact q
  · have := w.lt q
    omega
theorem y_xg {X : XW} {h k n : Nat} {rf : Nat → Nat} : y_ad1 X (q_xg X h k n rf) h k n rf := ⟨fun _ => rfl, fun _ _ => rfl, fun _ => rfl⟩
theorem y_IV.add {X : XW} {σ : ST} {h k n t : Nat} {rf : Nat → Nat} {iv : Nat → Int32} {lv : Nat → Int64} (I : y_IV X σ) (hiv : y_ik k = true → ∀ f, (20 ≤ k ∨ f < 60) → iv f = y_iv k f ∧ lv f = y_il k f) : y_IV (q_xg X h k n rf) (q_sg σ h iv lv t) := by
  intro a ha f hf
  by_cases q : a = h
  · subst q
    rw [q_xg_h] at ha hf ⊢
    have z := hiv ha f hf
    show (if a = a then iv f else σ.1 a f) = _ ∧ (if a = a then lv f else σ.2.1 a f) = _
    rw [if_pos rfl, if_pos rfl]
    exact z
  · rw [q_xg_ne q] at ha hf ⊢
    have z := I a ha f hf
    show (if a = h then iv f else σ.1 a f) = _ ∧ (if a = h then lv f else σ.2.1 a f) = _
    rw [if_neg q, if_neg q]
    exact z
theorem q_w.add {X : XW} {σ : ST} {H : Heap} {h k n t : Nat} {rf : Nat → Nat} {iv : Nat → Int32} {lv : Nat → Int64} (w : q_w X σ H) (h0 : q_kd X h = 0) (hrk : ∀ f, q_rk k f ≠ 0 → q_kd X (rf f) = q_rk k f) (hll : q_ll k ≠ 0 → n = q_ll k) (hn : n < 1000000) (h11 : k = 11 → q_ln X (rf 4) = 900 ∧ q_kd X (rf 4) ≠ 0) (hB : ∀ f, q_in (q_bn k f) (iv f)) (ht : k = 4 ∨ k = 9 → q_kd X t = 22) (hc : q_cf (q_xg X h k n rf) (q_sg σ h iv lv t) h H) (hup : ∀ f, q_rk k f ≠ 0 → h < rf f) (hinj : ∀ f g, q_rk k f ≠ 0 → q_rk k g ≠ 0 → rf f = rf g → f = g) (hroot : ∀ f, q_rk k f ≠ 0 → y_root X (rf f)) (hrow : ∀ f, q_rk k f = 5 → q_ln X (q_rf X (rf f) 0) = y_rl k f) (hiv : y_ik k = true → ∀ f, (20 ≤ k ∨ f < 60) → iv f = y_iv k f ∧ lv f = y_il k f) : q_w (q_xg X h k n rf) (q_sg σ h iv lv t) H := by
  have hT := w.1
  obtain ⟨⟨t1, t2, t3, t4⟩, wR, wB, wT, wF, wI⟩ := w
  have ne : ∀ a, q_kd X a ≠ 0 → a ≠ h := fun a ha e => ha (by rw [e]; exact h0)
  refine ⟨⟨fun a f hf => ?_, fun a ha => ?_, fun a => ?_, fun a ha => ?_⟩, fun a ha => ?_, fun a f => ?_, fun a ha => ?_, wF.add hT y_xg h0 hrk hup hinj hroot hrow, wI.add hiv⟩
  · by_cases q : a = h
    · subst q
      rw [q_xg_h] at hf ⊢
      show q_kd (q_xg X a k n rf) (if a = a then rf f else q_rf X a f) = _
      rw [if_pos rfl]
      have z := hrk f hf
      rw [q_xg_ne (ne _ (by rw [z]; exact hf))]
      exact z
    · rw [q_xg_ne q] at hf ⊢
      show q_kd (q_xg X h k n rf) (if a = h then rf f else q_rf X a f) = _
      rw [if_neg q]
      have z := t1 a f hf
      rw [q_xg_ne (ne _ (by rw [z]; exact hf))]
      exact z
  · show (if a = h then n else q_ln X a) = _
    by_cases q : a = h
    · subst q
      rw [q_xg_h] at ha ⊢
      rw [if_pos rfl]
      exact hll ha
    · rw [q_xg_ne q] at ha ⊢
      rw [if_neg q]
      exact t2 a ha
  · show (if a = h then n else q_ln X a) < _
    by_cases q : a = h
    · rw [if_pos q]; exact hn
    · rw [if_neg q]; exact t3 a
  · by_cases q : a = h
    · subst q
      rw [q_xg_h] at ha
      have z := h11 ha
      show (if (if a = a then rf 4 else q_rf X a 4) = a then n else q_ln X (if a = a then rf 4 else q_rf X a 4)) = 900
      rw [if_pos rfl, if_neg (ne _ z.2)]
      exact z.1
    · rw [q_xg_ne q] at ha
      show (if (if a = h then rf 4 else q_rf X a 4) = h then n else q_ln X (if a = h then rf 4 else q_rf X a 4)) = 900
      rw [if_neg q]
      have z := t1 a 4 (by rw [ha]; decide)
      rw [if_neg (ne _ (by rw [z, ha]; decide))]
      exact t4 a ha
  · by_cases q : a = h
    · rw [q]; exact hc
    · rw [q_xg_ne q] at ha
      have c := wR a ha
      have e1 : q_fvk (q_xg X h k n rf) (q_sg σ h iv lv t) (q_kd X a) a = q_fvk X σ (q_kd X a) a := by
        funext f
        unfold q_fvk
        show (match q_ft (q_kd X a) f with | 0 => Value.int (if a = h then iv f else σ.1 a f) | 1 => .long (if a = h then lv f else σ.2.1 a f) | 2 => .ref (if a = h then rf f else q_rf X a f) | _ => .ref (if a = h then t else σ.2.2 a)) = _
        rw [if_neg q, if_neg q, if_neg q, if_neg q]
        rfl
      have e2 : q_av (q_xg X h k n rf) (q_sg σ h iv lv t) (q_kd X a) a = q_av X σ (q_kd X a) a := by
        funext f
        unfold q_av
        show (match q_et (q_kd X a) with | 0 => Value.int (if a = h then iv f else σ.1 a f) | 1 => .int (if a = h then iv f else σ.1 a f) | 2 => .long (if a = h then lv f else σ.2.1 a f) | _ => .ref (if a = h then rf f else q_rf X a f)) = _
        rw [if_neg q, if_neg q, if_neg q]
        rfl
      have e3 : q_ln (q_xg X h k n rf) a = q_ln X a := if_neg q
      refine ⟨fun hk => ?_, fun hk => ?_⟩
      · rw [q_xg_ne q] at hk ⊢
        rw [e1]
        exact c.1 hk
      · rw [q_xg_ne q] at hk ⊢
        rw [e2, e3]
        exact c.2 hk
  · show q_in _ (if a = h then iv f else σ.1 a f)
    by_cases q : a = h
    · rw [if_pos q, q, q_xg_h]; exact hB f
    · rw [if_neg q, q_xg_ne q]; exact wB a f
  · show q_kd (q_xg X h k n rf) (if a = h then t else σ.2.2 a) = 22
    by_cases q : a = h
    · rw [if_pos q]
      rw [q, q_xg_h] at ha
      have z := ht ha
      rw [q_xg_ne (ne _ (by rw [z]; decide))]
      exact z
    · rw [if_neg q]
      rw [q_xg_ne q] at ha
      have z := wT a ha
      rw [q_xg_ne (ne _ (by rw [z]; decide))]
      exact z
theorem q_ext.add {X : XW} {σ : ST} {h k n t : Nat} {rf : Nat → Nat} {iv : Nat → Int32} {lv : Nat → Int64} (h0 : q_kd X h = 0) : q_ext (fun a => a = h) X (q_xg X h k n rf) σ (q_sg σ h iv lv t) := by
  refine ⟨rfl, rfl, rfl, fun a ha => ?_, fun a ha => ?_⟩
  · have q : a ≠ h := fun e => ha (by rw [e]; exact h0)
    exact ⟨q_xg_ne q, if_neg q, fun f => if_neg q, fun f => if_neg q⟩
  · by_cases q : a = h
    · exact Or.inr q
    · rw [q_xg_ne q] at ha
      exact Or.inl ha
/-- an object's fields, as the world and the state say -/
theorem q_fvg {X : XW} {σ : ST} {h k n t : Nat} {rf : Nat → Nat} {iv : Nat → Int32} {lv : Nat → Int64} (f : Nat) : q_fvk (q_xg X h k n rf) (q_sg σ h iv lv t) k h f = (match q_ft k f with | 0 => Value.int (iv f) | 1 => .long (lv f) | 2 => .ref (rf f) | _ => .ref t) := by
  unfold q_fvk
  show (match q_ft k f with | 0 => Value.int (if h = h then iv f else σ.1 h f) | 1 => .long (if h = h then lv f else σ.2.1 h f) | 2 => .ref (if h = h then rf f else q_rf X h f) | _ => .ref (if h = h then t else σ.2.2 h)) = _
  rw [if_pos rfl, if_pos rfl, if_pos rfl, if_pos rfl]
theorem t_lt {o : Nat} {cC : ClassId} {N : Nat} {iS : Nat → Nat} {H : Heap} {V : Nat → Value} (h : t_OB o cC N iS H V) : o < H.size := by
  obtain ⟨cell, h1, -⟩ := h
  exact (Array.getElem?_eq_some_iff.mp h1).1
theorem t_cell {o : Nat} {cC : ClassId} {N : Nat} {iS : Nat → Nat} {H : Heap} {V : Nat → Value} (h : t_OB o cC N iS H V) : ∃ cv : Cell, H[o]? = some cv ∧ cv.cls = cC ∧ cv.vm = .none := by
  obtain ⟨cell, h1, h2, h3, -⟩ := h
  exact ⟨cell, h1, h2, h3⟩
theorem q_rk_hi {k f : Nat} (h : 40 ≤ f) : q_rk k f = 0 := by
  unfold q_rk
  split <;> first | rfl | (split <;> first | rfl | omega)
theorem q_bn_hi (k f : Nat) (h : 40 ≤ f) : (q_bn k f).1 ≤ 0 ∧ 0 ≤ (q_bn k f).2 := by
  unfold q_bn
  split <;> first | decide | (split <;> first | decide | omega)
theorem q_hB {k : Nat} {L : List Int32} (h : ∀ f, f < 40 → (q_bn k f).1 ≤ (L.getD f 0).toInt ∧ (L.getD f 0).toInt ≤ (q_bn k f).2) (hl : L.length ≤ 40) (f : Nat) : q_in (q_bn k f) (L.getD f 0) := by
  by_cases q : f < 40
  · exact h f q
  · have e : L.getD f 0 = 0 := by
      rw [List.getD_eq_getElem?_getD, List.getElem?_eq_none (by omega)]
      rfl
    rw [e]
    exact q_bn_hi k f (by omega)
theorem q_hrk {X : XW} {k : Nat} {L : List Nat} (h : ∀ f, f < 40 → q_rk k f ≠ 0 → q_kd X (L.getD f 0) = q_rk k f) (f : Nat) (hf : q_rk k f ≠ 0) : q_kd X (L.getD f 0) = q_rk k f := by
  by_cases q : f < 40
  · exact h f q hf
  · exact absurd (q_rk_hi (by omega)) hf
theorem raw_lt {H : Heap} {r : Nat} {c : Cell} (h : H[r]? = some c) : r < H.size := (Array.getElem?_eq_some_iff.mp h).1
theorem q_cfO {D : DW} {X : XW} {σ : ST} {H : Heap} {h k ci N t : Nat} {C : String} {T : u_T} {rf : Nat → Nat} {iv : Nat → Int32} {lv : Nat → Int64} {V : Nat → Value} (hD : X.1 = D) (hk : k = ci + 1 ∧ k < 20) (hc : vwCl[ci]? = some (C, T, N)) (ob : t_OB h (D.1.1 ci) N (D.1.2 ci) H V) (hv : ∀ f, f < N → V f = (match q_ft k f with | 0 => Value.int (iv f) | 1 => .long (lv f) | 2 => .ref (rf f) | _ => .ref t)) : q_cf (q_xg X h k 0 rf) (q_sg σ h iv lv t) h H := by
  obtain ⟨rfl, h20⟩ := hk
  subst hD
  refine ⟨fun _ => ?_, fun q => absurd q (by rw [q_xg_h]; omega)⟩
  rw [q_xg_h]
  refine ⟨_, hc, ?_⟩
  refine t_OB.to (V := V) ob (fun f hf => ?_)
  rw [hv f hf, q_fvg]
def q_avm (t0 : Nat) (iv : Nat → Int32) (lv : Nat → Int64) (rf : Nat → Nat) (j : Nat) : Value := match t0 with | 0 => Value.int (iv j) | 1 => .int (iv j) | 2 => .long (lv j) | _ => .ref (rf j)
theorem q_cfA {D : DW} {X : XW} {σ : ST} {H : Heap} {h k n t t0 : Nat} {rf : Nat → Nat} {iv : Nat → Int32} {lv : Nat → Int64} {g : Nat → Value} (hD : X.1 = D) (hk : 20 ≤ k) (he : q_et k = t0) (ha : H[h]? = some (arrV (D.2 t0) n g)) (hv : ∀ j, g j = q_avm t0 iv lv rf j) : q_cf (q_xg X h k n rf) (q_sg σ h iv lv t) h H := by
  subst hD
  subst he
  refine ⟨fun q => absurd q (by rw [q_xg_h]; omega), fun _ => ?_⟩
  have e3 : q_ln (q_xg X h k n rf) h = n := if_pos rfl
  have e4 : q_av (q_xg X h k n rf) (q_sg σ h iv lv t) k h = g := by
    funext j
    rw [hv j]
    unfold q_av q_avm
    show (match q_et k with | 0 => Value.int (if h = h then iv j else σ.1 h j) | 1 => .int (if h = h then iv j else σ.1 h j) | 2 => .long (if h = h then lv j else σ.2.1 h j) | _ => .ref (if h = h then rf j else q_rf X h j)) = _
    rw [if_pos rfl, if_pos rfl, if_pos rfl]
  rw [q_xg_h, e3, e4]
  exact ha
theorem y_rlx {A : Nat → Prop} {X X' : XW} {σ σ' : ST} {c n : Nat} (hx : q_ext A X X' σ σ') (T : q_T X) (hc : q_kd X c = 5) (h : q_ln X (q_rf X c 0) = n) : q_ln X' (q_rf X' c 0) = n := by
  have k20 : q_kd X (q_rf X c 0) = 20 := (T.1 c 0 (by rw [hc]; decide)).trans (by rw [hc]; rfl)
  have e1 := (hx.2.2.2.1 c (by rw [hc]; decide)).2.2.1 0
  have e2 := (hx.2.2.2.1 (q_rf X c 0) (by rw [k20]; decide)).2.1
  rw [e1, e2]
  exact h
/-! rows of a constructor -/
def q_E0 (p : Program) (c : Code) (cc : ByteArray) (s : State) (m : MethodId) (args : Array Value) (own : String) (D : DW) : Prop :=
  p.tables.exec = Jvm.exec ∧ c.code = cc ∧ s.vm.findClass own = some m.cls ∧ (∀ w ∈ q_tbl, w.before args s = true) ∧ va_K D.1 vwCl (q_tyD D) s ∧ q_NW s ∧ va_AO "CheatHeap$Tray" s ∧ va_AO "CheatHeap$Game" s
def q_K0 (D : DW) (U : State) : Prop := va_K D.1 vwCl (q_tyD D) U ∧ q_NW U ∧ va_AO "CheatHeap$Tray" U ∧ va_AO "CheatHeap$Game" U
section QN
variable {p : Program} {l : Launch} {e : Env} {R : Room} {s : State} {m : MethodId} {args : Array Value} {below : List Frame} {meth : Method} {c : Code} {H : Heap} {locs : List Loc} {cells slots : Nat} {Q : State → Prop} {cc : ByteArray} {own : String} {D : DW} {A : Nat → Prop} {H0 : Heap} {pc : Nat} {ls : Array Slot} {rest : List Value} {h : Nat}
/-- new -/
theorem b_new (E : q_E0 p c cc s m args own D) (hS : va_S A H0 H locs) {C : String} {T : u_T} {N ci index : Nat} (hcl : Cond.classLink own index C ∈ q_tbl) (hinst : Cond.instantiable C N ∈ q_tbl) (hini : Cond.initialized C ∈ q_tbl) (hc : vwCl[ci]? = some (C, T, N)) (hin : ∀ w ∈ u_ws C T N, w ∈ q_tbl) (ty : Nat → FieldType) (hty : ∀ k, k < N → parseFieldDescriptor (T k).2.2.1 = some (ty k)) (hcells : cells + 1 ≤ R.cells) (hslots : slots + N ≤ R.slots) (hdg : decode cc pc = .ok (.new index, 3))
    (kk : ∀ (q : Nat) (H1 : Heap), q = H.size → H1.size = H.size + 1 → (∀ a, a < H.size → H1[a]? = H[a]?) → t_OB q (D.1.1 ci) N (D.1.2 ci) H1 (fun k => defaultValue (ty k)) → va_S A H0 H1 locs → W p l e R s m args below meth c H1 locs (cells + 1) (slots + N) Q (F0 m (pc + 3) ls (.ref q :: rest))) : W p l e R s m args below meth c H locs cells slots Q (F0 m pc ls rest) := by
  obtain ⟨hx, hb, hown, hts, hK, -⟩ := E
  have hKn := hK.1 ci _ hc
  refine W.newcK hx hb hown (hts _ hcl) (hts _ hinst) (hts _ hini) rfl hdg hcells hslots hKn.2.1 rfl fun H1 kC hkC e1 z1 o1 => ?_
  exact kk H.size H1 rfl z1 o1 (u_born ty hts hin hKn hkC e1 hty) ⟨Nat.le_trans hS.1 (by omega), fun x h1 h2 => (o1 x (Nat.lt_of_lt_of_le h1 hS.1)).trans (hS.2.1 x h1 h2), hS.2.2⟩
/-- newarray -/
theorem b_newa (E : q_E0 p c cc s m args own D) (hS : va_S A H0 H locs) {atype : ArrayType} (harr : Cond.arrayClass (newarray.typeOf atype) ∈ q_tbl) {t : Nat} (ht : (q_tyD D)[t]? = some (D.2 t, newarray.typeOf atype)) (hnm : ∀ U cA, va_RA U cA (newarray.typeOf atype) = (U.vm.findClass ("[" ++ (newarray.typeOf atype).toString) = some cA)) {n : Int32} {N' : Nat} (hn : 0 ≤ n.toInt) (hN : n.toNatClampNeg = N') (hbytes : N' * componentBytes (newarray.typeOf atype) ≤ 536870912) (hcells : cells + 1 ≤ R.cells) (hslots : slots + N' ≤ R.slots) (hdg : decode cc pc = .ok (.newarray atype, 2))
    (kk : ∀ (q : Nat) (H1 : Heap), q = H.size → H1.size = H.size + 1 → (∀ a, a < H.size → H1[a]? = H[a]?) → H1[q]? = some (arrV (D.2 t) N' (fun _ => defaultValue (newarray.typeOf atype))) → va_S A H0 H1 locs → W p l e R s m args below meth c H1 locs (cells + 1) (slots + N') Q (F0 m (pc + 2) ls (.ref q :: rest))) : W p l e R s m args below meth c H locs cells slots Q (F0 m pc ls (.int n :: rest)) := by
  obtain ⟨hx, hb, hown, hts, hK, -⟩ := E
  refine va_newaK hx hb (hts _ harr) rfl hdg rfl (fun q => by rw [Int32.lt_iff_toInt_lt, q_z0] at q; omega) hN hbytes hcells hslots rfl fun H1 cA e1 z1 o1 hAr hNm => ?_
  have w := (hK.2 t _ ht).2
  rw [hnm] at w
  have e : cA = D.2 t := Option.some.inj (hNm.symm.trans w)
  rw [e] at e1
  exact kk H.size H1 rfl z1 o1 e1 ⟨Nat.le_trans hS.1 (by omega), fun x h1 h2 => (o1 x (Nat.lt_of_lt_of_le h1 hS.1)).trans (hS.2.1 x h1 h2), hS.2.2⟩
/-- anewarray -/
theorem b_newq (E : q_E0 p c cc s m args own D) (hS : va_S A H0 H locs) {C : String} {index t : Nat} (hcl : Cond.classLink own index C ∈ q_tbl) (hao : va_AO C s) (ht : (q_tyD D)[t]? = some (D.2 t, .object C)) {n : Int32} {N' : Nat} (hn : 0 ≤ n.toInt) (hN : n.toNatClampNeg = N') (hbytes : N' * 4 ≤ 536870912) (hcells : cells + 1 ≤ R.cells) (hslots : slots + N' ≤ R.slots) (hdg : decode cc pc = .ok (.anewarray index, 3))
    (kk : ∀ (q : Nat) (H1 : Heap), q = H.size → H1.size = H.size + 1 → (∀ a, a < H.size → H1[a]? = H[a]?) → H1[q]? = some (arrV (D.2 t) N' (fun _ => .null)) → va_S A H0 H1 locs → W p l e R s m args below meth c H1 locs (cells + 1) (slots + N') Q (F0 m (pc + 3) ls (.ref q :: rest))) : W p l e R s m args below meth c H locs cells slots Q (F0 m pc ls (.int n :: rest)) := by
  obtain ⟨hx, hb, hown, hts, hK, -⟩ := E
  subst hN
  refine W.anew hx hb hown (hts _ hcl) (va_AO.use hao) rfl hdg rfl (fun q => by rw [Int32.lt_iff_toInt_lt, q_z0] at q; omega) hbytes hcells hslots fun cA kA comp f1 f2 f3 f4 => ?_
  obtain ⟨kA', comp', -, -, -, w4⟩ := (hK.2 t _ ht).2
  have e : cA = D.2 t := Option.some.inj (f1.symm.trans w4)
  generalize hH1 : H.push ({ cls := cA, slots := Array.replicate n.toNatClampNeg .null, vm := .none } : Cell) = H1
  have z1 : H1.size = H.size + 1 := by rw [← hH1, Array.size_push]
  have e1 : H1[H.size]? = some (arrV cA n.toNatClampNeg (fun _ => .null)) := by rw [← hH1, Array.getElem?_push_size, ← arrV_new]
  have o1 : ∀ q : Nat, q < H.size → H1[q]? = H[q]? := fun q hq => by rw [← hH1, Array.getElem?_push, if_neg (Nat.ne_of_lt hq)]
  rw [e] at e1
  exact kk H.size H1 rfl z1 o1 e1 ⟨Nat.le_trans hS.1 (by omega), fun x h1 h2 => (o1 x (Nat.lt_of_lt_of_le h1 hS.1)).trans (hS.2.1 x h1 h2), hS.2.2⟩
/-- putfield of an object that is being made -/
theorem b_put (E : q_E0 p c cc s m args own D) (hS : va_S A H0 H locs) (hAh : A h) (hin2 : meth.name = "<init>") {ci N index f : Nat} {C ref : String} {T : u_T} {ty0 : Nat → FieldType} {V : Nat → Value} {v : Value} (ob : t_OB h (D.1.1 ci) N (D.1.2 ci) H V) (hc : vwCl[ci]? = some (C, T, N)) (hin : ∀ w ∈ u_ws C T N, w ∈ q_tbl) (hty : ∀ k, k < N → parseFieldDescriptor (T k).2.2.1 = some (ty0 k)) (hnm : ∀ a, a < N → ∀ b, b < N → a ≠ b → (T a).2.1 ≠ (T b).2.1) (hf : f < N)
    (hlink : Cond.fieldLink own index ref (T f).2.1 (T f).2.2.1 ∈ q_tbl) (hsame : ref = (T f).1) (hdecl : (T f).2.2.2 = true → (T f).1 = own) {ty : FieldType} (hd : parseFieldDescriptor (T f).2.2.1 = some ty) (hn : narrow ty v = v) (hfit : fits ty v = true) (hdg : decode cc pc = .ok (.putfield index, 3))
    (kk : ∀ (H1 : Heap) (locs1 : List Loc), H1.size = H.size → (∀ a, a ≠ h → H1[a]? = H[a]?) → t_OB h (D.1.1 ci) N (D.1.2 ci) H1 (updV V f v) → va_S A H0 H1 locs1 → W p l e R s m args below meth c H1 locs1 cells slots Q (F0 m (pc + 3) ls rest)) : W p l e R s m args below meth c H locs cells slots Q (F0 m pc ls (v :: .ref h :: rest)) := by
  obtain ⟨hx, hb, hown, hts, hK, -⟩ := E
  obtain ⟨cell, q1, q2, q3, q4⟩ := ob
  have hap := va_apart (own := own) hts hin ty0 hty hnm hK hc
  obtain ⟨hSl, hfc, kC, hkC, hkind⟩ := hK.1 ci _ hc
  obtain ⟨cf, kf, fi, fd, hi, hsl⟩ := hSl f hf
  have hi' : s.fieldFound? ref (T f).2.1 (T f).2.2.1 = some (cf, kf, fi, fd) := by rw [hsame]; exact hi
  have hlay := hts _ (hin _ (u_in_lay hf))
  have hst := (u_facts hfc hkC (u_lays hts hin hf) hi).1
  unfold u_lay at hlay
  by_cases hfin : (T f).2.2.2 = true
  · rw [if_pos hfin] at hlay
    have hcf : m.cls = cf := by
      obtain ⟨_, _, c', _, _, _, -, -, hf', -, -, -, hown2, -⟩ := Cond.laysFinal_spec hlay
      have e1 : c' = cf := by have := hi.symm.trans hf'; simp at this; exact this.1.symm
      rw [hdecl hfin] at hown2
      rw [← e1]; exact Option.some.inj (hown.symm.trans hown2)
    have h6 := u_fits hfc hkC hkind (Or.inr hlay) hi hd hn hfit
    refine W.putFinK hx hb hown (hts _ hlink) hi' hst hcf hin2 (by rw [q2]; exact h6) q1 q3 (by rw [hsl]; exact k2_hasslot (q4 f hf)) rfl rfl hdg fun H' g1 g2 g3 => ?_
    rw [hsl] at g1 ⊢
    exact kk H' _ g2 g3 ⟨_, g1, q2, q3, t_set q4 hap hf v⟩ (hS.put g2 g3 hAh)
  · rw [if_neg hfin] at hlay
    have h6 := u_store hfc hkC hkind hlay hi hd hn hfit
    refine W.putK hx hb (f := fd) ⟨hown, hts _ hlink, ⟨_, _, _, hi'⟩, hst⟩ (by rw [q2]; exact h6) q1 q3 (by rw [hsl]; exact k2_hasslot (q4 f hf)) rfl rfl hdg fun H' g1 g2 g3 => ?_
    rw [hsl] at g1 ⊢
    exact kk H' _ g2 g3 ⟨_, g1, q2, q3, t_set q4 hap hf v⟩ (hS.put g2 g3 hAh)
/-- getfield of an object that is being made -/
theorem b_get (E : q_E0 p c cc s m args own D) {ci N index f : Nat} {C ref : String} {T : u_T} {V : Nat → Value} {v : Value} (ob : t_OB h (D.1.1 ci) N (D.1.2 ci) H V) (hc : vwCl[ci]? = some (C, T, N)) (hin : ∀ w ∈ u_ws C T N, w ∈ q_tbl) (hf : f < N) (hlink : Cond.fieldLink own index ref (T f).2.1 (T f).2.2.1 ∈ q_tbl) (hsame : ref = (T f).1) (hv : V f = v) (hdg : decode cc pc = .ok (.getfield index, 3))
    (kk : W p l e R s m args below meth c H locs cells slots Q (F0 m (pc + 3) ls (v :: rest))) : W p l e R s m args below meth c H locs cells slots Q (F0 m pc ls (.ref h :: rest)) := by
  obtain ⟨hx, hb, hown, hts, hK, -⟩ := E
  obtain ⟨cell, q1, q2, q3, q4⟩ := ob
  obtain ⟨hSl, hfc, kC, hkC, hkind⟩ := hK.1 ci _ hc
  obtain ⟨cf, kf, fi, fd, hi, hsl⟩ := hSl f hf
  have hi' : s.fieldFound? ref (T f).2.1 (T f).2.2.1 = some (cf, kf, fi, fd) := by rw [hsame]; exact hi
  have hst := (u_facts hfc hkC (u_lays hts hin hf) hi).1
  refine W.getf hx hb hown (hts _ hlink) hi' hst q1 (by rw [q3]; exact fun h => by cases h) (v := v) ?_ rfl rfl hdg kk
  rw [hsl, q4 f hf, hv]
/-- a cell of an array of ints that is being made -/
theorem b_iast (E : q_E0 p c cc s m args own D) (hS : va_S A H0 H locs) {r n : Nat} (hAr : A r) {g : Nat → Int32} (hr : H[r]? = some (arrV (D.2 1) n (fun j => Value.int (g j)))) {i v : Int32} (h0 : 0 ≤ i.toInt) (h1 : i.toInt < n) (hdg : decode cc pc = .ok (.iastore, 1))
    (kk : ∀ (H1 : Heap) (locs1 : List Loc), H1.size = H.size → (∀ a, a ≠ r → H1[a]? = H[a]?) → H1[r]? = some (arrV (D.2 1) n (fun j => Value.int (if j = i.toNatClampNeg then v else g j))) → va_S A H0 H1 locs1 → W p l e R s m args below meth c H1 locs1 cells slots Q (F0 m (pc + 1) ls rest)) : W p l e R s m args below meth c H locs cells slots Q (F0 m pc ls (.int v :: .int i :: .ref r :: rest)) := by
  obtain ⟨hx, hb, hown, hts, hK, -⟩ := E
  have hin : vp_in i n := vp_in_iff.mpr ⟨h0, h1⟩
  refine W.iast hx hb hr ((hK.2 1 _ rfl).1 _ _) (fun q => by cases q) (by rw [arrV_size]; exact hin) rfl rfl hdg fun H1 g1 g2 g3 => ?_
  refine kk H1 _ g2 g3 ?_ (hS.put g2 g3 hAr)
  rw [g1, arrV_store]
  congr 2
  funext j
  unfold updV
  by_cases hj : j = i.toNatClampNeg
  · rw [if_pos hj, if_pos hj]
  · rw [if_neg hj, if_neg hj]
/-- a place of an array of objects that is being made -/
theorem b_aast (E : q_E0 p c cc s m args own D) (hS : va_S A H0 H locs) {r n t ci N v : Nat} {C : String} {T : u_T} (hAr : A r) (ht : (q_tyD D)[t]? = some (D.2 t, .object C)) (hc : vwCl[ci]? = some (C, T, N)) {g : Nat → Value} (hr : H[r]? = some (arrV (D.2 t) n g)) (hv : ∃ cv : Cell, H[v]? = some cv ∧ cv.cls = D.1.1 ci ∧ cv.vm = .none) {i : Int32} (h0 : 0 ≤ i.toInt) (h1 : i.toInt < n) (hdg : decode cc pc = .ok (.aastore, 1))
    (kk : ∀ (H1 : Heap) (locs1 : List Loc), H1.size = H.size → (∀ a, a ≠ r → H1[a]? = H[a]?) → H1[r]? = some (arrV (D.2 t) n (updV g i.toNatClampNeg (.ref v))) → va_S A H0 H1 locs1 → W p l e R s m args below meth c H1 locs1 cells slots Q (F0 m (pc + 1) ls rest)) : W p l e R s m args below meth c H locs cells slots Q (F0 m pc ls (.ref v :: .int i :: .ref r :: rest)) := by
  obtain ⟨hx, hb, hown, hts, hK, -⟩ := E
  obtain ⟨kA, comp, w1, w2, w3, w4⟩ := (hK.2 t _ ht).2
  obtain ⟨hSl, hfc, kC, hkC, hkind⟩ := hK.1 ci _ hc
  obtain ⟨cv, v1, v2, v3⟩ := hv
  have e : comp = D.1.1 ci := Option.some.inj (w3.symm.trans hfc)
  refine W.aast hx hb hr (fun q z => by cases z) (fun z => by cases z) w1 w2 rfl (by rw [e]; exact hkC) ⟨fun q => by rw [Int32.lt_iff_toInt_lt, q_z0] at q; omega, by rw [arrV_size, q_cn]; omega⟩ v1 (fun q z => by rw [v3] at z; cases z) (by rw [v2]; exact hkC) (by rw [v2, e]; exact va_asg _ _) rfl rfl hdg fun H1 g1 g2 g3 => ?_
  refine kk H1 _ g2 g3 ?_ (hS.put g2 g3 hAr)
  rw [g1, arrV_store]
end QN
/-! contracts of constructors -/
abbrev q_PN (D : DW) (X : XW) (σ : ST) (h sz ci N : Nat) (V : Nat → Value) (av : List Value) : Array Value → State → Prop := va_Pc av (fun U => U.heap.size = sz ∧ X.1 = D ∧ q_w X σ U.heap ∧ q_kd X h = 0 ∧ t_OB h (D.1.1 ci) N (D.1.2 ci) U.heap V ∧ q_K0 D U)
abbrev q_QN (X : XW) (σ : ST) (h sz k : Nat) (post : XW → ST → Prop) : Array Value → State → Outcome → State → Prop := va_Qv (S := XW × ST) (fun u => q_ext (q_nw h sz) X u.1 σ u.2 ∧ q_kd u.1 h = k ∧ post u.1 u.2) (fun u t => q_w u.1 u.2 t.heap) (q_nw h sz)
theorem q_K0.alike {D : DW} {u U : State} (hW : u.vm.Alike U.vm) (hN : q_NW U) (h : q_K0 D u) (a1 : va_AO "CheatHeap$Tray" U) (a2 : va_AO "CheatHeap$Game" U) : q_K0 D U := ⟨va_K.moved hW h.1, hN, a1, a2⟩
theorem q_blindN {D : DW} {X : XW} {σ : ST} {h sz ci N : Nat} {V : Nat → Value} {av : List Value} : FrameBlind (q_PN D X σ h sz ci N V av) := by
  rintro a U g mk ⟨h1, hs, hD, hw, h0, hO, hK, hN, hA, hA2⟩
  exact ⟨h1, hs, hD, hw, h0, hO, va_K.moved (u := U) (U := U.calling g mk a) (Vm.Alike.refl U.vm) hK, fun r hr => va_Nw.same (u := U) (U := U.calling g mk a) rfl rfl (hN r hr), hA, hA2⟩
theorem b_met {l : Launch} {y : MethodName} {cc : ByteArray} {mL : Nat} {rm : Room} {av : List Value} {D : DW} {X : XW} {σ : ST} {own : String} {h sz ci N mc ms : Nat} {V : Nat → Value} {Qc : Array Value → State → Outcome → State → Prop} (hy : plainFor y = true) (ho : y.cls = own) (hyn : y.name = "<init>") (hlen : (lg_sl av).length ≤ mL)
    (body : ∀ (p : Program) (e : Env) (s : State) (m : MethodId) (below : List Frame) (meth : Method) (c : Code), q_E0 p c cc s m av.toArray own D → c.maxLocals = mL → meth.sig.returnType = none → meth.locks = false → meth.name = "<init>" → s.heap.size = sz → X.1 = D → q_w X σ s.heap → q_kd X h = 0 → t_OB h (D.1.1 ci) N (D.1.2 ci) s.heap V → ∀ ls : Array Slot, lv_has ls mL (lv_args 0 av) → W p l e rm s m av.toArray below meth c s.heap [] 0 0 (MQ below Qc av.toArray s mc ms (q_nw h sz)) (F0 m 0 ls [])) :
    Met l y (q_ws y cc mL none) rm (q_PN D X σ h sz ci N V av) Qc mc ms (q_nw h sz) := by
  refine MetFree.of_bodySF (code := cc) (maxLocals := mL) (ret := none) hy ?_ ?_
  · intro args s m h hn
    obtain ⟨meth, c, h1, h2, h3, h4, h5, h6, -, -⟩ := Cond.code_spec hn (atoms_spec (ws := q_ws y cc mL none) h _ List.mem_cons_self)
    exact ⟨meth, c, h1, h2, h3, h4, h5, h6⟩
  intro p e s m args below meth c s₁ B hml hv _
  obtain ⟨rfl, hs, hD, hw, h0, hO, hK, hN, hA, hA2⟩ := hv
  have hh0 : s₁.heap = s.heap := by rw [B.state]; rfl
  suffices hW9 : W p l e rm s m av.toArray below meth c s.heap [] 0 0 (MQ below Qc av.toArray s mc ms (q_nw h sz)) (entryFrame m av.toArray mL) by
    obtain ⟨t, a1, o, b1, b2, b3⟩ := hW9 s₁ hh0 (Stand.of_body B)
    exact ⟨t, o, a1, b1, b2, ⟨b3.1, b3.2⟩⟩
  have hts := atoms_spec (ws := q_ws y cc mL none) B.pre
  have hown : s.vm.findClass y.cls = some m.cls := findClass_of_methodNamed B.named
  rw [ho] at hown
  have hnm : meth.name = "<init>" := (name_of_methodNamed B.named B.method).1.trans hyn
  have hl := lv_entry av hlen
  rw [lg_entry_eq]
  generalize (lg_sl av ++ List.replicate (mL - (lg_sl av).length) Slot.unset).toArray = ls at hl ⊢
  exact body p e s m below meth c ⟨B.exec, B.bytes, hown, fun w hw => hts w (List.mem_cons_of_mem _ hw), hK, hN, hA, hA2⟩ hml B.returns B.notSynchronized hnm hs hD hw h0 hO ls hl
/-- words of a constructor's call site: by name, or as a nest mate's -/
def b_okI (own : String) (index : Nat) (y : MethodName) (bytes : ByteArray) (mL n : Nat) : Prop :=
  Cond.methodLink own index y ∈ q_tbl ∧ Cond.instanceMethod y ∈ q_tbl ∧ Cond.initialized y.cls ∈ q_tbl ∧ Cond.code y bytes mL none ∈ q_tbl ∧ y.name = "<init>" ∧ (y.cls ≠ "java/lang/invoke/MethodHandle" ∧ y.cls ≠ "java/lang/invoke/VarHandle" ∧ (parseMethodDescriptor y.desc).map (fun d => d.parameters.length) = some n)
def b_okN (own : String) (index : Nat) (host : String) (y : MethodName) (bytes : ByteArray) (mL n : Nat) : Prop :=
  (own, index, y, host) ∈ q_nest ∧ Cond.instanceMethod y ∈ q_tbl ∧ Cond.initialized y.cls ∈ q_tbl ∧ Cond.code y bytes mL none ∈ q_tbl ∧ y.name = "<init>" ∧ (y.cls ≠ "java/lang/invoke/MethodHandle" ∧ y.cls ≠ "java/lang/invoke/VarHandle" ∧ (parseMethodDescriptor y.desc).map (fun d => d.parameters.length) = some n)
section QO
variable {p : Program} {l : Launch} {e : Env} {R : Room} {s : State} {m : MethodId} {args : Array Value} {below : List Frame} {meth : Method} {c : Code} {H : Heap} {locs : List Loc} {cells slots : Nat} {Q : State → Prop} {cc : ByteArray} {own : String} {D : DW} {A : Nat → Prop} {pc : Nat} {ls : Array Slot} {rest st : List Value} {h : Nat} {X : XW} {σ : ST}
theorem b_pre (E : q_E0 p c cc s m args own D) {ci N sz : Nat} {V : Nat → Value} (hD : X.1 = D) (hw : q_w X σ H) (h0 : q_kd X h = 0) (ob : t_OB h (D.1.1 ci) N (D.1.2 ci) H V) (hs : H.size = sz) (av : List Value) : PreS s H (q_PN D X σ h sz ci N V av) av :=
  ⟨q_blindN, fun U hU hW => ⟨rfl, by rw [hU]; exact hs, hD, by rw [hU]; exact hw, h0, by rw [hU]; exact ob, va_K.moved hW.alike E.2.2.2.2.1, fun r hr => va_Nw.warmM hW (E.2.2.2.2.2.1 r hr), va_AO.moved hW.alike E.2.2.2.2.2.2.1, va_AO.moved hW.alike E.2.2.2.2.2.2.2⟩⟩
theorem b_runI (E : q_E0 p c cc s m args own D) (hml : c.maxLocals = ls.size) {ci N sz index mL na mc ms f w : Nat} {V : Nat → Value} {As : List Value} {y : MethodName} {bytes : ByteArray} {Qc : Array Value → State → Outcome → State → Prop} (hD : X.1 = D) (hw : q_w X σ H) (h0 : q_kd X h = 0) (ob : t_OB h (D.1.1 ci) N (D.1.2 ci) H V) (hs : H.size = sz)
    (hM : Met l y (q_ws y bytes mL none) { frames := f, cells := mc, slots := ms, locals := w } (q_PN D X σ h sz ci N V (.ref h :: As)) Qc mc ms (q_nw h sz)) (ok : b_okI own index y bytes mL na) (hn : As.length = na) (hR : f + 1 ≤ R.frames ∧ 8 + (mL + 11) + w ≤ R.locals) (hcs : cells + mc ≤ R.cells ∧ slots + ms ≤ R.slots)
    (hst : st = As.reverse ++ .ref h :: rest) (hW : (rest.map fun v => v.category).sum ≤ 8) (hdg : decode cc pc = .ok (.invokespecial index, 3)) :
    va_Run p l e R s m args below meth c H locs cells slots mc ms (F0 m pc ls st) rest (Qc (Value.ref h :: As).toArray) (q_nw h sz) := by
  obtain ⟨o1, o2, o3, o4, o5, o6⟩ := ok
  obtain ⟨hx, hb, hown, hts, -⟩ := id E
  exact va_runI (nL := ls.size) ⟨hx, hb, hml, hown, hts⟩ hM (cwI na hts (q_goodIn fun w hw => (List.mem_cons.mp hw).elim (fun e => by rw [e]; exact o4) id) rfl rfl rfl (hts _ o3) (hts _ o1) (hts _ o2) o5 o6 hR) (b_pre E hD hw h0 ob hs (.ref h :: As)) rfl hn rfl hst (lv_room hW) hdg hcs
theorem b_runN (E : q_E0 p c cc s m args own D) (hml : c.maxLocals = ls.size) {ci N sz index mL na mc ms f w : Nat} {V : Nat → Value} {host : String} {As : List Value} {y : MethodName} {bytes : ByteArray} {Qc : Array Value → State → Outcome → State → Prop} (hD : X.1 = D) (hw : q_w X σ H) (h0 : q_kd X h = 0) (ob : t_OB h (D.1.1 ci) N (D.1.2 ci) H V) (hs : H.size = sz)
    (hM : Met l y (q_ws y bytes mL none) { frames := f, cells := mc, slots := ms, locals := w } (q_PN D X σ h sz ci N V (.ref h :: As)) Qc mc ms (q_nw h sz)) (ok : b_okN own index host y bytes mL na) (hn : As.length = na) (hR : f + 1 ≤ R.frames ∧ 8 + (mL + 11) + w ≤ R.locals) (hcs : cells + mc ≤ R.cells ∧ slots + ms ≤ R.slots)
    (hst : st = As.reverse ++ .ref h :: rest) (hW : (rest.map fun v => v.category).sum ≤ 8) (hdg : decode cc pc = .ok (.invokespecial index, 3)) :
    va_Run p l e R s m args below meth c H locs cells slots mc ms (F0 m pc ls st) rest (Qc (Value.ref h :: As).toArray) (q_nw h sz) := by
  obtain ⟨o1, o2, o3, o4, o5, o6⟩ := ok
  obtain ⟨hx, hb, hown, hts, -⟩ := id E
  have hl : va_Nw (.methodLinkNest own index y host) s := E.2.2.2.2.2.1 _ o1
  exact va_runIN (nL := ls.size) ⟨hx, hb, hml, hown, hts⟩ hM ⟨va_cnB na hts (q_goodIn fun w hw => (List.mem_cons.mp hw).elim (fun e => by rw [e]; exact o4) id) rfl rfl rfl hl (hts _ o3) o6 hR, o5, hts _ o2⟩ (b_pre E hD hw h0 ob hs (.ref h :: As)) rfl hn rfl hst (lv_room hW) hdg hcs
/-- the call goes on, the object made -/
theorem b_cv {sz k mc ms : Nat} {post : XW → ST → Prop} {args2 : Array Value} {H0 : Heap} (hr : va_Run p l e R s m args below meth c H locs cells slots mc ms (F0 m pc ls st) rest (q_QN X σ h sz k post args2) (q_nw h sz)) (hS : va_S A H0 H locs) (hs : H.size = sz) (hA : ∀ q, q_nw h sz q → A q)
    (kk : ∀ (X1 : XW) (σ1 : ST) (H1 : Heap) (locs1 : List Loc), q_ext (q_nw h sz) X X1 σ σ1 → q_kd X1 h = k → post X1 σ1 → q_w X1 σ1 H1 → H.size ≤ H1.size → (∀ a, a < H.size → a ≠ h → H1[a]? = H[a]?) → va_S A H0 H1 locs1 → W p l e R s m args below meth c H1 locs1 (cells + mc) (slots + ms) Q (F0 m (pc + 3) ls rest)) : W p l e R s m args below meth c H locs cells slots Q (F0 m pc ls st) := by
  refine va_callv hr hS (fun q _ => hA q) hA (fun u t H1 locs1 e1 _ hp hb hz hk hS1 => ?_)
  refine kk u.1 u.2 H1 locs1 hp.1 hp.2.1 hp.2.2 (by rw [← e1]; exact hb) hz (fun a h1 h2 => hk a h1 ?_) hS1
  rintro (q | q)
  · exact h2 q
  · omega
/-- return -/
theorem b_ret (E : q_E0 p c cc s m args own D) (hr : meth.sig.returnType = none) (hlk : meth.locks = false) {X0 : XW} {σ0 : ST} {sz k : Nat} {post : XW → ST → Prop} (hS : va_S (q_nw h sz) s.heap H locs) (hx : q_ext (q_nw h sz) X0 X σ0 σ) (hk : q_kd X h = k) (hp : post X σ) (hw : q_w X σ H) (hdg : decode cc pc = .ok (.return_, 1)) : W p l e R s m args below meth c H locs cells slots (MQ below (q_QN X0 σ0 h sz k post) args s cells slots (q_nw h sz)) (F0 m pc ls []) :=
  W.vret E.1 E.2.1 hr (fun t ht _ => ⟨⟨(X, σ), rfl, ⟨hx, hk, hp⟩, by show q_w X σ t.heap; rw [ht]; exact hw⟩, hS.F ht⟩) hS.2.2 hdg hlk
end QO
end
/-! FROM 50b.born.lean.txt -/
section
theorem q_exi {A : Nat → Prop} {X X' : XW} {σ σ' : ST} {a f : Nat} (hx : q_ext A X X' σ σ') (ha : q_kd X a ≠ 0) : σ'.1 a f = σ.1 a f := (hx.2.2.2.1 a ha).2.2.2 f
theorem q_wcell {D : DW} {X : XW} {σ : ST} {H : Heap} {v k ci N : Nat} {C : String} {T : u_T} (hD : X.1 = D) (w : q_w X σ H) (hk : q_kd X v = k) (hci : k = ci + 1 ∧ k < 20) (hc : vwCl[ci]? = some (C, T, N)) : ∃ cv : Cell, H[v]? = some cv ∧ cv.cls = D.1.1 ci ∧ cv.vm = .none := by
  obtain ⟨rfl, h20⟩ := hci
  subst hD
  obtain ⟨r, h1, h2⟩ := (w.2.1 v (by rw [hk]; omega)).1 (by rw [hk]; exact h20)
  rw [hk] at h2
  exact t_cell h2
theorem q_arr_eq {c : ClassId} {n : Nat} {g g' : Nat → Value} (h : ∀ j, j < n → g j = g' j) : arrV c n g = arrV c n g' := by
  have e : (fun j : Fin n => g j.val) = fun j : Fin n => g' j.val := funext fun j => h j.1 j.2
  unfold arrV
  rw [e]
theorem q_bn12 (f : Nat) (h : 40 ≤ f) : q_bn 12 f = q_full := by
  unfold q_bn
  split <;> first | rfl | omega | (split <;> first | rfl | omega)
theorem q_hB2 {L : List Int32} (h : ∀ f, f < 40 → (q_bn 12 f).1 ≤ (L.getD f 0).toInt ∧ (L.getD f 0).toInt ≤ (q_bn 12 f).2) (f : Nat) : q_in (q_bn 12 f) (L.getD f 0) := by
  by_cases q : f < 40
  · exact h f q
  · exact q_inU (q_bn12 f (by omega))
end
/-! FROM 51.words.lean.txt -/
section
theorem bw_47 : Cond.methodLink RX5 1 Lib.objectInit ∈ q_tbl := (q_in_t1 (i := 47) (by first | rfl | decide +kernel) rfl)
theorem bw_26 : Cond.instanceMethod Lib.objectInit ∈ q_tbl := (q_in_t1 (i := 26) (by first | rfl | decide +kernel) rfl)
theorem bw_27 : Cond.code Lib.objectInit ⟨#[0xb1]⟩ 1 none ∈ q_tbl := (q_in_t1 (i := 27) (by first | rfl | decide +kernel) rfl)
theorem bw_56 : Cond.arrayClass (newarray.typeOf .int) ∈ q_tbl := (q_in_t1 (i := 56) (by first | rfl | decide +kernel) rfl)
theorem bw_51 : Cond.fieldLink RX5 13 "CheatHeap$Row" "cells" "[I" ∈ q_tbl := (q_in_t1 (i := 51) (by first | rfl | decide +kernel) rfl)
theorem bw_429 : Cond.methodLink RX10 3 Lib.objectInit ∈ q_tbl := (q_in_t2 (i := 189) (by first | rfl | decide +kernel) rfl)
theorem bw_430 : Cond.fieldLink RX10 9 "CheatHeap$Tray" "sort" "I" ∈ q_tbl := (q_in_t2 (i := 190) (by first | rfl | decide +kernel) rfl)
theorem bw_432 : Cond.fieldLink RX10 15 "CheatHeap$Tray" "places" "I" ∈ q_tbl := (q_in_t2 (i := 192) (by first | rfl | decide +kernel) rfl)
theorem bw_441 : Cond.arrayClass (newarray.typeOf .long) ∈ q_tbl := (q_in_t2 (i := 201) (by first | rfl | decide +kernel) rfl)
theorem bw_433 : Cond.fieldLink RX10 18 "CheatHeap$Tray" "cells" "[J" ∈ q_tbl := (q_in_t2 (i := 193) (by first | rfl | decide +kernel) rfl)
theorem bw_41 : Cond.methodLink RX6 3 Lib.objectInit ∈ q_tbl := (q_in_t1 (i := 41) (by first | rfl | decide +kernel) rfl)
theorem bw_57 : Cond.fieldLink RX6 9 "CheatHeap$Rules" "kinds" "I" ∈ q_tbl := (q_in_t1 (i := 57) (by first | rfl | decide +kernel) rfl)
theorem bw_62 : Cond.fieldLink RX6 15 "CheatHeap$Rules" "each" "I" ∈ q_tbl := (q_in_t1 (i := 62) (by first | rfl | decide +kernel) rfl)
theorem bw_65 : Cond.fieldLink RX6 18 "CheatHeap$Rules" "law" "I" ∈ q_tbl := (q_in_t1 (i := 65) (by first | rfl | decide +kernel) rfl)
theorem bw_68 : Cond.fieldLink RX6 21 "CheatHeap$Rules" "most" "I" ∈ q_tbl := (q_in_t1 (i := 68) (by first | rfl | decide +kernel) rfl)
theorem bw_73 : Cond.fieldLink RX6 24 "CheatHeap$Rules" "players" "I" ∈ q_tbl := (q_in_t1 (i := 73) (by first | rfl | decide +kernel) rfl)
theorem bw_42 : Cond.classLink RX6 27 RX5 ∈ q_tbl := (q_in_t1 (i := 42) (by first | rfl | decide +kernel) rfl)
theorem bw_43 : Cond.instantiable RX5 1 ∈ q_tbl := (q_in_t1 (i := 43) (by first | rfl | decide +kernel) rfl)
theorem bw_4 : Cond.initialized RX5 ∈ q_tbl := (q_in_t1 (i := 4) (by first | rfl | decide +kernel) rfl)
theorem bi_X6_29 : b_okI RX6 29 yX5_init cX5_init 2 1 := ⟨(q_in_t1 (i := 44) (by first | rfl | decide +kernel) rfl), (q_in_t1 (i := 45) (by first | rfl | decide +kernel) rfl), (q_in_t1 (i := 4) (by first | rfl | decide +kernel) rfl), (q_in_t1 (i := 46) (by first | rfl | decide +kernel) rfl), rfl, ⟨by decide, by decide, rfl⟩⟩
theorem bw_78 : Cond.fieldLink RX6 32 "CheatHeap$Rules" "dealt" "LCheatHeap$Row;" ∈ q_tbl := (q_in_t1 (i := 78) (by first | rfl | decide +kernel) rfl)
theorem bw_82 : Cond.fieldLink RX6 36 "CheatHeap$Rules" "names" "LCheatHeap$Row;" ∈ q_tbl := (q_in_t1 (i := 82) (by first | rfl | decide +kernel) rfl)
theorem bw_83 : Cond.fieldLink RX6 39 "CheatHeap$Rules" "nameLength" "LCheatHeap$Row;" ∈ q_tbl := (q_in_t1 (i := 83) (by first | rfl | decide +kernel) rfl)
theorem bw_106 : Cond.methodLink RX1 3 Lib.objectInit ∈ q_tbl := (q_in_t1 (i := 106) (by first | rfl | decide +kernel) rfl)
theorem bw_107 : Cond.classLink RX1 9 RX5 ∈ q_tbl := (q_in_t1 (i := 107) (by first | rfl | decide +kernel) rfl)
theorem bi_X1_11 : b_okI RX1 11 yX5_init cX5_init 2 1 := ⟨(q_in_t1 (i := 108) (by first | rfl | decide +kernel) rfl), (q_in_t1 (i := 45) (by first | rfl | decide +kernel) rfl), (q_in_t1 (i := 4) (by first | rfl | decide +kernel) rfl), (q_in_t1 (i := 46) (by first | rfl | decide +kernel) rfl), rfl, ⟨by decide, by decide, rfl⟩⟩
theorem bw_109 : Cond.fieldLink RX1 14 "CheatHeap$Hands" "held" "LCheatHeap$Row;" ∈ q_tbl := (q_in_t1 (i := 109) (by first | rfl | decide +kernel) rfl)
theorem bw_110 : Cond.fieldLink RX1 20 "CheatHeap$Hands" "laid" "LCheatHeap$Row;" ∈ q_tbl := (q_in_t1 (i := 110) (by first | rfl | decide +kernel) rfl)
theorem bw_111 : Cond.fieldLink RX1 23 "CheatHeap$Hands" "cards" "LCheatHeap$Row;" ∈ q_tbl := (q_in_t1 (i := 111) (by first | rfl | decide +kernel) rfl)
theorem bw_115 : Cond.fieldLink RX1 26 "CheatHeap$Hands" "lying" "LCheatHeap$Row;" ∈ q_tbl := (q_in_t1 (i := 115) (by first | rfl | decide +kernel) rfl)
theorem bw_119 : Cond.fieldLink RX1 29 "CheatHeap$Hands" "doubting" "LCheatHeap$Row;" ∈ q_tbl := (q_in_t1 (i := 119) (by first | rfl | decide +kernel) rfl)
theorem bw_123 : Cond.fieldLink RX1 32 "CheatHeap$Hands" "shown" "LCheatHeap$Row;" ∈ q_tbl := (q_in_t1 (i := 123) (by first | rfl | decide +kernel) rfl)
theorem bw_127 : Cond.fieldLink RX1 35 "CheatHeap$Hands" "untrue" "LCheatHeap$Row;" ∈ q_tbl := (q_in_t1 (i := 127) (by first | rfl | decide +kernel) rfl)
theorem bw_150 : Cond.methodLink RX2 3 Lib.objectInit ∈ q_tbl := (q_in_t1 (i := 150) (by first | rfl | decide +kernel) rfl)
theorem bw_153 : Cond.fieldLink RX2 9 "CheatHeap$Pile" "layings" "I" ∈ q_tbl := (q_in_t1 (i := 153) (by first | rfl | decide +kernel) rfl)
theorem bw_155 : Cond.fieldLink RX2 15 "CheatHeap$Pile" "cards" "I" ∈ q_tbl := (q_in_t1 (i := 155) (by first | rfl | decide +kernel) rfl)
theorem bw_151 : Cond.classLink RX2 18 RX5 ∈ q_tbl := (q_in_t1 (i := 151) (by first | rfl | decide +kernel) rfl)
theorem bi_X2_20 : b_okI RX2 20 yX5_init cX5_init 2 1 := ⟨(q_in_t1 (i := 152) (by first | rfl | decide +kernel) rfl), (q_in_t1 (i := 45) (by first | rfl | decide +kernel) rfl), (q_in_t1 (i := 4) (by first | rfl | decide +kernel) rfl), (q_in_t1 (i := 46) (by first | rfl | decide +kernel) rfl), rfl, ⟨by decide, by decide, rfl⟩⟩
theorem bw_159 : Cond.fieldLink RX2 23 "CheatHeap$Pile" "layer" "LCheatHeap$Row;" ∈ q_tbl := (q_in_t1 (i := 159) (by first | rfl | decide +kernel) rfl)
theorem bw_161 : Cond.fieldLink RX2 27 "CheatHeap$Pile" "kindSaid" "LCheatHeap$Row;" ∈ q_tbl := (q_in_t1 (i := 161) (by first | rfl | decide +kernel) rfl)
theorem bw_163 : Cond.fieldLink RX2 30 "CheatHeap$Pile" "size" "LCheatHeap$Row;" ∈ q_tbl := (q_in_t1 (i := 163) (by first | rfl | decide +kernel) rfl)
theorem bw_165 : Cond.fieldLink RX2 33 "CheatHeap$Pile" "card" "LCheatHeap$Row;" ∈ q_tbl := (q_in_t1 (i := 165) (by first | rfl | decide +kernel) rfl)
theorem bw_184 : Cond.methodLink RX8 5 Lib.objectInit ∈ q_tbl := (q_in_t1 (i := 184) (by first | rfl | decide +kernel) rfl)
theorem bw_187 : Cond.fieldLink RX8 11 "CheatHeap$Script" "isThere" "Z" ∈ q_tbl := (q_in_t1 (i := 187) (by first | rfl | decide +kernel) rfl)
theorem bw_190 : Cond.fieldLink RX8 15 "CheatHeap$Script" "steps" "I" ∈ q_tbl := (q_in_t1 (i := 190) (by first | rfl | decide +kernel) rfl)
theorem bw_193 : Cond.fieldLink RX8 19 "CheatHeap$Script" "lines" "I" ∈ q_tbl := (q_in_t1 (i := 193) (by first | rfl | decide +kernel) rfl)
theorem bw_185 : Cond.classLink RX8 22 RX5 ∈ q_tbl := (q_in_t1 (i := 185) (by first | rfl | decide +kernel) rfl)
theorem bi_X8_24 : b_okI RX8 24 yX5_init cX5_init 2 1 := ⟨(q_in_t1 (i := 186) (by first | rfl | decide +kernel) rfl), (q_in_t1 (i := 45) (by first | rfl | decide +kernel) rfl), (q_in_t1 (i := 4) (by first | rfl | decide +kernel) rfl), (q_in_t1 (i := 46) (by first | rfl | decide +kernel) rfl), rfl, ⟨by decide, by decide, rfl⟩⟩
theorem bw_195 : Cond.fieldLink RX8 27 "CheatHeap$Script" "action" "LCheatHeap$Row;" ∈ q_tbl := (q_in_t1 (i := 195) (by first | rfl | decide +kernel) rfl)
theorem bw_198 : Cond.fieldLink RX8 31 "CheatHeap$Script" "mate" "LCheatHeap$Row;" ∈ q_tbl := (q_in_t1 (i := 198) (by first | rfl | decide +kernel) rfl)
theorem bw_201 : Cond.fieldLink RX8 34 "CheatHeap$Script" "who" "LCheatHeap$Row;" ∈ q_tbl := (q_in_t1 (i := 201) (by first | rfl | decide +kernel) rfl)
theorem bw_204 : Cond.fieldLink RX8 37 "CheatHeap$Script" "comparison" "LCheatHeap$Row;" ∈ q_tbl := (q_in_t1 (i := 204) (by first | rfl | decide +kernel) rfl)
theorem bw_206 : Cond.fieldLink RX8 40 "CheatHeap$Script" "number" "LCheatHeap$Row;" ∈ q_tbl := (q_in_t1 (i := 206) (by first | rfl | decide +kernel) rfl)
theorem bw_391 : Cond.methodLink RX7 3 Lib.objectInit ∈ q_tbl := (q_in_t2 (i := 151) (by first | rfl | decide +kernel) rfl)
theorem bw_394 : Cond.fieldLink RX7 9 "CheatHeap$Run" "steps" "I" ∈ q_tbl := (q_in_t2 (i := 154) (by first | rfl | decide +kernel) rfl)
theorem bw_396 : Cond.fieldLink RX7 15 "CheatHeap$Run" "missed" "I" ∈ q_tbl := (q_in_t2 (i := 156) (by first | rfl | decide +kernel) rfl)
theorem bw_398 : Cond.fieldLink RX7 18 "CheatHeap$Run" "layings" "I" ∈ q_tbl := (q_in_t2 (i := 158) (by first | rfl | decide +kernel) rfl)
theorem bw_400 : Cond.fieldLink RX7 21 "CheatHeap$Run" "doubts" "I" ∈ q_tbl := (q_in_t2 (i := 160) (by first | rfl | decide +kernel) rfl)
theorem bw_402 : Cond.fieldLink RX7 24 "CheatHeap$Run" "rightDoubts" "I" ∈ q_tbl := (q_in_t2 (i := 162) (by first | rfl | decide +kernel) rfl)
theorem bw_404 : Cond.fieldLink RX7 27 "CheatHeap$Run" "isCut" "Z" ∈ q_tbl := (q_in_t2 (i := 164) (by first | rfl | decide +kernel) rfl)
theorem bw_406 : Cond.fieldLink RX7 31 "CheatHeap$Run" "state" "I" ∈ q_tbl := (q_in_t2 (i := 166) (by first | rfl | decide +kernel) rfl)
theorem bw_392 : Cond.classLink RX7 34 RX5 ∈ q_tbl := (q_in_t2 (i := 152) (by first | rfl | decide +kernel) rfl)
theorem bi_X7_38 : b_okI RX7 38 yX5_init cX5_init 2 1 := ⟨(q_in_t2 (i := 153) (by first | rfl | decide +kernel) rfl), (q_in_t1 (i := 45) (by first | rfl | decide +kernel) rfl), (q_in_t1 (i := 4) (by first | rfl | decide +kernel) rfl), (q_in_t1 (i := 46) (by first | rfl | decide +kernel) rfl), rfl, ⟨by decide, by decide, rfl⟩⟩
theorem bw_407 : Cond.fieldLink RX7 41 "CheatHeap$Run" "timesLeft" "LCheatHeap$Row;" ∈ q_tbl := (q_in_t2 (i := 167) (by first | rfl | decide +kernel) rfl)
theorem bw_35 : Cond.methodLink RX0 3 Lib.objectInit ∈ q_tbl := (q_in_t1 (i := 35) (by first | rfl | decide +kernel) rfl)
theorem bw_36 : Cond.classLink RX0 9 RX6 ∈ q_tbl := (q_in_t1 (i := 36) (by first | rfl | decide +kernel) rfl)
theorem bw_37 : Cond.instantiable RX6 8 ∈ q_tbl := (q_in_t1 (i := 37) (by first | rfl | decide +kernel) rfl)
theorem bw_3 : Cond.initialized RX6 ∈ q_tbl := (q_in_t1 (i := 3) (by first | rfl | decide +kernel) rfl)
theorem bi_X0_11 : b_okN RX0 11 "CheatHeap" yX6_init cX6_init 1 0 := ⟨List.mem_of_getElem? (i := 1) rfl, (q_in_t1 (i := 39) (by first | rfl | decide +kernel) rfl), (q_in_t1 (i := 3) (by first | rfl | decide +kernel) rfl), (q_in_t1 (i := 40) (by first | rfl | decide +kernel) rfl), rfl, ⟨by decide, by decide, rfl⟩⟩
theorem bw_228 : Cond.fieldLink RX0 12 "CheatHeap$Game" "rules" "LCheatHeap$Rules;" ∈ q_tbl := (q_in_t1 (i := 228) (by first | rfl | decide +kernel) rfl)
theorem bw_101 : Cond.classLink RX0 18 RX1 ∈ q_tbl := (q_in_t1 (i := 101) (by first | rfl | decide +kernel) rfl)
theorem bw_102 : Cond.instantiable RX1 7 ∈ q_tbl := (q_in_t1 (i := 102) (by first | rfl | decide +kernel) rfl)
theorem bw_6 : Cond.initialized RX1 ∈ q_tbl := (q_in_t1 (i := 6) (by first | rfl | decide +kernel) rfl)
theorem bi_X0_20 : b_okN RX0 20 "CheatHeap" yX1_init cX1_init 1 0 := ⟨List.mem_of_getElem? (i := 2) rfl, (q_in_t1 (i := 104) (by first | rfl | decide +kernel) rfl), (q_in_t1 (i := 6) (by first | rfl | decide +kernel) rfl), (q_in_t1 (i := 105) (by first | rfl | decide +kernel) rfl), rfl, ⟨by decide, by decide, rfl⟩⟩
theorem bw_232 : Cond.fieldLink RX0 21 "CheatHeap$Game" "hands" "LCheatHeap$Hands;" ∈ q_tbl := (q_in_t1 (i := 232) (by first | rfl | decide +kernel) rfl)
theorem bw_145 : Cond.classLink RX0 25 RX2 ∈ q_tbl := (q_in_t1 (i := 145) (by first | rfl | decide +kernel) rfl)
theorem bw_146 : Cond.instantiable RX2 6 ∈ q_tbl := (q_in_t1 (i := 146) (by first | rfl | decide +kernel) rfl)
theorem bw_7 : Cond.initialized RX2 ∈ q_tbl := (q_in_t1 (i := 7) (by first | rfl | decide +kernel) rfl)
theorem bi_X0_27 : b_okN RX0 27 "CheatHeap" yX2_init cX2_init 1 0 := ⟨List.mem_of_getElem? (i := 3) rfl, (q_in_t1 (i := 148) (by first | rfl | decide +kernel) rfl), (q_in_t1 (i := 7) (by first | rfl | decide +kernel) rfl), (q_in_t1 (i := 149) (by first | rfl | decide +kernel) rfl), rfl, ⟨by decide, by decide, rfl⟩⟩
theorem bw_236 : Cond.fieldLink RX0 28 "CheatHeap$Game" "pile" "LCheatHeap$Pile;" ∈ q_tbl := (q_in_t1 (i := 236) (by first | rfl | decide +kernel) rfl)
theorem bw_179 : Cond.classLink RX0 32 RX8 ∈ q_tbl := (q_in_t1 (i := 179) (by first | rfl | decide +kernel) rfl)
theorem bw_180 : Cond.instantiable RX8 8 ∈ q_tbl := (q_in_t1 (i := 180) (by first | rfl | decide +kernel) rfl)
theorem bw_8 : Cond.initialized RX8 ∈ q_tbl := (q_in_t1 (i := 8) (by first | rfl | decide +kernel) rfl)
theorem bi_X0_34 : b_okN RX0 34 "CheatHeap" yX8_init cX8_init 1 0 := ⟨List.mem_of_getElem? (i := 4) rfl, (q_in_t1 (i := 182) (by first | rfl | decide +kernel) rfl), (q_in_t1 (i := 8) (by first | rfl | decide +kernel) rfl), (q_in_t1 (i := 183) (by first | rfl | decide +kernel) rfl), rfl, ⟨by decide, by decide, rfl⟩⟩
theorem bw_239 : Cond.fieldLink RX0 35 "CheatHeap$Game" "script" "LCheatHeap$Script;" ∈ q_tbl := (q_in_t1 (i := 239) (by first | rfl | decide +kernel) rfl)
theorem bw_242 : Cond.fieldLink RX0 39 "CheatHeap$Game" "kind" "I" ∈ q_tbl := (q_in_t2 (i := 2) (by first | rfl | decide +kernel) rfl)
theorem bw_245 : Cond.fieldLink RX0 43 "CheatHeap$Game" "turn" "I" ∈ q_tbl := (q_in_t2 (i := 5) (by first | rfl | decide +kernel) rfl)
theorem bw_248 : Cond.fieldLink RX0 46 "CheatHeap$Game" "winner" "I" ∈ q_tbl := (q_in_t2 (i := 8) (by first | rfl | decide +kernel) rfl)
theorem bw_251 : Cond.fieldLink RX0 49 "CheatHeap$Game" "open" "Z" ∈ q_tbl := (q_in_t2 (i := 11) (by first | rfl | decide +kernel) rfl)
theorem bw_226 : Cond.classLink RX0 53 RX5 ∈ q_tbl := (q_in_t1 (i := 226) (by first | rfl | decide +kernel) rfl)
theorem bi_X0_55 : b_okI RX0 55 yX5_init cX5_init 2 1 := ⟨(q_in_t1 (i := 227) (by first | rfl | decide +kernel) rfl), (q_in_t1 (i := 45) (by first | rfl | decide +kernel) rfl), (q_in_t1 (i := 4) (by first | rfl | decide +kernel) rfl), (q_in_t1 (i := 46) (by first | rfl | decide +kernel) rfl), rfl, ⟨by decide, by decide, rfl⟩⟩
theorem bw_254 : Cond.fieldLink RX0 58 "CheatHeap$Game" "wants" "LCheatHeap$Row;" ∈ q_tbl := (q_in_t2 (i := 14) (by first | rfl | decide +kernel) rfl)
theorem bw_255 : Cond.fieldLink RX0 62 "CheatHeap$Game" "wanted" "I" ∈ q_tbl := (q_in_t2 (i := 15) (by first | rfl | decide +kernel) rfl)
theorem bw_257 : Cond.fieldLink RX0 65 "CheatHeap$Game" "rest" "LCheatHeap$Row;" ∈ q_tbl := (q_in_t2 (i := 17) (by first | rfl | decide +kernel) rfl)
theorem bw_258 : Cond.fieldLink RX0 68 "CheatHeap$Game" "sumForeseen" "I" ∈ q_tbl := (q_in_t2 (i := 18) (by first | rfl | decide +kernel) rfl)
theorem bw_260 : Cond.fieldLink RX0 71 "CheatHeap$Game" "ridBehind" "I" ∈ q_tbl := (q_in_t2 (i := 20) (by first | rfl | decide +kernel) rfl)
theorem bw_262 : Cond.fieldLink RX0 74 "CheatHeap$Game" "latestKind" "I" ∈ q_tbl := (q_in_t2 (i := 22) (by first | rfl | decide +kernel) rfl)
theorem bw_264 : Cond.fieldLink RX0 77 "CheatHeap$Game" "firstLie" "I" ∈ q_tbl := (q_in_t2 (i := 24) (by first | rfl | decide +kernel) rfl)
theorem bw_306 : Cond.methodLink RX3 3 Lib.objectInit ∈ q_tbl := (q_in_t2 (i := 66) (by first | rfl | decide +kernel) rfl)
theorem bw_55 : Cond.arrayClass (newarray.typeOf .byte) ∈ q_tbl := (q_in_t1 (i := 55) (by first | rfl | decide +kernel) rfl)
theorem bw_316 : Cond.fieldLink RX3 9 "CheatHeap$Reader" "text" "[B" ∈ q_tbl := (q_in_t2 (i := 76) (by first | rfl | decide +kernel) rfl)
theorem bw_317 : Cond.fieldLink RX3 15 "CheatHeap$Reader" "length" "I" ∈ q_tbl := (q_in_t2 (i := 77) (by first | rfl | decide +kernel) rfl)
theorem bw_318 : Cond.fieldLink RX3 19 "CheatHeap$Reader" "begin" "I" ∈ q_tbl := (q_in_t2 (i := 78) (by first | rfl | decide +kernel) rfl)
theorem bw_319 : Cond.fieldLink RX3 22 "CheatHeap$Reader" "end" "I" ∈ q_tbl := (q_in_t2 (i := 79) (by first | rfl | decide +kernel) rfl)
theorem bw_320 : Cond.fieldLink RX3 25 "CheatHeap$Reader" "type" "I" ∈ q_tbl := (q_in_t2 (i := 80) (by first | rfl | decide +kernel) rfl)
theorem bw_325 : Cond.fieldLink RX3 28 "CheatHeap$Reader" "value" "I" ∈ q_tbl := (q_in_t2 (i := 85) (by first | rfl | decide +kernel) rfl)
theorem bw_328 : Cond.fieldLink RX3 31 "CheatHeap$Reader" "fault" "I" ∈ q_tbl := (q_in_t2 (i := 88) (by first | rfl | decide +kernel) rfl)
theorem bw_330 : Cond.fieldLink RX3 34 "CheatHeap$Reader" "place" "I" ∈ q_tbl := (q_in_t2 (i := 90) (by first | rfl | decide +kernel) rfl)
theorem bi_X9_3 : b_okN RX9 3 "CheatHeap" yX3_init cX3_init 1 0 := ⟨List.mem_of_getElem? (i := 6) rfl, (q_in_t2 (i := 64) (by first | rfl | decide +kernel) rfl), (q_in_t1 (i := 9) (by first | rfl | decide +kernel) rfl), (q_in_t2 (i := 65) (by first | rfl | decide +kernel) rfl), rfl, ⟨by decide, by decide, rfl⟩⟩
theorem bw_307 : Cond.classLink RX9 9 RX0 ∈ q_tbl := (q_in_t2 (i := 67) (by first | rfl | decide +kernel) rfl)
theorem bw_31 : Cond.instantiable RX0 15 ∈ q_tbl := (q_in_t1 (i := 31) (by first | rfl | decide +kernel) rfl)
theorem bw_2 : Cond.initialized RX0 ∈ q_tbl := (q_in_t1 (i := 2) (by first | rfl | decide +kernel) rfl)
theorem bi_X9_11 : b_okN RX9 11 "CheatHeap" yX0_init cX0_init 1 0 := ⟨List.mem_of_getElem? (i := 7) rfl, (q_in_t1 (i := 33) (by first | rfl | decide +kernel) rfl), (q_in_t1 (i := 2) (by first | rfl | decide +kernel) rfl), (q_in_t1 (i := 34) (by first | rfl | decide +kernel) rfl), rfl, ⟨by decide, by decide, rfl⟩⟩
theorem bw_311 : Cond.fieldLink RX9 12 "CheatHeap$TableReader" "game" "LCheatHeap$Game;" ∈ q_tbl := (q_in_t2 (i := 71) (by first | rfl | decide +kernel) rfl)
theorem bw_313 : Cond.fieldLink RX9 18 "CheatHeap$TableReader" "isLawTold" "Z" ∈ q_tbl := (q_in_t2 (i := 73) (by first | rfl | decide +kernel) rfl)
theorem bw_314 : Cond.fieldLink RX9 22 "CheatHeap$TableReader" "isMostTold" "Z" ∈ q_tbl := (q_in_t2 (i := 74) (by first | rfl | decide +kernel) rfl)
theorem bw_309 : Cond.classLink RX9 25 RX5 ∈ q_tbl := (q_in_t2 (i := 69) (by first | rfl | decide +kernel) rfl)
theorem bi_X9_27 : b_okI RX9 27 yX5_init cX5_init 2 1 := ⟨(q_in_t2 (i := 70) (by first | rfl | decide +kernel) rfl), (q_in_t1 (i := 45) (by first | rfl | decide +kernel) rfl), (q_in_t1 (i := 4) (by first | rfl | decide +kernel) rfl), (q_in_t1 (i := 46) (by first | rfl | decide +kernel) rfl), rfl, ⟨by decide, by decide, rfl⟩⟩
theorem bw_315 : Cond.fieldLink RX9 30 "CheatHeap$TableReader" "toldKinds" "LCheatHeap$Row;" ∈ q_tbl := (q_in_t2 (i := 75) (by first | rfl | decide +kernel) rfl)
theorem bi_X4_3 : b_okN RX4 3 "CheatHeap" yX3_init cX3_init 1 0 := ⟨List.mem_of_getElem? (i := 9) rfl, (q_in_t2 (i := 64) (by first | rfl | decide +kernel) rfl), (q_in_t1 (i := 9) (by first | rfl | decide +kernel) rfl), (q_in_t2 (i := 65) (by first | rfl | decide +kernel) rfl), rfl, ⟨by decide, by decide, rfl⟩⟩
theorem bw_363 : Cond.classLink RX4 9 RX8 ∈ q_tbl := (q_in_t2 (i := 123) (by first | rfl | decide +kernel) rfl)
theorem bi_X4_11 : b_okN RX4 11 "CheatHeap" yX8_init cX8_init 1 0 := ⟨List.mem_of_getElem? (i := 10) rfl, (q_in_t1 (i := 182) (by first | rfl | decide +kernel) rfl), (q_in_t1 (i := 8) (by first | rfl | decide +kernel) rfl), (q_in_t1 (i := 183) (by first | rfl | decide +kernel) rfl), rfl, ⟨by decide, by decide, rfl⟩⟩
theorem bw_367 : Cond.fieldLink RX4 12 "CheatHeap$RoundReader" "script" "LCheatHeap$Script;" ∈ q_tbl := (q_in_t2 (i := 127) (by first | rfl | decide +kernel) rfl)
theorem bw_365 : Cond.classLink RX4 18 RX5 ∈ q_tbl := (q_in_t2 (i := 125) (by first | rfl | decide +kernel) rfl)
theorem bi_X4_20 : b_okI RX4 20 yX5_init cX5_init 2 1 := ⟨(q_in_t2 (i := 126) (by first | rfl | decide +kernel) rfl), (q_in_t1 (i := 45) (by first | rfl | decide +kernel) rfl), (q_in_t1 (i := 4) (by first | rfl | decide +kernel) rfl), (q_in_t1 (i := 46) (by first | rfl | decide +kernel) rfl), rfl, ⟨by decide, by decide, rfl⟩⟩
theorem bw_369 : Cond.fieldLink RX4 23 "CheatHeap$RoundReader" "openAt" "LCheatHeap$Row;" ∈ q_tbl := (q_in_t2 (i := 129) (by first | rfl | decide +kernel) rfl)
theorem bw_370 : Cond.fieldLink RX4 27 "CheatHeap$RoundReader" "depth" "I" ∈ q_tbl := (q_in_t2 (i := 130) (by first | rfl | decide +kernel) rfl)
theorem bw_25 : Cond.methodLink RX11 3 Lib.objectInit ∈ q_tbl := (q_in_t1 (i := 25) (by first | rfl | decide +kernel) rfl)
theorem bw_442 : Cond.fieldLink RX11 9 "CheatHeap" "status" "I" ∈ q_tbl := (q_in_t2 (i := 202) (by first | rfl | decide +kernel) rfl)
theorem bw_443 : Cond.fieldLink RX11 13 "CheatHeap" "fractionTop" "J" ∈ q_tbl := (q_in_t2 (i := 203) (by first | rfl | decide +kernel) rfl)
theorem bw_444 : Cond.fieldLink RX11 17 "CheatHeap" "fractionBottom" "J" ∈ q_tbl := (q_in_t2 (i := 204) (by first | rfl | decide +kernel) rfl)
theorem bw_28 : Cond.classLink RX11 20 RX10 ∈ q_tbl := (q_in_t1 (i := 28) (by first | rfl | decide +kernel) rfl)
theorem bw_445 : Cond.fieldLink RX11 22 "CheatHeap" "trays" "[LCheatHeap$Tray;" ∈ q_tbl := (q_in_t2 (i := 205) (by first | rfl | decide +kernel) rfl)
theorem bw_446 : Cond.fieldLink RX11 26 "CheatHeap" "tape" "[B" ∈ q_tbl := (q_in_t2 (i := 206) (by first | rfl | decide +kernel) rfl)
theorem bw_447 : Cond.fieldLink RX11 30 "CheatHeap" "taped" "I" ∈ q_tbl := (q_in_t2 (i := 207) (by first | rfl | decide +kernel) rfl)
theorem bw_448 : Cond.fieldLink RX11 33 "CheatHeap" "faultKind" "I" ∈ q_tbl := (q_in_t2 (i := 208) (by first | rfl | decide +kernel) rfl)
theorem bw_449 : Cond.fieldLink RX11 36 "CheatHeap" "faultPlace" "I" ∈ q_tbl := (q_in_t2 (i := 209) (by first | rfl | decide +kernel) rfl)
theorem bw_30 : Cond.classLink RX11 39 RX0 ∈ q_tbl := (q_in_t1 (i := 30) (by first | rfl | decide +kernel) rfl)
theorem bi_X11_41 : b_okN RX11 41 "CheatHeap" yX0_init cX0_init 1 0 := ⟨List.mem_of_getElem? (i := 0) rfl, (q_in_t1 (i := 33) (by first | rfl | decide +kernel) rfl), (q_in_t1 (i := 2) (by first | rfl | decide +kernel) rfl), (q_in_t1 (i := 34) (by first | rfl | decide +kernel) rfl), rfl, ⟨by decide, by decide, rfl⟩⟩
theorem bw_450 : Cond.fieldLink RX11 42 "CheatHeap" "game" "LCheatHeap$Game;" ∈ q_tbl := (q_in_t2 (i := 210) (by first | rfl | decide +kernel) rfl)
theorem bw_451 : Cond.fieldLink RX11 46 "CheatHeap" "spare" "LCheatHeap$Game;" ∈ q_tbl := (q_in_t2 (i := 211) (by first | rfl | decide +kernel) rfl)
theorem bw_452 : Cond.fieldLink RX11 49 "CheatHeap" "marks" "[LCheatHeap$Game;" ∈ q_tbl := (q_in_t2 (i := 212) (by first | rfl | decide +kernel) rfl)
theorem bw_453 : Cond.fieldLink RX11 53 "CheatHeap" "marked" "I" ∈ q_tbl := (q_in_t2 (i := 213) (by first | rfl | decide +kernel) rfl)
theorem bw_298 : Cond.classLink RX11 56 RX9 ∈ q_tbl := (q_in_t2 (i := 58) (by first | rfl | decide +kernel) rfl)
theorem bw_299 : Cond.instantiable RX9 12 ∈ q_tbl := (q_in_t2 (i := 59) (by first | rfl | decide +kernel) rfl)
theorem bw_10 : Cond.initialized RX9 ∈ q_tbl := (q_in_t1 (i := 10) (by first | rfl | decide +kernel) rfl)
theorem bi_X11_58 : b_okN RX11 58 "CheatHeap" yX9_init cX9_init 1 0 := ⟨List.mem_of_getElem? (i := 5) rfl, (q_in_t2 (i := 61) (by first | rfl | decide +kernel) rfl), (q_in_t1 (i := 10) (by first | rfl | decide +kernel) rfl), (q_in_t2 (i := 62) (by first | rfl | decide +kernel) rfl), rfl, ⟨by decide, by decide, rfl⟩⟩
theorem bw_454 : Cond.fieldLink RX11 59 "CheatHeap" "tableReader" "LCheatHeap$TableReader;" ∈ q_tbl := (q_in_t2 (i := 214) (by first | rfl | decide +kernel) rfl)
theorem bw_357 : Cond.classLink RX11 63 RX4 ∈ q_tbl := (q_in_t2 (i := 117) (by first | rfl | decide +kernel) rfl)
theorem bw_358 : Cond.instantiable RX4 11 ∈ q_tbl := (q_in_t2 (i := 118) (by first | rfl | decide +kernel) rfl)
theorem bw_11 : Cond.initialized RX4 ∈ q_tbl := (q_in_t1 (i := 11) (by first | rfl | decide +kernel) rfl)
theorem bi_X11_65 : b_okN RX11 65 "CheatHeap" yX4_init cX4_init 1 0 := ⟨List.mem_of_getElem? (i := 8) rfl, (q_in_t2 (i := 120) (by first | rfl | decide +kernel) rfl), (q_in_t1 (i := 11) (by first | rfl | decide +kernel) rfl), (q_in_t2 (i := 121) (by first | rfl | decide +kernel) rfl), rfl, ⟨by decide, by decide, rfl⟩⟩
theorem bw_455 : Cond.fieldLink RX11 66 "CheatHeap" "roundReader" "LCheatHeap$RoundReader;" ∈ q_tbl := (q_in_t2 (i := 215) (by first | rfl | decide +kernel) rfl)
theorem bw_386 : Cond.classLink RX11 70 RX7 ∈ q_tbl := (q_in_t2 (i := 146) (by first | rfl | decide +kernel) rfl)
theorem bw_387 : Cond.instantiable RX7 8 ∈ q_tbl := (q_in_t2 (i := 147) (by first | rfl | decide +kernel) rfl)
theorem bw_12 : Cond.initialized RX7 ∈ q_tbl := (q_in_t1 (i := 12) (by first | rfl | decide +kernel) rfl)
theorem bi_X11_72 : b_okN RX11 72 "CheatHeap" yX7_init cX7_init 1 0 := ⟨List.mem_of_getElem? (i := 11) rfl, (q_in_t2 (i := 149) (by first | rfl | decide +kernel) rfl), (q_in_t1 (i := 12) (by first | rfl | decide +kernel) rfl), (q_in_t2 (i := 150) (by first | rfl | decide +kernel) rfl), rfl, ⟨by decide, by decide, rfl⟩⟩
theorem bw_456 : Cond.fieldLink RX11 73 "CheatHeap" "run" "LCheatHeap$Run;" ∈ q_tbl := (q_in_t2 (i := 216) (by first | rfl | decide +kernel) rfl)
theorem bw_457 : Cond.fieldLink RX11 77 "CheatHeap" "trial" "LCheatHeap$Run;" ∈ q_tbl := (q_in_t2 (i := 217) (by first | rfl | decide +kernel) rfl)
theorem bw_458 : Cond.fieldLink RX11 80 "CheatHeap" "hasPlayed" "Z" ∈ q_tbl := (q_in_t2 (i := 218) (by first | rfl | decide +kernel) rfl)
theorem bw_425 : Cond.instantiable RX10 3 ∈ q_tbl := (q_in_t2 (i := 185) (by first | rfl | decide +kernel) rfl)
theorem bw_13 : Cond.initialized RX10 ∈ q_tbl := (q_in_t1 (i := 13) (by first | rfl | decide +kernel) rfl)
theorem bi_X11_84 : b_okN RX11 84 "CheatHeap" yX10_init cX10_init 1 0 := ⟨List.mem_of_getElem? (i := 12) rfl, (q_in_t2 (i := 187) (by first | rfl | decide +kernel) rfl), (q_in_t1 (i := 13) (by first | rfl | decide +kernel) rfl), (q_in_t2 (i := 188) (by first | rfl | decide +kernel) rfl), rfl, ⟨by decide, by decide, rfl⟩⟩
theorem bw_1424 : Cond.methodLink RX12 1 Lib.objectInit ∈ q_tbl := (q_in_t6 (i := 224) (by first | rfl | decide +kernel) rfl)
theorem bw_1428 : Cond.fieldLink RX12 7 "CheatHeapModel" "under" "J" ∈ q_tbl := (q_in_t6 (i := 228) (by first | rfl | decide +kernel) rfl)
theorem bw_1429 : Cond.fieldLink RX12 13 "CheatHeapModel" "traySort" "[I" ∈ q_tbl := (q_in_t6 (i := 229) (by first | rfl | decide +kernel) rfl)
theorem bw_1430 : Cond.fieldLink RX12 17 "CheatHeapModel" "trayMany" "[I" ∈ q_tbl := (q_in_t6 (i := 230) (by first | rfl | decide +kernel) rfl)
theorem bw_1431 : Cond.fieldLink RX12 20 "CheatHeapModel" "numbers" "[J" ∈ q_tbl := (q_in_t6 (i := 231) (by first | rfl | decide +kernel) rfl)
theorem bw_1432 : Cond.fieldLink RX12 24 "CheatHeapModel" "tape" "[B" ∈ q_tbl := (q_in_t6 (i := 232) (by first | rfl | decide +kernel) rfl)
theorem bw_1435 : Cond.fieldLink RX12 28 "CheatHeapModel" "faultKind" "I" ∈ q_tbl := (q_in_t6 (i := 235) (by first | rfl | decide +kernel) rfl)
theorem bw_1436 : Cond.fieldLink RX12 32 "CheatHeapModel" "faultAt" "I" ∈ q_tbl := (q_in_t6 (i := 236) (by first | rfl | decide +kernel) rfl)
theorem bw_1445 : Cond.fieldLink RX12 35 "CheatHeapModel" "c" "[I" ∈ q_tbl := (q_in_t7 (i := 5) (by first | rfl | decide +kernel) rfl)
theorem bw_1446 : Cond.fieldLink RX12 38 "CheatHeapModel" "kept" "[I" ∈ q_tbl := (q_in_t7 (i := 6) (by first | rfl | decide +kernel) rfl)
theorem bw_1447 : Cond.fieldLink RX12 41 "CheatHeapModel" "handTold" "[I" ∈ q_tbl := (q_in_t7 (i := 7) (by first | rfl | decide +kernel) rfl)
theorem bw_1448 : Cond.fieldLink RX12 44 "CheatHeapModel" "words" "[J" ∈ q_tbl := (q_in_t7 (i := 8) (by first | rfl | decide +kernel) rfl)
theorem bw_1453 : Cond.fieldLink RX12 47 "CheatHeapModel" "lying" "[I" ∈ q_tbl := (q_in_t7 (i := 13) (by first | rfl | decide +kernel) rfl)
theorem bw_1454 : Cond.fieldLink RX12 50 "CheatHeapModel" "asked" "[I" ∈ q_tbl := (q_in_t7 (i := 14) (by first | rfl | decide +kernel) rfl)
theorem bw_1457 : Cond.fieldLink RX12 53 "CheatHeapModel" "left" "[I" ∈ q_tbl := (q_in_t7 (i := 17) (by first | rfl | decide +kernel) rfl)
theorem bw_1461 : Cond.fieldLink RX12 56 "CheatHeapModel" "playedLast" "[I" ∈ q_tbl := (q_in_t7 (i := 21) (by first | rfl | decide +kernel) rfl)
end
