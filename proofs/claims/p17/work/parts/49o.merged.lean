/-! FROM 49o.all.lean.txt -/
/-! THE ROUND IN BOTH; ALL THAT BOTH KEEP -/
/-- a step of the reference and a line of the class -/
def st_l (V : Nat → Int → Int) (c : Int → Int) (s l : Int) : Prop :=
  (c (656 + 9 * s) = 0 ∧ V 18 l = 0) ∨
  (c (656 + 9 * s) = 1 ∧ V 18 l = 1 ∧ V 20 l = c (656 + 9 * s + 1) ∧ V 22 l = c (656 + 9 * s + 2)) ∨
  (c (656 + 9 * s) = 2 ∧ V 18 l = 2 ∧ V 20 l = c (656 + 9 * s + 1) ∧ V 22 l = c (656 + 9 * s + 2)) ∨
  (c (656 + 9 * s) = 5 ∧ V 18 l = 3) ∨
  (c (656 + 9 * s) = 4 ∧ V 18 l = 4 ∧ V 22 l = c (656 + 9 * s + 1) ∧ 1 ≤ c (656 + 9 * s + 1) ∧ c (656 + 9 * s + 1) ≤ 99) ∨
  (c (656 + 9 * s) = 3 ∧ c (656 + 9 * s + 6) = 0 ∧ V 18 l = 5 ∧ V 20 l = c (656 + 9 * s + 1) ∧ V 21 l = c (656 + 9 * s + 7) ∧ V 22 l = c (656 + 9 * s + 2)) ∨
  (c (656 + 9 * s) = 3 ∧ c (656 + 9 * s + 6) = 1 ∧ V 18 l = 6 ∧ V 21 l = c (656 + 9 * s + 7) ∧ V 22 l = c (656 + 9 * s + 2)) ∨
  (c (656 + 9 * s) = 3 ∧ c (656 + 9 * s + 6) = 2 ∧ V 18 l = 7 ∧ V 20 l = c (656 + 9 * s + 1) ∧ V 21 l = c (656 + 9 * s + 7) ∧ V 22 l = c (656 + 9 * s + 2)) ∨
  (c (656 + 9 * s) = 3 ∧ c (656 + 9 * s + 6) = 3 ∧ V 18 l = 8)
/-- the steps from s up to e are the lines from l up to l' -/
def fl (V : Nat → Int → Int) (c : Int → Int) : Nat → Int → Int → Int → Int → Prop
  | 0, s, e, l, l' => s = e ∧ l = l'
  | n + 1, s, e, l, l' => (s = e ∧ l = l') ∨ (s < e ∧ st_l V c s l ∧ ((c (656 + 9 * s) ≠ 3 ∧ c (656 + 9 * s) ≠ 4 ∧ c (656 + 9 * s + 8) = s + 1 ∧ fl V c n (s + 1) e (l + 1) l') ∨ ((c (656 + 9 * s) = 3 ∨ c (656 + 9 * s) = 4) ∧ ∃ m b : Int, c (656 + 9 * s + 8) = b ∧ V 18 m = 9 ∧ V 19 m = l ∧ V 19 l = m ∧ fl V c n (s + 1) b (l + 1) m ∧ fl V c n b e (m + 1) l')))
theorem fl_le {V : Nat → Int → Int} {c : Int → Int} (n : Nat) : ∀ {s e l l' : Int}, fl V c n s e l l' → s ≤ e ∧ l ≤ l' := by
  induction n with
  | zero => intro s e l l' h; have h' : s = e ∧ l = l' := h; omega
  | succ n ih =>
    intro s e l l' h
    rcases h with h | ⟨h1, h2, h3⟩
    · omega
    · rcases h3 with ⟨-, -, -, h3⟩ | ⟨-, m, b, h4, h5, h6, h7, h8, h9⟩
      · have := ih h3; omega
      · have := ih h8
        have := ih h9
        omega
theorem fl_rf (V : Nat → Int → Int) (c : Int → Int) (n : Nat) (s l : Int) : fl V c n s s l l := by
  cases n with
  | zero => exact ⟨rfl, rfl⟩
  | succ n => exact Or.inl ⟨rfl, rfl⟩
theorem fl_s {V : Nat → Int → Int} {c : Int → Int} (n : Nat) : ∀ {s e l l' : Int}, fl V c n s e l l' → fl V c (n + 1) s e l l' := by
  induction n with
  | zero => intro s e l l' h; exact Or.inl h
  | succ n ih =>
    intro s e l l' h
    rcases h with h | ⟨h1, h2, h3⟩
    · exact Or.inl h
    · refine Or.inr ⟨h1, h2, ?_⟩
      rcases h3 with ⟨a1, a2, a3, h3⟩ | ⟨a1, m, b, h4, h5, h6, h7, h8, h9⟩
      · exact Or.inl ⟨a1, a2, a3, ih h3⟩
      · exact Or.inr ⟨a1, m, b, h4, h5, h6, h7, ih h8, ih h9⟩
theorem fl_up {V : Nat → Int → Int} {c : Int → Int} {n : Nat} (k : Nat) {s e l l' : Int} (h : fl V c n s e l l') : fl V c (n + k) s e l l' := by
  induction k with
  | zero => exact h
  | succ k ih => exact fl_s _ ih
theorem fl_app {V : Nat → Int → Int} {c : Int → Int} {k : Nat} {e l' : Int} (n : Nat) : ∀ {s b l m : Int}, fl V c n s b l m → fl V c k b e m l' → fl V c (n + k) s e l l' := by
  induction n with
  | zero =>
    intro s b l m h1 h2
    have h' : s = b ∧ l = m := h1
    rw [h'.1, h'.2, Nat.zero_add]
    exact h2
  | succ n ih =>
    intro s b l m h1 h2
    have ek : n + 1 + k = n + k + 1 := by omega
    rw [ek]
    rcases h1 with h1 | ⟨a1, a2, a3⟩
    · rw [h1.1, h1.2]
      have z := fl_up (n + 1) h2
      have e2 : k + (n + 1) = n + k + 1 := by omega
      rw [e2] at z
      exact z
    · have lb := fl_le k h2
      refine Or.inr ⟨by omega, a2, ?_⟩
      rcases a3 with ⟨b1, b2, b3, h3⟩ | ⟨b1, m', b', h4, h5, h6, h7, h8, h9⟩
      · exact Or.inl ⟨b1, b2, b3, ih h3 h2⟩
      · exact Or.inr ⟨b1, m', b', h4, h5, h6, h7, fl_up k h8, ih h9 h2⟩
theorem st_l.x {V V' : Nat → Int → Int} {c c' : Int → Int} {s l : Int} (hs : 0 ≤ s ∧ s < 30) (hl : 0 ≤ l ∧ l < 60) (hV : ∀ (id : Nat) (i : Int), 18 ≤ id → id < 23 → 0 ≤ i → i < 60 → V' id i = V id i) (hc : ∀ j : Int, 654 ≤ j → j < 930 → c' j = c j) (h : st_l V c s l) : st_l V' c' s l := by
  unfold st_l at h ⊢
  rw [hV 18 l (by decide) (by decide) hl.1 hl.2, hV 20 l (by decide) (by decide) hl.1 hl.2, hV 21 l (by decide) (by decide) hl.1 hl.2, hV 22 l (by decide) (by decide) hl.1 hl.2, hc (656 + 9 * s) (by omega) (by omega), hc (656 + 9 * s + 1) (by omega) (by omega), hc (656 + 9 * s + 2) (by omega) (by omega), hc (656 + 9 * s + 6) (by omega) (by omega), hc (656 + 9 * s + 7) (by omega) (by omega)]
  exact h
theorem fl_x {V V' : Nat → Int → Int} {c c' : Int → Int} (hV : ∀ (id : Nat) (i : Int), 18 ≤ id → id < 23 → 0 ≤ i → i < 60 → V' id i = V id i) (hc : ∀ j : Int, 654 ≤ j → j < 930 → c' j = c j) (n : Nat) : ∀ {s e l l' : Int}, 0 ≤ s → e ≤ 30 → 0 ≤ l → l' ≤ 60 → fl V c n s e l l' → fl V' c' n s e l l' := by
  induction n with
  | zero => intro s e l l' _ _ _ _ h; exact h
  | succ n ih =>
    intro s e l l' s0 e0 l0 l1 h
    rcases h with h | ⟨a1, a2, a3⟩
    · exact Or.inl h
    · rcases a3 with ⟨b1, b2, b3, h3⟩ | ⟨b1, m, b, h4, h5, h6, h7, h8, h9⟩
      · have le := fl_le n h3
        refine Or.inr ⟨a1, a2.x ⟨s0, by omega⟩ ⟨l0, by omega⟩ hV hc, Or.inl ⟨?_, ?_, ?_, ih (by omega) e0 (by omega) l1 h3⟩⟩
        · rw [hc _ (by omega) (by omega)]; exact b1
        · rw [hc _ (by omega) (by omega)]; exact b2
        · rw [hc _ (by omega) (by omega)]; exact b3
      · have le8 := fl_le n h8
        have le9 := fl_le n h9
        refine Or.inr ⟨a1, a2.x ⟨s0, by omega⟩ ⟨l0, by omega⟩ hV hc, Or.inr ⟨?_, m, b, ?_, ?_, ?_, ?_, ih (by omega) (by omega) (by omega) (by omega) h8, ih (by omega) e0 (by omega) l1 h9⟩⟩
        · rw [hc _ (by omega) (by omega)]; exact b1
        · rw [hc _ (by omega) (by omega)]; exact h4
        · rw [hV 18 m (by decide) (by decide) (by omega) (by omega)]; exact h5
        · rw [hV 19 m (by decide) (by decide) (by omega) (by omega)]; exact h6
        · rw [hV 19 l (by decide) (by decide) (by omega) (by omega)]; exact h7
def rs (V : Nat → Int → Int) (c : Int → Int) : Prop := V 3 0 = c 654 ∧ (c 654 = 0 ∨ c 654 = 1) ∧ V 3 1 = c 655 ∧ (0 ≤ V 3 2 ∧ V 3 2 ≤ 60) ∧ ∃ n : Nat, fl V c n 0 (c 655) 0 (V 3 2)
theorem rs.x {V V' : Nat → Int → Int} {c c' : Int → Int} (h : rs V c) (hG : m_G c) (hV : ∀ (id : Nat) (i : Int), y_in y_all id i → V' id i = V id i) (hc : ∀ j : Int, 654 ≤ j → j < 930 → c' j = c j) : rs V' c' := by
  obtain ⟨h1, h2, h3, h4, n, h5⟩ := h
  have cell : ∀ (id f : Nat), (id, f) ∈ y_all → f ≠ 99 → V' id (f : Int) = V id (f : Int) := fun id f h h9 => hV id _ ⟨(id, f), h, rfl, Or.inr ⟨h9, rfl⟩⟩
  have row : ∀ (id : Nat) (i : Int), (id, 99) ∈ y_all → 0 ≤ i → i < ((y_gn id : Nat) : Int) → V' id i = V id i := fun id i h i0 i1 => hV id i ⟨(id, 99), h, rfl, Or.inl ⟨rfl, i0, i1⟩⟩
  have e0 : V' 3 0 = V 3 0 := cell 3 0 (by decide) (by decide)
  have e1 : V' 3 1 = V 3 1 := cell 3 1 (by decide) (by decide)
  have e2 : V' 3 2 = V 3 2 := cell 3 2 (by decide) (by decide)
  have q := hG.2.2.2.2.2.1
  refine ⟨?_, ?_, ?_, ?_, n, ?_⟩
  · rw [e0, hc 654 (by decide) (by decide)]; exact h1
  · rw [hc 654 (by decide) (by decide)]; exact h2
  · rw [e1, hc 655 (by decide) (by decide)]; exact h3
  · rw [e2]; exact h4
  · rw [e2, hc 655 (by decide) (by decide)]
    refine fl_x (fun id i i0 i1 j0 j1 => ?_) hc n (by decide) q.2 (by decide) h4.2 h5
    have mem : ∀ k : Nat, 18 ≤ k → k < 23 → (k, 99) ∈ y_all ∧ y_gn k = 60 := by
      intro k k0 k1
      rcases (by omega : k = 18 ∨ k = 19 ∨ k = 20 ∨ k = 21 ∨ k = 22) with e | e | e | e | e <;> subst e <;> decide
    have m := mem id i0 i1
    exact row id i m.1 j0 (by rw [m.2]; exact j1)
/-- a game, its names, its round -/
def rb (V : Nat → Int → Int) (c w : Int → Int) : Prop := rg V c ∧ y_nm V w 0 (c 2) ∧ rs V c
theorem y_nm.x {V V' : Nat → Int → Int} {w w' : Int → Int} {P : Int} (h : y_nm V w 0 P) (hP : P ≤ 6) (hV : ∀ (id : Nat) (i : Int), y_in y_all id i → V' id i = V id i) (hw : ∀ j : Int, 0 ≤ j → j < 6 → w' j = w j) : y_nm V' w' 0 P := by
  have row : ∀ (id : Nat) (i : Int), (id, 99) ∈ y_all → 0 ≤ i → i < ((y_gn id : Nat) : Int) → V' id i = V id i := fun id i h i0 i1 => hV id i ⟨(id, 99), h, rfl, Or.inl ⟨rfl, i0, i1⟩⟩
  have n5 : ((y_gn 5 : Nat) : Int) = 48 := rfl
  have n6 : ((y_gn 6 : Nat) : Int) = 6 := rfl
  intro p p0 p1
  obtain ⟨a1, a2, a3⟩ := h p p0 p1
  have e6 : V' 6 p = V 6 p := row 6 p (by decide) p0 (by omega)
  have e5 : ∀ i : Int, 0 ≤ i → i < V 6 p → V' 5 (8 * p + i) = V 5 (8 * p + i) := fun i i0 i1 => row 5 _ (by decide) (by omega) (by omega)
  rw [e6]
  refine ⟨a1, fun i i0 i1 => by rw [e5 i i0 i1]; exact a2 i i0 i1, ?_⟩
  rw [hw _ (by omega) (by omega), a3]
  refine tx_wv_ext (fun i hi => ?_)
  show V 5 (8 * p + (0 + (i : Int))) = V' 5 (8 * p + (0 + (i : Int)))
  rw [e5 _ (by omega) (by omega)]
theorem rb.x {V V' : Nat → Int → Int} {c c' w w' : Int → Int} (h : rb V c w) (hG : m_G c) (hV : ∀ (id : Nat) (i : Int), y_in y_all id i → V' id i = V id i) (hc : ∀ j : Int, 0 ≤ j → j < 930 → c' j = c j) (hw : ∀ j : Int, 0 ≤ j → j < 6 → w' j = w j) : rb V' c' w' := by
  refine ⟨h.1.x hG hV (fun j a b => hc j a (by omega)), ?_, h.2.2.x hG hV (fun j a b => hc j (by omega) b)⟩
  rw [hc 2 (by decide) (by decide)]
  exact h.2.1.x hG.1.2.1.2 hV hw
/-- all that both keep: game, names, round, and the marks; the class read in σ, the reference in τ -/
def al_R (X : XW) (C a : Nat) (σ τ : ST) : Prop :=
  rb (y_v X (q_rf X C 8) σ) (m_c X τ a) (m_wd X τ a) ∧ (σ.1 C 11).toInt = (τ.1 a 24).toInt ∧ (0 ≤ (σ.1 C 11).toInt ∧ (σ.1 C 11).toInt ≤ 3) ∧ ∀ b : Nat, 1 ≤ b → (b : Int) ≤ (σ.1 C 11).toInt → rb (y_v X (q_rf X (q_rf X C 10) (b - 1)) σ) (fun j => m_c X τ a (930 * (b : Int) + j)) (fun j => m_wd X τ a (6 * (b : Int) + j))
def al_C (X : XW) (lb : Nat → Nat) (C a : Nat) : Prop := q_kd X C = 11 ∧ q_kd X a = 12 ∧ y_S X lb ∧ lb C = 1 ∧ y_G X lb (q_rf X C 8) 1 ∧ y_G X lb (q_rf X C 9) 2 ∧ ∀ i : Nat, i < 3 → y_G X lb (q_rf X (q_rf X C 10) i) (3 + i)
theorem al_Cmk {X : XW} {lb : Nat → Nat} {C a : Nat} (S : y_S X lb) (hC : q_kd X C = 11) (ha : q_kd X a = 12) (h1 : lb C = 1) : al_C X lb C a := by
  obtain ⟨T, L, N⟩ := id S
  have k8 : q_kd X (q_rf X C 8) = 1 := (T.1 C 8 (by rw [hC]; decide)).trans (by rw [hC]; rfl)
  have l8 : lb (q_rf X C 8) = 8192 * 1 + 1 := (L C 8 (by rw [hC]; decide)).trans (by rw [h1]; decide)
  have k9 : q_kd X (q_rf X C 9) = 1 := (T.1 C 9 (by rw [hC]; decide)).trans (by rw [hC]; rfl)
  have l9 : lb (q_rf X C 9) = 8192 * 2 + 1 := (L C 9 (by rw [hC]; decide)).trans (by rw [h1]; decide)
  have k10 : q_kd X (q_rf X C 10) = 24 := (T.1 C 10 (by rw [hC]; decide)).trans (by rw [hC]; rfl)
  have l10 : lb (q_rf X C 10) = 26 := (L C 10 (by rw [hC]; decide)).trans (by rw [h1]; decide)
  refine ⟨hC, ha, S, h1, ⟨k8, l8, by decide⟩, ⟨k9, l9, by decide⟩, fun i hi => ?_⟩
  have nz : q_rk (q_kd X (q_rf X C 10)) i ≠ 0 := by
    rw [k10]
    rcases (by omega : i = 0 ∨ i = 1 ∨ i = 2) with e | e | e <;> subst e <;> decide
  refine ⟨(T.1 (q_rf X C 10) i nz).trans ?_, (L (q_rf X C 10) i nz).trans ?_, by omega⟩
  · rw [k10]
    rcases (by omega : i = 0 ∨ i = 1 ∨ i = 2) with e | e | e <;> subst e <;> rfl
  · rw [l10]
    rcases (by omega : i = 0 ∨ i = 1 ∨ i = 2) with e | e | e <;> subst e <;> decide
/-- a game whose owner's cells stand is the same -/
theorem y_v.k {X : XW} {lb : Nat → Nat} {g o : Nat} {σ σ' : ST} (S : y_S X lb) (G : y_G X lb g o) (h : ∀ b, lb b / 8192 = o → ∀ f, σ'.1 b f = σ.1 b f) : y_v X g σ' = y_v X g σ := by
  funext id i
  unfold y_v
  by_cases q : id < 25 ∧ 0 ≤ i
  · rw [if_pos q, if_pos q, h _ (y_own S G q.1)]
  · rw [if_neg q, if_neg q]
section GO
variable {X : XW} {lb : Nat → Nat} {C a : Nat} {σ τ σ' τ' : ST} {V : Nat → Int → Int} {c : Int → Int}
/-- a call that moves the game alone -/
theorem al_R.mv {n : Int} (K : al_C X lb C a) (A : al_R X C a σ τ) (M : m_M (m_c X τ a) (τ.1 a 24).toInt n) (h : mv_R X lb C a σ σ' τ τ' (y_v X (q_rf X C 8) σ) (m_c X τ a)) : al_R X C a σ' τ' := by
  obtain ⟨kC, ka, S, lC, G8, G9, GM⟩ := K
  obtain ⟨⟨A1, A1b, A1c⟩, A2, A3, A4⟩ := A
  obtain ⟨V', c', v1, m1, R', fV, fc, fr, fC, f2, ft⟩ := h
  have k20 := (tb_k S.1 ka).1
  have k23 := (tb_k S.1 ka).2.2.1
  have k28 : q_kd X (q_rf X a 28) = 39 := (S.1.1 a 28 (by rw [ka]; decide)).trans (by rw [ka]; rfl)
  have k29 : q_kd X (q_rf X a 29) = 40 := (S.1.1 a 29 (by rw [ka]; decide)).trans (by rw [ka]; rfl)
  have w1 : m_wd X τ' a = m_wd X τ a := by
    funext j
    exact congrArg Int64.toInt (ft.2.1 _ _ (fun z => z))
  have e24 : τ'.1 a 24 = τ.1 a 24 := ft.1 a 24 (fun z => by
    rcases z with z | z | z | z
    · exact m_ne k20 ka (by decide) z.symm
    · exact absurd z.2 (by decide)
    · exact m_ne k28 ka (by decide) z.symm
    · exact m_ne k29 ka (by decide) z.symm)
  have e11 : σ'.1 C 11 = σ.1 C 11 := fC 11 (by decide)
  refine ⟨⟨?_, ?_, ?_⟩, by rw [e11, e24]; exact A2, by rw [e11]; exact A3, fun b b1 b2 => ?_⟩
  · rw [v1, m1]; exact R'
  · rw [v1, m1, w1, fc 2 (by decide) (by decide)]
    intro p p0 p1
    obtain ⟨a1, a2, a3⟩ := A1b p p0 p1
    rw [fV 6 p (by decide)]
    refine ⟨a1, fun i i0 i1 => by rw [fV 5 _ (by decide)]; exact a2 i i0 i1, ?_⟩
    rw [a3]
    refine tx_wv_ext (fun i hi => ?_)
    show y_v X (q_rf X C 8) σ 5 (8 * p + (0 + (i : Int))) = V' 5 (8 * p + (0 + (i : Int)))
    rw [fV 5 _ (by decide)]
  · rw [v1, m1]
    obtain ⟨h1, h2, h3, h4, n, h5⟩ := A1c
    have q := M.1.1.2.2.2.2.2.1
    refine ⟨?_, ?_, ?_, ?_, n, ?_⟩
    · rw [fV 3 0 (by decide), fc 654 (by decide) (by decide)]; exact h1
    · rw [fc 654 (by decide) (by decide)]; exact h2
    · rw [fV 3 1 (by decide), fc 655 (by decide) (by decide)]; exact h3
    · rw [fV 3 2 (by decide)]; exact h4
    · rw [fV 3 2 (by decide), fc 655 (by decide) (by decide)]
      exact fl_x (fun id i i0 i1 j0 j1 => fV id i (by omega)) (fun j j0 j1 => fc j (by omega) (by omega)) n (by decide) q.2 (by decide) h4.2 h5
  · rw [e11] at b2
    have z := A4 b b1 b2
    have gv : y_v X (q_rf X (q_rf X C 10) (b - 1)) σ' = y_v X (q_rf X (q_rf X C 10) (b - 1)) σ := y_v.k S (GM (b - 1) (by omega)) (fun x hx f => fr x (by omega) (fun e => by rw [e, lC] at hx; omega) f)
    refine z.x (M.2 (b : Int) (by omega) (by rw [A2] at b2; exact b2)).1 (fun id i _ => by rw [gv]) (fun j j0 j1 => ?_) (fun j j0 j1 => by rw [w1])
    show m_c X τ' a (930 * (b : Int) + j) = m_c X τ a (930 * (b : Int) + j)
    rw [m1]
    exact fc _ (by omega) (by omega)
/-- a game copied is the same -/
theorem y_C.cp {g1 g o : Nat} {ρ ρ' : ST} (h : y_C X lb g1 o g ρ ρ' y_all) : (∀ b, lb b / 8192 ≠ o → ∀ f, ρ'.1 b f = ρ.1 b f) ∧ ρ'.2 = ρ.2 ∧ ∀ (id : Nat) (i : Int), y_in y_all id i → y_v X g1 ρ' id i = y_v X g ρ id i := by
  obtain ⟨V1, w, e⟩ := h
  refine ⟨w.1, w.2.1, fun id i hi => ?_⟩
  rw [w.2.2]
  exact e id i hi
theorem on_s {α : Type} (r : Nat) (x : α) (k : Nat → α) : q_on (some r) x k = k r := rfl
theorem on_n {α : Type} (x : α) (k : Nat → α) : q_on none x k = x := rfl
theorem al_mark {n : Int} (K : al_C X lb C a) (A : al_R X C a σ τ) (M : m_M (m_c X τ a) (τ.1 a 24).toInt n) : ∃ (z : Int32) (σ' : ST) (z' : Int32) (τ' : ST), F_X11_mark X σ C = (z, σ') ∧ F_X12_mark X τ a = (z', τ') ∧ z.toInt = z'.toInt ∧ (σ'.1 C 0).toInt = (τ'.1 a 0).toInt ∧ al_R X C a σ' τ' := by
  obtain ⟨kC, ka, S, lC, G8, G9, GM⟩ := id K
  obtain ⟨A1, A2, A3, A4⟩ := id A
  have k20 := (tb_k S.1 ka).1
  have k23 := (tb_k S.1 ka).2.2.1
  have na0 : a ≠ q_rf X a 20 := Ne.symm (m_ne k20 ka (by decide))
  have hC1 : ∀ o, 1 ≤ o → lb C / 8192 ≠ o := fun o ho => by omega
  obtain ⟨m2, s2, t2⟩ := mv_beg S.1 ka (rfl : m_c X τ a = m_c X τ a)
  obtain ⟨k, hk⟩ : ∃ k, k = (σ.1 C 11).toInt := ⟨_, rfl⟩
  rw [← hk] at A2 A3 A4
  have f24 : (q_si (q_si τ a 1 0) a 0 0).1 a 24 = τ.1 a 24 := by rw [si_f (by decide), si_f (by decide)]
  have w2 : m_wd X (q_si (q_si τ a 1 0) a 0 0) a = m_wd X τ a := rfl
  unfold F_X11_mark F_X12_mark F_X11_markAt
  rw [q_letE (σ.1 C 11), q_letE (q_si τ a 1 0), q_letE (q_si (q_si τ a 1 0) a 0 0)]
  obtain ⟨τ2, e2⟩ : ∃ t, t = q_si (q_si τ a 1 0) a 0 0 := ⟨_, rfl⟩
  rw [← e2] at m2 s2 t2 f24 w2 ⊢
  rw [q_letE (τ2.1 a 24), f24, ← A2, ← hk, if_neg (by omega : ¬ k < 0)]
  by_cases q3 : k = 3
  · rw [if_neg (by omega : ¬ k < 3), if_pos q3, q_letE, on_n, mv_none, mv_refuse]
    refine ⟨-1, _, -1, _, rfl, rfl, rfl, by rw [si_eq, si_eq], A.mv K M ?_⟩
    exact mv_mk S G8 (by omega) y_W.rf A1.1 (fun _ _ _ => rfl) (fun _ _ _ => rfl) 7 ((mv_cell S.1 ka 0 7).trans m2) (t2.si _ (Or.inr (Or.inl ⟨rfl, Or.inl rfl⟩)))
  · rw [if_pos (by omega : k < 3), if_neg q3, q_letE, on_s]
    have hf : (σ.1 C 11).toNatClampNeg = k.toNat := by rw [ar_cl, ← hk]
    rw [hf]
    have one : (1 : Int32).toInt = 1 := rfl
    have zero : (0 : Int32).toInt = 0 := rfl
    -- the class
    obtain ⟨ow, o2, oV⟩ := (tb_copy (σ := σ) (g := q_rf X C 8) S (GM k.toNat (by omega)) G8 (by omega)).cp
    rw [q_letE (F_X0_copyFrom X σ (q_rf X (q_rf X C 10) k.toNat) (q_rf X C 8))]
    obtain ⟨σ1, e1⟩ : ∃ t, t = F_X0_copyFrom X σ (q_rf X (q_rf X C 10) k.toNat) (q_rf X C 8) := ⟨_, rfl⟩
    rw [← e1] at ow o2 oV ⊢
    have f11 : σ1.1 C 11 = σ.1 C 11 := ow C (hC1 _ (by omega)) 11
    obtain ⟨u, hu⟩ : ∃ u, u = σ1.1 C 11 + 1 := ⟨_, rfl⟩
    have uv : u.toInt = k + 1 := by rw [hu, ar_add, f11, one, ← hk, ar_wr (by omega) (by omega)]
    rw [q_letE (σ1.1 C 11), ← hu, q_letE u, q_letE (q_si σ1 C 11 u), q_letE ((q_si σ1 C 11 u).1 C 11), si_eq, mv_good]
    -- the reference
    have f24' : (τ2.1 a 24).toInt = k := by rw [f24]; exact A2.symm
    obtain ⟨v, hv⟩ : ∃ v, v = τ2.1 a 24 + 1 := ⟨_, rfl⟩
    have vv : v.toInt = k + 1 := by rw [hv, ar_add, f24', one, ar_wr (by omega) (by omega)]
    have hv' : τ.1 a 24 + 1 = v := by rw [hv, f24]
    rw [q_letE (τ.1 a 24), hv', q_letE v, q_letE (q_si τ2 a 24 v), q_letE ((q_si τ2 a 24 v).1 a 24), si_eq]
    have m3 : m_c X (q_si τ2 a 24 v) a = m_c X τ a := (mv_cell S.1 ka 24 v).trans m2
    have w3 : m_wd X (q_si τ2 a 24 v) a = m_wd X τ a := w2
    obtain ⟨tc, mc, wc⟩ := tm_copy (X := X) (τ := q_si τ2 a 24 v) S.1 ka (v1 := 0) (v2 := v) (s := 0) (d := k + 1) rfl vv ⟨by decide, by decide⟩ ⟨by omega, by omega⟩ (by omega)
    rw [m3] at mc
    rw [w3] at wc
    have s3 : (q_si τ2 a 24 v).1 a 0 = 0 := by rw [si_f (by decide), s2]
    have v3 : (q_si τ2 a 24 v).1 a 24 = v := si_eq _ _ _ _
    obtain ⟨τ3, e3⟩ : ∃ t, t = q_si τ2 a 24 v := ⟨_, rfl⟩
    rw [← e3] at tc mc wc s3 v3 ⊢
    rw [q_letE (F_X12_copy X τ3 a 0 v)]
    obtain ⟨τ4, e4⟩ : ∃ t, t = F_X12_copy X τ3 a 0 v := ⟨_, rfl⟩
    rw [← e4] at tc mc wc ⊢
    have g24 : τ4.1 a 24 = v := (tc.1 a 24 na0).trans v3
    rw [q_letE (τ4.1 a 24), g24]
    refine ⟨u, _, v, τ4, rfl, rfl, by rw [uv, vv], ?_, ?_, ?_, ?_, fun b b1 b2 => ?_⟩
    · rw [si_eq, tc.1 a 0 na0, s3]
    · have gv : y_v X (q_rf X C 8) (q_si (q_si σ1 C 11 u) C 0 0) = y_v X (q_rf X C 8) σ := y_v.k S G8 (fun x hx f => by
        have nx : x ≠ C := fun e => by rw [e, lC] at hx; omega
        rw [q_si_ne nx, q_si_ne nx]
        exact ow x (by omega) f)
      rw [gv]
      exact A1.x M.1.1 (fun _ _ _ => rfl) (fun j j0 j1 => by rw [mc j j0, if_neg (by omega)]) (fun j j0 j1 => by rw [wc j j0, if_neg (by omega)])
    · rw [si_f (by decide), si_eq, uv, g24, vv]
    · rw [si_f (by decide), si_eq, uv]; omega
    · rw [si_f (by decide), si_eq, uv] at b2
      by_cases eb : (b : Int) = k + 1
      · have eb' : b - 1 = k.toNat := by omega
        refine A1.x M.1.1 (fun id i hi => ?_) (fun j j0 j1 => ?_) (fun j j0 j1 => ?_)
        · rw [eb', ← oV id i hi]
          refine congrFun (congrFun (y_v.k S (GM k.toNat (by omega)) (fun x hx f => ?_)) id) i
          have nx : x ≠ C := fun e => by rw [e, lC] at hx; omega
          rw [q_si_ne nx, q_si_ne nx]
        · show m_c X τ4 a (930 * (b : Int) + j) = _
          rw [eb, mc _ (by omega), if_pos (by omega)]
          congr 1
          omega
        · show m_wd X τ4 a (6 * (b : Int) + j) = _
          rw [eb, wc _ (by omega), if_pos (by omega)]
          congr 1
          omega
      · refine (A4 b b1 (by omega)).x (M.2 (b : Int) (by omega) (by rw [← A2]; omega)).1 (fun id i _ => ?_) (fun j j0 j1 => ?_) (fun j j0 j1 => ?_)
        · refine congrFun (congrFun (y_v.k S (GM (b - 1) (by omega)) (fun x hx f => ?_)) id) i
          have nx : x ≠ C := fun e => by rw [e, lC] at hx; omega
          rw [q_si_ne nx, q_si_ne nx]
          exact ow x (by omega) f
        · show m_c X τ4 a (930 * (b : Int) + j) = _
          rw [mc _ (by omega), if_neg (by omega)]
        · show m_wd X τ4 a (6 * (b : Int) + j) = _
          rw [wc _ (by omega), if_neg (by omega)]
theorem al_back {n : Int} (K : al_C X lb C a) (A : al_R X C a σ τ) (M : m_M (m_c X τ a) (τ.1 a 24).toInt n) : ∃ (z : Int32) (σ' : ST) (z' : Int32) (τ' : ST), F_X11_back X σ C = (z, σ') ∧ F_X12_back X τ a = (z', τ') ∧ z.toInt = z'.toInt ∧ (σ'.1 C 0).toInt = (τ'.1 a 0).toInt ∧ al_R X C a σ' τ' := by
  obtain ⟨kC, ka, S, lC, G8, G9, GM⟩ := id K
  obtain ⟨A1, A2, A3, A4⟩ := id A
  have k20 := (tb_k S.1 ka).1
  have k23 := (tb_k S.1 ka).2.2.1
  have na0 : a ≠ q_rf X a 20 := Ne.symm (m_ne k20 ka (by decide))
  have hC1 : ∀ o, 1 ≤ o → lb C / 8192 ≠ o := fun o ho => by omega
  obtain ⟨m2, s2, t2⟩ := mv_beg S.1 ka (rfl : m_c X τ a = m_c X τ a)
  obtain ⟨k, hk⟩ : ∃ k, k = (σ.1 C 11).toInt := ⟨_, rfl⟩
  rw [← hk] at A2 A3 A4
  have one : (1 : Int32).toInt = 1 := rfl
  have f24 : (q_si (q_si τ a 1 0) a 0 0).1 a 24 = τ.1 a 24 := by rw [si_f (by decide), si_f (by decide)]
  have w2 : m_wd X (q_si (q_si τ a 1 0) a 0 0) a = m_wd X τ a := rfl
  unfold F_X11_back F_X12_back F_X11_markAt
  rw [q_letE (σ.1 C 11), q_letE (q_si τ a 1 0), q_letE (q_si (q_si τ a 1 0) a 0 0)]
  obtain ⟨τ2, e2⟩ : ∃ t, t = q_si (q_si τ a 1 0) a 0 0 := ⟨_, rfl⟩
  rw [← e2] at m2 s2 t2 f24 w2 ⊢
  have i1 : (σ.1 C 11 - 1).toInt = k - 1 := by rw [ar_sub, one, ← hk, ar_wr (by omega) (by omega)]
  rw [q_letE (σ.1 C 11 - 1), q_letE (τ2.1 a 24), f24, ← A2, i1]
  by_cases q0 : k = 0
  · rw [if_pos (by omega : k - 1 < 0), if_pos q0, q_letE, on_n, mv_none, mv_refuse]
    refine ⟨-1, _, -1, _, rfl, rfl, rfl, by rw [si_eq, si_eq], A.mv K M ?_⟩
    exact mv_mk S G8 (by omega) y_W.rf A1.1 (fun _ _ _ => rfl) (fun _ _ _ => rfl) 8 ((mv_cell S.1 ka 0 8).trans m2) (t2.si _ (Or.inr (Or.inl ⟨rfl, Or.inl rfl⟩)))
  · rw [if_neg (by omega : ¬ k - 1 < 0), if_pos (by omega : k - 1 < 3), if_neg q0, q_letE, on_s]
    have hf : (σ.1 C 11 - 1).toNatClampNeg = (k - 1).toNat := by rw [ar_cl, i1]
    rw [hf]
    have ek : (k - 1).toNat = k.toNat - 1 := by omega
    rw [ek]
    -- the class
    obtain ⟨ow, o2, oV⟩ := (tb_copy (σ := σ) (g := q_rf X (q_rf X C 10) (k.toNat - 1)) S G8 (GM (k.toNat - 1) (by omega)) (by omega)).cp
    rw [q_letE (F_X0_copyFrom X σ (q_rf X C 8) (q_rf X (q_rf X C 10) (k.toNat - 1)))]
    obtain ⟨σ1, e1⟩ : ∃ t, t = F_X0_copyFrom X σ (q_rf X C 8) (q_rf X (q_rf X C 10) (k.toNat - 1)) := ⟨_, rfl⟩
    rw [← e1] at ow o2 oV ⊢
    have f11 : σ1.1 C 11 = σ.1 C 11 := ow C (hC1 _ (by omega)) 11
    obtain ⟨u, hu⟩ : ∃ u, u = σ1.1 C 11 - 1 := ⟨_, rfl⟩
    have uv : u.toInt = k - 1 := by rw [hu, f11, i1]
    rw [q_letE (σ1.1 C 11), ← hu, q_letE u, q_letE (q_si σ1 C 11 u), q_letE ((q_si σ1 C 11 u).1 C 11), si_eq, mv_good]
    -- the reference
    have f24' : (τ.1 a 24).toInt = k := A2.symm
    obtain ⟨tc, mc, wc⟩ := tm_copy (X := X) (τ := τ2) S.1 ka (v1 := τ.1 a 24) (v2 := 0) (s := k) (d := 0) f24' rfl ⟨by omega, by omega⟩ ⟨by decide, by decide⟩ q0
    rw [m2] at mc
    rw [w2] at wc
    rw [q_letE (τ.1 a 24), q_letE (F_X12_copy X τ2 a (τ.1 a 24) 0)]
    obtain ⟨τ3, e3⟩ : ∃ t, t = F_X12_copy X τ2 a (τ.1 a 24) 0 := ⟨_, rfl⟩
    rw [← e3] at tc mc wc ⊢
    have g24 : τ3.1 a 24 = τ.1 a 24 := (tc.1 a 24 na0).trans f24
    obtain ⟨v, hv⟩ : ∃ v, v = τ3.1 a 24 - 1 := ⟨_, rfl⟩
    have vv : v.toInt = k - 1 := by rw [hv, ar_sub, g24, one, f24', ar_wr (by omega) (by omega)]
    rw [q_letE (τ3.1 a 24), ← hv, q_letE v, q_letE (q_si τ3 a 24 v), q_letE ((q_si τ3 a 24 v).1 a 24), si_eq]
    have m4 : m_c X (q_si τ3 a 24 v) a = m_c X τ3 a := mv_cell S.1 ka 24 v
    have w4 : m_wd X (q_si τ3 a 24 v) a = m_wd X τ3 a := rfl
    have Mk := (M.2 k (by omega) (by rw [f24']; omega)).1
    have Ak := A4 k.toNat (by omega) (by omega)
    have ekk : ((k.toNat : Nat) : Int) = k := by omega
    rw [ekk] at Ak
    refine ⟨u, _, v, _, rfl, rfl, by rw [uv, vv], ?_, ?_, ?_, ?_, fun b b1 b2 => ?_⟩
    · rw [si_eq, si_f (by decide), tc.1 a 0 na0, s2]
    · rw [m4, w4]
      refine Ak.x Mk (fun id i hi => ?_) (fun j j0 j1 => ?_) (fun j j0 j1 => ?_)
      · rw [← oV id i hi]
        refine congrFun (congrFun (y_v.k S G8 (fun x hx f => ?_)) id) i
        have nx : x ≠ C := fun e => by rw [e, lC] at hx; omega
        rw [q_si_ne nx, q_si_ne nx]
      · rw [mc j j0, if_pos (by omega)]
        congr 1
        omega
      · rw [wc j j0, if_pos (by omega)]
        congr 1
        omega
    · rw [si_f (by decide), si_eq, uv, si_eq, vv]
    · rw [si_f (by decide), si_eq, uv]; omega
    · rw [si_f (by decide), si_eq, uv] at b2
      rw [m4, w4]
      refine (A4 b b1 (by omega)).x (M.2 (b : Int) (by omega) (by rw [← A2]; omega)).1 (fun id i _ => ?_) (fun j j0 j1 => ?_) (fun j j0 j1 => ?_)
      · refine congrFun (congrFun (y_v.k S (GM (b - 1) (by omega)) (fun x hx f => ?_)) id) i
        have nx : x ≠ C := fun e => by rw [e, lC] at hx; omega
        rw [q_si_ne nx, q_si_ne nx]
        exact ow x (by omega) f
      · show m_c X τ3 a (930 * (b : Int) + j) = _
        rw [mc _ (by omega), if_neg (by omega)]
      · show m_wd X τ3 a (6 * (b : Int) + j) = _
        rw [wc _ (by omega), if_neg (by omega)]
end GO
