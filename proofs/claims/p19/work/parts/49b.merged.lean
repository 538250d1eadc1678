/-! FROM 49o.all.lean.txt -/
/-! THE ROUND IN BOTH; ALL THAT BOTH KEEP -/
/-- a step of the reference and a line of the class -/
def st_l (V : Nat → Int → Int) (c : Int → Int) (s l : Int) : Prop :=
  (c (656 + 9 * s) = 0 ∧ V 18 l = 0) ∨
  (c (656 + 9 * s) = 1 ∧ V 18 l = 1 ∧ V 20 l = c (656 + 9 * s + 1) ∧ V 22 l = c (656 + 9 * s + 2)) ∨
  (c (656 + 9 * s) = 2 ∧ V 18 l = 2 ∧ V 20 l = c (656 + 9 * s + 1) ∧ V 22 l = c (656 + 9 * s + 2)) ∨
  (c (656 + 9 * s) = 5 ∧ V 18 l = 3) ∨
  (c (656 + 9 * s) = 4 ∧ V 18 l = 4 ∧ V 22 l = c (656 + 9 * s + 1) ∧ 1 ≤ c (656 + 9 * s + 1) ∧ c (656 + 9 * s + 1) ≤ 99) ∨
  (c (656 + 9 * s) = 3 ∧ c (656 + 9 * s + 6) = 0 ∧ V 18 l = 5 ∧ V 20 l = c (656 + 9 * s + 1) ∧ V 21 l = c (656 + 9 * s + 7) ∧ V 22 l = c (656 + 9 * s + 2)) ∨
  (c (656 + 9 * s) = 3 ∧ c (656 + 9 * s + 6) = 1 ∧ V 18 l = 6 ∧ V 21 l = c (656 + 9 * s + 7) ∧ V 22 l = c (656 + 9 * s + 2)) ∨
  (c (656 + 9 * s) = 3 ∧ c (656 + 9 * s + 6) = 2 ∧ V 18 l = 7 ∧ V 20 l = c (656 + 9 * s + 1) ∧ V 21 l = c (656 + 9 * s + 7) ∧ V 22 l = c (656 + 9 * s + 2)) ∨
  (c (656 + 9 * s) = 3 ∧ c (656 + 9 * s + 6) = 3 ∧ V 18 l = 8)
/-- the steps from s up to e are the lines from l up to l' -/
def fl (V : Nat → Int → Int) (c : Int → Int) : Nat → Int → Int → Int → Int → Prop
  | 0, s, e, l, l' => s = e ∧ l = l'
  | n + 1, s, e, l, l' => (s = e ∧ l = l') ∨ (s < e ∧ st_l V c s l ∧ ((c (656 + 9 * s) ≠ 3 ∧ c (656 + 9 * s) ≠ 4 ∧ c (656 + 9 * s + 8) = s + 1 ∧ fl V c n (s + 1) e (l + 1) l') ∨ ((c (656 + 9 * s) = 3 ∨ c (656 + 9 * s) = 4) ∧ ∃ m b : Int, c (656 + 9 * s + 8) = b ∧ V 18 m = 9 ∧ V 19 m = l ∧ V 19 l = m ∧ fl V c n (s + 1) b (l + 1) m ∧ fl V c n b e (m + 1) l')))
theorem fl_le {V : Nat → Int → Int} {c : Int → Int} (n : Nat) : ∀ {s e l l' : Int}, fl V c n s e l l' → s ≤ e ∧ l ≤ l' := by
  induction n with
  | zero => intro s e l l' h; have h' : s = e ∧ l = l' := h; omega
  | succ n ih =>
    intro s e l l' h
    rcases h with h | ⟨h1, h2, h3⟩
    · omega
    · rcases h3 with ⟨-, -, -, h3⟩ | ⟨-, m, b, h4, h5, h6, h7, h8, h9⟩
      · have := ih h3; omega
      · have := ih h8
        have := ih h9
        omega
theorem fl_rf (V : Nat → Int → Int) (c : Int → Int) (n : Nat) (s l : Int) : fl V c n s s l l := by
  cases n with
  | zero => exact ⟨rfl, rfl⟩
  | succ n => exact Or.inl ⟨rfl, rfl⟩
theorem fl_s {V : Nat → Int → Int} {c : Int → Int} (n : Nat) : ∀ {s e l l' : Int}, fl V c n s e l l' → fl V c (n + 1) s e l l' := by
  induction n with
  | zero => intro s e l l' h; exact Or.inl h
  | succ n ih =>
    intro s e l l' h
    rcases h with h | ⟨h1, h2, h3⟩
    · exact Or.inl h
    · refine Or.inr ⟨h1, h2, ?_⟩
      rcases h3 with ⟨a1, a2, a3, h3⟩ | ⟨a1, m, b, h4, h5, h6, h7, h8, h9⟩
      · exact Or.inl ⟨a1, a2, a3, ih h3⟩
      · exact Or.inr ⟨a1, m, b, h4, h5, h6, h7, ih h8, ih h9⟩
theorem fl_up {V : Nat → Int → Int} {c : Int → Int} {n : Nat} (k : Nat) {s e l l' : Int} (h : fl V c n s e l l') : fl V c (n + k) s e l l' := by
  induction k with
  | zero => exact h
  | succ k ih => exact fl_s _ ih
theorem fl_app {V : Nat → Int → Int} {c : Int → Int} {k : Nat} {e l' : Int} (n : Nat) : ∀ {s b l m : Int}, fl V c n s b l m → fl V c k b e m l' → fl V c (n + k) s e l l' := by
  induction n with
  | zero =>
    intro s b l m h1 h2
    have h' : s = b ∧ l = m := h1
    rw [h'.1, h'.2, Nat.zero_add]
    exact h2
  | succ n ih =>
    intro s b l m h1 h2
    have ek : n + 1 + k = n + k + 1 := by omega
    rw [ek]
    rcases h1 with h1 | ⟨a1, a2, a3⟩
    · rw [h1.1, h1.2]
      have z := fl_up (n + 1) h2
      have e2 : k + (n + 1) = n + k + 1 := by omega
      rw [e2] at z
      exact z
    · have lb := fl_le k h2
      refine Or.inr ⟨by omega, a2, ?_⟩
      rcases a3 with ⟨b1, b2, b3, h3⟩ | ⟨b1, m', b', h4, h5, h6, h7, h8, h9⟩
      · exact Or.inl ⟨b1, b2, b3, ih h3 h2⟩
      · exact Or.inr ⟨b1, m', b', h4, h5, h6, h7, fl_up k h8, ih h9 h2⟩
theorem st_l.x {V V' : Nat → Int → Int} {c c' : Int → Int} {s l : Int} (hs : 0 ≤ s ∧ s < 30) (hl : 0 ≤ l ∧ l < 60) (hV : ∀ (id : Nat) (i : Int), 18 ≤ id → id < 23 → 0 ≤ i → i < 60 → V' id i = V id i) (hc : ∀ j : Int, 654 ≤ j → j < 930 → c' j = c j) (h : st_l V c s l) : st_l V' c' s l := by
  unfold st_l at h ⊢
  rw [hV 18 l (by decide) (by decide) hl.1 hl.2, hV 20 l (by decide) (by decide) hl.1 hl.2, hV 21 l (by decide) (by decide) hl.1 hl.2, hV 22 l (by decide) (by decide) hl.1 hl.2, hc (656 + 9 * s) (by omega) (by omega), hc (656 + 9 * s + 1) (by omega) (by omega), hc (656 + 9 * s + 2) (by omega) (by omega), hc (656 + 9 * s + 6) (by omega) (by omega), hc (656 + 9 * s + 7) (by omega) (by omega)]
  exact h
theorem fl_x {V V' : Nat → Int → Int} {c c' : Int → Int} (hV : ∀ (id : Nat) (i : Int), 18 ≤ id → id < 23 → 0 ≤ i → i < 60 → V' id i = V id i) (hc : ∀ j : Int, 654 ≤ j → j < 930 → c' j = c j) (n : Nat) : ∀ {s e l l' : Int}, 0 ≤ s → e ≤ 30 → 0 ≤ l → l' ≤ 60 → fl V c n s e l l' → fl V' c' n s e l l' := by
  induction n with
  | zero => intro s e l l' _ _ _ _ h; exact h
  | succ n ih =>
    intro s e l l' s0 e0 l0 l1 h
    rcases h with h | ⟨a1, a2, a3⟩
    · exact Or.inl h
    · rcases a3 with ⟨b1, b2, b3, h3⟩ | ⟨b1, m, b, h4, h5, h6, h7, h8, h9⟩
      · have le := fl_le n h3
        refine Or.inr ⟨a1, a2.x ⟨s0, by omega⟩ ⟨l0, by omega⟩ hV hc, Or.inl ⟨?_, ?_, ?_, ih (by omega) e0 (by omega) l1 h3⟩⟩
        · rw [hc _ (by omega) (by omega)]; exact b1
        · rw [hc _ (by omega) (by omega)]; exact b2
        · rw [hc _ (by omega) (by omega)]; exact b3
      · have le8 := fl_le n h8
        have le9 := fl_le n h9
        refine Or.inr ⟨a1, a2.x ⟨s0, by omega⟩ ⟨l0, by omega⟩ hV hc, Or.inr ⟨?_, m, b, ?_, ?_, ?_, ?_, ih (by omega) (by omega) (by omega) (by omega) h8, ih (by omega) e0 (by omega) l1 h9⟩⟩
        · rw [hc _ (by omega) (by omega)]; exact b1
        · rw [hc _ (by omega) (by omega)]; exact h4
        · rw [hV 18 m (by decide) (by decide) (by omega) (by omega)]; exact h5
        · rw [hV 19 m (by decide) (by decide) (by omega) (by omega)]; exact h6
        · rw [hV 19 l (by decide) (by decide) (by omega) (by omega)]; exact h7
def rs (V : Nat → Int → Int) (c : Int → Int) : Prop := V 3 0 = c 654 ∧ (c 654 = 0 ∨ c 654 = 1) ∧ V 3 1 = c 655 ∧ (0 ≤ V 3 2 ∧ V 3 2 ≤ 60) ∧ ∃ n : Nat, fl V c n 0 (c 655) 0 (V 3 2)
theorem rs.x {V V' : Nat → Int → Int} {c c' : Int → Int} (h : rs V c) (hG : m_G c) (hV : ∀ (id : Nat) (i : Int), y_in y_all id i → V' id i = V id i) (hc : ∀ j : Int, 654 ≤ j → j < 930 → c' j = c j) : rs V' c' := by
  obtain ⟨h1, h2, h3, h4, n, h5⟩ := h
  have cell : ∀ (id f : Nat), (id, f) ∈ y_all → f ≠ 99 → V' id (f : Int) = V id (f : Int) := fun id f h h9 => hV id _ ⟨(id, f), h, rfl, Or.inr ⟨h9, rfl⟩⟩
  have row : ∀ (id : Nat) (i : Int), (id, 99) ∈ y_all → 0 ≤ i → i < ((y_gn id : Nat) : Int) → V' id i = V id i := fun id i h i0 i1 => hV id i ⟨(id, 99), h, rfl, Or.inl ⟨rfl, i0, i1⟩⟩
  have e0 : V' 3 0 = V 3 0 := cell 3 0 (by decide) (by decide)
  have e1 : V' 3 1 = V 3 1 := cell 3 1 (by decide) (by decide)
  have e2 : V' 3 2 = V 3 2 := cell 3 2 (by decide) (by decide)
  have q := hG.2.2.2.2.2.1
  refine ⟨?_, ?_, ?_, ?_, n, ?_⟩
  · rw [e0, hc 654 (by decide) (by decide)]; exact h1
  · rw [hc 654 (by decide) (by decide)]; exact h2
  · rw [e1, hc 655 (by decide) (by decide)]; exact h3
  · rw [e2]; exact h4
  · rw [e2, hc 655 (by decide) (by decide)]
    refine fl_x (fun id i i0 i1 j0 j1 => ?_) hc n (by decide) q.2 (by decide) h4.2 h5
    have mem : ∀ k : Nat, 18 ≤ k → k < 23 → (k, 99) ∈ y_all ∧ y_gn k = 60 := by
      intro k k0 k1
      rcases (by omega : k = 18 ∨ k = 19 ∨ k = 20 ∨ k = 21 ∨ k = 22) with e | e | e | e | e <;> subst e <;> decide
    have m := mem id i0 i1
    exact row id i m.1 j0 (by rw [m.2]; exact j1)
/-- a game, its names, its round -/
def rb (V : Nat → Int → Int) (c w : Int → Int) : Prop := rg V c ∧ y_nm V w 0 (c 2) ∧ rs V c
theorem y_nm.x {V V' : Nat → Int → Int} {w w' : Int → Int} {P : Int} (h : y_nm V w 0 P) (hP : P ≤ 6) (hV : ∀ (id : Nat) (i : Int), y_in y_all id i → V' id i = V id i) (hw : ∀ j : Int, 0 ≤ j → j < 6 → w' j = w j) : y_nm V' w' 0 P := by
  have row : ∀ (id : Nat) (i : Int), (id, 99) ∈ y_all → 0 ≤ i → i < ((y_gn id : Nat) : Int) → V' id i = V id i := fun id i h i0 i1 => hV id i ⟨(id, 99), h, rfl, Or.inl ⟨rfl, i0, i1⟩⟩
  have n5 : ((y_gn 5 : Nat) : Int) = 48 := rfl
  have n6 : ((y_gn 6 : Nat) : Int) = 6 := rfl
  intro p p0 p1
  obtain ⟨a1, a2, a3⟩ := h p p0 p1
  have e6 : V' 6 p = V 6 p := row 6 p (by decide) p0 (by omega)
  have e5 : ∀ i : Int, 0 ≤ i → i < V 6 p → V' 5 (8 * p + i) = V 5 (8 * p + i) := fun i i0 i1 => row 5 _ (by decide) (by omega) (by omega)
  rw [e6]
  refine ⟨a1, fun i i0 i1 => by rw [e5 i i0 i1]; exact a2 i i0 i1, ?_⟩
  rw [hw _ (by omega) (by omega), a3]
  refine tx_wv_ext (fun i hi => ?_)
  show V 5 (8 * p + (0 + (i : Int))) = V' 5 (8 * p + (0 + (i : Int)))
  rw [e5 _ (by omega) (by omega)]
theorem rb.x {V V' : Nat → Int → Int} {c c' w w' : Int → Int} (h : rb V c w) (hG : m_G c) (hV : ∀ (id : Nat) (i : Int), y_in y_all id i → V' id i = V id i) (hc : ∀ j : Int, 0 ≤ j → j < 930 → c' j = c j) (hw : ∀ j : Int, 0 ≤ j → j < 6 → w' j = w j) : rb V' c' w' := by
  refine ⟨h.1.x hG hV (fun j a b => hc j a (by omega)), ?_, h.2.2.x hG hV (fun j a b => hc j (by omega) b)⟩
  rw [hc 2 (by decide) (by decide)]
  exact h.2.1.x hG.1.2.1.2 hV hw
/-- all that both keep: game, names, round, and the marks; the class read in σ, the reference in τ -/
def al_R (X : XW) (C a : Nat) (σ τ : ST) : Prop :=
  rb (y_v X (q_rf X C 8) σ) (m_c X τ a) (m_wd X τ a) ∧ (σ.1 C 11).toInt = (τ.1 a 24).toInt ∧ (0 ≤ (σ.1 C 11).toInt ∧ (σ.1 C 11).toInt ≤ 3) ∧ ∀ b : Nat, 1 ≤ b → (b : Int) ≤ (σ.1 C 11).toInt → rb (y_v X (q_rf X (q_rf X C 10) (b - 1)) σ) (fun j => m_c X τ a (930 * (b : Int) + j)) (fun j => m_wd X τ a (6 * (b : Int) + j))
def al_C (X : XW) (lb : Nat → Nat) (C a : Nat) : Prop := q_kd X C = 11 ∧ q_kd X a = 12 ∧ y_S X lb ∧ lb C = 1 ∧ y_G X lb (q_rf X C 8) 1 ∧ y_G X lb (q_rf X C 9) 2 ∧ ∀ i : Nat, i < 3 → y_G X lb (q_rf X (q_rf X C 10) i) (3 + i)
theorem al_Cmk {X : XW} {lb : Nat → Nat} {C a : Nat} (S : y_S X lb) (hC : q_kd X C = 11) (ha : q_kd X a = 12) (h1 : lb C = 1) : al_C X lb C a := by
  obtain ⟨T, L, N⟩ := id S
  have k8 : q_kd X (q_rf X C 8) = 1 := (T.1 C 8 (by rw [hC]; decide)).trans (by rw [hC]; rfl)
  have l8 : lb (q_rf X C 8) = 8192 * 1 + 1 := (L C 8 (by rw [hC]; decide)).trans (by rw [h1]; decide)
  have k9 : q_kd X (q_rf X C 9) = 1 := (T.1 C 9 (by rw [hC]; decide)).trans (by rw [hC]; rfl)
  have l9 : lb (q_rf X C 9) = 8192 * 2 + 1 := (L C 9 (by rw [hC]; decide)).trans (by rw [h1]; decide)
  have k10 : q_kd X (q_rf X C 10) = 24 := (T.1 C 10 (by rw [hC]; decide)).trans (by rw [hC]; rfl)
  have l10 : lb (q_rf X C 10) = 26 := (L C 10 (by rw [hC]; decide)).trans (by rw [h1]; decide)
  refine ⟨hC, ha, S, h1, ⟨k8, l8, by decide⟩, ⟨k9, l9, by decide⟩, fun i hi => ?_⟩
  have nz : q_rk (q_kd X (q_rf X C 10)) i ≠ 0 := by
    rw [k10]
    rcases (by omega : i = 0 ∨ i = 1 ∨ i = 2) with e | e | e <;> subst e <;> decide
  refine ⟨(T.1 (q_rf X C 10) i nz).trans ?_, (L (q_rf X C 10) i nz).trans ?_, by omega⟩
  · rw [k10]
    rcases (by omega : i = 0 ∨ i = 1 ∨ i = 2) with e | e | e <;> subst e <;> rfl
  · rw [l10]
    rcases (by omega : i = 0 ∨ i = 1 ∨ i = 2) with e | e | e <;> subst e <;> decide
/-- a game whose owner's cells stand is the same -/
theorem y_v.k {X : XW} {lb : Nat → Nat} {g o : Nat} {σ σ' : ST} (S : y_S X lb) (G : y_G X lb g o) (h : ∀ b, lb b / 8192 = o → ∀ f, σ'.1 b f = σ.1 b f) : y_v X g σ' = y_v X g σ := by
  funext id i
  unfold y_v
  by_cases q : id < 25 ∧ 0 ≤ i
  · rw [if_pos q, if_pos q, h _ (y_own S G q.1)]
  · rw [if_neg q, if_neg q]
section GO
variable {X : XW} {lb : Nat → Nat} {C a : Nat} {σ τ σ' τ' : ST} {V : Nat → Int → Int} {c : Int → Int}
/-- a call that moves the game alone -/
theorem al_R.mv {n : Int} (K : al_C X lb C a) (A : al_R X C a σ τ) (M : m_M (m_c X τ a) (τ.1 a 24).toInt n) (h : mv_R X lb C a σ σ' τ τ' (y_v X (q_rf X C 8) σ) (m_c X τ a)) : al_R X C a σ' τ' := by
  obtain ⟨kC, ka, S, lC, G8, G9, GM⟩ := K
  obtain ⟨⟨A1, A1b, A1c⟩, A2, A3, A4⟩ := A
  obtain ⟨V', c', v1, m1, R', fV, fc, fr, fC, f2, ft⟩ := h
  have k20 := (tb_k S.1 ka).1
  have k23 := (tb_k S.1 ka).2.2.1
  have k28 : q_kd X (q_rf X a 28) = 39 := (S.1.1 a 28 (by rw [ka]; decide)).trans (by rw [ka]; rfl)
  have k29 : q_kd X (q_rf X a 29) = 40 := (S.1.1 a 29 (by rw [ka]; decide)).trans (by rw [ka]; rfl)
  have w1 : m_wd X τ' a = m_wd X τ a := by
    funext j
    exact congrArg Int64.toInt (ft.2.1 _ _ (fun z => z))
  have e24 : τ'.1 a 24 = τ.1 a 24 := ft.1 a 24 (fun z => by
    rcases z with z | z | z | z
    · exact m_ne k20 ka (by decide) z.symm
    · exact absurd z.2 (by decide)
    · exact m_ne k28 ka (by decide) z.symm
    · exact m_ne k29 ka (by decide) z.symm)
  have e11 : σ'.1 C 11 = σ.1 C 11 := fC 11 (by decide)
  refine ⟨⟨?_, ?_, ?_⟩, by rw [e11, e24]; exact A2, by rw [e11]; exact A3, fun b b1 b2 => ?_⟩
  · rw [v1, m1]; exact R'
  · rw [v1, m1, w1, fc 2 (by decide) (by decide)]
    intro p p0 p1
    obtain ⟨a1, a2, a3⟩ := A1b p p0 p1
    rw [fV 6 p (by decide)]
    refine ⟨a1, fun i i0 i1 => by rw [fV 5 _ (by decide)]; exact a2 i i0 i1, ?_⟩
    rw [a3]
    refine tx_wv_ext (fun i hi => ?_)
    show y_v X (q_rf X C 8) σ 5 (8 * p + (0 + (i : Int))) = V' 5 (8 * p + (0 + (i : Int)))
    rw [fV 5 _ (by decide)]
  · rw [v1, m1]
    obtain ⟨h1, h2, h3, h4, n, h5⟩ := A1c
    have q := M.1.1.2.2.2.2.2.1
    refine ⟨?_, ?_, ?_, ?_, n, ?_⟩
    · rw [fV 3 0 (by decide), fc 654 (by decide) (by decide)]; exact h1
    · rw [fc 654 (by decide) (by decide)]; exact h2
    · rw [fV 3 1 (by decide), fc 655 (by decide) (by decide)]; exact h3
    · rw [fV 3 2 (by decide)]; exact h4
    · rw [fV 3 2 (by decide), fc 655 (by decide) (by decide)]
      exact fl_x (fun id i i0 i1 j0 j1 => fV id i (by omega)) (fun j j0 j1 => fc j (by omega) (by omega)) n (by decide) q.2 (by decide) h4.2 h5
  · rw [e11] at b2
    have z := A4 b b1 b2
    have gv : y_v X (q_rf X (q_rf X C 10) (b - 1)) σ' = y_v X (q_rf X (q_rf X C 10) (b - 1)) σ := y_v.k S (GM (b - 1) (by omega)) (fun x hx f => fr x (by omega) (fun e => by rw [e, lC] at hx; omega) f)
    refine z.x (M.2 (b : Int) (by omega) (by rw [A2] at b2; exact b2)).1 (fun id i _ => by rw [gv]) (fun j j0 j1 => ?_) (fun j j0 j1 => by rw [w1])
    show m_c X τ' a (930 * (b : Int) + j) = m_c X τ a (930 * (b : Int) + j)
    rw [m1]
    exact fc _ (by omega) (by omega)
/-- a game copied is the same -/
theorem y_C.cp {g1 g o : Nat} {ρ ρ' : ST} (h : y_C X lb g1 o g ρ ρ' y_all) : (∀ b, lb b / 8192 ≠ o → ∀ f, ρ'.1 b f = ρ.1 b f) ∧ ρ'.2 = ρ.2 ∧ ∀ (id : Nat) (i : Int), y_in y_all id i → y_v X g1 ρ' id i = y_v X g ρ id i := by
  obtain ⟨V1, w, e⟩ := h
  refine ⟨w.1, w.2.1, fun id i hi => ?_⟩
  rw [w.2.2]
  exact e id i hi
theorem on_s {α : Type} (r : Nat) (x : α) (k : Nat → α) : q_on (some r) x k = k r := rfl
theorem on_n {α : Type} (x : α) (k : Nat → α) : q_on none x k = x := rfl
theorem al_mark {n : Int} (K : al_C X lb C a) (A : al_R X C a σ τ) (M : m_M (m_c X τ a) (τ.1 a 24).toInt n) : ∃ (z : Int32) (σ' : ST) (z' : Int32) (τ' : ST), F_X11_mark X σ C = (z, σ') ∧ F_X12_mark X τ a = (z', τ') ∧ z.toInt = z'.toInt ∧ (σ'.1 C 0).toInt = (τ'.1 a 0).toInt ∧ al_R X C a σ' τ' := by
  obtain ⟨kC, ka, S, lC, G8, G9, GM⟩ := id K
  obtain ⟨A1, A2, A3, A4⟩ := id A
  have k20 := (tb_k S.1 ka).1
  have k23 := (tb_k S.1 ka).2.2.1
  have na0 : a ≠ q_rf X a 20 := Ne.symm (m_ne k20 ka (by decide))
  have hC1 : ∀ o, 1 ≤ o → lb C / 8192 ≠ o := fun o ho => by omega
  obtain ⟨m2, s2, t2⟩ := mv_beg S.1 ka (rfl : m_c X τ a = m_c X τ a)
  obtain ⟨k, hk⟩ : ∃ k, k = (σ.1 C 11).toInt := ⟨_, rfl⟩
  rw [← hk] at A2 A3 A4
  have f24 : (q_si (q_si τ a 1 0) a 0 0).1 a 24 = τ.1 a 24 := by rw [si_f (by decide), si_f (by decide)]
  have w2 : m_wd X (q_si (q_si τ a 1 0) a 0 0) a = m_wd X τ a := rfl
  unfold F_X11_mark F_X12_mark F_X11_markAt
  rw [q_letE (σ.1 C 11), q_letE (q_si τ a 1 0), q_letE (q_si (q_si τ a 1 0) a 0 0)]
  obtain ⟨τ2, e2⟩ : ∃ t, t = q_si (q_si τ a 1 0) a 0 0 := ⟨_, rfl⟩
  rw [← e2] at m2 s2 t2 f24 w2 ⊢
  rw [q_letE (τ2.1 a 24), f24, ← A2, ← hk, if_neg (by omega : ¬ k < 0)]
  by_cases q3 : k = 3
  · rw [if_neg (by omega : ¬ k < 3), if_pos q3, q_letE, on_n, mv_none, mv_refuse]
    refine ⟨-1, _, -1, _, rfl, rfl, rfl, by rw [si_eq, si_eq], A.mv K M ?_⟩
    exact mv_mk S G8 (by omega) y_W.rf A1.1 (fun _ _ _ => rfl) (fun _ _ _ => rfl) 7 ((mv_cell S.1 ka 0 7).trans m2) (t2.si _ (Or.inr (Or.inl ⟨rfl, Or.inl rfl⟩)))
  · rw [if_pos (by omega : k < 3), if_neg q3, q_letE, on_s]
    have hf : (σ.1 C 11).toNatClampNeg = k.toNat := by rw [ar_cl, ← hk]
    rw [hf]
    have one : (1 : Int32).toInt = 1 := rfl
    have zero : (0 : Int32).toInt = 0 := rfl
    -- the class
    obtain ⟨ow, o2, oV⟩ := (tb_copy (σ := σ) (g := q_rf X C 8) S (GM k.toNat (by omega)) G8 (by omega)).cp
    rw [q_letE (F_X0_copyFrom X σ (q_rf X (q_rf X C 10) k.toNat) (q_rf X C 8))]
    obtain ⟨σ1, e1⟩ : ∃ t, t = F_X0_copyFrom X σ (q_rf X (q_rf X C 10) k.toNat) (q_rf X C 8) := ⟨_, rfl⟩
    rw [← e1] at ow o2 oV ⊢
    have f11 : σ1.1 C 11 = σ.1 C 11 := ow C (hC1 _ (by omega)) 11
    obtain ⟨u, hu⟩ : ∃ u, u = σ1.1 C 11 + 1 := ⟨_, rfl⟩
    have uv : u.toInt = k + 1 := by rw [hu, ar_add, f11, one, ← hk, ar_wr (by omega) (by omega)]
    rw [q_letE (σ1.1 C 11), ← hu, q_letE u, q_letE (q_si σ1 C 11 u), q_letE ((q_si σ1 C 11 u).1 C 11), si_eq, mv_good]
    -- the reference
    have f24' : (τ2.1 a 24).toInt = k := by rw [f24]; exact A2.symm
    obtain ⟨v, hv⟩ : ∃ v, v = τ2.1 a 24 + 1 := ⟨_, rfl⟩
    have vv : v.toInt = k + 1 := by rw [hv, ar_add, f24', one, ar_wr (by omega) (by omega)]
    have hv' : τ.1 a 24 + 1 = v := by rw [hv, f24]
    rw [q_letE (τ.1 a 24), hv', q_letE v, q_letE (q_si τ2 a 24 v), q_letE ((q_si τ2 a 24 v).1 a 24), si_eq]
    have m3 : m_c X (q_si τ2 a 24 v) a = m_c X τ a := (mv_cell S.1 ka 24 v).trans m2
    have w3 : m_wd X (q_si τ2 a 24 v) a = m_wd X τ a := w2
    obtain ⟨tc, mc, wc⟩ := tm_copy (X := X) (τ := q_si τ2 a 24 v) S.1 ka (v1 := 0) (v2 := v) (s := 0) (d := k + 1) rfl vv ⟨by decide, by decide⟩ ⟨by omega, by omega⟩ (by omega)
    rw [m3] at mc
    rw [w3] at wc
    have s3 : (q_si τ2 a 24 v).1 a 0 = 0 := by rw [si_f (by decide), s2]
    have v3 : (q_si τ2 a 24 v).1 a 24 = v := si_eq _ _ _ _
    obtain ⟨τ3, e3⟩ : ∃ t, t = q_si τ2 a 24 v := ⟨_, rfl⟩
    rw [← e3] at tc mc wc s3 v3 ⊢
    rw [q_letE (F_X12_copy X τ3 a 0 v)]
    obtain ⟨τ4, e4⟩ : ∃ t, t = F_X12_copy X τ3 a 0 v := ⟨_, rfl⟩
    rw [← e4] at tc mc wc ⊢
    have g24 : τ4.1 a 24 = v := (tc.1 a 24 na0).trans v3
    rw [q_letE (τ4.1 a 24), g24]
    refine ⟨u, _, v, τ4, rfl, rfl, by rw [uv, vv], ?_, ?_, ?_, ?_, fun b b1 b2 => ?_⟩
    · rw [si_eq, tc.1 a 0 na0, s3]
    · have gv : y_v X (q_rf X C 8) (q_si (q_si σ1 C 11 u) C 0 0) = y_v X (q_rf X C 8) σ := y_v.k S G8 (fun x hx f => by
        have nx : x ≠ C := fun e => by rw [e, lC] at hx; omega
        rw [q_si_ne nx, q_si_ne nx]
        exact ow x (by omega) f)
      rw [gv]
      exact A1.x M.1.1 (fun _ _ _ => rfl) (fun j j0 j1 => by rw [mc j j0, if_neg (by omega)]) (fun j j0 j1 => by rw [wc j j0, if_neg (by omega)])
    · rw [si_f (by decide), si_eq, uv, g24, vv]
    · rw [si_f (by decide), si_eq, uv]; omega
    · rw [si_f (by decide), si_eq, uv] at b2
      by_cases eb : (b : Int) = k + 1
      · have eb' : b - 1 = k.toNat := by omega
        refine A1.x M.1.1 (fun id i hi => ?_) (fun j j0 j1 => ?_) (fun j j0 j1 => ?_)
        · rw [eb', ← oV id i hi]
          refine congrFun (congrFun (y_v.k S (GM k.toNat (by omega)) (fun x hx f => ?_)) id) i
          have nx : x ≠ C := fun e => by rw [e, lC] at hx; omega
          rw [q_si_ne nx, q_si_ne nx]
        · show m_c X τ4 a (930 * (b : Int) + j) = _
          rw [eb, mc _ (by omega), if_pos (by omega)]
          congr 1
          omega
        · show m_wd X τ4 a (6 * (b : Int) + j) = _
          rw [eb, wc _ (by omega), if_pos (by omega)]
          congr 1
          omega
      · refine (A4 b b1 (by omega)).x (M.2 (b : Int) (by omega) (by rw [← A2]; omega)).1 (fun id i _ => ?_) (fun j j0 j1 => ?_) (fun j j0 j1 => ?_)
        · refine congrFun (congrFun (y_v.k S (GM (b - 1) (by omega)) (fun x hx f => ?_)) id) i
          have nx : x ≠ C := fun e => by rw [e, lC] at hx; omega
          rw [q_si_ne nx, q_si_ne nx]
          exact ow x (by omega) f
        · show m_c X τ4 a (930 * (b : Int) + j) = _
          rw [mc _ (by omega), if_neg (by omega)]
        · show m_wd X τ4 a (6 * (b : Int) + j) = _
          rw [wc _ (by omega), if_neg (by omega)]
theorem al_back {n : Int} (K : al_C X lb C a) (A : al_R X C a σ τ) (M : m_M (m_c X τ a) (τ.1 a 24).toInt n) : ∃ (z : Int32) (σ' : ST) (z' : Int32) (τ' : ST), F_X11_back X σ C = (z, σ') ∧ F_X12_back X τ a = (z', τ') ∧ z.toInt = z'.toInt ∧ (σ'.1 C 0).toInt = (τ'.1 a 0).toInt ∧ al_R X C a σ' τ' := by
  obtain ⟨kC, ka, S, lC, G8, G9, GM⟩ := id K
  obtain ⟨A1, A2, A3, A4⟩ := id A
  have k20 := (tb_k S.1 ka).1
  have k23 := (tb_k S.1 ka).2.2.1
  have na0 : a ≠ q_rf X a 20 := Ne.symm (m_ne k20 ka (by decide))
  have hC1 : ∀ o, 1 ≤ o → lb C / 8192 ≠ o := fun o ho => by omega
  obtain ⟨m2, s2, t2⟩ := mv_beg S.1 ka (rfl : m_c X τ a = m_c X τ a)
  obtain ⟨k, hk⟩ : ∃ k, k = (σ.1 C 11).toInt := ⟨_, rfl⟩
  rw [← hk] at A2 A3 A4
  have one : (1 : Int32).toInt = 1 := rfl
  have f24 : (q_si (q_si τ a 1 0) a 0 0).1 a 24 = τ.1 a 24 := by rw [si_f (by decide), si_f (by decide)]
  have w2 : m_wd X (q_si (q_si τ a 1 0) a 0 0) a = m_wd X τ a := rfl
  unfold F_X11_back F_X12_back F_X11_markAt
  rw [q_letE (σ.1 C 11), q_letE (q_si τ a 1 0), q_letE (q_si (q_si τ a 1 0) a 0 0)]
  obtain ⟨τ2, e2⟩ : ∃ t, t = q_si (q_si τ a 1 0) a 0 0 := ⟨_, rfl⟩
  rw [← e2] at m2 s2 t2 f24 w2 ⊢
  have i1 : (σ.1 C 11 - 1).toInt = k - 1 := by rw [ar_sub, one, ← hk, ar_wr (by omega) (by omega)]
  rw [q_letE (σ.1 C 11 - 1), q_letE (τ2.1 a 24), f24, ← A2, i1]
  by_cases q0 : k = 0
  · rw [if_pos (by omega : k - 1 < 0), if_pos q0, q_letE, on_n, mv_none, mv_refuse]
    refine ⟨-1, _, -1, _, rfl, rfl, rfl, by rw [si_eq, si_eq], A.mv K M ?_⟩
    exact mv_mk S G8 (by omega) y_W.rf A1.1 (fun _ _ _ => rfl) (fun _ _ _ => rfl) 8 ((mv_cell S.1 ka 0 8).trans m2) (t2.si _ (Or.inr (Or.inl ⟨rfl, Or.inl rfl⟩)))
  · rw [if_neg (by omega : ¬ k - 1 < 0), if_pos (by omega : k - 1 < 3), if_neg q0, q_letE, on_s]
    have hf : (σ.1 C 11 - 1).toNatClampNeg = (k - 1).toNat := by rw [ar_cl, i1]
    rw [hf]
    have ek : (k - 1).toNat = k.toNat - 1 := by omega
    rw [ek]
    -- the class
    obtain ⟨ow, o2, oV⟩ := (tb_copy (σ := σ) (g := q_rf X (q_rf X C 10) (k.toNat - 1)) S G8 (GM (k.toNat - 1) (by omega)) (by omega)).cp
    rw [q_letE (F_X0_copyFrom X σ (q_rf X C 8) (q_rf X (q_rf X C 10) (k.toNat - 1)))]
    obtain ⟨σ1, e1⟩ : ∃ t, t = F_X0_copyFrom X σ (q_rf X C 8) (q_rf X (q_rf X C 10) (k.toNat - 1)) := ⟨_, rfl⟩
    rw [← e1] at ow o2 oV ⊢
    have f11 : σ1.1 C 11 = σ.1 C 11 := ow C (hC1 _ (by omega)) 11
    obtain ⟨u, hu⟩ : ∃ u, u = σ1.1 C 11 - 1 := ⟨_, rfl⟩
    have uv : u.toInt = k - 1 := by rw [hu, f11, i1]
    rw [q_letE (σ1.1 C 11), ← hu, q_letE u, q_letE (q_si σ1 C 11 u), q_letE ((q_si σ1 C 11 u).1 C 11), si_eq, mv_good]
    -- the reference
    have f24' : (τ.1 a 24).toInt = k := A2.symm
    obtain ⟨tc, mc, wc⟩ := tm_copy (X := X) (τ := τ2) S.1 ka (v1 := τ.1 a 24) (v2 := 0) (s := k) (d := 0) f24' rfl ⟨by omega, by omega⟩ ⟨by decide, by decide⟩ q0
    rw [m2] at mc
    rw [w2] at wc
    rw [q_letE (τ.1 a 24), q_letE (F_X12_copy X τ2 a (τ.1 a 24) 0)]
    obtain ⟨τ3, e3⟩ : ∃ t, t = F_X12_copy X τ2 a (τ.1 a 24) 0 := ⟨_, rfl⟩
    rw [← e3] at tc mc wc ⊢
    have g24 : τ3.1 a 24 = τ.1 a 24 := (tc.1 a 24 na0).trans f24
    obtain ⟨v, hv⟩ : ∃ v, v = τ3.1 a 24 - 1 := ⟨_, rfl⟩
    have vv : v.toInt = k - 1 := by rw [hv, ar_sub, g24, one, f24', ar_wr (by omega) (by omega)]
    rw [q_letE (τ3.1 a 24), ← hv, q_letE v, q_letE (q_si τ3 a 24 v), q_letE ((q_si τ3 a 24 v).1 a 24), si_eq]
    have m4 : m_c X (q_si τ3 a 24 v) a = m_c X τ3 a := mv_cell S.1 ka 24 v
    have w4 : m_wd X (q_si τ3 a 24 v) a = m_wd X τ3 a := rfl
    have Mk := (M.2 k (by omega) (by rw [f24']; omega)).1
    have Ak := A4 k.toNat (by omega) (by omega)
    have ekk : ((k.toNat : Nat) : Int) = k := by omega
    rw [ekk] at Ak
    refine ⟨u, _, v, _, rfl, rfl, by rw [uv, vv], ?_, ?_, ?_, ?_, fun b b1 b2 => ?_⟩
    · rw [si_eq, si_f (by decide), tc.1 a 0 na0, s2]
    · rw [m4, w4]
      refine Ak.x Mk (fun id i hi => ?_) (fun j j0 j1 => ?_) (fun j j0 j1 => ?_)
      · rw [← oV id i hi]
        refine congrFun (congrFun (y_v.k S G8 (fun x hx f => ?_)) id) i
        have nx : x ≠ C := fun e => by rw [e, lC] at hx; omega
        rw [q_si_ne nx, q_si_ne nx]
      · rw [mc j j0, if_pos (by omega)]
        congr 1
        omega
      · rw [wc j j0, if_pos (by omega)]
        congr 1
        omega
    · rw [si_f (by decide), si_eq, uv, si_eq, vv]
    · rw [si_f (by decide), si_eq, uv]; omega
    · rw [si_f (by decide), si_eq, uv] at b2
      rw [m4, w4]
      refine (A4 b b1 (by omega)).x (M.2 (b : Int) (by omega) (by rw [← A2]; omega)).1 (fun id i _ => ?_) (fun j j0 j1 => ?_) (fun j j0 j1 => ?_)
      · refine congrFun (congrFun (y_v.k S (GM (b - 1) (by omega)) (fun x hx f => ?_)) id) i
        have nx : x ≠ C := fun e => by rw [e, lC] at hx; omega
        rw [q_si_ne nx, q_si_ne nx]
        exact ow x (by omega) f
      · show m_c X τ3 a (930 * (b : Int) + j) = _
        rw [mc _ (by omega), if_neg (by omega)]
      · show m_wd X τ3 a (6 * (b : Int) + j) = _
        rw [wc _ (by omega), if_neg (by omega)]
end GO

/-! FROM 49p.tableF.lean.txt -/
/-! TABLE: what it leaves alone -/
section TNF
variable {X : XW} {lb : Nat → Nat} {C a : Nat} {σ τ : ST} {m : Int} {B : Int → Int}
theorem tb_tableF (Cl : tb_Cls X lb C a) (h5 : (σ.1 C 5).toInt = m) (h8 : (τ.1 a 8).toInt = m) (hm : 0 ≤ m ∧ m ≤ 900) (hB : ∀ p : Int, 0 ≤ p → p < m → (σ.1 (q_rf X C 4) p.toNat).toInt = B p ∧ -128 ≤ B p ∧ B p ≤ 127) (hB2 : ∀ p : Int, 0 ≤ p → p < m → (τ.1 (q_rf X a 7) p.toNat).toInt = B p) (v : Int32) :
    ∃ (z : Int32) (σ' : ST) (z' : Int32) (τ' : ST), F_X11_table X σ C v = (z, σ') ∧ F_X12_table X τ a v = (z', τ') ∧ z.toInt = z'.toInt ∧ (σ'.1 C 0).toInt = (τ'.1 a 0).toInt ∧ tb_Out X C a σ τ v m z σ' τ' ∧ ∀ b, lb b / 8192 = 3 ∨ lb b / 8192 = 4 ∨ lb b / 8192 = 5 → ∀ f, σ'.1 b f = σ.1 b f := by
  obtain ⟨kC, ka, Y, H, G1, hTl, hUl, hlC⟩ := Cl
  have z0 : (0 : Int32).toInt = 0 := rfl
  have m1 : ((-1) : Int32).toInt = -1 := rfl
  have e900 : (900 : Int32).toInt = 900 := rfl
  have ku : q_kd X (q_rf X a 7) = 33 := (tb_k Y.1 ka).2.2.2
  have nU : q_rf X a 7 ≠ a := m_ne ku ka (by decide)
  obtain ⟨D, hD⟩ : ∃ D, D = q_rf X C 12 := ⟨_, rfl⟩
  obtain ⟨T, hT⟩ : ∃ T, T = q_rf X C 4 := ⟨_, rfl⟩
  obtain ⟨g, hg⟩ : ∃ g, g = q_rf X D 8 := ⟨_, rfl⟩
  obtain ⟨g1, hg1⟩ : ∃ g, g = q_rf X C 8 := ⟨_, rfl⟩
  rw [← hD, ← hT, ← hg] at H
  rw [← hT] at hTl hB
  rw [← hg1] at G1
  have kD : q_kd X D = 9 := H.1
  have kT : q_kd X T = 22 := H.2.2.2.2.2.2.2.2
  have nTD : T ≠ D := m_ne kT kD (by decide)
  have nCD : C ≠ D := m_ne kC kD (by decide)
  have nCA : C ≠ tb_T X D := m_ne kC H.2.2.2.2.2.2.1 (by decide)
  have hC6 : lb C / 8192 ≠ 6 := by omega
  have hC1 : lb C / 8192 ≠ 1 := by omega
  have hD1 : lb D / 8192 ≠ 1 := by have := H.2.2.2.1; omega
  -- the reference begins
  have t2 : tkl (fun b f => b = a ∧ (f = 0 ∨ f = 1)) (fun _ _ => False) τ (q_si (q_si τ a 1 0) a 0 0) := (tkl.rf.si _ ⟨rfl, Or.inr rfl⟩).si _ ⟨rfl, Or.inl rfl⟩
  have d8 : ((q_si (q_si τ a 1 0) a 0 0).1 a 8).toInt = m := by rw [si_f (by decide), si_f (by decide)]; exact h8
  have d0 : (q_si (q_si τ a 1 0) a 0 0).1 a 0 = 0 := si_eq _ _ _ _
  unfold F_X11_table F_X12_table F_X12_opens F_X12_no F_X11_none F_X11_good
  rw [q_letE (q_si τ a 1 0), q_letE (q_si (q_si τ a 1 0) a 0 0)]
  obtain ⟨τ2, e2⟩ : ∃ s, s = q_si (q_si τ a 1 0) a 0 0 := ⟨_, rfl⟩
  rw [← e2] at t2 d8 d0 ⊢
  have no5 : tkl (fun b f => b = a ∧ (f = 0 ∨ f = 1)) (fun _ _ => False) τ (q_si τ2 a 0 5) := t2.si _ ⟨rfl, Or.inl rfl⟩
  have st5 : ((q_si σ C 0 5).1 C 0).toInt = ((q_si τ2 a 0 5).1 a 0).toInt := by rw [si_eq, si_eq]
  have tc5 : tk (fun b f => b = C ∧ f = 0) σ (q_si σ C 0 5) := tk.rf.si _ ⟨rfl, rfl⟩
  have fr5 : ∀ b, lb b / 8192 = 3 ∨ lb b / 8192 = 4 ∨ lb b / 8192 = 5 → ∀ f, (q_si σ C 0 5).1 b f = σ.1 b f := fun b hb f => tc5.1 b f (fun z => by
    rw [z.1] at hb
    omega)
  have hD0 := H.2.2.2.1
  have hA0 := H.2.2.2.2.2.1
  by_cases q1 : v.toInt < 0
  · rw [if_pos q1, if_pos q1, q_letE, q_biP, q_letE, q_biP, q_biP, if_pos (by decide : (0 : Int32).toInt = 0)]
    exact ⟨-1, _, -1, _, rfl, rfl, rfl, st5, Or.inl ⟨Or.inl q1, tc5, no5⟩, fr5⟩
  · rw [if_neg q1, if_neg q1, q_letE (σ.1 C 5), h5, q_letE (τ2.1 a 8), d8]
    by_cases q2 : m < v.toInt
    · rw [if_pos q2, if_pos q2, q_letE, q_biP, q_letE, q_biP, q_biP, if_pos (by decide : (0 : Int32).toInt = 0)]
      exact ⟨-1, _, -1, _, rfl, rfl, rfl, st5, Or.inl ⟨Or.inr q2, tc5, no5⟩, fr5⟩
    · rw [if_neg q2, if_neg q2, e900, if_neg (by omega : ¬ (900 : Int) < v.toInt)]
      rw [q_letE (q_si τ2 a 9 v), q_letE (q_si (q_si τ2 a 9 v) a 8 0), q_letE (q_si (q_si (q_si τ2 a 9 v) a 8 0) a 16 0), q_letE (q_si (q_si (q_si (q_si τ2 a 9 v) a 8 0) a 16 0) a 12 0)]
      have t3 : tkl (fun b f => b = a ∧ (f = 9 ∨ f = 8 ∨ f = 16 ∨ f = 12)) (fun _ _ => False) τ2 (q_si (q_si (q_si (q_si τ2 a 9 v) a 8 0) a 16 0) a 12 0) := (((tkl.rf.si _ ⟨rfl, Or.inl rfl⟩).si _ ⟨rfl, Or.inr (Or.inl rfl)⟩).si _ ⟨rfl, Or.inr (Or.inr (Or.inl rfl))⟩).si _ ⟨rfl, Or.inr (Or.inr (Or.inr rfl))⟩
      have c9 : (q_si (q_si (q_si (q_si τ2 a 9 v) a 8 0) a 16 0) a 12 0).1 a 9 = v := by rw [si_f (by decide), si_f (by decide), si_f (by decide), si_eq]
      have c8 : (q_si (q_si (q_si (q_si τ2 a 9 v) a 8 0) a 16 0) a 12 0).1 a 8 = 0 := by rw [si_f (by decide), si_f (by decide), si_eq]
      have c16 : (q_si (q_si (q_si (q_si τ2 a 9 v) a 8 0) a 16 0) a 12 0).1 a 16 = 0 := by rw [si_f (by decide), si_eq]
      have c12 : (q_si (q_si (q_si (q_si τ2 a 9 v) a 8 0) a 16 0) a 12 0).1 a 12 = 0 := si_eq _ _ _ _
      obtain ⟨τ3, e3⟩ : ∃ s, s = q_si (q_si (q_si (q_si τ2 a 9 v) a 8 0) a 16 0) a 12 0 := ⟨_, rfl⟩
      rw [← e3] at t3 c9 c8 c16 c12 ⊢
      have c0 : τ3.1 a 0 = 0 := by rw [t3.1 a 0 (fun q => absurd q.2 (by decide)), d0]
      have M0 : tm_E X τ3 a v.toInt B := ⟨by rw [c9], ⟨by omega, by omega⟩, nU, fun p p0 p1 => by
        rw [t3.1 _ _ (fun q => nU q.1), t2.1 _ _ (fun q => nU q.1)]
        exact ⟨hB2 p p0 (by omega), (hB p p0 (by omega)).2⟩⟩
      obtain ⟨z, σ8, τ8, f1, f2, Gf, Pf, out⟩ := tb_takes Y H ka hTl nTD (v := v) rfl ⟨by omega, by omega⟩ (fun p p0 p1 => hB p p0 (by omega)) M0 (by rw [c16]; rfl) (by rw [c12]; rfl) (by rw [c0]; rfl) (by rw [c8]; rfl)
      rw [q_letE (F_X12_next X τ3 a), q_biP (1 : Int32) (F_X12_next X τ3 a), if_neg (by decide : ¬ (1 : Int32).toInt = 0), f2, ← hD, ← hT, ← hg1, f1, q_biP z σ8]
      have C8 : ∀ f, σ8.1 C f = σ.1 C f := Gf.1 C hC6 nCD nCA
      -- the class ends its reading
      unfold F_X11_endReading
      rw [q_letE (q_si σ8 C 5 0), q_letE ((q_si σ8 C 5 0).1 D 6), q_letE (q_si (q_si σ8 C 5 0) C 6 ((q_si σ8 C 5 0).1 D 6)), q_letE ((q_si (q_si σ8 C 5 0) C 6 ((q_si σ8 C 5 0).1 D 6)).1 D 7), q_letE (q_si (q_si (q_si σ8 C 5 0) C 6 ((q_si σ8 C 5 0).1 D 6)) C 7 ((q_si (q_si σ8 C 5 0) C 6 ((q_si σ8 C 5 0).1 D 6)).1 D 7))]
      have t9 : tk (fun b f => b = C ∧ (f = 5 ∨ f = 6 ∨ f = 7)) σ8 (q_si (q_si (q_si σ8 C 5 0) C 6 ((q_si σ8 C 5 0).1 D 6)) C 7 ((q_si (q_si σ8 C 5 0) C 6 ((q_si σ8 C 5 0).1 D 6)).1 D 7)) := ((tk.rf.si _ ⟨rfl, Or.inl rfl⟩).si _ ⟨rfl, Or.inr (Or.inl rfl)⟩).si _ ⟨rfl, Or.inr (Or.inr rfl)⟩
      have g5 : (q_si (q_si (q_si σ8 C 5 0) C 6 ((q_si σ8 C 5 0).1 D 6)) C 7 ((q_si (q_si σ8 C 5 0) C 6 ((q_si σ8 C 5 0).1 D 6)).1 D 7)).1 C 5 = 0 := by rw [si_f (by decide), si_f (by decide), si_eq]
      have g6 : (q_si (q_si (q_si σ8 C 5 0) C 6 ((q_si σ8 C 5 0).1 D 6)) C 7 ((q_si (q_si σ8 C 5 0) C 6 ((q_si σ8 C 5 0).1 D 6)).1 D 7)).1 C 6 = σ8.1 D 6 := by rw [si_f (by decide), si_eq, q_si_ne (Ne.symm nCD)]
      have g7 : (q_si (q_si (q_si σ8 C 5 0) C 6 ((q_si σ8 C 5 0).1 D 6)) C 7 ((q_si (q_si σ8 C 5 0) C 6 ((q_si σ8 C 5 0).1 D 6)).1 D 7)).1 C 7 = σ8.1 D 7 := by rw [si_eq, q_si_ne (Ne.symm nCD), q_si_ne (Ne.symm nCD)]
      obtain ⟨σ9, e9⟩ : ∃ s, s = q_si (q_si (q_si σ8 C 5 0) C 6 ((q_si σ8 C 5 0).1 D 6)) C 7 ((q_si (q_si σ8 C 5 0) C 6 ((q_si σ8 C 5 0).1 D 6)).1 D 7) := ⟨_, rfl⟩
      rw [← e9] at t9 g5 g6 g7 ⊢
      rw [q_letE σ9]
      have vw : ∀ (h o : Nat), y_G X lb h o → o ≠ 0 → ∀ id, id < 25 → ∀ f, σ9.1 (y_gA X h id) f = σ8.1 (y_gA X h id) f := fun h o G ho id hid f => t9.1 _ _ (fun q => by
        have := y_own Y G hid
        rw [q.1] at this
        omega)
      rcases out with ⟨o1, V, r, c, w, t, f9, f10, I⟩ | ⟨o1, o2⟩
      · obtain ⟨S, M, K, h0, Rr⟩ := I
        obtain ⟨zz, τ9, x1, x2, x3, x4, x5, x6, x7⟩ := tm_end1 (X := X) Y.1 ka h0
        rw [x1, if_neg (by omega : ¬ z.toInt = 0), ← hg]
        have cp : y_C X lb g1 1 g σ9 (F_X0_copyFrom X σ9 g1 g) y_all := tb_copy Y G1 H.2.2.1 (by decide)
        rw [q_letE (F_X0_copyFrom X σ9 g1 g)]
        obtain ⟨σ10, e10⟩ : ∃ s, s = F_X0_copyFrom X σ9 g1 g := ⟨_, rfl⟩
        rw [← e10] at cp ⊢
        obtain ⟨V1, W, hV⟩ := cp
        have vg : y_v X g σ9 = V := by
          rw [← S.2.1]
          funext id i
          unfold y_v
          by_cases q : id < 25 ∧ 0 ≤ i
          · rw [if_pos q, if_pos q, vw g 6 H.2.2.1 (by decide) id q.1]
          · rw [if_neg q, if_neg q]
        have p4 : (σ10.1 (q_rf X g1 0) 4).toInt = c 3722 := by
          have z1 := y_v_rdn (X := X) (g := g1) (σ := σ10) (id := 1) (by decide) 4
          rw [W.2.2] at z1
          refine z1.trans ?_
          have z2 := hV 1 ((4 : Nat) : Int) ⟨(1, 4), by decide, rfl, Or.inr ⟨by decide, rfl⟩⟩
          rw [z2, vg]
          exact Rr.b.2.2.1
        have C10 : ∀ f, σ10.1 C f = σ9.1 C f := W.1 C hC1
        have nCg : ∀ id, id < 25 → C ≠ y_gA X g1 id := fun id hid => y_gA_ne Y G1 hid hC1
        rw [q_letE (σ10.1 (q_rf X g1 0) 4), q_letE (q_si σ10 C 0 0), q_biP]
        have c5 : (q_si σ10 C 0 0).1 C 5 = 0 := by rw [si_f (by decide), C10, g5]
        have c6 : (q_si σ10 C 0 0).1 C 6 = σ8.1 D 6 := by rw [si_f (by decide), C10, g6]
        have c7 : (q_si σ10 C 0 0).1 C 7 = σ8.1 D 7 := by rw [si_f (by decide), C10, g7]
        have k67 := K.2.2.2.2.2.2.2.2
        have n20 : a ≠ q_rf X a 20 := Ne.symm (m_ne (tb_k Y.1 ka).1 ka (by decide))
        have a08 : ∀ f, f ≠ 10 → f ≠ 11 → τ9.1 a f = τ8.1 a f := fun f q1 q2 => x5.1 a f (fun q => by
          rcases q with q | q
          · exact n20 q
          · omega)
        have cc : ∀ j : Int, 0 ≤ j → j < 3720 → c j = m_c X τ a j := fun j a1 a2 => by
          rw [← M.2.1, Pf.1 j a1 a2]
          exact congrArg Int32.toInt ((t3.1 _ _ (fun q => n20 q.1.symm)).trans (t2.1 _ _ (fun q => n20 q.1.symm)))
        have ww : ∀ j : Int, 0 ≤ j → j < 24 → w j = m_wd X τ a j := fun j a1 a2 => by
          rw [← M.2.2.1, Pf.2.1 j a1 a2]
          exact congrArg Int64.toInt ((t3.2.1 _ _ (fun q => q)).trans (t2.2.1 _ _ (fun q => q)))
        rw [M.2.1] at x2 x6
        rw [M.2.2.1] at x7
        refine ⟨_, _, zz, τ9, rfl, rfl, p4.trans x2.symm, ?_, Or.inr ⟨⟨by omega, by omega⟩, by rw [c5]; rfl, ?_, ?_, ?_, Or.inr ⟨?_, V, r, c, w, t, Rr, cc, ww, p4, fun id i hi => ?_, x6, x7⟩⟩, fun b hb f => ?_⟩
        · rw [si_eq, a08 0 (by decide) (by decide), M.2.2.2.2.2.2.1]
          rfl
        · rw [a08 8 (by decide) (by decide)]
          exact M.2.2.2.2.2.2.2
        · rw [c6, x3]
          exact k67.1
        · rw [c7, x4]
          exact k67.2
        · rw [c6]
          exact k67.1
        · have z1 := hV id i hi
          rw [vg] at z1
          rw [← hg1, ← z1, ← W.2.2]
          unfold y_v
          by_cases q : id < 25 ∧ 0 ≤ i
          · rw [if_pos q, if_pos q, q_si_ne (Ne.symm (nCg id q.1))]
          · rw [if_neg q, if_neg q]
        · have nb : b ≠ C := fun z => by
            rw [z] at hb
            omega
          rw [q_si_ne nb, W.1 b (by omega) f, t9.1 b f (fun z => nb z.1), Gf.1 b (by omega) (fun z => by
            rw [z] at hb
            omega) (fun z => by
            rw [z] at hb
            omega)]
      · obtain ⟨τ9, x1, x2, x3, x4, x5⟩ := tm_end0 (X := X) o2.2.1
        rw [x1, if_pos o1, q_letE, q_biP]
        have n20 : a ≠ q_rf X a 20 := Ne.symm (m_ne (tb_k Y.1 ka).1 ka (by decide))
        refine ⟨_, _, _, τ9, rfl, rfl, rfl, ?_, Or.inr ⟨⟨by omega, by omega⟩, ?_, ?_, ?_, ?_, Or.inl ⟨rfl, ?_, fun j a1 a2 => ?_, fun j a1 a2 => ?_⟩⟩, fun b hb f => ?_⟩
        · rw [si_eq, x4]
          rfl
        · rw [si_f (by decide), g5]
          rfl
        · rw [x5.1 a 8 (fun q => absurd q.2 (by decide)), Pf.2.2.2, c8]
          rfl
        · rw [si_f (by decide), g6, x2]
          exact o2.1
        · rw [si_f (by decide), g7, x3]
          exact o2.2.2
        · funext id i
          unfold y_v
          by_cases q : id < 25 ∧ 0 ≤ i
          · have own := y_own Y G1 q.1
            rw [if_pos q, if_pos q, ← hg1, q_si_ne (fun z => by rw [z] at own; omega), vw g1 1 G1 (by decide) id q.1, Gf.1 _ (by omega) (fun z => by rw [z] at own; omega) (fun z => by
              rw [z] at own
              have := H.2.2.2.2.2.1
              omega)]
          · rw [if_neg q, if_neg q]
        · have y1 : m_c X τ9 a j = m_c X τ8 a j := congrArg Int32.toInt (x5.1 _ _ (fun q => n20 q.1.symm))
          rw [y1, Pf.1 j a1 a2]
          exact congrArg Int32.toInt ((t3.1 _ _ (fun q => n20 q.1.symm)).trans (t2.1 _ _ (fun q => n20 q.1.symm)))
        · have y1 : m_wd X τ9 a j = m_wd X τ8 a j := congrArg Int64.toInt (x5.2.1 _ _ (fun q => q))
          rw [y1, Pf.2.1 j a1 a2]
          exact congrArg Int64.toInt ((t3.2.1 _ _ (fun q => q)).trans (t2.2.1 _ _ (fun q => q)))
        · have nb : b ≠ C := fun z => by
            rw [z] at hb
            omega
          rw [q_si_ne nb, t9.1 b f (fun z => nb z.1), Gf.1 b (by omega) (fun z => by
            rw [z] at hb
            omega) (fun z => by
            rw [z] at hb
            omega)]
end TNF

/-! FROM 49q.altable.lean.txt -/
/-! A TABLE: all stays the same -/
/-- a new game -/
theorem rb.new {V : Nat → Int → Int} {r c w t c' w' : Int → Int} (h : tb_R V r c w t) (hc : ∀ j : Int, 0 ≤ j → j < 930 → c' j = m_fin c (3720 + j)) (hw : ∀ j : Int, 0 ≤ j → j < 6 → w' j = w (24 + j)) : rb V c' w' := by
  obtain ⟨⟨⟨n1, n2, n3, n4, n5⟩, n6, n7, n8, n9⟩, ⟨z1, z2, z3, z4, z5, z6, z7, z8, z9, z10, z11⟩, nm, ⟨h1, h2, h3⟩, mn, k1, k2, k3⟩ := h
  obtain ⟨b0, b1, b2, b3, b4, x5, x42, x54, xs, x14, xk⟩ := mn
  have d : ∀ j : Int, 0 ≤ j → j < 930 → j ≠ 6 → j ≠ 8 → c' j = c (3720 + j) := fun j j0 j1 j6 j8 => by
    rw [hc j j0 j1]
    unfold m_fin
    rw [m_up_ne (by omega), m_up_ne (by omega)]
  have d8 : c' 8 = -1 := by
    rw [hc 8 (by decide) (by decide)]
    unfold m_fin
    rw [m_up_ne (by decide)]
    exact m_up_eq _ _ _
  have d6 : c' 6 = if c 3722 = 0 then -1 else 0 := by
    rw [hc 6 (by decide) (by decide)]
    exact m_up_eq _ _ _
  have e2 : c' 2 = c 3722 := d 2 (by decide) (by decide) (by decide) (by decide)
  have e9 : c' 9 = 0 := (d 9 (by decide) (by decide) (by decide) (by decide)).trans (x5 3729 (by decide) (by decide))
  have n9' : (c' 9).toNat = 0 := by rw [e9]; rfl
  have hand : ∀ j : Int, 0 ≤ j → j < 60 → c' (34 + j) = c (3754 + j) := fun j j0 j1 => by
    rw [d _ (by omega) (by omega) (by omega) (by omega)]
    congr 1
    omega
  refine ⟨⟨⟨?_, ?_, ?_, ?_, ?_, ?_⟩, ⟨?_, ?_, ⟨?_, ?_⟩, ?_⟩, fun p p0 p1 => ⟨?_, ?_, ?_, ?_⟩, ⟨fun j j0 j1 => ?_, fun p p0 p1 => ?_⟩, ⟨?_, ?_, fun k k0 kk => by omega⟩, ⟨fun p k p0 p1 k0 kk => ?_, fun k k0 kk => ?_⟩⟩, ?_, ⟨?_, ?_, ?_, ?_, 0, ?_⟩⟩
  · rw [d 0 (by decide) (by decide) (by decide) (by decide)]; exact n1
  · rw [d 1 (by decide) (by decide) (by decide) (by decide)]; exact n2
  · rw [d 3 (by decide) (by decide) (by decide) (by decide)]; exact n3
  · rw [d 4 (by decide) (by decide) (by decide) (by decide)]; exact n4
  · rw [e2]; exact n5
  · rw [d 3 (by decide) (by decide) (by decide) (by decide)]; exact b3
  · rw [d 5 (by decide) (by decide) (by decide) (by decide)]; exact z3.trans (x5 3725 (by decide) (by decide)).symm
  · rw [e2, d6, z4]
    by_cases q : c 3722 = 0
    · rw [if_pos q]
    · rw [if_neg q, if_neg q]
  · rw [d8]; exact z5
  · rw [d8]; decide
  · rw [d 7 (by decide) (by decide) (by decide) (by decide)]; exact z6.trans (x5 3727 (by decide) (by decide)).symm
  · rw [d _ (by omega) (by omega) (by omega) (by omega)]
    have z := (n9 p p0 p1).1
    have e : (3730 : Int) + p = 3720 + (10 + p) := by omega
    rw [e] at z
    exact z
  · rw [d _ (by omega) (by omega) (by omega) (by omega)]
    have z := (n9 p p0 p1).2
    have e : (3736 : Int) + p = 3720 + (16 + p) := by omega
    rw [e] at z
    exact z
  · rw [d _ (by omega) (by omega) (by omega) (by omega), (z2 p p0 p1).1]
    exact (x42 _ (by omega) (by omega)).symm
  · rw [d _ (by omega) (by omega) (by omega) (by omega), (z2 p p0 p1).2]
    exact (x42 _ (by omega) (by omega)).symm
  · rw [hand j j0 j1]; exact n7 j j0 j1
  · rw [n8 p p0 p1]
    have sh : ∀ n : Nat, n ≤ 10 → m_S c (3754 + 10 * p) n = m_S c' (34 + 10 * p) n := by
      intro n
      induction n with
      | zero => intro _; rfl
      | succ n ih =>
        intro hn
        show m_S c (3754 + 10 * p) n + c (3754 + 10 * p + (n : Int)) = m_S c' (34 + 10 * p) n + c' (34 + 10 * p + (n : Int))
        have e1 : (34 : Int) + 10 * p + (n : Int) = 34 + (10 * p + (n : Int)) := by omega
        have e3 : (3754 : Int) + 10 * p + (n : Int) = 3754 + (10 * p + (n : Int)) := by omega
        rw [ih (by omega), e1, hand _ (by omega) (by omega), e3]
    exact sh 10 (Nat.le_refl 10)
  · rw [e9]; exact z7
  · rw [n9', z8]; rfl
  · rw [n9', z1 _ (by omega) (by omega)]; rfl
  · rw [n6 k k0 kk]
    unfold m_I
    have m0 : m_A c' (-1) k 0 = 0 := rfl
    rw [n9', m0, e2, m_sum_e]
    have hz : ∀ p : Int, 0 ≤ p → p < 6 → c 3722 ≤ p → c (3754 + 10 * p + k) = 0 := fun p p0 p1 p2 => by
      have y := (h1 (10 * p + k) (by omega) (by omega)).2 (h3 (10 * p + k) (by omega) (by omega) (by omega))
      have e : (3754 : Int) + (10 * p + k) = 3754 + 10 * p + k := by omega
      rw [e] at y
      exact y
    have hp : ∀ p : Int, 0 ≤ p → p < 6 → c' (34 + 10 * p + k) = c (3754 + 10 * p + k) := fun p p0 p1 => by
      have e1 : (34 : Int) + 10 * p + k = 34 + (10 * p + k) := by omega
      have e3 : (3754 : Int) + 10 * p + k = 3754 + (10 * p + k) := by omega
      rw [e1, hand _ (by omega) (by omega), e3]
    have q0 := hp 0 (by decide) (by decide)
    have q1 := hp 1 (by decide) (by decide)
    have q2 := hp 2 (by decide) (by decide)
    have q3 := hp 3 (by decide) (by decide)
    have q4 := hp 4 (by decide) (by decide)
    have q5 := hp 5 (by decide) (by decide)
    have y0 := hz 0 (by decide) (by decide)
    have y1 := hz 1 (by decide) (by decide)
    have y2 := hz 2 (by decide) (by decide)
    have y3 := hz 3 (by decide) (by decide)
    have y4 := hz 4 (by decide) (by decide)
    have y5 := hz 5 (by decide) (by decide)
    have P0 : m_P c' k 0 = 0 := rfl
    have P1 : m_P c' k 1 = m_P c' k 0 + c' (34 + 10 * 0 + k) := rfl
    have P2 : m_P c' k 2 = m_P c' k 1 + c' (34 + 10 * 1 + k) := rfl
    have P3 : m_P c' k 3 = m_P c' k 2 + c' (34 + 10 * 2 + k) := rfl
    have P4 : m_P c' k 4 = m_P c' k 3 + c' (34 + 10 * 3 + k) := rfl
    have P5 : m_P c' k 5 = m_P c' k 4 + c' (34 + 10 * 4 + k) := rfl
    have P6 : m_P c' k 6 = m_P c' k 5 + c' (34 + 10 * 5 + k) := rfl
    clear hp hz hand d hc hw h1 h3 x5 x42 x54 xs x14 xk n6 n7 n8 n9 z1 z2 nm h2
    rcases (by omega : c 3722 = 0 ∨ c 3722 = 1 ∨ c 3722 = 2 ∨ c 3722 = 3 ∨ c 3722 = 4 ∨ c 3722 = 5 ∨ c 3722 = 6) with e | e | e | e | e | e | e
    · rw [e] at y0 y1 y2 y3 y4 y5 ⊢
      show _ = 0 + m_P c' k 0
      omega
    · rw [e] at y0 y1 y2 y3 y4 y5 ⊢
      show _ = 0 + m_P c' k 1
      omega
    · rw [e] at y0 y1 y2 y3 y4 y5 ⊢
      show _ = 0 + m_P c' k 2
      omega
    · rw [e] at y0 y1 y2 y3 y4 y5 ⊢
      show _ = 0 + m_P c' k 3
      omega
    · rw [e] at y0 y1 y2 y3 y4 y5 ⊢
      show _ = 0 + m_P c' k 4
      omega
    · rw [e] at y0 y1 y2 y3 y4 y5 ⊢
      show _ = 0 + m_P c' k 5
      omega
    · rw [e] at y0 y1 y2 y3 y4 y5 ⊢
      show _ = 0 + m_P c' k 6
      omega
  · rw [e2]
    intro p p0 p1
    obtain ⟨a1, a2, a3⟩ := nm p p0 p1
    refine ⟨a1, a2, ?_⟩
    rw [hw _ (by omega) (by omega), Int.zero_add]
    exact a3
  · rw [d 654 (by decide) (by decide) (by decide) (by decide)]; exact z9.trans (x14 _ (by decide) (by decide)).symm
  · rw [d 654 (by decide) (by decide) (by decide) (by decide)]; exact Or.inl (x14 _ (by decide) (by decide))
  · rw [d 655 (by decide) (by decide) (by decide) (by decide)]; exact z10.trans (x14 _ (by decide) (by decide)).symm
  · rw [z11]; omega
  · rw [d 655 (by decide) (by decide) (by decide) (by decide), z11]
    exact ⟨(x14 _ (by decide) (by decide)).symm, rfl⟩
section GQ
variable {X : XW} {lb : Nat → Nat} {C a : Nat} {σ τ : ST} {n m : Int} {B : Int → Int}
theorem al_table (K : al_C X lb C a) (h9 : q_ln X (q_rf X a 7) = 900) (A : al_R X C a σ τ) (M : m_M (m_c X τ a) (τ.1 a 24).toInt n) (h5 : (σ.1 C 5).toInt = m) (h8 : (τ.1 a 8).toInt = m) (hm : 0 ≤ m ∧ m ≤ 900) (hB : ∀ p : Int, 0 ≤ p → p < m → (σ.1 (q_rf X C 4) p.toNat).toInt = B p ∧ -128 ≤ B p ∧ B p ≤ 127) (hB2 : ∀ p : Int, 0 ≤ p → p < m → (τ.1 (q_rf X a 7) p.toNat).toInt = B p) (v : Int32) :
    ∃ (z : Int32) (σ' : ST) (z' : Int32) (τ' : ST), F_X11_table X σ C v = (z, σ') ∧ F_X12_table X τ a v = (z', τ') ∧ z.toInt = z'.toInt ∧ (σ'.1 C 0).toInt = (τ'.1 a 0).toInt ∧ tb_Out X C a σ τ v m z σ' τ' ∧ (m_G (m_c X τ' a) → σ'.1 C 11 = σ.1 C 11 → τ'.1 a 24 = τ.1 a 24 → al_R X C a σ' τ') := by
  obtain ⟨kC, ka, S, lC, G8, G9, GM⟩ := id K
  obtain ⟨z, σ', z', τ', x1, x2, x3, x4, out, fr⟩ := tb_tableF (y_Cls S kC ka lC h9) h5 h8 hm hB hB2 v
  refine ⟨z, σ', z', τ', x1, x2, x3, x4, out, fun hG' e11 e24 => ?_⟩
  obtain ⟨A1, A2, A3, A4⟩ := A
  -- marks stand
  have mk : (∀ j : Int, 930 ≤ j → j < 3720 → m_c X τ' a j = m_c X τ a j) → (∀ j : Int, 6 ≤ j → j < 24 → m_wd X τ' a j = m_wd X τ a j) → ∀ b : Nat, 1 ≤ b → (b : Int) ≤ (σ'.1 C 11).toInt → rb (y_v X (q_rf X (q_rf X C 10) (b - 1)) σ') (fun j => m_c X τ' a (930 * (b : Int) + j)) (fun j => m_wd X τ' a (6 * (b : Int) + j)) := by
    intro hc hw b b1 b2
    rw [e11] at b2
    have gv : y_v X (q_rf X (q_rf X C 10) (b - 1)) σ' = y_v X (q_rf X (q_rf X C 10) (b - 1)) σ := y_v.k S (GM (b - 1) (by omega)) (fun x hx f => fr x (by omega) f)
    refine (A4 b b1 b2).x (M.2 (b : Int) (by omega) (by rw [A2] at b2; exact b2)).1 (fun id i _ => by rw [gv]) (fun j j0 j1 => ?_) (fun j j0 j1 => ?_)
    · exact hc _ (by omega) (by omega)
    · exact hw _ (by omega) (by omega)
  refine ⟨?_, by rw [e11, e24]; exact A2, by rw [e11]; exact A3, ?_⟩
  · rcases out with ⟨-, t1, t2⟩ | ⟨-, -, -, -, -, ⟨-, o1, o2, o3⟩ | ⟨-, V, r, c, w, t, Rr, o1, o2, o3, o4, o5, o6⟩⟩
    · have gv : y_v X (q_rf X C 8) σ' = y_v X (q_rf X C 8) σ := y_v.k S G8 (fun x hx f => t1.1 x f (fun z => by
        rw [z.1] at hx
        omega))
      have k20 := (tb_k S.1 ka).1
      have gc : m_c X τ' a = m_c X τ a := by
        funext j
        exact congrArg Int32.toInt (t2.1 _ _ (fun z => m_ne k20 ka (by decide) z.1))
      have gw : m_wd X τ' a = m_wd X τ a := by
        funext j
        exact congrArg Int64.toInt (t2.2.1 _ _ (fun z => z))
      rw [gv, gc, gw]
      exact A1
    · rw [o1]
      exact A1.x M.1.1 (fun _ _ _ => rfl) (fun j j0 j1 => o2 j j0 (by omega)) (fun j j0 j1 => o3 j j0 (by omega))
    · have N := rb.new (c' := m_c X τ' a) (w' := m_wd X τ' a) Rr (fun j j0 j1 => by rw [o5 j j0, if_pos j1]) (fun j j0 j1 => by rw [o6 j j0, if_pos j1])
      exact N.x hG' (fun id i hi => o4 id i hi) (fun _ _ _ => rfl) (fun _ _ _ => rfl)
  · rcases out with ⟨-, t1, t2⟩ | ⟨-, -, -, -, -, ⟨-, o1, o2, o3⟩ | ⟨-, V, r, c, w, t, Rr, o1, o2, o3, o4, o5, o6⟩⟩
    · have k20 := (tb_k S.1 ka).1
      exact mk (fun j _ _ => congrArg Int32.toInt (t2.1 _ _ (fun z => m_ne k20 ka (by decide) z.1))) (fun j _ _ => congrArg Int64.toInt (t2.2.1 _ _ (fun z => z)))
    · exact mk (fun j j0 j1 => o2 j (by omega) j1) (fun j j0 j1 => o3 j (by omega) j1)
    · refine mk (fun j j0 j1 => ?_) (fun j j0 j1 => ?_)
      · rw [o5 j (by omega), if_neg (by omega), ← o1 j (by omega) j1]
        unfold m_fin
        rw [m_up_ne (by omega), m_up_ne (by omega)]
      · rw [o6 j (by omega), if_neg (by omega)]
        exact o2 j (by omega) j1
end GQ

/-! FROM 49r.rdround.lean.txt -/
/-! A ROUND BEING READ: the class's reader R with its script -/
def rdA (X : XW) (R id : Nat) : Nat := match id with
  | 0 => q_rf X R 8
  | 1 => q_rf X (q_rf X (q_rf X R 8) 3) 0
  | 2 => q_rf X (q_rf X (q_rf X R 8) 4) 0
  | 3 => q_rf X (q_rf X (q_rf X R 8) 5) 0
  | 4 => q_rf X (q_rf X (q_rf X R 8) 6) 0
  | 5 => q_rf X (q_rf X (q_rf X R 8) 7) 0
  | 6 => q_rf X (q_rf X R 9) 0
  | _ => q_rf X R 8
def rdL (id : Nat) : Nat := match id with | 0 => 472 | 1 => 120880 | 2 => 120896 | 3 => 120912 | 4 => 120928 | 5 => 120944 | 6 => 7568 | _ => 0
def rdN (id : Nat) : Nat := match id with | 6 => 3 | _ => 60
def rd_D (X : XW) (lb : Nat → Nat) (R T : Nat) : Prop := q_kd X R = 4 ∧ lb R = 29 ∧ q_kd X T = 22 ∧ lb T = 20 ∧ ∀ id, id < 7 → lb (rdA X R id) = rdL id ∧ (1 ≤ id → q_ln X (rdA X R id) = rdN id ∧ q_kd X (rdA X R id) = 20)
theorem rd_Dmk {X : XW} {lb : Nat → Nat} {C : Nat} (S : y_S X lb) (hC : q_kd X C = 11) (h1 : lb C = 1) : rd_D X lb (q_rf X C 13) (q_rf X C 4) := by
  obtain ⟨T, L, N⟩ := id S
  have kR : q_kd X (q_rf X C 13) = 4 := (T.1 C 13 (by rw [hC]; decide)).trans (by rw [hC]; rfl)
  have lR : lb (q_rf X C 13) = 29 := (L C 13 (by rw [hC]; decide)).trans (by rw [h1]; decide)
  have kT : q_kd X (q_rf X C 4) = 22 := (T.1 C 4 (by rw [hC]; decide)).trans (by rw [hC]; rfl)
  have lT : lb (q_rf X C 4) = 20 := (L C 4 (by rw [hC]; decide)).trans (by rw [h1]; decide)
  have kS : q_kd X (q_rf X (q_rf X C 13) 8) = 8 := (T.1 _ 8 (by rw [kR]; decide)).trans (by rw [kR]; rfl)
  have lS : lb (q_rf X (q_rf X C 13) 8) = 472 := (L _ 8 (by rw [kR]; decide)).trans (by rw [lR]; decide)
  have kO : q_kd X (q_rf X (q_rf X C 13) 9) = 5 := (T.1 _ 9 (by rw [kR]; decide)).trans (by rw [kR]; rfl)
  have lO : lb (q_rf X (q_rf X C 13) 9) = 473 := (L _ 9 (by rw [kR]; decide)).trans (by rw [lR]; decide)
  refine ⟨kR, lR, kT, lT, fun id hid => ?_⟩
  have row : ∀ f, f = 3 ∨ f = 4 ∨ f = 5 ∨ f = 6 ∨ f = 7 → lb (q_rf X (q_rf X (q_rf X (q_rf X C 13) 8) f) 0) = 120832 + 16 * f ∧ q_ln X (q_rf X (q_rf X (q_rf X (q_rf X C 13) 8) f) 0) = 60 ∧ q_kd X (q_rf X (q_rf X (q_rf X (q_rf X C 13) 8) f) 0) = 20 := by
    intro f hf
    have kr : q_kd X (q_rf X (q_rf X (q_rf X C 13) 8) f) = 5 := (T.1 _ f (by rw [kS]; rcases hf with e | e | e | e | e <;> subst e <;> decide)).trans (by rw [kS]; rcases hf with e | e | e | e | e <;> subst e <;> rfl)
    have lr : lb (q_rf X (q_rf X (q_rf X C 13) 8) f) = 7552 + f := (L _ f (by rw [kS]; rcases hf with e | e | e | e | e <;> subst e <;> decide)).trans (by rw [lS]; rcases hf with e | e | e | e | e <;> subst e <;> decide)
    refine ⟨(L _ 0 (by rw [kr]; decide)).trans (by rw [lr]; rcases hf with e | e | e | e | e <;> subst e <;> decide), (N _ f (by rw [kS]; rcases hf with e | e | e | e | e <;> subst e <;> rfl)).trans (by rw [kS]; rcases hf with e | e | e | e | e <;> subst e <;> rfl), (T.1 _ 0 (by rw [kr]; decide)).trans (by rw [kr]; rfl)⟩
  rcases (by omega : id = 0 ∨ id = 1 ∨ id = 2 ∨ id = 3 ∨ id = 4 ∨ id = 5 ∨ id = 6) with e | e | e | e | e | e | e
  · subst e
    exact ⟨lS, fun h => absurd h (by decide)⟩
  · subst e
    exact ⟨(row 3 (by decide)).1, fun _ => (row 3 (by decide)).2⟩
  · subst e
    exact ⟨(row 4 (by decide)).1, fun _ => (row 4 (by decide)).2⟩
  · subst e
    exact ⟨(row 5 (by decide)).1, fun _ => (row 5 (by decide)).2⟩
  · subst e
    exact ⟨(row 6 (by decide)).1, fun _ => (row 6 (by decide)).2⟩
  · subst e
    exact ⟨(row 7 (by decide)).1, fun _ => (row 7 (by decide)).2⟩
  · subst e
    exact ⟨(L _ 0 (by rw [kO]; decide)).trans (by rw [lO]; decide), fun _ => ⟨(N _ 9 (by rw [kR]; rfl)).trans (by rw [kR]; rfl), (T.1 _ 0 (by rw [kO]; decide)).trans (by rw [kO]; rfl)⟩⟩
theorem rdL_inj : ∀ i, i < 7 → ∀ j, j < 7 → rdL i = rdL j → i = j := by decide
theorem rdL_o : ∀ i, i < 7 → (rdL i / 8192 = 0 ∨ rdL i / 8192 = 14) ∧ rdL i ≠ 29 ∧ rdL i ≠ 20 ∧ rdL i ≠ 1 := by decide
theorem rd_D.inj {X : XW} {lb : Nat → Nat} {R T : Nat} (D : rd_D X lb R T) {i j : Nat} (hi : i < 7) (hj : j < 7) (h : rdA X R i = rdA X R j) : i = j := by
  have a := (D.2.2.2.2 i hi).1
  rw [h, (D.2.2.2.2 j hj).1] at a
  exact (rdL_inj j hj i hi a).symm
theorem rd_D.nR {X : XW} {lb : Nat → Nat} {R T : Nat} (D : rd_D X lb R T) {i : Nat} (hi : i < 7) : rdA X R i ≠ R ∧ rdA X R i ≠ T := by
  have a := (D.2.2.2.2 i hi).1
  have b := rdL_o i hi
  refine ⟨fun e => ?_, fun e => ?_⟩
  · rw [e, D.2.1] at a
    exact b.2.1 a.symm
  · rw [e, D.2.2.2.1] at a
    exact b.2.2.1 a.symm
def rv (X : XW) (R : Nat) (σ : ST) : Nat → Int → Int := fun id i => if id < 7 ∧ 0 ≤ i then (σ.1 (rdA X R id) i.toNat).toInt else 0
/-- the class's side: text, script, depth -/
def rd_S (X : XW) (R T : Nat) (σ : ST) (n : Int) (B : Int → Int) (U : Nat → Int → Int) (dp : Int) : Prop := tc_E X σ R T n B ∧ rv X R σ = U ∧ (σ.1 R 10).toInt = dp
def rd_F (X : XW) (R : Nat) (σ σ' : ST) : Prop := (∀ b, b ≠ R → (∀ i, i < 7 → b ≠ rdA X R i) → ∀ f, σ'.1 b f = σ.1 b f) ∧ (∀ f, ¬ (2 ≤ f ∧ f ≤ 7) → f ≠ 10 → σ'.1 R f = σ.1 R f) ∧ σ'.2 = σ.2
theorem rd_F.rf {X : XW} {R : Nat} {σ : ST} : rd_F X R σ σ := ⟨fun _ _ _ _ => rfl, fun _ _ _ => rfl, rfl⟩
theorem rd_F.tr {X : XW} {R : Nat} {σ σ1 σ2 : ST} (h : rd_F X R σ σ1) (k : rd_F X R σ1 σ2) : rd_F X R σ σ2 := ⟨fun b b1 b2 f => (k.1 b b1 b2 f).trans (h.1 b b1 b2 f), fun f f1 f2 => (k.2.1 f f1 f2).trans (h.2.1 f f1 f2), k.2.2.trans h.2.2⟩
/-- the reference's side: text, table, words, steps -/
def rd_M (X : XW) (a : Nat) (τ : ST) (n : Int) (B c w : Int → Int) (s : Int) : Prop := tm_E X τ a n B ∧ m_c X τ a = c ∧ m_wd X τ a = w ∧ (τ.1 a 27).toInt = s ∧ (τ.1 a 0).toInt = 0 ∧ (τ.1 a 8).toInt = 0
section RD
variable {X : XW} {lb : Nat → Nat} {R T a g : Nat} {σ τ σ' τ' : ST} {n dp s : Int} {B c w : Int → Int} {U V : Nat → Int → Int}
theorem rv_n {id : Nat} (h : id < 7) (f : Nat) : (σ.1 (rdA X R id) f).toInt = rv X R σ id (f : Int) := by
  unfold rv
  rw [if_pos ⟨h, Int.natCast_nonneg f⟩]
  rfl
theorem rd_S.rd (D : rd_D X lb R T) (S : rd_S X R T σ n B U dp) (h : tk (tc_S2 R) σ σ') : rd_S X R T σ' n B U dp ∧ rd_F X R σ σ' := by
  obtain ⟨s1, s2, s3⟩ := S
  refine ⟨⟨s1.k2 h, ?_, ?_⟩, fun b b1 _ f => h.1 b f (fun q => b1 q.1), fun f f1 _ => h.1 R f (fun q => f1 q.2), h.2⟩
  · rw [← s2]
    funext id i
    unfold rv
    by_cases q : id < 7 ∧ 0 ≤ i
    · rw [if_pos q, if_pos q, h.1 _ _ (fun z => (D.nR q.1).1 z.1)]
    · rw [if_neg q, if_neg q]
  · rw [h.1 R 10 (fun q => absurd q.2.2 (by decide))]; exact s3
theorem rv_up (D : rd_D X lb R T) {id : Nat} (hid : id < 7) (f : Nat) (v : Int32) : rv X R (q_si σ (rdA X R id) f v) = y_up (rv X R σ) id (f : Int) v.toInt := by
  funext k i
  show (if k < 7 ∧ 0 ≤ i then ((q_si σ (rdA X R id) f v).1 (rdA X R k) i.toNat).toInt else 0) = if k = id ∧ i = (f : Int) then v.toInt else if k < 7 ∧ 0 ≤ i then (σ.1 (rdA X R k) i.toNat).toInt else 0
  by_cases q : k = id ∧ i = (f : Int)
  · rw [if_pos q, if_pos ⟨by omega, by omega⟩, q.1, q.2]
    have e : ((f : Int)).toNat = f := by omega
    rw [e, si_eq]
  · rw [if_neg q]
    by_cases q2 : k < 7 ∧ 0 ≤ i
    · rw [if_pos q2, if_pos q2]
      by_cases q3 : k = id
      · rw [q3, si_f (by omega)]
      · rw [q_si_ne (fun z => q3 (D.inj q2.1 hid z))]
    · rw [if_neg q2, if_neg q2]
theorem rd_S.cell (D : rd_D X lb R T) (S : rd_S X R T σ n B U dp) {id : Nat} (hid : id < 7) (f : Nat) (v : Int32) : rd_S X R T (q_si σ (rdA X R id) f v) n B (y_up U id (f : Int) v.toInt) dp ∧ rd_F X R σ (q_si σ (rdA X R id) f v) := by
  obtain ⟨s1, s2, s3⟩ := S
  have nR := D.nR hid
  have k : tk (fun b g => b = rdA X R id ∧ g = f) σ (q_si σ (rdA X R id) f v) := tk.rf.si _ ⟨rfl, rfl⟩
  refine ⟨⟨s1.k k (fun b g q => ⟨fun e => nR.2 (q.1.symm.trans e), fun e => nR.1 (q.1.symm.trans e.1)⟩), ?_, ?_⟩, fun b b1 b2 f => k.1 b f (fun q => b2 id hid q.1), fun f _ _ => k.1 R f (fun q => nR.1 q.1.symm), k.2⟩
  · rw [rv_up D hid, s2]
  · rw [q_si_ne (Ne.symm nR.1)]; exact s3
theorem rw_set {r : Nat} (Y : y_S X lb) (x v : Int32) {N : Nat} (hN : q_ln X (q_rf X r 0) = N) (h0 : 0 ≤ x.toInt) (h1 : x.toInt < (N : Int)) : F_X5_set X σ r x v = q_si σ (q_rf X r 0) x.toNatClampNeg v := by
  have hl := y_len Y (q_rf X r 0)
  rw [hN] at hl
  simp only [F_X5_set, ↓q_letE]
  rw [hl, if_neg (by omega), if_pos h1]
theorem rw_get {r : Nat} (Y : y_S X lb) (x : Int32) {N : Nat} (hN : q_ln X (q_rf X r 0) = N) (h0 : 0 ≤ x.toInt) (h1 : x.toInt < (N : Int)) : F_X5_get X σ r x = σ.1 (q_rf X r 0) x.toNatClampNeg := by
  have hl := y_len Y (q_rf X r 0)
  rw [hN] at hl
  simp only [F_X5_get, ↓q_letE]
  rw [hl, if_neg (by omega), if_pos h1]
theorem rd_S.set (Y : y_S X lb) (D : rd_D X lb R T) (S : rd_S X R T σ n B U dp) {id r : Nat} (hid : 1 ≤ id ∧ id < 7) (hr : q_rf X r 0 = rdA X R id) {x : Int32} {i : Int} (hx : x.toInt = i) (v : Int32) (h0 : 0 ≤ i) (h1 : i < ((rdN id : Nat) : Int)) : rd_S X R T (F_X5_set X σ r x v) n B (y_up U id i v.toInt) dp ∧ rd_F X R σ (F_X5_set X σ r x v) := by
  have hN := ((D.2.2.2.2 id hid.2).2 hid.1).1
  rw [rw_set Y x v (N := rdN id) (by rw [hr]; exact hN) (by omega) (by omega), hr]
  have z := S.cell D hid.2 x.toNatClampNeg v
  have e : ((x.toNatClampNeg : Nat) : Int) = i := by rw [ar_cl]; omega
  rw [e] at z
  exact z
theorem rd_S.get (Y : y_S X lb) (D : rd_D X lb R T) (S : rd_S X R T σ n B U dp) {id r : Nat} (hid : 1 ≤ id ∧ id < 7) (hr : q_rf X r 0 = rdA X R id) {x : Int32} {i : Int} (hx : x.toInt = i) (h0 : 0 ≤ i) (h1 : i < ((rdN id : Nat) : Int)) : (F_X5_get X σ r x).toInt = U id i := by
  have hN := ((D.2.2.2.2 id hid.2).2 hid.1).1
  rw [rw_get Y x (N := rdN id) (by rw [hr]; exact hN) (by omega) (by omega), hr, rv_n hid.2, S.2.1]
  have e : ((x.toNatClampNeg : Nat) : Int) = i := by rw [ar_cl]; omega
  rw [e]
theorem rd_S.dep (D : rd_D X lb R T) (S : rd_S X R T σ n B U dp) (v : Int32) : rd_S X R T (q_si σ R 10 v) n B U v.toInt ∧ rd_F X R σ (q_si σ R 10 v) := by
  obtain ⟨s1, s2, s3⟩ := S
  have k : tk (fun b g => b = R ∧ g = 10) σ (q_si σ R 10 v) := tk.rf.si _ ⟨rfl, rfl⟩
  refine ⟨⟨s1.k k (fun b g q => ⟨fun e => s1.2.2.2.1 (e.symm.trans q.1), fun e => absurd q.2 (by rw [e.2]; decide)⟩), ?_, by rw [si_eq]⟩, fun b b1 _ f => k.1 b f (fun q => b1 q.1), fun f _ f2 => k.1 R f (fun q => f2 q.2), k.2⟩
  rw [← s2]
  funext id i
  unfold rv
  by_cases q : id < 7 ∧ 0 ≤ i
  · rw [if_pos q, if_pos q, q_si_ne (D.nR q.1).1]
  · rw [if_neg q, if_neg q]
/-- the games stand -/
theorem rd_F.v {o : Nat} (Y : y_S X lb) (D : rd_D X lb R T) (G : y_G X lb g o) (ho : o ≤ 6) (h : rd_F X R σ σ') : y_v X g σ' = y_v X g σ := by
  have o1 := G.2.2
  refine y_v.k Y G (fun b hb f => h.1 b (fun e => ?_) (fun i hi e => ?_) f)
  · rw [e, D.2.1] at hb
    omega
  · rw [e, (D.2.2.2.2 i hi).1] at hb
    have := (rdL_o i hi).1
    omega
/-! the reference's steps -/
theorem rd_M.rd (hT : q_T X) (ha : q_kd X a = 12) (M : rd_M X a τ n B c w s) (h : tkl (tn_S2 a) (tn_L a) τ τ') : rd_M X a τ' n B c w s := by
  obtain ⟨m1, m2, m3, m5, m6, m7⟩ := M
  obtain ⟨k1, k2, k3, k4⟩ := tb_k hT ha
  refine ⟨m1.k2 h, ?_, ?_, ?_, ?_, ?_⟩
  · rw [← m2]; funext j
    exact congrArg Int32.toInt (h.1 _ _ (fun q => m_ne k1 ha (by decide) q.1))
  · rw [← m3]; funext j
    exact congrArg Int64.toInt (h.2.1 _ _ (fun q => m_ne k3 ha (by decide) q.1))
  · rw [h.1 a 27 (fun q => absurd q.2.2 (by decide))]; exact m5
  · rw [h.1 a 0 (fun q => absurd q.2.1 (by decide))]; exact m6
  · rw [h.1 a 8 (fun q => absurd q.2.1 (by decide))]; exact m7
theorem rd_M.cw (hT : q_T X) (ha : q_kd X a = 12) (M : rd_M X a τ n B c w s) {i v : Int32} {A : Int} (hi : i.toInt = A) (hA : 1 ≤ A) : rd_M X a (q_si τ (q_rf X a 20) i.toNatClampNeg v) n B (m_up c A v.toInt) w s ∧ tl_same a τ (q_si τ (q_rf X a 20) i.toNatClampNeg v) := by
  obtain ⟨m1, m2, m3, m5, m6, m7⟩ := M
  obtain ⟨k1, k2, k3, k4⟩ := tb_k hT ha
  have na : a ≠ q_rf X a 20 := Ne.symm (m_ne k1 ha (by decide))
  have k : tkl (fun b f => b = q_rf X a 20) (fun _ _ => False) τ (q_si τ (q_rf X a 20) i.toNatClampNeg v) := tkl.rf.si _ rfl
  refine ⟨⟨m1.k k (fun b f q => ⟨fun e => m_ne k1 k4 (by decide) (q.symm.trans e), fun e => na (e.1.symm.trans q)⟩), ?_, m3, ?_, ?_, ?_⟩, fun f _ _ => k.1 a f na, rfl⟩
  · rw [m_c_up A hA hi, m2]
  · rw [k.1 a 27 na]; exact m5
  · rw [k.1 a 0 na]; exact m6
  · rw [k.1 a 8 na]; exact m7
theorem rd_M.ns (hT : q_T X) (ha : q_kd X a = 12) (M : rd_M X a τ n B c w s) (v : Int32) : rd_M X a (q_si τ a 27 v) n B c w v.toInt ∧ tl_same a τ (q_si τ a 27 v) := by
  obtain ⟨m1, m2, m3, m5, m6, m7⟩ := M
  obtain ⟨k1, k2, k3, k4⟩ := tb_k hT ha
  have k : tkl (fun b f => b = a ∧ f = 27) (fun _ _ => False) τ (q_si τ a 27 v) := tkl.rf.si _ ⟨rfl, rfl⟩
  refine ⟨⟨m1.k k (fun b f q => ⟨fun e => m_ne k4 ha (by decide) (e.symm.trans q.1), fun e => absurd q.2 (by rw [e.2]; decide)⟩), ?_, m3, ?_, ?_, ?_⟩, fun f _ f2 => k.1 a f (fun q => by have := q.2; omega), rfl⟩
  · rw [mv_cell hT ha 27 v]; exact m2
  · rw [si_eq]
  · rw [si_f (by decide)]; exact m6
  · rw [si_f (by decide)]; exact m7
theorem rd_same {id : Nat} (D : rd_D X lb R T) (hid : id < 7) (f : Nat) (v : Int32) : tl_sameC R σ (q_si σ (rdA X R id) f v) := fun _ _ _ => q_si_ne (Ne.symm (D.nR hid).1) _
theorem rd_sameS (Y : y_S X lb) (D : rd_D X lb R T) {id r : Nat} (hid : 1 ≤ id ∧ id < 7) (hr : q_rf X r 0 = rdA X R id) {x : Int32} (v : Int32) (h0 : 0 ≤ x.toInt) (h1 : x.toInt < ((rdN id : Nat) : Int)) : tl_sameC R σ (F_X5_set X σ r x v) := by
  have hN := ((D.2.2.2.2 id hid.2).2 hid.1).1
  rw [rw_set Y x v (N := rdN id) (by rw [hr]; exact hN) h0 h1, hr]
  exact rd_same D hid.2 _ v
theorem rd_sameD (v : Int32) : tl_sameC R σ (q_si σ R 10 v) := fun _ _ h => si_f (by omega) R
end RD

/-! FROM 49s.operands.lean.txt -/
/-! A ROUND BEING READ: operands -/
def rd_T (X : XW) (a : Nat) (b f : Nat) : Prop := b = q_rf X a 20 ∨ b = a ∧ 12 ≤ f ∧ (f ≤ 18 ∨ f = 27)
/-- both read the same, at the same place, without a fault -/
def rd_I (X : XW) (R T a g : Nat) (n : Int) (B : Int → Int) (Vg : Nat → Int → Int) (w : Int → Int) (σ τ : ST) (U : Nat → Int → Int) (dp : Int) (c : Int → Int) (s : Int) : Prop := rd_S X R T σ n B U dp ∧ rd_M X a τ n B c w s ∧ tl_K σ R τ a B n ∧ (τ.1 a 12).toInt = 0 ∧ y_v X g σ = Vg
def rd_Fr (X : XW) (R a : Nat) (σ σ' τ τ' : ST) : Prop := rd_F X R σ σ' ∧ tkl (rd_T X a) (tn_L a) τ τ' ∧ ∀ j : Int, 0 ≤ j → j < 3720 → m_c X τ' a j = m_c X τ a j
theorem rd_Fr.rf {X : XW} {R a : Nat} {σ τ : ST} : rd_Fr X R a σ σ τ τ := ⟨rd_F.rf, tkl.rf, fun _ _ _ => rfl⟩
theorem rd_Fr.tr {X : XW} {R a : Nat} {σ σ1 σ2 τ τ1 τ2 : ST} (h : rd_Fr X R a σ σ1 τ τ1) (k : rd_Fr X R a σ1 σ2 τ1 τ2) : rd_Fr X R a σ σ2 τ τ2 := ⟨h.1.tr k.1, h.2.1.tr k.2.1, fun j a b => (k.2.2 j a b).trans (h.2.2 j a b)⟩
section RO
variable {X : XW} {lb : Nat → Nat} {R T a g : Nat} {σ τ σ' τ' : ST} {n dp s l W : Int} {B c w : Int → Int} {U Vg : Nat → Int → Int}
theorem rd_T2 : ∀ b f, tn_S2 a b f → rd_T X a b f := fun b f h => Or.inr ⟨h.1, h.2.1, Or.inl h.2.2⟩
/-- a step of both readers -/
theorem rd_Fr.rd (hT : q_T X) (ha : q_kd X a = 12) (D : rd_D X lb R T) (S : rd_S X R T σ n B U dp) (h : tk (tc_S2 R) σ σ') (k : tkl (tn_S2 a) (tn_L a) τ τ') : rd_Fr X R a σ σ' τ τ' := by
  refine ⟨(S.rd D h).2, k.mono rd_T2 (fun _ _ z => z), fun j _ _ => ?_⟩
  have k1 := (tb_k hT ha).1
  exact congrArg Int32.toInt (k.1 _ _ (fun q => m_ne k1 ha (by decide) q.1))
/-- a row of the class, a cell of the reference -/
theorem rd_Fr.cw (hT : q_T X) (ha : q_kd X a = 12) (h : rd_F X R σ σ') {i v : Int32} {A : Int} (hi : i.toInt = A) (hA : 3720 ≤ A) : rd_Fr X R a σ σ' τ (q_si τ (q_rf X a 20) i.toNatClampNeg v) := by
  refine ⟨h, tkl.rf.si _ (Or.inl rfl), fun j j0 j1 => ?_⟩
  rw [m_c_up A (by omega) hi, m_up_ne (by omega)]
theorem rd_Fr.cl (h : rd_F X R σ σ') : rd_Fr X R a σ σ' τ τ := ⟨h, tkl.rf, fun _ _ _ => rfl⟩
theorem tl_F.tab (hT : q_T X) (ha : q_kd X a = 12) (h : tl_F σ R τ a) (i : Nat) (v : Int32) : tl_F σ R (q_si τ (q_rf X a 20) i v) a := by
  have na : a ≠ q_rf X a 20 := Ne.symm (m_ne (tb_k hT ha).1 ha (by decide))
  unfold tl_F
  rw [q_si_ne na, q_si_ne na]
  exact h
theorem tl_F.row (Y : y_S X lb) (D : rd_D X lb R T) (h : tl_F σ R τ a) {id r : Nat} (hid : 1 ≤ id ∧ id < 7) (hr : q_rf X r 0 = rdA X R id) {x : Int32} (v : Int32) (h0 : 0 ≤ x.toInt) (h1 : x.toInt < ((rdN id : Nat) : Int)) : tl_F (F_X5_set X σ r x v) R τ a := by
  have z := rd_sameS (σ := σ) Y D hid hr v h0 h1
  unfold tl_F
  rw [z 6 (by decide) (by decide), z 7 (by decide) (by decide)]
  exact h
/-- a player's name -/
theorem op_player (Y : y_S X lb) (D : rd_D X lb R T) (ha : q_kd X a = 12) (G : y_G X lb g 1) (I : rd_I X R T a g n B Vg w σ τ U dp c s) (hP6 : 0 ≤ c 2 ∧ c 2 ≤ 6) (hP : Vg 1 4 = c 2) (N : y_nm Vg w 0 (c 2)) {v x : Int32} (hv : v.toInt = l) (hl : 0 ≤ l ∧ l < 60) (hx : x.toInt = W) (hW : 3720 ≤ W) :
    ∃ (z y : Int32) (σ1 τ1 : ST), F_X3_passPlayer X σ R (q_rf X g 0) = (z, σ1) ∧ F_X12_readTold X τ a 0 = (y, τ1) ∧
      ((z.toInt ≠ -1 ∧ rd_I X R T a g n B Vg w (F_X5_set X σ1 (q_rf X (q_rf X R 8) 5) v z) (q_si τ1 (q_rf X a 20) x.toNatClampNeg y) (y_up U 3 l z.toInt) dp (m_up c W z.toInt) s ∧ rd_Fr X R a σ (F_X5_set X σ1 (q_rf X (q_rf X R 8) 5) v z) τ (q_si τ1 (q_rf X a 20) x.toNatClampNeg y) ∧ (τ.1 a 16).toInt ≤ ((q_si τ1 (q_rf X a 20) x.toNatClampNeg y).1 a 15).toInt) ∨
       (z.toInt = -1 ∧ tl_F σ1 R (q_si τ1 (q_rf X a 20) x.toNatClampNeg y) a ∧ rd_Fr X R a σ σ1 τ (q_si τ1 (q_rf X a 20) x.toNatClampNeg y))) := by
  obtain ⟨S, M, K, h0, hV⟩ := I
  have w0 : y_W X lb g 1 σ σ Vg := by
    rw [← hV]; exact y_W.rf
  have nm : y_nm Vg (m_wd X τ a) (6 * 0) (c 2) := by
    rw [M.2.2.1]
    exact N
  obtain ⟨z, y, σ1, τ1, e1, e2, ⟨o1, o2, o3⟩, v1, v2⟩ := tl_passPlayer Y G w0 S.1 M.1 K h0 (v := 0) (bl := 0) rfl ⟨by decide, by decide⟩ (P := c 2) (by rw [M.2.1]; rfl) hP6 hP nm
  obtain ⟨S1, f1⟩ := S.rd D o1
  have M1 := M.rd Y.1 ha o2
  have fr1 := rd_Fr.rd (σ' := σ1) (τ' := τ1) Y.1 ha D S o1 o2
  have n3 : ((rdN 3 : Nat) : Int) = 60 := rfl
  refine ⟨z, y, σ1, τ1, e1, e2, ?_⟩
  rcases o3 with ⟨q1, K1, h1, g1⟩ | ⟨q1, F1⟩
  · obtain ⟨ev, y0, y1⟩ := v1 q1
    obtain ⟨S2, f2⟩ := S1.set Y D (id := 3) (r := q_rf X (q_rf X R 8) 5) ⟨by decide, by decide⟩ rfl hv z hl.1 (by rw [n3]; exact hl.2)
    obtain ⟨M2, sm2⟩ := M1.cw Y.1 ha (i := x) (v := y) hx (by omega)
    have sc := rd_sameS (σ := σ1) Y D (id := 3) (r := q_rf X (q_rf X R 8) 5) ⟨by decide, by decide⟩ rfl (x := v) z (by omega) (by rw [n3]; omega)
    rw [← ev] at M2
    have fr2 := fr1.tr (rd_Fr.cw (τ := τ1) (v := y) Y.1 ha f2 hx hW)
    refine Or.inl ⟨q1, ⟨S2, M2, K1.same sc sm2, ?_, ?_⟩, fr2, ?_⟩
    · rw [sm2.1 12 (by decide) (by decide)]; exact h1
    · rw [fr2.1.v Y D G (by decide), hV]
    · rw [sm2.1 15 (by decide) (by decide)]; exact g1
  · have qz : z.toInt = -1 := Classical.not_not.mp q1
    exact Or.inr ⟨qz, F1.tab Y.1 ha _ _, fr1.tr (rd_Fr.cw Y.1 ha rd_F.rf hx hW)⟩
/-- a number -/
theorem op_num (Y : y_S X lb) (D : rd_D X lb R T) (ha : q_kd X a = 12) (G : y_G X lb g 1) (I : rd_I X R T a g n B Vg w σ τ U dp c s) (lo hi : Int32) (hlo : 0 ≤ lo.toInt) {v x : Int32} (hv : v.toInt = l) (hl : 0 ≤ l ∧ l < 60) (hx : x.toInt = W) (hW : 3720 ≤ W) :
    ∃ (z y : Int32) (σ1 τ1 : ST), F_X3_passNumber X σ R lo hi = (z, σ1) ∧ F_X12_count X τ a lo hi = (y, τ1) ∧
      ((z.toInt ≠ -1 ∧ rd_I X R T a g n B Vg w (F_X5_set X σ1 (q_rf X (q_rf X R 8) 7) v z) (q_si τ1 (q_rf X a 20) x.toNatClampNeg y) (y_up U 5 l z.toInt) dp (m_up c W z.toInt) s ∧ rd_Fr X R a σ (F_X5_set X σ1 (q_rf X (q_rf X R 8) 7) v z) τ (q_si τ1 (q_rf X a 20) x.toNatClampNeg y) ∧ (τ.1 a 16).toInt ≤ ((q_si τ1 (q_rf X a 20) x.toNatClampNeg y).1 a 15).toInt ∧ lo.toInt ≤ z.toInt ∧ z.toInt ≤ hi.toInt) ∨
       (z.toInt = -1 ∧ tl_F (F_X5_set X σ1 (q_rf X (q_rf X R 8) 7) v z) R (q_si τ1 (q_rf X a 20) x.toNatClampNeg y) a ∧ rd_Fr X R a σ (F_X5_set X σ1 (q_rf X (q_rf X R 8) 7) v z) τ (q_si τ1 (q_rf X a 20) x.toNatClampNeg y))) := by
  obtain ⟨S, M, K, h0, hV⟩ := I
  obtain ⟨z, y, σ1, τ1, e1, e2, ⟨o1, o2, o3⟩, v1, v2⟩ := tl_passNum S.1 M.1 K h0 lo hi hlo
  obtain ⟨S1, f1⟩ := S.rd D o1
  have M1 := M.rd Y.1 ha o2
  have fr1 := rd_Fr.rd (σ' := σ1) (τ' := τ1) Y.1 ha D S o1 o2
  have n5 : ((rdN 5 : Nat) : Int) = 60 := rfl
  obtain ⟨S2, f2⟩ := S1.set Y D (id := 5) (r := q_rf X (q_rf X R 8) 7) ⟨by decide, by decide⟩ rfl hv z hl.1 (by rw [n5]; exact hl.2)
  have fr2 := fr1.tr (rd_Fr.cw (τ := τ1) (v := y) Y.1 ha f2 hx hW)
  refine ⟨z, y, σ1, τ1, e1, e2, ?_⟩
  rcases o3 with ⟨q1, K1, h1, g1⟩ | ⟨q1, F1⟩
  · obtain ⟨ev, y0, y1⟩ := v1 q1
    obtain ⟨M2, sm2⟩ := M1.cw Y.1 ha (i := x) (v := y) hx (by omega)
    have sc := rd_sameS (σ := σ1) Y D (id := 5) (r := q_rf X (q_rf X R 8) 7) ⟨by decide, by decide⟩ rfl (x := v) z (by omega) (by rw [n5]; omega)
    rw [← ev] at M2
    refine Or.inl ⟨q1, ⟨S2, M2, K1.same sc sm2, ?_, ?_⟩, fr2, ?_, by omega, by omega⟩
    · rw [sm2.1 12 (by decide) (by decide)]; exact h1
    · rw [fr2.1.v Y D G (by decide), hV]
    · rw [sm2.1 15 (by decide) (by decide)]; exact g1
  · have qz : z.toInt = -1 := Classical.not_not.mp q1
    exact Or.inr ⟨qz, (F1.row Y D (id := 5) (r := q_rf X (q_rf X R 8) 7) ⟨by decide, by decide⟩ rfl z (by omega) (by rw [n5]; omega)).tab Y.1 ha _ _, fr2⟩
/-- what came of it: the class's answer, both states; Q says what was read -/
def rd_O (X : XW) (R T a g : Nat) (n : Int) (B : Int → Int) (Vg : Nat → Int → Int) (w : Int → Int) (dp s : Int) (σ τ : ST) (z : Int32) (σ' τ' : ST) (Q : (Nat → Int → Int) → (Int → Int) → Prop) : Prop :=
  rd_Fr X R a σ σ' τ τ' ∧ ((z.toInt = 1 ∧ (∃ (U' : Nat → Int → Int) (c' : Int → Int), rd_I X R T a g n B Vg w σ' τ' U' dp c' s ∧ Q U' c') ∧ (τ.1 a 15).toInt ≤ (τ'.1 a 15).toInt) ∨ (z.toInt = 0 ∧ tl_F σ' R τ' a))
/-- nothing but one line and one step are written -/
def rd_1 (U U' : Nat → Int → Int) (c c' : Int → Int) (l W : Int) : Prop := (∀ (id : Nat) (i : Int), id = 0 ∨ id = 2 ∨ id = 6 ∨ i ≠ l → U' id i = U id i) ∧ ∀ j : Int, j ≤ W ∨ W + 8 ≤ j → c' j = c j
theorem rd_out (X : XW) (R T a g : Nat) (v : Int32) (τ0 : ST) (h : 0 < (τ0.1 a 12).toInt) (x : Int32) : q_bi (F_X12_count X τ0 a 0 16) (fun r_11 σ_12 => q_let (q_si σ_12 (q_rf X a 20) x.toNatClampNeg r_11 : ST) (fun σ_13 => σ_13)) = q_si τ0 (q_rf X a 20) x.toNatClampNeg 0 := by
  rw [tm_count2 h, q_biP, q_letE]
/-- lies and doubts -/
theorem op_bends (Y : y_S X lb) (D : rd_D X lb R T) (ha : q_kd X a = 12) (G : y_G X lb g 1) (I : rd_I X R T a g n B Vg w σ τ U dp c s) (hP6 : 0 ≤ c 2 ∧ c 2 ≤ 6) (hP : Vg 1 4 = c 2) (N : y_nm Vg w 0 (c 2)) {v x : Int32} (hv : v.toInt = l) (hl : 0 ≤ l ∧ l < 60) (hx : x.toInt = W) (hW : 3720 ≤ W ∧ W ≤ 5000) (hk : c W = 1 ∨ c W = 2) (hU : U 1 l = c W) :
    ∃ (z : Int32) (σ' : ST), F_X4_readOperands X σ R v (q_rf X g 0) = (z, σ') ∧ rd_O X R T a g n B Vg w dp s σ τ z σ' (F_X12_readRest X τ a x) (fun U' c' => rd_1 U U' c c' l W ∧ U' 1 l = U 1 l ∧ U' 3 l = c' (W + 1) ∧ U' 5 l = c' (W + 2)) := by
  have I0 := I
  obtain ⟨S, M, K, h0, hV⟩ := I
  have one : (1 : Int32).toInt = 1 := rfl
  have two : (2 : Int32).toInt = 2 := rfl
  have n1 : ((rdN 1 : Nat) : Int) = 60 := rfl
  have r1 : (F_X5_get X σ (q_rf X (q_rf X R 8) 3) v).toInt = c W := (S.get Y D (id := 1) (r := q_rf X (q_rf X R 8) 3) ⟨by decide, by decide⟩ rfl hv hl.1 (by rw [n1]; exact hl.2)).trans hU
  have f1 : (τ.1 (q_rf X a 20) x.toNatClampNeg).toInt = c W := gm_cell M.2.1 hx
  have i1 : (x + 1).toInt = W + 1 := by rw [ar_add, hx, one, ar_wr (by omega) (by omega)]
  have i2 : (x + 2).toInt = W + 2 := by rw [ar_add, hx, two, ar_wr (by omega) (by omega)]
  obtain ⟨z, y, σ1, τ1, e1, e2, o⟩ := op_player Y D ha G I0 hP6 hP N hv hl i1 (by omega)
  -- the reference, for lies and for doubts
  have ref : F_X12_readRest X τ a x = q_bi (F_X12_count X (q_si τ1 (q_rf X a 20) (x + 1).toNatClampNeg y) a 0 16) (fun r_11 σ_12 => q_let (q_si σ_12 (q_rf X a 20) (x + 2).toNatClampNeg r_11 : ST) (fun σ_13 => σ_13)) := by
    unfold F_X12_readRest
    rw [q_letE (τ.1 (q_rf X a 20) x.toNatClampNeg), f1]
    rcases hk with hk | hk
    · rw [if_pos hk, q_letE (x + 1), e2, q_biP y τ1, q_letE (q_si τ1 (q_rf X a 20) (x + 1).toNatClampNeg y), q_letE (x + 2)]
    · rw [if_neg (by omega : ¬ c W = 1), if_pos hk, q_letE (x + 1), e2, q_biP y τ1, q_letE (q_si τ1 (q_rf X a 20) (x + 1).toNatClampNeg y), q_letE (x + 2)]
  -- the class
  obtain ⟨r, hr⟩ : ∃ r, r = F_X5_get X σ (q_rf X (q_rf X R 8) 3) v := ⟨_, rfl⟩
  rw [← hr] at r1
  have hn : ∀ σ0 : ST, (F_X8_hasName X σ0 r).toInt = 1 := fun σ0 => by
    unfold F_X8_hasName
    rw [r1]
    rcases hk with hk | hk
    · rw [if_pos hk]; rfl
    · rw [if_neg (by omega), if_pos hk]; rfl
  have hh : ∀ σ0 : ST, (F_X8_hasComparison X σ0 r).toInt = 0 := fun σ0 => by
    unfold F_X8_hasComparison F_X8_isWhen
    rw [r1, if_pos (by omega), q_letE, if_pos (by decide)]
    rfl
  have hi : ∀ σ0 : ST, F_X8_highest X σ0 r = 16 := fun σ0 => by
    unfold F_X8_highest
    rw [r1]
    rcases hk with hk | hk
    · rw [if_pos hk]
    · rw [if_neg (by omega), if_pos hk]
  unfold F_X4_readOperands
  rw [q_letE (F_X5_get X σ (q_rf X (q_rf X R 8) 3) v), ← hr, q_letE (F_X8_hasName X σ r), hn σ, if_neg (by decide : ¬ (1 : Int) = 0), e1, q_biP z σ1, ref]
  rcases o with ⟨q1, I2, fr2, g2⟩ | ⟨q1, F1, fr1⟩
  · rw [if_neg q1, q_letE (F_X5_set X σ1 (q_rf X (q_rf X R 8) 5) v z)]
    obtain ⟨σ2, h2⟩ : ∃ t, t = F_X5_set X σ1 (q_rf X (q_rf X R 8) 5) v z := ⟨_, rfl⟩
    obtain ⟨τ2, u2⟩ : ∃ t, t = q_si τ1 (q_rf X a 20) (x + 1).toNatClampNeg y := ⟨_, rfl⟩
    rw [← h2] at I2 fr2 ⊢
    rw [← u2] at I2 fr2 g2 ⊢
    obtain ⟨z3, y3, σ3, τ3, e3, e4, o⟩ := op_num Y D ha G I2 0 16 (by decide) hv hl i2 (by omega)
    unfold F_X4_readOperands_J47_1
    rw [q_letE (F_X8_hasComparison X σ2 r), hh σ2, if_pos rfl, q_letE (F_X8_highest X σ2 r), hi σ2, if_neg (by decide : ¬ (16 : Int32).toInt = -1), r1, if_neg (by omega : ¬ c W = 4), e3, q_biP z3 σ3, e4, q_biP y3 τ3, q_letE (F_X5_set X σ3 (q_rf X (q_rf X R 8) 7) v z3), q_letE (q_si τ3 (q_rf X a 20) (x + 2).toNatClampNeg y3)]
    have k2 := I2.2.2.1.b
    have k0 := K.b
    rcases o with ⟨q3, I4, fr4, g4, -⟩ | ⟨q3, F3, fr3⟩
    · rw [if_neg q3]
      refine ⟨1, _, rfl, fr2.tr fr4, Or.inl ⟨rfl, ⟨_, _, I4, ⟨fun id i h => ?_, fun j h => ?_⟩, ?_, ?_, ?_⟩, by omega⟩⟩
      · rw [y_up_ne (by omega), y_up_ne (by omega)]
      · rw [m_up_ne (by omega), m_up_ne (by omega)]
      · rw [y_up_ne (Or.inl (by decide)), y_up_ne (Or.inl (by decide))]
      · rw [y_up_ne (Or.inl (by decide)), y_up_eq, m_up_ne (by omega), m_up_eq]
      · rw [y_up_eq, m_up_eq]
    · rw [if_pos q3]
      exact ⟨0, _, rfl, fr2.tr fr3, Or.inr ⟨rfl, F3⟩⟩
  · rw [if_pos q1, rd_out X R T a g v _ F1.2.1]
    exact ⟨0, _, rfl, fr1.tr (rd_Fr.cw Y.1 ha rd_F.rf i2 (by omega)), Or.inr ⟨rfl, F1.tab Y.1 ha _ _⟩⟩
/-- a loop's number -/
theorem op_loop (Y : y_S X lb) (D : rd_D X lb R T) (ha : q_kd X a = 12) (G : y_G X lb g 1) (I : rd_I X R T a g n B Vg w σ τ U dp c s) {v x : Int32} (hv : v.toInt = l) (hl : 0 ≤ l ∧ l < 60) (hx : x.toInt = W) (hW : 3720 ≤ W ∧ W ≤ 5000) (hk : c W = 4) (hU : U 1 l = 4) :
    ∃ (z : Int32) (σ' : ST), F_X4_readOperands X σ R v (q_rf X g 0) = (z, σ') ∧ rd_O X R T a g n B Vg w dp s σ τ z σ' (F_X12_readRest X τ a x) (fun U' c' => rd_1 U U' c c' l W ∧ U' 1 l = U 1 l ∧ U' 5 l = c' (W + 1) ∧ 1 ≤ c' (W + 1) ∧ c' (W + 1) ≤ 99) := by
  have I0 := I
  obtain ⟨S, M, K, h0, hV⟩ := I
  have one : (1 : Int32).toInt = 1 := rfl
  have n1 : ((rdN 1 : Nat) : Int) = 60 := rfl
  have r1 : (F_X5_get X σ (q_rf X (q_rf X R 8) 3) v).toInt = 4 := (S.get Y D (id := 1) (r := q_rf X (q_rf X R 8) 3) ⟨by decide, by decide⟩ rfl hv hl.1 (by rw [n1]; exact hl.2)).trans hU
  have f1 : (τ.1 (q_rf X a 20) x.toNatClampNeg).toInt = 4 := (gm_cell M.2.1 hx).trans hk
  have i1 : (x + 1).toInt = W + 1 := by rw [ar_add, hx, one, ar_wr (by omega) (by omega)]
  obtain ⟨r, hr⟩ : ∃ r, r = F_X5_get X σ (q_rf X (q_rf X R 8) 3) v := ⟨_, rfl⟩
  rw [← hr] at r1
  have hn : (F_X8_hasName X σ r).toInt = 0 := by
    unfold F_X8_hasName
    rw [r1]
    rfl
  have hh : (F_X8_hasComparison X σ r).toInt = 0 := by
    unfold F_X8_hasComparison F_X8_isWhen
    rw [r1, if_pos (by decide), q_letE, if_pos (by decide)]
    rfl
  have hi : F_X8_highest X σ r = 99 := by
    unfold F_X8_highest
    rw [r1]
    rfl
  obtain ⟨z3, y3, σ3, τ3, e3, e4, o⟩ := op_num Y D ha G I0 1 99 (by decide) hv hl i1 (by omega)
  unfold F_X4_readOperands F_X12_readRest
  rw [q_letE (F_X5_get X σ (q_rf X (q_rf X R 8) 3) v), ← hr, q_letE (F_X8_hasName X σ r), hn, if_pos rfl, q_letE (τ.1 (q_rf X a 20) x.toNatClampNeg), f1, if_neg (by decide : ¬ (4 : Int) = 1), if_neg (by decide : ¬ (4 : Int) = 2), if_neg (by decide : ¬ (4 : Int) = 3), if_pos rfl, q_letE (x + 1)]
  unfold F_X4_readOperands_J47_1
  rw [q_letE (F_X8_hasComparison X σ r), hh, if_pos rfl, q_letE (F_X8_highest X σ r), hi, if_neg (by decide : ¬ (99 : Int32).toInt = -1), r1, if_pos rfl, e3, q_biP z3 σ3, e4, q_biP y3 τ3, q_letE (F_X5_set X σ3 (q_rf X (q_rf X R 8) 7) v z3), q_letE (q_si τ3 (q_rf X a 20) (x + 1).toNatClampNeg y3)]
  have k0 := K.b
  rcases o with ⟨q3, I4, fr4, g4, lo⟩ | ⟨q3, F3, fr3⟩
  · rw [if_neg q3]
    refine ⟨1, _, rfl, fr4, Or.inl ⟨rfl, ⟨_, _, I4, ⟨fun id i h => ?_, fun j h => ?_⟩, ?_, ?_, ?_⟩, by omega⟩⟩
    · rw [y_up_ne (by omega)]
    · rw [m_up_ne (by omega)]
    · rw [y_up_ne (Or.inl (by decide))]
    · rw [y_up_eq, m_up_eq]
    · rw [m_up_eq]
      exact lo
  · rw [if_pos q3]
    exact ⟨0, _, rfl, fr3, Or.inr ⟨rfl, F3⟩⟩
/-- turn and stop have none -/
theorem op_none (Y : y_S X lb) (D : rd_D X lb R T) (I : rd_I X R T a g n B Vg w σ τ U dp c s) {v x : Int32} (hv : v.toInt = l) (hl : 0 ≤ l ∧ l < 60) (hx : x.toInt = W) (hk : c W = 0 ∧ U 1 l = 0 ∨ c W = 5 ∧ U 1 l = 3) :
    ∃ (z : Int32) (σ' : ST), F_X4_readOperands X σ R v (q_rf X g 0) = (z, σ') ∧ rd_O X R T a g n B Vg w dp s σ τ z σ' (F_X12_readRest X τ a x) (fun U' c' => rd_1 U U' c c' l W ∧ U' 1 l = U 1 l) := by
  have I0 := I
  obtain ⟨S, M, K, h0, hV⟩ := I
  have n1 : ((rdN 1 : Nat) : Int) = 60 := rfl
  have r1 : (F_X5_get X σ (q_rf X (q_rf X R 8) 3) v).toInt = U 1 l := S.get Y D (id := 1) (r := q_rf X (q_rf X R 8) 3) ⟨by decide, by decide⟩ rfl hv hl.1 (by rw [n1]; exact hl.2)
  have f1 : (τ.1 (q_rf X a 20) x.toNatClampNeg).toInt = c W := gm_cell M.2.1 hx
  obtain ⟨r, hr⟩ : ∃ r, r = F_X5_get X σ (q_rf X (q_rf X R 8) 3) v := ⟨_, rfl⟩
  rw [← hr] at r1
  have hn : (F_X8_hasName X σ r).toInt = 0 := by
    unfold F_X8_hasName
    rcases hk with ⟨_, hk⟩ | ⟨_, hk⟩ <;> rw [r1, hk] <;> rfl
  have hh : (F_X8_hasComparison X σ r).toInt = 0 := by
    unfold F_X8_hasComparison F_X8_isWhen
    rw [r1, if_pos (by omega), q_letE, if_pos (by decide)]
    rfl
  have hi : F_X8_highest X σ r = -1 := by
    unfold F_X8_highest
    rcases hk with ⟨_, hk⟩ | ⟨_, hk⟩ <;> rw [r1, hk] <;> rfl
  unfold F_X4_readOperands F_X12_readRest
  rw [q_letE (F_X5_get X σ (q_rf X (q_rf X R 8) 3) v), ← hr, q_letE (F_X8_hasName X σ r), hn, if_pos rfl, q_letE (τ.1 (q_rf X a 20) x.toNatClampNeg), f1, if_neg (by omega : ¬ c W = 1), if_neg (by omega : ¬ c W = 2), if_neg (by omega : ¬ c W = 3), if_neg (by omega : ¬ c W = 4)]
  unfold F_X4_readOperands_J47_1
  rw [q_letE (F_X8_hasComparison X σ r), hh, if_pos rfl, q_letE (F_X8_highest X σ r), hi, if_pos (by decide : (-1 : Int32).toInt = -1)]
  exact ⟨1, σ, rfl, rd_Fr.rf, Or.inl ⟨rfl, ⟨U, c, I0, ⟨fun _ _ _ => rfl, fun _ _ => rfl⟩, rfl⟩, Int.le_refl _⟩⟩
end RO

/-! FROM 49t.whens.lean.txt -/
/-! A ROUND BEING READ: a when's test -/
theorem is_sg {X : XW} {τ : ST} {a : Nat} (v : Int32) : (F_X12_isSign X τ a v).toInt = if (τ.1 a 14).toInt = 3 ∧ (τ.1 a 17).toInt = v.toInt then 1 else 0 := by
  unfold F_X12_isSign
  rw [q_letE]
  by_cases q : (τ.1 a 14).toInt = 3
  · rw [if_pos q, q_letE]
    by_cases q2 : (τ.1 a 17).toInt = v.toInt
    · rw [if_pos q2, if_pos ⟨q, q2⟩]; rfl
    · rw [if_neg q2, if_neg (fun z => q2 z.2)]; rfl
  · rw [if_neg q, if_neg (fun z => q z.1)]; rfl
noncomputable def tl_q (X : XW) (a : Nat) (x r : Int32) (τ5 : ST) : ST := q_let (x + (2 : Int32) : Int32) (fun z => if r.toInt = 2 then q_bi (F_X12_count X τ5 a (0 : Int32) (999 : Int32)) (fun p q => q_let (q_si q (q_rf X a 20) z.toNatClampNeg p : ST) (fun u => u)) else q_bi (F_X12_count X τ5 a (0 : Int32) (80 : Int32)) (fun p q => q_let (q_si q (q_rf X a 20) z.toNatClampNeg p : ST) (fun u => u)))
theorem tl_q2 {X : XW} {a : Nat} {τ5 : ST} (h : 0 < (τ5.1 a 12).toInt) (x r : Int32) : tl_q X a x r τ5 = q_si τ5 (q_rf X a 20) (x + 2).toNatClampNeg 0 := by
  unfold tl_q
  rw [q_letE]
  by_cases q : r.toInt = 2
  · rw [if_pos q, tm_count2 h, q_biP, q_letE]
  · rw [if_neg q, tm_count2 h, q_biP, q_letE]
section RT
variable {X : XW} {lb : Nat → Nat} {R T a g : Nat} {σ τ σ' τ' : ST} {n dp s l W : Int} {B c w : Int → Int} {U Vg : Nat → Int → Int}
theorem cmp_ref (hT : q_T X) (ha : q_kd X a = 12) (h0 : (τ.1 a 12).toInt = 0) (x r : Int32) (hr : r.toInt ≠ 3) (sg : (τ.1 a 14).toInt = 3 → (τ.1 a 17).toInt = 59 ∨ (τ.1 a 17).toInt = 60 ∨ (τ.1 a 17).toInt = 61 ∨ (τ.1 a 17).toInt = 62) :
    ((τ.1 a 14).toInt = 3 ∧ (τ.1 a 17).toInt ≠ 59 → F_X12_readTest_J50_2 X a r x τ = tl_q X a x r (F_X12_next X (q_si τ (q_rf X a 20) (x + 7).toNatClampNeg (τ.1 a 17)) a)) ∧
    (¬ ((τ.1 a 14).toInt = 3 ∧ (τ.1 a 17).toInt ≠ 59) → ∃ v : Int32, F_X12_readTest_J50_2 X a r x τ = tl_q X a x r (F_X12_wrong X (q_si τ (q_rf X a 20) (x + 7).toNatClampNeg v) a)) := by
  have na : a ≠ q_rf X a 20 := Ne.symm (m_ne (tb_k hT ha).1 ha (by decide))
  have e60 : (60 : Int32).toInt = 60 := rfl
  have e61 : (61 : Int32).toInt = 61 := rfl
  have e62 : (62 : Int32).toInt = 62 := rfl
  have st : ∀ (v : Int32) (f : Nat), (q_si τ (q_rf X a 20) (x + 7).toNatClampNeg v).1 a f = τ.1 a f := fun v f => q_si_ne na f
  have isg : ∀ (v u : Int32), (F_X12_isSign X (q_si τ (q_rf X a 20) (x + 7).toNatClampNeg v) a u).toInt = if (τ.1 a 14).toInt = 3 ∧ (τ.1 a 17).toInt = u.toInt then 1 else 0 := fun v u => by
    rw [is_sg, st, st]
  have is1 : ∀ (v u : Int32), (τ.1 a 14).toInt = 3 ∧ (τ.1 a 17).toInt = u.toInt → (F_X12_isSign X (q_si τ (q_rf X a 20) (x + 7).toNatClampNeg v) a u).toInt = 1 := fun v u h => by rw [isg, if_pos h]
  have is0 : ∀ (v u : Int32), ¬ ((τ.1 a 14).toInt = 3 ∧ (τ.1 a 17).toInt = u.toInt) → (F_X12_isSign X (q_si τ (q_rf X a 20) (x + 7).toNatClampNeg v) a u).toInt = 0 := fun v u h => by rw [isg, if_neg h]
  have m1 : ∀ v : Int32, F_X12_must X (q_si τ (q_rf X a 20) (x + 7).toNatClampNeg v) a 1 = F_X12_next X (q_si τ (q_rf X a 20) (x + 7).toNatClampNeg v) a := fun v => tm_must1 (by rw [st]; exact h0) (by decide)
  have m0 : ∀ v : Int32, F_X12_must X (q_si τ (q_rf X a 20) (x + 7).toNatClampNeg v) a 0 = F_X12_wrong X (q_si τ (q_rf X a 20) (x + 7).toNatClampNeg v) a := fun v => tm_must0 (by rw [st]; exact h0) rfl
  unfold F_X12_readTest_J50_2
  rw [q_letE (τ.1 a 12), h0, if_neg (by decide : ¬ (0 : Int) < 0), if_neg hr, q_letE (x + 7), q_letE (τ.1 a 14)]
  by_cases q3 : (τ.1 a 14).toInt = 3
  · have sg' := sg q3
    rw [if_pos q3, q_letE (τ.1 a 17), q_letE (q_si τ (q_rf X a 20) (x + 7).toNatClampNeg (τ.1 a 17)), q_letE (F_X12_isSign X (q_si τ (q_rf X a 20) (x + 7).toNatClampNeg (τ.1 a 17)) a 60)]
    constructor
    · rintro ⟨-, q59⟩
      by_cases q60 : (τ.1 a 17).toInt = 60
      · rw [is1 _ 60 ⟨q3, q60⟩, if_neg (by decide : ¬ (1 : Int) = 0), q_letE (F_X12_must X (q_si τ (q_rf X a 20) (x + 7).toNatClampNeg (τ.1 a 17)) a 1), m1]
        rfl
      · rw [is0 _ 60 (fun z => q60 z.2), if_pos rfl, q_letE (F_X12_isSign X (q_si τ (q_rf X a 20) (x + 7).toNatClampNeg (τ.1 a 17)) a 62)]
        by_cases q62 : (τ.1 a 17).toInt = 62
        · rw [is1 _ 62 ⟨q3, q62⟩, if_neg (by decide : ¬ (1 : Int) = 0), q_letE (F_X12_must X (q_si τ (q_rf X a 20) (x + 7).toNatClampNeg (τ.1 a 17)) a 1), m1]
          rfl
        · rw [is0 _ 62 (fun z => q62 z.2), if_pos rfl, q_letE (F_X12_isSign X (q_si τ (q_rf X a 20) (x + 7).toNatClampNeg (τ.1 a 17)) a 61), is1 _ 61 ⟨q3, by omega⟩, if_neg (by decide : ¬ (1 : Int) = 0), q_letE (F_X12_must X (q_si τ (q_rf X a 20) (x + 7).toNatClampNeg (τ.1 a 17)) a 1), m1]
          rfl
    · intro q59
      have q59' : (τ.1 a 17).toInt = 59 := Classical.not_not.mp (fun z => q59 ⟨q3, z⟩)
      refine ⟨τ.1 a 17, ?_⟩
      rw [is0 _ 60 (by omega), if_pos rfl, q_letE (F_X12_isSign X (q_si τ (q_rf X a 20) (x + 7).toNatClampNeg (τ.1 a 17)) a 62), is0 _ 62 (by omega), if_pos rfl, q_letE (F_X12_isSign X (q_si τ (q_rf X a 20) (x + 7).toNatClampNeg (τ.1 a 17)) a 61), is0 _ 61 (by omega), if_pos rfl, q_letE (F_X12_must X (q_si τ (q_rf X a 20) (x + 7).toNatClampNeg (τ.1 a 17)) a 0), m0]
      rfl
  · refine ⟨fun z => absurd z.1 q3, fun _ => ⟨0, ?_⟩⟩
    rw [if_neg q3, q_letE (q_si τ (q_rf X a 20) (x + 7).toNatClampNeg 0), q_letE (F_X12_isSign X (q_si τ (q_rf X a 20) (x + 7).toNatClampNeg 0) a 60), is0 _ 60 (fun z => q3 z.1), if_pos rfl, q_letE (F_X12_isSign X (q_si τ (q_rf X a 20) (x + 7).toNatClampNeg 0) a 62), is0 _ 62 (fun z => q3 z.1), if_pos rfl, q_letE (F_X12_isSign X (q_si τ (q_rf X a 20) (x + 7).toNatClampNeg 0) a 61), is0 _ 61 (fun z => q3 z.1), if_pos rfl, q_letE (F_X12_must X (q_si τ (q_rf X a 20) (x + 7).toNatClampNeg 0) a 0), m0]
    rfl
/-- what must be compared, and with which number -/
theorem op_cmp (Y : y_S X lb) (D : rd_D X lb R T) (ha : q_kd X a = 12) (G : y_G X lb g 1) (I : rd_I X R T a g n B Vg w σ τ U dp c s) {v x r t : Int32} (hv : v.toInt = l) (hl : 0 ≤ l ∧ l < 60) (hx : x.toInt = W) (hW : 3720 ≤ W ∧ W ≤ 5000) (ht : 0 ≤ t.toInt ∧ t.toInt ≤ 2) (hr : r.toInt = 5 + t.toInt) :
    ∃ (z : Int32) (σ' : ST), F_X4_readOperands_J47_1 X r R v σ = (z, σ') ∧ rd_O X R T a g n B Vg w dp s σ τ z σ' (F_X12_readTest_J50_2 X a t x τ) (fun U' c' => rd_1 U U' c c' l W ∧ U' 1 l = U 1 l ∧ U' 3 l = U 3 l ∧ c' (W + 1) = c (W + 1) ∧ c' (W + 6) = c (W + 6) ∧ U' 4 l = c' (W + 7) ∧ U' 5 l = c' (W + 2)) := by
  have I0 := I
  obtain ⟨S, M, K, h0, hV⟩ := I
  have kb := K.b
  have nb := S.1.2.2.1
  obtain ⟨k1, k2, k3, k4, k5, k6, k7, k8⟩ := id K
  have two : (2 : Int32).toInt = 2 := rfl
  have e7 : (7 : Int32).toInt = 7 := rfl
  have n4 : ((rdN 4 : Nat) : Int) = 60 := rfl
  have i2 : (x + 2).toInt = W + 2 := by rw [ar_add, hx, two, ar_wr (by omega) (by omega)]
  have i7 : (x + 7).toInt = W + 7 := by rw [ar_add, hx, e7, ar_wr (by omega) (by omega)]
  -- a sign is one of four
  have sgn : (τ.1 a 14).toInt = 3 → (τ.1 a 17).toInt = 59 ∨ (τ.1 a 17).toInt = 60 ∨ (τ.1 a 17).toInt = 61 ∨ (τ.1 a 17).toInt = 62 := fun q => by
    rw [k6.1 q]
    rcases k5 with z | z | z | z
    · omega
    · omega
    · rcases z.2.2.2 with z | z <;> omega
    · rcases z.2.2.2.2 with y | y
      · have y1 := y.1
        unfold tx_sg at y1
        omega
      · omega
  obtain ⟨c1, c2⟩ := cmp_ref (X := X) (τ := τ) Y.1 ha h0 x t (by omega) sgn
  have hh : (F_X8_hasComparison X σ r).toInt = 1 := by
    unfold F_X8_hasComparison F_X8_isWhen
    rw [if_neg (by omega), if_neg (by have e8 : (8 : Int32).toInt = 8 := rfl; omega), q_letE, if_neg (by decide), if_neg (by omega)]
    rfl
  have hh' : ∀ σ0 : ST, F_X8_highest X σ0 r = if t.toInt = 2 then 999 else 80 := fun σ0 => by
    unfold F_X8_highest
    rw [if_neg (by omega), if_neg (by omega), if_neg (by omega), if_neg (by omega)]
    by_cases q : t.toInt = 0
    · rw [if_pos (by omega), if_neg (by omega)]
    · rw [if_neg (by omega)]
      by_cases q2 : t.toInt = 1
      · rw [if_pos (by omega), if_neg (by omega)]
      · rw [if_neg (by omega), if_pos (by omega), if_pos (by omega)]
  unfold F_X4_readOperands_J47_1
  rw [q_letE (F_X8_hasComparison X σ r), hh, if_neg (by decide : ¬ (1 : Int) = 0), q_letE (F_X3_signAt X σ R 0), q_letE (σ.1 R 4), k3]
  by_cases q : (τ.1 a 14).toInt = 3 ∧ (τ.1 a 17).toInt ≠ 59
  · have sg := tc_sig S.1 k1 ⟨k7, by omega⟩ (v := 0) (i := 0) rfl ⟨by decide, by decide⟩
    rw [Int.add_zero, tx_D_in k7 (by omega), ← k6.1 q.1] at sg
    rw [if_pos q.1, sg, if_neg q.2, q_letE (F_X5_set X σ (q_rf X (q_rf X R 8) 6) v (F_X3_signAt X σ R 0)), c1 q]
    obtain ⟨sv, hsv⟩ : ∃ t, t = F_X3_signAt X σ R 0 := ⟨_, rfl⟩
    rw [← hsv] at sg ⊢
    obtain ⟨S1, f1⟩ := S.set Y D (id := 4) (r := q_rf X (q_rf X R 8) 6) ⟨by decide, by decide⟩ rfl hv sv hl.1 (by rw [n4]; exact hl.2)
    obtain ⟨M1, sm1⟩ := M.cw Y.1 ha (i := x + 7) (v := τ.1 a 17) i7 (by omega)
    have sc := rd_sameS (σ := σ) Y D (id := 4) (r := q_rf X (q_rf X R 8) 6) ⟨by decide, by decide⟩ rfl (x := v) sv (by omega) (by rw [n4]; omega)
    have K1 := K.same sc sm1
    have fr1 := rd_Fr.cw (τ := τ) (v := τ.1 a 17) Y.1 ha f1 i7 (by omega)
    obtain ⟨σ1, h1⟩ : ∃ t, t = F_X5_set X σ (q_rf X (q_rf X R 8) 6) v sv := ⟨_, rfl⟩
    obtain ⟨τ1, u1⟩ : ∃ t, t = q_si τ (q_rf X a 20) (x + 7).toNatClampNeg (τ.1 a 17) := ⟨_, rfl⟩
    rw [← h1] at S1 f1 K1 fr1 ⊢
    rw [← u1] at M1 sm1 K1 fr1 ⊢
    obtain ⟨x1, x2, K2, g2⟩ := tl_adv2 S1.1 M1.1 K1
    obtain ⟨S2, f2⟩ := S1.rd D x1.S2
    have M2 := M1.rd Y.1 ha x2.S2
    have fr2 := fr1.tr (rd_Fr.rd (τ := τ1) Y.1 ha D S1 x1.S2 x2.S2)
    have h02 : ((F_X12_next X τ1 a).1 a 12).toInt = 0 := by
      rw [tn_12 x2, sm1.1 12 (by decide) (by decide)]; exact h0
    obtain ⟨σ2, h2⟩ : ∃ t, t = F_X3_advance X σ1 R := ⟨_, rfl⟩
    obtain ⟨τ2, u2⟩ : ∃ t, t = F_X12_next X τ1 a := ⟨_, rfl⟩
    rw [q_letE (F_X3_advance X σ1 R), ← h2, ← u2]
    rw [← h2] at S2 f2 K2 fr2
    rw [← u2] at M2 K2 fr2 h02 g2
    have V2 : y_v X g σ2 = Vg := by rw [fr2.1.v Y D G (by decide), hV]
    have k2b := K2.b
    have e16 : τ1.1 a 16 = τ.1 a 16 := sm1.1 16 (by decide) (by decide)
    rw [q_letE (F_X8_highest X σ2 r), hh' σ2]
    unfold tl_q
    rw [q_letE (x + 2)]
    -- the number
    have fin : ∀ hi : Int32, hi.toInt ≠ -1 → ∃ (z : Int32) (σ' : ST), q_bi (F_X3_passNumber X σ2 R (0 : Int32) hi) (fun r_43 σ_44 => q_let (F_X5_set X σ_44 (q_rf X (q_rf X R 8) 7) v r_43 : ST) (fun σ_46 => if r_43.toInt = (-1) then ((0 : Int32), σ_46) else ((1 : Int32), σ_46))) = (z, σ') ∧ rd_O X R T a g n B Vg w dp s σ τ z σ' (q_bi (F_X12_count X τ2 a (0 : Int32) hi) (fun p q => q_let (q_si q (q_rf X a 20) (x + 2).toNatClampNeg p : ST) (fun u => u))) (fun U' c' => rd_1 U U' c c' l W ∧ U' 1 l = U 1 l ∧ U' 3 l = U 3 l ∧ c' (W + 1) = c (W + 1) ∧ c' (W + 6) = c (W + 6) ∧ U' 4 l = c' (W + 7) ∧ U' 5 l = c' (W + 2)) := by
      intro hi _
      obtain ⟨z3, y3, σ3, τ3, e3, e4, o⟩ := op_num Y D ha G ⟨S2, M2, K2, h02, V2⟩ 0 hi (by decide) hv hl i2 (by omega)
      rw [e3, q_biP z3 σ3, e4, q_biP y3 τ3, q_letE (F_X5_set X σ3 (q_rf X (q_rf X R 8) 7) v z3), q_letE (q_si τ3 (q_rf X a 20) (x + 2).toNatClampNeg y3)]
      rcases o with ⟨q3, I4, fr4, g4, -⟩ | ⟨q3, F3, fr3⟩
      · rw [if_neg q3]
        refine ⟨1, _, rfl, fr2.tr fr4, Or.inl ⟨rfl, ⟨_, _, I4, ⟨fun id i h => ?_, fun j h => ?_⟩, ?_, ?_, ?_, ?_, ?_, ?_⟩, by rw [e16] at g2; omega⟩⟩
        · rw [y_up_ne (by omega), y_up_ne (by omega)]
        · rw [m_up_ne (by omega), m_up_ne (by omega)]
        · rw [y_up_ne (Or.inl (by decide)), y_up_ne (Or.inl (by decide))]
        · rw [y_up_ne (Or.inl (by decide)), y_up_ne (Or.inl (by decide))]
        · rw [m_up_ne (by omega), m_up_ne (by omega)]
        · rw [m_up_ne (by omega), m_up_ne (by omega)]
        · rw [y_up_ne (Or.inl (by decide)), y_up_eq, m_up_ne (by omega), m_up_eq, sg]
        · rw [y_up_eq, m_up_eq]
      · rw [if_pos q3]
        exact ⟨0, _, rfl, fr2.tr fr3, Or.inr ⟨rfl, F3⟩⟩
    by_cases qt : t.toInt = 2
    · rw [if_pos qt, if_pos qt, if_neg (by decide : ¬ (999 : Int32).toInt = -1), if_neg (by omega : ¬ r.toInt = 4)]
      exact fin 999 (by decide)
    · rw [if_neg qt, if_neg qt, if_neg (by decide : ¬ (80 : Int32).toInt = -1), if_neg (by omega : ¬ r.toInt = 4)]
      exact fin 80 (by decide)
  · obtain ⟨u, c2'⟩ := c2 q
    obtain ⟨M1, sm1⟩ := M.cw Y.1 ha (i := x + 7) (v := u) i7 (by omega)
    have K1 := K.same tl_sameC.rf sm1
    have fr1 := rd_Fr.cw (τ := τ) (v := u) Y.1 ha (rd_F.rf (X := X) (R := R) (σ := σ)) i7 (by omega)
    obtain ⟨τ1, u1⟩ : ∃ t, t = q_si τ (q_rf X a 20) (x + 7).toNatClampNeg u := ⟨_, rfl⟩
    rw [← u1] at M1 sm1 K1 fr1 c2'
    have h01 : (τ1.1 a 12).toInt = 0 := by rw [sm1.1 12 (by decide) (by decide)]; exact h0
    obtain ⟨σ', y1, y2, y3, y4⟩ := tl_wrong (X := X) K1 h01
    have fr2 := fr1.tr (rd_Fr.rd (τ := τ1) Y.1 ha D S y2 y3)
    rw [c2', tl_q2 y4.2.1]
    have fin : rd_O X R T a g n B Vg w dp s σ τ 0 σ' (q_si (F_X12_wrong X τ1 a) (q_rf X a 20) (x + 2).toNatClampNeg 0) (fun U' c' => rd_1 U U' c c' l W ∧ U' 1 l = U 1 l ∧ U' 3 l = U 3 l ∧ c' (W + 1) = c (W + 1) ∧ c' (W + 6) = c (W + 6) ∧ U' 4 l = c' (W + 7) ∧ U' 5 l = c' (W + 2)) := ⟨fr2.tr (rd_Fr.cw Y.1 ha rd_F.rf i2 (by omega)), Or.inr ⟨rfl, y4.tab Y.1 ha _ _⟩⟩
    by_cases q3 : (τ.1 a 14).toInt = 3
    · have q59 : (τ.1 a 17).toInt = 59 := Classical.not_not.mp (fun z => q ⟨q3, z⟩)
      have sg := tc_sig S.1 k1 ⟨k7, by omega⟩ (v := 0) (i := 0) rfl ⟨by decide, by decide⟩
      rw [Int.add_zero, tx_D_in k7 (by omega), ← k6.1 q3, q59] at sg
      rw [if_pos q3, if_pos sg, y1, q_biP 0 σ']
      exact ⟨0, σ', rfl, fin⟩
    · rw [if_neg q3, y1, q_biP 0 σ']
      exact ⟨0, σ', rfl, fin⟩
end RT

/-! FROM 49u.when.lean.txt -/
/-! A ROUND BEING READ: a when -/
/-- what a when's line and step have -/
def rd_w (U : Nat → Int → Int) (c : Int → Int) (l W : Int) : Prop :=
  (c (W + 6) = 0 ∧ U 1 l = 5 ∧ U 3 l = c (W + 1) ∧ U 4 l = c (W + 7) ∧ U 5 l = c (W + 2)) ∨ (c (W + 6) = 1 ∧ U 1 l = 6 ∧ U 4 l = c (W + 7) ∧ U 5 l = c (W + 2)) ∨ (c (W + 6) = 2 ∧ U 1 l = 7 ∧ U 3 l = c (W + 1) ∧ U 4 l = c (W + 7) ∧ U 5 l = c (W + 2)) ∨ (c (W + 6) = 3 ∧ U 1 l = 8)
theorem rd_1.tr {U U1 U2 : Nat → Int → Int} {c c1 c2 : Int → Int} {l W : Int} (h : rd_1 U U1 c c1 l W) (k : rd_1 U1 U2 c1 c2 l W) : rd_1 U U2 c c2 l W := ⟨fun id i q => (k.1 id i q).trans (h.1 id i q), fun j q => (k.2 j q).trans (h.2 j q)⟩
section RU
variable {X : XW} {lb : Nat → Nat} {R T a g : Nat} {σ τ σ' τ' : ST} {n dp s l W : Int} {B c w : Int → Int} {U Vg : Nat → Int → Int}
theorem hn_val (r : Int32) {k : Int} (h : r.toInt = k) (σ0 : ST) : (F_X8_hasName X σ0 r).toInt = if k = 1 ∨ k = 2 ∨ k = 5 ∨ k = 7 then 1 else 0 := by
  unfold F_X8_hasName
  rw [h]
  by_cases q1 : k = 1
  · rw [if_pos q1, if_pos (Or.inl q1)]; rfl
  · rw [if_neg q1]
    by_cases q2 : k = 2
    · rw [if_pos q2, if_pos (Or.inr (Or.inl q2))]; rfl
    · rw [if_neg q2]
      by_cases q5 : k = 5
      · rw [if_pos q5, if_pos (Or.inr (Or.inr (Or.inl q5)))]; rfl
      · rw [if_neg q5]
        by_cases q7 : k = 7
        · rw [if_pos q7, if_pos (Or.inr (Or.inr (Or.inr q7)))]; rfl
        · rw [if_neg q7, if_neg (by omega)]; rfl
theorem hn_1 (r : Int32) {k : Int} (h : r.toInt = k) (σ0 : ST) (q : k = 1 ∨ k = 2 ∨ k = 5 ∨ k = 7) : (F_X8_hasName X σ0 r).toInt = 1 := by rw [hn_val r h, if_pos q]
theorem hn_0 (r : Int32) {k : Int} (h : r.toInt = k) (σ0 : ST) (q : ¬ (k = 1 ∨ k = 2 ∨ k = 5 ∨ k = 7)) : (F_X8_hasName X σ0 r).toInt = 0 := by rw [hn_val r h, if_neg q]
/-- the class's operands behind a test: without a name, with one -/
theorem op_tail (Y : y_S X lb) (D : rd_D X lb R T) (ha : q_kd X a = 12) (G : y_G X lb g 1) (I : rd_I X R T a g n B Vg w σ τ U dp c s) (hP6 : 0 ≤ c 2 ∧ c 2 ≤ 6) (hP : Vg 1 4 = c 2) (N : y_nm Vg w 0 (c 2)) {v x t : Int32} (hv : v.toInt = l) (hl : 0 ≤ l ∧ l < 60) (hx : x.toInt = W) (hW : 3720 ≤ W ∧ W ≤ 5000) (ht : 0 ≤ t.toInt ∧ t.toInt ≤ 2) (hU : U 1 l = 5 + t.toInt) (hc6 : c (W + 6) = t.toInt) :
    ∃ (z : Int32) (σ' : ST), F_X4_readOperands X σ R v (q_rf X g 0) = (z, σ') ∧ rd_O X R T a g n B Vg w dp s σ τ z σ' (if t.toInt = 1 then F_X12_readTest_J50_2 X a t x τ else q_let (x + (1 : Int32) : Int32) (fun z_164 => q_bi (F_X12_readTold X τ a (0 : Int32)) (fun r_166 σ_167 => q_let (q_si σ_167 (q_rf X a 20) z_164.toNatClampNeg r_166 : ST) (fun σ_168 => F_X12_readTest_J50_2 X a t x σ_168)))) (fun U' c' => rd_1 U U' c c' l W ∧ rd_w U' c' l W) := by
  have I0 := I
  obtain ⟨S, M, K, h0, hV⟩ := I
  have one : (1 : Int32).toInt = 1 := rfl
  have n1 : ((rdN 1 : Nat) : Int) = 60 := rfl
  have kb := K.b
  have r1 : (F_X5_get X σ (q_rf X (q_rf X R 8) 3) v).toInt = 5 + t.toInt := (S.get Y D (id := 1) (r := q_rf X (q_rf X R 8) 3) ⟨by decide, by decide⟩ rfl hv hl.1 (by rw [n1]; exact hl.2)).trans hU
  have i1 : (x + 1).toInt = W + 1 := by rw [ar_add, hx, one, ar_wr (by omega) (by omega)]
  obtain ⟨r, hr⟩ : ∃ r, r = F_X5_get X σ (q_rf X (q_rf X R 8) 3) v := ⟨_, rfl⟩
  rw [← hr] at r1
  unfold F_X4_readOperands
  rw [q_letE (F_X5_get X σ (q_rf X (q_rf X R 8) 3) v), ← hr, q_letE (F_X8_hasName X σ r)]
  by_cases q : t.toInt = 1
  · rw [hn_0 r r1 σ (by omega), if_pos rfl, if_pos q]
    obtain ⟨z, σ', e, fr, o⟩ := op_cmp Y D ha G I0 hv hl hx hW ht r1
    refine ⟨z, σ', e, fr, ?_⟩
    rcases o with ⟨o1, ⟨U', c', I', p1, p2, p3, p4, p5, p6, p7⟩, o3⟩ | o
    · exact Or.inl ⟨o1, ⟨U', c', I', p1, Or.inr (Or.inl ⟨by rw [p5, hc6]; exact q, by rw [p2, hU]; omega, p6, p7⟩)⟩, o3⟩
    · exact Or.inr o
  · rw [hn_1 r r1 σ (by omega), if_neg (by decide : ¬ (1 : Int) = 0), if_neg q]
    obtain ⟨z, y, σ1, τ1, e1, e2, o⟩ := op_player Y D ha G I0 hP6 hP N hv hl i1 (by omega)
    rw [e1, q_biP z σ1, q_letE (x + 1), e2, q_biP y τ1, q_letE (q_si τ1 (q_rf X a 20) (x + 1).toNatClampNeg y)]
    rcases o with ⟨q1, I2, fr2, g2⟩ | ⟨q1, F1, fr1⟩
    · rw [if_neg q1, q_letE (F_X5_set X σ1 (q_rf X (q_rf X R 8) 5) v z)]
      obtain ⟨z3, σ3, e3, fr3, o⟩ := op_cmp Y D ha G I2 hv hl hx hW ht r1
      rw [e3]
      have k2 := I2.2.2.1.b
      refine ⟨z3, σ3, rfl, fr2.tr fr3, ?_⟩
      rcases o with ⟨o1, ⟨U', c', I', p1, p2, p3, p4, p5, p6, p7⟩, o3⟩ | o
      · refine Or.inl ⟨o1, ⟨U', c', I', ?_, ?_⟩, by omega⟩
        · refine rd_1.tr ⟨fun id i h => ?_, fun j h => ?_⟩ p1
          · rw [y_up_ne (by omega)]
          · rw [m_up_ne (by omega)]
        · have f6 : c' (W + 6) = t.toInt := by rw [p5, m_up_ne (by omega)]; exact hc6
          have fU : U' 1 l = 5 + t.toInt := by rw [p2, y_up_ne (Or.inl (by decide))]; exact hU
          have f3 : U' 3 l = c' (W + 1) := by rw [p3, p4, y_up_eq, m_up_eq]
          by_cases qt : t.toInt = 0
          · exact Or.inl ⟨by omega, by omega, f3, p6, p7⟩
          · exact Or.inr (Or.inr (Or.inl ⟨by omega, by omega, f3, p6, p7⟩))
      · exact Or.inr o
    · have j50 : F_X12_readTest_J50_2 X a t x (q_si τ1 (q_rf X a 20) (x + 1).toNatClampNeg y) = q_si τ1 (q_rf X a 20) (x + 1).toNatClampNeg y := by
        unfold F_X12_readTest_J50_2
        rw [q_letE, if_pos F1.2.1]
      rw [if_pos q1, j50]
      exact ⟨0, σ1, rfl, fr1, Or.inr ⟨rfl, F1⟩⟩
/-- a when: its test, a name, a comparison -/
theorem op_when (Y : y_S X lb) (D : rd_D X lb R T) (ha : q_kd X a = 12) (G : y_G X lb g 1) (I : rd_I X R T a g n B Vg w σ τ U dp c s) (hP6 : 0 ≤ c 2 ∧ c 2 ≤ 6) (hP : Vg 1 4 = c 2) (N : y_nm Vg w 0 (c 2)) {v x : Int32} (hv : v.toInt = l) (hl : 0 ≤ l ∧ l < 60) (hx : x.toInt = W) (hW : 3720 ≤ W ∧ W ≤ 5000) (hk : c W = 3) (hU : U 1 l = 8) :
    ∃ (z : Int32) (σ' : ST), q_bi (F_X4_readTest X σ R v) (fun r1 σ1 => if r1.toInt = 0 then ((0 : Int32), σ1) else F_X4_readOperands X σ1 R v (q_rf X g 0)) = (z, σ') ∧ rd_O X R T a g n B Vg w dp s σ τ z σ' (F_X12_readRest X τ a x) (fun U' c' => rd_1 U U' c c' l W ∧ rd_w U' c' l W) := by
  have I0 := I
  obtain ⟨S, M, K, h0, hV⟩ := I
  have six : (6 : Int32).toInt = 6 := rfl
  have n1 : ((rdN 1 : Nat) : Int) = 60 := rfl
  have kb := K.b
  have i6 : (x + 6).toInt = W + 6 := by rw [ar_add, hx, six, ar_wr (by omega) (by omega)]
  have f1 : (τ.1 (q_rf X a 20) x.toNatClampNeg).toInt = 3 := (gm_cell M.2.1 hx).trans hk
  have hT := Y.1
  have tw := tm_testWord (X := X) (σ := τ) (a := a)
  have c18 : y_cw 18 = 3197075 := rfl
  have c19 : y_cw 19 = 267312 := rfl
  have c20 : y_cw 20 = 20201198 := rfl
  have c21 : y_cw 21 = 24046 := rfl
  rw [← c18, ← c19, ← c20, ← c21] at tw
  have iw : ∀ rr : Nat, y_isw rr → (F_X3_isWord X σ R rr).toInt = if (τ.1 a 14).toInt = 1 ∧ (τ.2.1 a 19).toInt = y_cw rr then 1 else 0 := fun rr hr => tl_isWord S.1 K hr
  have ref : F_X12_readRest X τ a x = F_X12_readTest X τ a x := by
    unfold F_X12_readRest
    rw [q_letE (τ.1 (q_rf X a 20) x.toNatClampNeg), f1, if_neg (by decide : ¬ (3 : Int) = 1), if_neg (by decide : ¬ (3 : Int) = 2), if_pos rfl, q_letE]
  rw [ref]
  unfold F_X12_readTest
  rw [q_letE (F_X12_testWord X τ a)]
  obtain ⟨t, ht⟩ : ∃ t, t = F_X12_testWord X τ a := ⟨_, rfl⟩
  rw [← ht] at tw ⊢
  -- the class's word of test k, the action put down
  have good : ∀ (k A : Int32), t.toInt = k.toInt → 0 ≤ k.toInt → k.toInt ≤ 2 → A.toInt = 5 + k.toInt → ∃ (z : Int32) (σ' : ST), F_X4_readOperands X (F_X3_advance X (F_X5_set X σ (q_rf X (q_rf X R 8) 3) v A) R) R v (q_rf X g 0) = (z, σ') ∧ rd_O X R T a g n B Vg w dp s σ τ z σ' (if t.toInt < 0 then F_X12_readTest_J15_1 X τ a x t (0 : Int32) else F_X12_readTest_J15_1 X τ a x t (1 : Int32)) (fun U' c' => rd_1 U U' c c' l W ∧ rd_w U' c' l W) := by
    intro k A tk0 k0 k2 hA
    obtain ⟨S1, f1'⟩ := S.set Y D (id := 1) (r := q_rf X (q_rf X R 8) 3) ⟨by decide, by decide⟩ rfl hv A hl.1 (by rw [n1]; exact hl.2)
    have sc := rd_sameS (σ := σ) Y D (id := 1) (r := q_rf X (q_rf X R 8) 3) ⟨by decide, by decide⟩ rfl (x := v) A (by omega) (by rw [n1]; omega)
    have K1 := K.same sc (tl_same.rf (a := a) (τ := τ))
    have fr1 : rd_Fr X R a σ _ τ τ := rd_Fr.cl f1'
    obtain ⟨σ1, h1⟩ : ∃ t, t = F_X5_set X σ (q_rf X (q_rf X R 8) 3) v A := ⟨_, rfl⟩
    rw [← h1] at S1 f1' K1 fr1 ⊢
    obtain ⟨x1, x2, K2, g2⟩ := tl_adv2 S1.1 M.1 K1
    obtain ⟨S2, f2⟩ := S1.rd D x1.S2
    have M2 := M.rd hT ha x2.S2
    have fr2 := fr1.tr (rd_Fr.rd (τ := τ) hT ha D S1 x1.S2 x2.S2)
    have h02 : ((F_X12_next X τ a).1 a 12).toInt = 0 := by rw [tn_12 x2]; exact h0
    have mu := tm_must1 (X := X) (v := 1) h0 (by decide)
    obtain ⟨σ2, h2⟩ : ∃ t, t = F_X3_advance X σ1 R := ⟨_, rfl⟩
    obtain ⟨τ2, u2⟩ : ∃ t, t = F_X12_next X τ a := ⟨_, rfl⟩
    rw [← h2] at S2 f2 K2 fr2 ⊢
    rw [← u2] at M2 K2 fr2 h02 g2 mu
    obtain ⟨M3, sm3⟩ := M2.cw hT ha (i := x + 6) (v := t) i6 (by omega)
    have K3 := K2.same tl_sameC.rf sm3
    have fr3 := fr2.tr (rd_Fr.cw (τ := τ2) (v := t) hT ha (rd_F.rf (X := X) (R := R) (σ := σ2)) i6 (by omega))
    have V3 : y_v X g σ2 = Vg := by rw [fr2.1.v Y D G (by decide), hV]
    obtain ⟨τ3, u3⟩ : ∃ t', t' = q_si τ2 (q_rf X a 20) (x + 6).toNatClampNeg t := ⟨_, rfl⟩
    rw [← u3] at M3 sm3 K3 fr3
    have h03 : (τ3.1 a 12).toInt = 0 := by rw [sm3.1 12 (by decide) (by decide)]; exact h02
    rw [hA] at S2
    obtain ⟨z, σ', e, fr4, o⟩ := op_tail Y D ha G (v := v) (x := x) (t := t) ⟨S2, M3, K3, h03, V3⟩ (by rw [m_up_ne (by omega)]; exact hP6) (by rw [m_up_ne (by omega)]; exact hP) (by rw [m_up_ne (by omega)]; exact N) hv hl hx hW (by omega) (by rw [y_up_eq]; omega) (m_up_eq _ _ _)
    have rj : (if t.toInt < 0 then F_X12_readTest_J15_1 X τ a x t (0 : Int32) else F_X12_readTest_J15_1 X τ a x t (1 : Int32)) = (if t.toInt = 1 then F_X12_readTest_J50_2 X a t x τ3 else q_let (x + (1 : Int32) : Int32) (fun z_164 => q_bi (F_X12_readTold X τ3 a (0 : Int32)) (fun r_166 σ_167 => q_let (q_si σ_167 (q_rf X a 20) z_164.toNatClampNeg r_166 : ST) (fun σ_168 => F_X12_readTest_J50_2 X a t x σ_168)))) := by
      rw [if_neg (by omega)]
      unfold F_X12_readTest_J15_1
      rw [mu, q_letE τ2, q_letE (x + 6), q_letE (q_si τ2 (q_rf X a 20) (x + 6).toNatClampNeg t), ← u3]
      by_cases q0 : t.toInt = 0
      · rw [if_pos q0, if_neg (by omega)]
      · rw [if_neg q0]
        by_cases q2 : t.toInt = 2
        · rw [if_pos q2, if_neg (by omega)]
        · rw [if_neg q2, if_pos (by omega)]
    have k3b := K3.b
    have e15 : τ3.1 a 15 = τ2.1 a 15 := sm3.1 15 (by decide) (by decide)
    rw [rj]
    refine ⟨z, σ', e, fr3.tr fr4, ?_⟩
    rcases o with ⟨o1, ⟨U', c', I', p1, p2⟩, o3⟩ | o
    · refine Or.inl ⟨o1, ⟨U', c', I', rd_1.tr ⟨fun id i h => ?_, fun j h => ?_⟩ p1, p2⟩, by rw [e15] at o3; omega⟩
      · rw [y_up_ne (by omega)]
      · rw [m_up_ne (by omega)]
    · exact Or.inr o
  unfold F_X4_readTest
  rw [q_letE (F_X3_isWord X σ R 18), iw 18 ⟨by decide, by decide⟩]
  by_cases w18 : (τ.1 a 14).toInt = 1 ∧ (τ.2.1 a 19).toInt = y_cw 18
  · rw [if_pos w18] at tw
    rw [if_pos w18, if_neg (by decide : ¬ (1 : Int) = 0), q_letE (F_X5_set X σ (q_rf X (q_rf X R 8) 3) v 5), q_letE (F_X3_advance X (F_X5_set X σ (q_rf X (q_rf X R 8) 3) v 5) R), q_biP 1, if_neg (by decide : ¬ (1 : Int32).toInt = 0)]
    exact good 0 5 tw (by decide) (by decide) rfl
  rw [if_neg w18] at tw
  rw [if_neg w18, if_pos rfl, q_letE (F_X3_isWord X σ R 19), iw 19 ⟨by decide, by decide⟩]
  by_cases w19 : (τ.1 a 14).toInt = 1 ∧ (τ.2.1 a 19).toInt = y_cw 19
  · rw [if_pos w19] at tw
    rw [if_pos w19, if_neg (by decide : ¬ (1 : Int) = 0), q_letE (F_X5_set X σ (q_rf X (q_rf X R 8) 3) v 6), q_letE (F_X3_advance X (F_X5_set X σ (q_rf X (q_rf X R 8) 3) v 6) R), q_biP 1, if_neg (by decide : ¬ (1 : Int32).toInt = 0)]
    exact good 1 6 tw (by decide) (by decide) rfl
  rw [if_neg w19] at tw
  rw [if_neg w19, if_pos rfl, q_letE (F_X3_isWord X σ R 20), iw 20 ⟨by decide, by decide⟩]
  by_cases w20 : (τ.1 a 14).toInt = 1 ∧ (τ.2.1 a 19).toInt = y_cw 20
  · rw [if_pos w20] at tw
    rw [if_pos w20, if_neg (by decide : ¬ (1 : Int) = 0), q_letE (F_X5_set X σ (q_rf X (q_rf X R 8) 3) v 7), q_letE (F_X3_advance X (F_X5_set X σ (q_rf X (q_rf X R 8) 3) v 7) R), q_biP 1, if_neg (by decide : ¬ (1 : Int32).toInt = 0)]
    exact good 2 7 tw (by decide) (by decide) rfl
  rw [if_neg w20] at tw
  rw [if_neg w20, if_pos rfl, q_letE (F_X3_isWord X σ R 21), iw 21 ⟨by decide, by decide⟩]
  by_cases w21 : (τ.1 a 14).toInt = 1 ∧ (τ.2.1 a 19).toInt = y_cw 21
  · rw [if_pos w21] at tw
    rw [if_pos w21, if_neg (by decide : ¬ (1 : Int) = 0), q_letE (F_X3_advance X σ R), q_biP 1, if_neg (by decide : ¬ (1 : Int32).toInt = 0)]
    obtain ⟨x1, x2, K2, g2⟩ := tl_adv2 S.1 M.1 K
    obtain ⟨S2, f2⟩ := S.rd D x1.S2
    have M2 := M.rd hT ha x2.S2
    have fr2 := rd_Fr.rd (τ := τ) hT ha D S x1.S2 x2.S2
    have h02 : ((F_X12_next X τ a).1 a 12).toInt = 0 := by rw [tn_12 x2]; exact h0
    have mu := tm_must1 (X := X) (v := 1) h0 (by decide)
    obtain ⟨σ2, h2⟩ : ∃ t, t = F_X3_advance X σ R := ⟨_, rfl⟩
    obtain ⟨τ2, u2⟩ : ∃ t, t = F_X12_next X τ a := ⟨_, rfl⟩
    rw [← h2] at S2 f2 K2 fr2 ⊢
    rw [← u2] at M2 K2 fr2 h02 g2 mu
    obtain ⟨M3, sm3⟩ := M2.cw hT ha (i := x + 6) (v := t) i6 (by omega)
    have K3 := K2.same tl_sameC.rf sm3
    have fr3 := fr2.tr (rd_Fr.cw (τ := τ2) (v := t) hT ha (rd_F.rf (X := X) (R := R) (σ := σ2)) i6 (by omega))
    have V3 : y_v X g σ2 = Vg := by rw [fr2.1.v Y D G (by decide), hV]
    have h03 : ((q_si τ2 (q_rf X a 20) (x + 6).toNatClampNeg t).1 a 12).toInt = 0 := by rw [sm3.1 12 (by decide) (by decide)]; exact h02
    have rj : (if t.toInt < 0 then F_X12_readTest_J15_1 X τ a x t (0 : Int32) else F_X12_readTest_J15_1 X τ a x t (1 : Int32)) = q_si τ2 (q_rf X a 20) (x + 6).toNatClampNeg t := by
      rw [if_neg (by omega)]
      unfold F_X12_readTest_J15_1
      rw [mu, q_letE τ2, q_letE (x + 6), q_letE (q_si τ2 (q_rf X a 20) (x + 6).toNatClampNeg t), if_neg (by omega), if_neg (by omega)]
      unfold F_X12_readTest_J50_2
      rw [q_letE, h03, if_neg (by decide : ¬ (0 : Int) < 0), if_pos tw]
    have r1 : (F_X5_get X σ2 (q_rf X (q_rf X R 8) 3) v).toInt = 8 := (S2.get Y D (id := 1) (r := q_rf X (q_rf X R 8) 3) ⟨by decide, by decide⟩ rfl hv hl.1 (by rw [n1]; exact hl.2)).trans hU
    obtain ⟨r, hr⟩ : ∃ r, r = F_X5_get X σ2 (q_rf X (q_rf X R 8) 3) v := ⟨_, rfl⟩
    rw [← hr] at r1
    have hh : (F_X8_hasComparison X σ2 r).toInt = 0 := by
      unfold F_X8_hasComparison F_X8_isWhen
      have e8 : (8 : Int32).toInt = 8 := rfl
      rw [r1, if_neg (by decide), if_neg (by decide), q_letE, if_neg (by decide), if_pos rfl]
      rfl
    have hi : F_X8_highest X σ2 r = -1 := by
      unfold F_X8_highest
      rw [r1]
      rfl
    rw [rj]
    unfold F_X4_readOperands
    rw [q_letE (F_X5_get X σ2 (q_rf X (q_rf X R 8) 3) v), ← hr, q_letE (F_X8_hasName X σ2 r), hn_0 r r1 σ2 (by decide), if_pos rfl]
    unfold F_X4_readOperands_J47_1
    rw [q_letE (F_X8_hasComparison X σ2 r), hh, if_pos rfl, q_letE (F_X8_highest X σ2 r), hi, if_pos (by decide : (-1 : Int32).toInt = -1)]
    have e15 : (q_si τ2 (q_rf X a 20) (x + 6).toNatClampNeg t).1 a 15 = τ2.1 a 15 := sm3.1 15 (by decide) (by decide)
    refine ⟨1, σ2, rfl, fr3, Or.inl ⟨rfl, ⟨U, _, ⟨S2, M3, K3, h03, V3⟩, ⟨fun _ _ _ => rfl, fun j h => m_up_ne (by omega)⟩, Or.inr (Or.inr (Or.inr ⟨?_, hU⟩))⟩, by rw [e15]; omega⟩⟩
    rw [m_up_eq]
    exact tw
  · rw [if_neg w21] at tw
    obtain ⟨σ', y1, y2, y3, y4⟩ := tl_wrong (X := X) K h0
    have fr2 := rd_Fr.rd (τ := τ) hT ha D S y2 y3
    rw [if_neg w21, if_pos rfl, y1, q_biP 0 σ', q_biP 0 σ', if_pos (by decide : (0 : Int32).toInt = 0)]
    have mu := tm_must0 (X := X) (v := 0) h0 rfl
    have rj : (if t.toInt < 0 then F_X12_readTest_J15_1 X τ a x t (0 : Int32) else F_X12_readTest_J15_1 X τ a x t (1 : Int32)) = q_si (F_X12_wrong X τ a) (q_rf X a 20) (x + 6).toNatClampNeg t := by
      rw [if_pos (by omega)]
      unfold F_X12_readTest_J15_1
      rw [mu, q_letE (F_X12_wrong X τ a), q_letE (x + 6), q_letE (q_si (F_X12_wrong X τ a) (q_rf X a 20) (x + 6).toNatClampNeg t), if_neg (by omega), if_neg (by omega)]
      unfold F_X12_readTest_J50_2
      rw [q_letE, if_pos (y4.tab hT ha (x + 6).toNatClampNeg t).2.1]
    rw [rj]
    exact ⟨0, σ', rfl, fr2.tr (rd_Fr.cw hT ha rd_F.rf i6 (by omega)), Or.inr ⟨rfl, y4.tab hT ha _ _⟩⟩
end RU

/-! FROM 49v.head.lean.txt -/
/-! A ROUND BEING READ: a step up to its semicolon -/
def uV (U : Nat → Int → Int) : Nat → Int → Int := fun id i => U (id - 17) i
def uc (c : Int → Int) : Int → Int := fun j => c (3720 + j)
/-- the reference, from a step's word to behind its semicolon -/
noncomputable def hd_M (X : XW) (a : Nat) (r : Int32) (τ : ST) : ST := F_X12_must X (F_X12_readRest X (q_si (F_X12_next X (q_si τ a 27 (τ.1 a 27 + 1)) a) (q_rf X a 20) ((4376 : Int32) + 9 * τ.1 a 27).toNatClampNeg r) a ((4376 : Int32) + 9 * τ.1 a 27)) a (F_X12_isSign X (F_X12_readRest X (q_si (F_X12_next X (q_si τ a 27 (τ.1 a 27 + 1)) a) (q_rf X a 20) ((4376 : Int32) + 9 * τ.1 a 27).toNatClampNeg r) a ((4376 : Int32) + 9 * τ.1 a 27)) a 59)
theorem ot_eq {A : Int32 × ST} {O : ST → Int32 × ST} {K : Int32 → ST → Int32 × ST} (hK : ∀ (z : Int32) (σ : ST), z.toInt = 0 → K z σ = (0, σ)) : q_bi A (fun r σ => if r.toInt = 0 then ((0 : Int32), σ) else q_bi (O σ) K) = q_bi (q_bi A (fun r σ => if r.toInt = 0 then ((0 : Int32), σ) else O σ)) K := by
  obtain ⟨r, σ⟩ := A
  rw [q_biP r σ, q_biP r σ]
  by_cases q : r.toInt = 0
  · rw [if_pos q, if_pos q, q_biP 0 σ, hK 0 σ rfl]
  · rw [if_neg q, if_neg q]
section RH
variable {X : XW} {lb : Nat → Nat} {R T a g : Nat} {σ τ σ' τ' : ST} {n dp s L : Int} {B c w : Int → Int} {U Vg : Nat → Int → Int}
/-- a line more in the script -/
theorem op_add (Y : y_S X lb) (D : rd_D X lb R T) (S : rd_S X R T σ n B U dp) (hL : U 0 2 = L) (hl : 0 ≤ L ∧ L < 60) (r : Int32) : ∃ (z : Int32) (σ' : ST), F_X8_add X σ (q_rf X R 8) r = (z, σ') ∧ z.toInt = L ∧ rd_S X R T σ' n B (y_up (y_up U 1 L r.toInt) 0 2 (L + 1)) dp ∧ rd_F X R σ σ' ∧ tl_sameC R σ σ' := by
  have one : (1 : Int32).toInt = 1 := rfl
  have n1 : ((rdN 1 : Nat) : Int) = 60 := rfl
  have f1 : (σ.1 (q_rf X R 8) 2).toInt = L := by
    have z := rv_n (X := X) (R := R) (σ := σ) (id := 0) (by decide) 2
    rw [S.2.1] at z
    exact z.trans hL
  unfold F_X8_add
  rw [q_letE (σ.1 (q_rf X R 8) 2)]
  obtain ⟨u, hu⟩ : ∃ u, u = σ.1 (q_rf X R 8) 2 := ⟨_, rfl⟩
  rw [← hu] at f1 ⊢
  obtain ⟨S1, x1⟩ := S.set Y D (id := 1) (r := q_rf X (q_rf X R 8) 3) ⟨by decide, by decide⟩ rfl f1 r hl.1 (by rw [n1]; exact hl.2)
  have sc1 := rd_sameS (σ := σ) Y D (id := 1) (r := q_rf X (q_rf X R 8) 3) ⟨by decide, by decide⟩ rfl (x := u) r (by omega) (by rw [n1]; omega)
  rw [q_letE (F_X5_set X σ (q_rf X (q_rf X R 8) 3) u r)]
  obtain ⟨σ1, h1⟩ : ∃ t, t = F_X5_set X σ (q_rf X (q_rf X R 8) 3) u r := ⟨_, rfl⟩
  rw [← h1] at S1 x1 sc1 ⊢
  have f4 : (σ1.1 (q_rf X R 8) 2).toInt = L := by
    have z := rv_n (X := X) (R := R) (σ := σ1) (id := 0) (by decide) 2
    rw [S1.2.1, y_up_ne (Or.inl (by decide))] at z
    exact z.trans hL
  rw [q_letE (σ1.1 (q_rf X R 8) 2)]
  obtain ⟨u4, hu4⟩ : ∃ u, u = σ1.1 (q_rf X R 8) 2 + 1 := ⟨_, rfl⟩
  have uv : u4.toInt = L + 1 := by rw [hu4, ar_add, f4, one, ar_wr (by omega) (by omega)]
  rw [← hu4, q_letE u4, q_letE (q_si σ1 (q_rf X R 8) 2 u4), q_letE ((q_si σ1 (q_rf X R 8) 2 u4).1 (q_rf X R 8) 2), si_eq, q_letE (u4 - 1)]
  obtain ⟨S2, x2⟩ := S1.cell D (id := 0) (by decide) 2 u4
  rw [uv] at S2
  have sc2 := rd_same (σ := σ1) D (id := 0) (by decide) 2 u4
  refine ⟨u4 - 1, _, rfl, by rw [ar_sub, uv, one, ar_wr (by omega) (by omega)]; omega, S2, x1.tr x2, fun f a1 a2 => (sc2 f a1 a2).trans (sc1 f a1 a2)⟩
/-- which actions go with which kinds -/
def rd_k (k A : Int) : Prop := k = 0 ∧ A = 0 ∨ k = 1 ∧ A = 1 ∨ k = 2 ∧ A = 2 ∨ k = 5 ∧ A = 3 ∨ k = 4 ∧ A = 4 ∨ k = 3 ∧ A = 8
theorem op_any (Y : y_S X lb) (D : rd_D X lb R T) (ha : q_kd X a = 12) (G : y_G X lb g 1) (I : rd_I X R T a g n B Vg w σ τ U dp c s) (hP6 : 0 ≤ c 2 ∧ c 2 ≤ 6) (hP : Vg 1 4 = c 2) (N : y_nm Vg w 0 (c 2)) {v x r : Int32} {j A : Int} (hv : v.toInt = L) (hl : 0 ≤ L ∧ L < 60) (hj : 0 ≤ j ∧ j < 30) (hx : x.toInt = 4376 + 9 * j) (hA : r.toInt = A) (hk : rd_k (c (4376 + 9 * j)) A) (hU : U 1 L = A) :
    ∃ (z : Int32) (σ' : ST), (if (F_X8_isWhen X σ r).toInt = 0 then F_X4_readOperands X σ R v (q_rf X g 0) else q_bi (F_X4_readTest X σ R v) (fun r1 σ1 => if r1.toInt = 0 then ((0 : Int32), σ1) else F_X4_readOperands X σ1 R v (q_rf X g 0))) = (z, σ') ∧ rd_O X R T a g n B Vg w dp s σ τ z σ' (F_X12_readRest X τ a x) (fun U' c' => rd_1 U U' c c' L (4376 + 9 * j) ∧ st_l (uV U') (uc c') j L) := by
  have e0 : (3720 : Int) + (656 + 9 * j) = 4376 + 9 * j := by omega
  have e1 : (3720 : Int) + (656 + 9 * j + 1) = 4376 + 9 * j + 1 := by omega
  have e2 : (3720 : Int) + (656 + 9 * j + 2) = 4376 + 9 * j + 2 := by omega
  have e6 : (3720 : Int) + (656 + 9 * j + 6) = 4376 + 9 * j + 6 := by omega
  have e7 : (3720 : Int) + (656 + 9 * j + 7) = 4376 + 9 * j + 7 := by omega
  have e8_ : (8 : Int32).toInt = 8 := rfl
  obtain ⟨W, hWe⟩ : ∃ W, W = 4376 + 9 * j := ⟨_, rfl⟩
  have hW : 3720 ≤ W ∧ W ≤ 5000 := by omega
  have st : ∀ (U' : Nat → Int → Int) (c' : Int → Int), st_l (uV U') (uc c') j L ↔ ((c' W = 0 ∧ U' 1 L = 0) ∨ (c' W = 1 ∧ U' 1 L = 1 ∧ U' 3 L = c' (W + 1) ∧ U' 5 L = c' (W + 2)) ∨ (c' W = 2 ∧ U' 1 L = 2 ∧ U' 3 L = c' (W + 1) ∧ U' 5 L = c' (W + 2)) ∨ (c' W = 5 ∧ U' 1 L = 3) ∨ (c' W = 4 ∧ U' 1 L = 4 ∧ U' 5 L = c' (W + 1) ∧ 1 ≤ c' (W + 1) ∧ c' (W + 1) ≤ 99) ∨ (c' W = 3 ∧ c' (W + 6) = 0 ∧ U' 1 L = 5 ∧ U' 3 L = c' (W + 1) ∧ U' 4 L = c' (W + 7) ∧ U' 5 L = c' (W + 2)) ∨ (c' W = 3 ∧ c' (W + 6) = 1 ∧ U' 1 L = 6 ∧ U' 4 L = c' (W + 7) ∧ U' 5 L = c' (W + 2)) ∨ (c' W = 3 ∧ c' (W + 6) = 2 ∧ U' 1 L = 7 ∧ U' 3 L = c' (W + 1) ∧ U' 4 L = c' (W + 7) ∧ U' 5 L = c' (W + 2)) ∨ (c' W = 3 ∧ c' (W + 6) = 3 ∧ U' 1 L = 8)) := by
    intro U' c'
    unfold st_l uV uc
    rw [e0, e1, e2, e6, e7, ← hWe]
  rw [← hWe] at hx hk ⊢
  have wn : A ≠ 8 → (F_X8_isWhen X σ r).toInt = 0 := fun h => by
    unfold F_X8_isWhen
    rw [hA, if_pos (by unfold rd_k at hk; omega)]
    rfl
  rcases hk with ⟨k1, k2⟩ | ⟨k1, k2⟩ | ⟨k1, k2⟩ | ⟨k1, k2⟩ | ⟨k1, k2⟩ | ⟨k1, k2⟩
  · rw [if_pos (wn (by omega))]
    obtain ⟨z, σ', e, fr, o⟩ := op_none (g := g) Y D I hv hl hx (Or.inl ⟨k1, by omega⟩)
    refine ⟨z, σ', e, fr, ?_⟩
    rcases o with ⟨o1, ⟨U', c', I', p1, p2⟩, o3⟩ | o
    · have cw := p1.2 W (Or.inl (Int.le_refl _))
      exact Or.inl ⟨o1, ⟨U', c', I', p1, (st U' c').mpr (Or.inl ⟨by omega, by omega⟩)⟩, o3⟩
    · exact Or.inr o
  · rw [if_pos (wn (by omega))]
    obtain ⟨z, σ', e, fr, o⟩ := op_bends Y D ha G I hP6 hP N hv hl hx hW (Or.inl k1) (by omega)
    refine ⟨z, σ', e, fr, ?_⟩
    rcases o with ⟨o1, ⟨U', c', I', p1, p2, p3, p4⟩, o3⟩ | o
    · have cw := p1.2 W (Or.inl (Int.le_refl _))
      exact Or.inl ⟨o1, ⟨U', c', I', p1, (st U' c').mpr (Or.inr (Or.inl ⟨by omega, by omega, p3, p4⟩))⟩, o3⟩
    · exact Or.inr o
  · rw [if_pos (wn (by omega))]
    obtain ⟨z, σ', e, fr, o⟩ := op_bends Y D ha G I hP6 hP N hv hl hx hW (Or.inr k1) (by omega)
    refine ⟨z, σ', e, fr, ?_⟩
    rcases o with ⟨o1, ⟨U', c', I', p1, p2, p3, p4⟩, o3⟩ | o
    · have cw := p1.2 W (Or.inl (Int.le_refl _))
      exact Or.inl ⟨o1, ⟨U', c', I', p1, (st U' c').mpr (Or.inr (Or.inr (Or.inl ⟨by omega, by omega, p3, p4⟩)))⟩, o3⟩
    · exact Or.inr o
  · rw [if_pos (wn (by omega))]
    obtain ⟨z, σ', e, fr, o⟩ := op_none (g := g) Y D I hv hl hx (Or.inr ⟨k1, by omega⟩)
    refine ⟨z, σ', e, fr, ?_⟩
    rcases o with ⟨o1, ⟨U', c', I', p1, p2⟩, o3⟩ | o
    · have cw := p1.2 W (Or.inl (Int.le_refl _))
      exact Or.inl ⟨o1, ⟨U', c', I', p1, (st U' c').mpr (Or.inr (Or.inr (Or.inr (Or.inl ⟨by omega, by omega⟩))))⟩, o3⟩
    · exact Or.inr o
  · rw [if_pos (wn (by omega))]
    obtain ⟨z, σ', e, fr, o⟩ := op_loop Y D ha G I hv hl hx hW k1 (by omega)
    refine ⟨z, σ', e, fr, ?_⟩
    rcases o with ⟨o1, ⟨U', c', I', p1, p2, p3, p4⟩, o3⟩ | o
    · have cw := p1.2 W (Or.inl (Int.le_refl _))
      exact Or.inl ⟨o1, ⟨U', c', I', p1, (st U' c').mpr (Or.inr (Or.inr (Or.inr (Or.inr (Or.inl ⟨by omega, by omega, p3, p4⟩)))))⟩, o3⟩
    · exact Or.inr o
  · have wy : ¬ (F_X8_isWhen X σ r).toInt = 0 := by
      unfold F_X8_isWhen
      rw [hA, if_neg (by omega), if_neg (by omega)]
      decide
    rw [if_neg wy]
    obtain ⟨z, σ', e, fr, o⟩ := op_when Y D ha G I hP6 hP N hv hl hx hW k1 (by omega)
    refine ⟨z, σ', e, fr, ?_⟩
    rcases o with ⟨o1, ⟨U', c', I', p1, p2⟩, o3⟩ | o
    · have cw := p1.2 W (Or.inl (Int.le_refl _))
      refine Or.inl ⟨o1, ⟨U', c', I', p1, (st U' c').mpr ?_⟩, o3⟩
      rcases p2 with ⟨y1, y2, y3, y4, y5⟩ | ⟨y1, y2, y3, y4⟩ | ⟨y1, y2, y3, y4, y5⟩ | ⟨y1, y2⟩
      · exact Or.inr (Or.inr (Or.inr (Or.inr (Or.inr (Or.inl ⟨by omega, y1, y2, y3, y4, y5⟩)))))
      · exact Or.inr (Or.inr (Or.inr (Or.inr (Or.inr (Or.inr (Or.inl ⟨by omega, y1, y2, y3, y4⟩))))))
      · exact Or.inr (Or.inr (Or.inr (Or.inr (Or.inr (Or.inr (Or.inr (Or.inl ⟨by omega, y1, y2, y3, y4, y5⟩)))))))
      · exact Or.inr (Or.inr (Or.inr (Or.inr (Or.inr (Or.inr (Or.inr (Or.inr ⟨by omega, y1, y2⟩)))))))
    · exact Or.inr o
end RH

/-! FROM 49w.step.lean.txt -/
/-! A ROUND BEING READ: a step's line -/
noncomputable def hd_K (X : XW) (R : Nat) : Int32 → ST → Int32 × ST := fun r_17 σ_18 => if r_17.toInt = 0 then ((0 : Int32), σ_18) else q_bi (F_X3_passSemicolon X σ_18 R) (fun r_20 σ_21 => if r_20.toInt = 0 then ((0 : Int32), σ_21) else ((1 : Int32), σ_21))
noncomputable def hd_C (X : XW) (R r1 : Nat) (z8 r : Int32) (σ3 : ST) : Int32 × ST := q_let (F_X3_advance X σ3 R : ST) (fun σ_13 => q_let (F_X8_isWhen X σ_13 r : Int32) (fun r_14 => if r_14.toInt = 0 then q_bi (F_X4_readOperands X σ_13 R z8 r1) (hd_K X R) else q_bi (F_X4_readTest X σ_13 R z8) (fun r_23 σ_24 => if r_23.toInt = 0 then ((0 : Int32), σ_24) else q_bi (F_X4_readOperands X σ_24 R z8 r1) (hd_K X R))))
theorem hd_K0 {X : XW} {R : Nat} (z : Int32) (σ : ST) (h : z.toInt = 0) : hd_K X R z σ = (0, σ) := if_pos h
/-- one line and one step are written anew -/
def rd_2 (U U' : Nat → Int → Int) (c c' : Int → Int) (l W : Int) : Prop := (∀ (id : Nat) (i : Int), id = 0 ∨ id = 2 ∨ id = 6 ∨ i ≠ l → U' id i = U id i) ∧ ∀ j : Int, j < W ∨ W + 8 ≤ j → c' j = c j
section RW
variable {X : XW} {lb : Nat → Nat} {R T a g : Nat} {σ τ σ' τ' : ST} {n dp s L : Int} {B c w : Int → Int} {U Vg : Nat → Int → Int}
/-- what a step's head leaves, k its kind -/
def hd_O (X : XW) (R T a g : Nat) (n : Int) (B : Int → Int) (Vg : Nat → Int → Int) (w : Int → Int) (dp s : Int) (U : Nat → Int → Int) (c : Int → Int) (L k : Int) (σ τ : ST) (z : Int32) (σ' τ' : ST) : Prop :=
  rd_Fr X R a σ σ' τ τ' ∧ ((z.toInt = 1 ∧ (∃ (U' : Nat → Int → Int) (c' : Int → Int), rd_I X R T a g n B Vg w σ' τ' U' dp c' (s + 1) ∧ rd_2 U U' c c' L (4376 + 9 * s) ∧ c' (4376 + 9 * s) = k ∧ st_l (uV U') (uc c') s L) ∧ (τ.1 a 15).toInt < (τ'.1 a 15).toInt) ∨ (z.toInt = 0 ∧ tl_F σ' R τ' a))
theorem rd_1w {U U1 U' : Nat → Int → Int} {c c' : Int → Int} {L W k : Int} (h : rd_1 U U' (m_up c W k) c' L W) : (∀ (id : Nat) (i : Int), id = 0 ∨ id = 2 ∨ id = 6 ∨ i ≠ L → U' id i = U id i) ∧ (∀ j : Int, j < W ∨ W + 8 ≤ j → c' j = c j) ∧ c' W = k := by
  refine ⟨h.1, fun j q => ?_, ?_⟩
  · rw [h.2 j (by omega), m_up_ne (by omega)]
  · rw [h.2 W (by omega), m_up_eq]
/-- both behind the semicolon -/
theorem op_rest (Y : y_S X lb) (D : rd_D X lb R T) (ha : q_kd X a = 12) (G : y_G X lb g 1) (I : rd_I X R T a g n B Vg w σ τ U dp c s) (hP6 : 0 ≤ c 2 ∧ c 2 ≤ 6) (hP : Vg 1 4 = c 2) (N : y_nm Vg w 0 (c 2)) {v r rk : Int32} {A k : Int} (hv : v.toInt = L) (hl : 0 ≤ L ∧ L < 60) (hs : 0 ≤ s ∧ s < 30) (ht : (τ.1 a 14).toInt ≠ 0) (hA : r.toInt = A) (hrk : rk.toInt = k) (hk : rd_k k A) (hU : U 1 L = A) :
    ∃ (z : Int32) (σ' : ST), hd_C X R (q_rf X g 0) v r σ = (z, σ') ∧ rd_Fr X R a σ σ' τ (hd_M X a rk τ) ∧ ((z.toInt = 1 ∧ (∃ (U' : Nat → Int → Int) (c' : Int → Int), rd_I X R T a g n B Vg w σ' (hd_M X a rk τ) U' dp c' (s + 1) ∧ rd_1 U U' (m_up c (4376 + 9 * s) k) c' L (4376 + 9 * s) ∧ st_l (uV U') (uc c') s L) ∧ (τ.1 a 15).toInt < ((hd_M X a rk τ).1 a 15).toInt) ∨ (z.toInt = 0 ∧ tl_F σ' R (hd_M X a rk τ) a)) := by
  obtain ⟨S, M, K, h0, hV⟩ := I
  have kb := K.b
  have hT := Y.1
  have one : (1 : Int32).toInt = 1 := rfl
  have e9 : (9 : Int32).toInt = 9 := rfl
  have eW : (4376 : Int32).toInt = 4376 := rfl
  have f27 : (τ.1 a 27).toInt = s := M.2.2.2.1
  have ns : (τ.1 a 27 + 1).toInt = s + 1 := by rw [ar_add, f27, one, ar_wr (by omega) (by omega)]
  have ix : ((4376 : Int32) + 9 * τ.1 a 27).toInt = 4376 + 9 * s := by
    rw [ar_add, ar_mul, f27, e9, eW, ar_wr (n := 9 * s) (by omega) (by omega), ar_wr (by omega) (by omega)]
  obtain ⟨M1, sm1⟩ := M.ns hT ha (τ.1 a 27 + 1)
  rw [ns] at M1
  have K1 := K.same tl_sameC.rf sm1
  have fr1 : rd_Fr X R a σ σ τ (q_si τ a 27 (τ.1 a 27 + 1)) := ⟨rd_F.rf, tkl.rf.si _ (Or.inr ⟨rfl, by decide, Or.inr rfl⟩), fun j _ _ => by rw [mv_cell hT ha]⟩
  unfold hd_M
  obtain ⟨x, hx⟩ : ∃ x, x = (4376 : Int32) + 9 * τ.1 a 27 := ⟨_, rfl⟩
  rw [← hx] at ix ⊢
  obtain ⟨τ1, u1⟩ : ∃ t, t = q_si τ a 27 (τ.1 a 27 + 1) := ⟨_, rfl⟩
  rw [← u1] at M1 sm1 K1 fr1 ⊢
  have e16 : τ1.1 a 16 = τ.1 a 16 := sm1.1 16 (by decide) (by decide)
  obtain ⟨x1, x2, K2, g2⟩ := tl_adv2 S.1 M1.1 K1
  obtain ⟨S2, f2⟩ := S.rd D x1.S2
  have M2 := M1.rd hT ha x2.S2
  have fr2 := fr1.tr (rd_Fr.rd (τ := τ1) hT ha D S x1.S2 x2.S2)
  have h02 : ((F_X12_next X τ1 a).1 a 12).toInt = 0 := by
    rw [tn_12 x2, sm1.1 12 (by decide) (by decide)]; exact h0
  obtain ⟨σ2, h2⟩ : ∃ t, t = F_X3_advance X σ R := ⟨_, rfl⟩
  obtain ⟨τ2, u2⟩ : ∃ t, t = F_X12_next X τ1 a := ⟨_, rfl⟩
  unfold hd_C
  rw [q_letE (F_X3_advance X σ R), ← h2, ← u2]
  rw [← h2] at S2 f2 K2 fr2
  rw [← u2] at M2 K2 fr2 h02 g2
  obtain ⟨M3, sm3⟩ := M2.cw hT ha (i := x) (v := rk) ix (by omega)
  rw [hrk] at M3
  have K3 := K2.same tl_sameC.rf sm3
  have fr3 := fr2.tr (rd_Fr.cw (τ := τ2) (v := rk) hT ha (rd_F.rf (X := X) (R := R) (σ := σ2)) ix (by omega))
  have V3 : y_v X g σ2 = Vg := by rw [fr2.1.v Y D G (by decide), hV]
  have e15 : (q_si τ2 (q_rf X a 20) x.toNatClampNeg rk).1 a 15 = τ2.1 a 15 := sm3.1 15 (by decide) (by decide)
  have h03 : ((q_si τ2 (q_rf X a 20) x.toNatClampNeg rk).1 a 12).toInt = 0 := by rw [sm3.1 12 (by decide) (by decide)]; exact h02
  obtain ⟨τ3, u3⟩ : ∃ t, t = q_si τ2 (q_rf X a 20) x.toNatClampNeg rk := ⟨_, rfl⟩
  rw [← u3] at M3 sm3 K3 fr3 e15 h03 ⊢
  obtain ⟨z4, σ4, e4, fr4, o⟩ := op_any Y D ha G (r := r) (v := v) (x := x) (A := A) (j := s) ⟨S2, M3, K3, h03, V3⟩ (by rw [m_up_ne (by omega)]; exact hP6) (by rw [m_up_ne (by omega)]; exact hP) (by rw [m_up_ne (by omega)]; exact N) hv hl hs ix hA (by rw [m_up_eq]; exact hk) hU
  have cls : (q_let (F_X8_isWhen X σ2 r : Int32) (fun r_14 => if r_14.toInt = 0 then q_bi (F_X4_readOperands X σ2 R v (q_rf X g 0)) (hd_K X R) else q_bi (F_X4_readTest X σ2 R v) (fun r_23 σ_24 => if r_23.toInt = 0 then ((0 : Int32), σ_24) else q_bi (F_X4_readOperands X σ_24 R v (q_rf X g 0)) (hd_K X R)))) = hd_K X R z4 σ4 := by
    rw [q_letE]
    by_cases q : (F_X8_isWhen X σ2 r).toInt = 0
    · rw [if_pos q] at e4
      rw [if_pos q, e4, q_biP z4 σ4]
    · rw [if_neg q] at e4
      rw [if_neg q, ot_eq hd_K0, e4, q_biP z4 σ4]
  rw [cls]
  obtain ⟨τ4, u4⟩ : ∃ t, t = F_X12_readRest X τ3 a x := ⟨_, rfl⟩
  rw [← u4] at fr4 o ⊢
  rcases o with ⟨o1, ⟨U', c', I', p1, p2⟩, o3⟩ | ⟨o1, o2⟩
  · obtain ⟨S5, M5, K5, h05, V5⟩ := I'
    obtain ⟨z6, σ6, e6, hz6, ⟨y1, y2, y3⟩⟩ := tl_passSemi S5.1 M5.1 K5 h05
    obtain ⟨S6, f6⟩ := S5.rd D y1
    have M6 := M5.rd hT ha y2
    have fr6 := (fr3.tr fr4).tr (rd_Fr.rd (τ := τ4) hT ha D S5 y1 y2)
    have V6 : y_v X g σ6 = Vg := by rw [fr6.1.v Y D G (by decide), hV]
    unfold hd_K
    rw [if_neg (by omega : ¬ z4.toInt = 0), e6, q_biP z6 σ6]
    have k5b := K5.b
    rcases y3 with ⟨q1, K7, h07, g7⟩ | ⟨q1, F7⟩
    · rw [if_neg (by omega : ¬ z6.toInt = 0)]
      refine ⟨1, σ6, rfl, fr6, Or.inl ⟨rfl, ⟨U', c', ⟨S6, M6, K7, h07, V6⟩, p1, p2⟩, ?_⟩⟩
      rw [e15] at o3
      rw [e16] at g2
      omega
    · rw [if_pos (by omega : z6.toInt = 0)]
      exact ⟨0, σ6, rfl, fr6, Or.inr ⟨rfl, F7⟩⟩
  · rw [hd_K0 z4 σ4 o1, tm_must2 o2.2.1]
    exact ⟨0, σ4, rfl, fr3.tr fr4, Or.inr ⟨rfl, o2⟩⟩
/-- the class's counts in the script's head -/
theorem op_cnt (Y : y_S X lb) (D : rd_D X lb R T) (S : rd_S X R T σ n B U dp) (h1 : U 0 1 = s) (hs : 0 ≤ s ∧ s < 30) : (σ.1 (q_rf X R 8) 1).toInt = s ∧ ∀ u : Int32, u.toInt = s + 1 → rd_S X R T (q_si σ (q_rf X R 8) 1 u) n B (y_up U 0 1 (s + 1)) dp ∧ rd_F X R σ (q_si σ (q_rf X R 8) 1 u) ∧ tl_sameC R σ (q_si σ (q_rf X R 8) 1 u) := by
  have z := rv_n (X := X) (R := R) (σ := σ) (id := 0) (by decide) 1
  rw [S.2.1] at z
  refine ⟨z.trans h1, fun u hu => ?_⟩
  obtain ⟨S2, x2⟩ := S.cell D (id := 0) (by decide) 1 u
  rw [hu] at S2
  exact ⟨S2, x2, rd_same D (id := 0) (by decide) 1 u⟩
/-- a step without a body -/
theorem op_flat (Y : y_S X lb) (D : rd_D X lb R T) (ha : q_kd X a = 12) (G : y_G X lb g 1) (I : rd_I X R T a g n B Vg w σ τ U dp c s) (hP6 : 0 ≤ c 2 ∧ c 2 ≤ 6) (hP : Vg 1 4 = c 2) (N : y_nm Vg w 0 (c 2)) {r rk x64 : Int32} {A k : Int} (hU1 : U 0 1 = s) (hL : U 0 2 = L) (hl : 0 ≤ L ∧ L < 60) (hs : 0 ≤ s ∧ s < 30) (ht : (τ.1 a 14).toInt ≠ 0) (hA : r.toInt = A) (hrk : rk.toInt = k) (hk : rd_k k A) (hx : x64.toInt = 0) :
    ∃ (z : Int32) (σ' : ST), F_X4_readStep_J72_4 X σ R r x64 (q_rf X g 0) = (z, σ') ∧ hd_O X R T a g n B Vg w dp s (y_up (y_up U 0 2 (L + 1)) 0 1 (s + 1)) c L k σ τ z σ' (hd_M X a rk τ) := by
  obtain ⟨S, M, K, h0, hV⟩ := I
  have one : (1 : Int32).toInt = 1 := rfl
  obtain ⟨z8, σ1, e1, hz8, S1, x1, sc1⟩ := op_add Y D S hL hl r
  obtain ⟨f8, cn⟩ := op_cnt (s := s) Y D S1 (by rw [y_up_ne (Or.inr (by decide)), y_up_ne (Or.inl (by decide))]; exact hU1) hs
  unfold F_X4_readStep_J72_4
  rw [e1, q_biP z8 σ1, q_letE (σ1.1 (q_rf X R 8) 1)]
  obtain ⟨u, hu⟩ : ∃ u, u = σ1.1 (q_rf X R 8) 1 + 1 := ⟨_, rfl⟩
  have uv : u.toInt = s + 1 := by rw [hu, ar_add, f8, one, ar_wr (by omega) (by omega)]
  obtain ⟨S2, x2, sc2⟩ := cn u uv
  rw [← hu, q_letE u, q_letE (q_si σ1 (q_rf X R 8) 1 u), if_pos hx]
  have fr := rd_Fr.cl (a := a) (τ := τ) (x1.tr x2)
  have V2 : y_v X g (q_si σ1 (q_rf X R 8) 1 u) = Vg := by rw [fr.1.v Y D G (by decide), hV]
  have K2 := K.same (fun f a1 a2 => (sc2 f a1 a2).trans (sc1 f a1 a2)) (tl_same.rf (a := a) (τ := τ))
  obtain ⟨z, σ', e, fr2, o⟩ := op_rest Y D ha G (v := z8) (r := r) (rk := rk) (A := A) (k := k) ⟨S2, M, K2, h0, V2⟩ hP6 hP N hz8 hl hs ht hA hrk hk (by rw [y_up_ne (Or.inl (by decide)), y_up_ne (Or.inl (by decide)), y_up_eq]; exact hA)
  refine ⟨z, σ', e, fr.tr fr2, ?_⟩
  rcases o with ⟨o1, ⟨U', c', I', p1, p2⟩, o3⟩ | o
  · obtain ⟨y1, y2, y3⟩ := rd_1w (U1 := U) p1
    refine Or.inl ⟨o1, ⟨U', c', I', ⟨fun id i h => ?_, y2⟩, y3, p2⟩, o3⟩
    · rw [y1 id i h]
      by_cases q0 : id = 0
      · subst q0
        by_cases q1 : i = 1
        · rw [q1, y_up_eq, y_up_eq]
        · rw [y_up_ne (Or.inr q1), y_up_ne (Or.inr q1)]
          by_cases q2 : i = 2
          · rw [q2, y_up_eq, y_up_eq]
          · rw [y_up_ne (Or.inr q2), y_up_ne (Or.inr q2), y_up_ne (Or.inl (by decide))]
      · rw [y_up_ne (Or.inl q0), y_up_ne (Or.inl q0), y_up_ne (Or.inl q0), y_up_ne (Or.inl q0), y_up_ne (by omega)]
  · exact Or.inr o
/-- a step with a body: the class remembers where it began -/
theorem op_block (Y : y_S X lb) (D : rd_D X lb R T) (ha : q_kd X a = 12) (G : y_G X lb g 1) (I : rd_I X R T a g n B Vg w σ τ U dp c s) (hP6 : 0 ≤ c 2 ∧ c 2 ≤ 6) (hP : Vg 1 4 = c 2) (N : y_nm Vg w 0 (c 2)) {r rk : Int32} {A k : Int} (hU1 : U 0 1 = s) (hL : U 0 2 = L) (hl : 0 ≤ L ∧ L < 60) (hs : 0 ≤ s ∧ s < 30) (hd : 0 ≤ dp ∧ dp < 3) (ht : (τ.1 a 14).toInt ≠ 0) (hA : r.toInt = A) (hrk : rk.toInt = k) (hk : rd_k k A) :
    ∃ (z : Int32) (σ' : ST), F_X4_readStep_J72_2 X σ R r (q_rf X g 0) = (z, σ') ∧ hd_O X R T a g n B Vg w (dp + 1) s (y_up (y_up (y_up U 0 2 (L + 1)) 0 1 (s + 1)) 6 dp L) c L k σ τ z σ' (hd_M X a rk τ) := by
  obtain ⟨S, M, K, h0, hV⟩ := I
  have one : (1 : Int32).toInt = 1 := rfl
  have n6 : ((rdN 6 : Nat) : Int) = 3 := rfl
  obtain ⟨z8, σ1, e1, hz8, S1, x1, sc1⟩ := op_add Y D S hL hl r
  obtain ⟨f8, cn⟩ := op_cnt (s := s) Y D S1 (by rw [y_up_ne (Or.inr (by decide)), y_up_ne (Or.inl (by decide))]; exact hU1) hs
  unfold F_X4_readStep_J72_2
  rw [e1, q_biP z8 σ1, q_letE (σ1.1 (q_rf X R 8) 1)]
  obtain ⟨u, hu⟩ : ∃ u, u = σ1.1 (q_rf X R 8) 1 + 1 := ⟨_, rfl⟩
  have uv : u.toInt = s + 1 := by rw [hu, ar_add, f8, one, ar_wr (by omega) (by omega)]
  obtain ⟨S2, x2, sc2⟩ := cn u uv
  rw [← hu, q_letE u, q_letE (q_si σ1 (q_rf X R 8) 1 u), if_neg (by decide : ¬ (1 : Int) = 0)]
  obtain ⟨σ2, h2⟩ : ∃ t, t = q_si σ1 (q_rf X R 8) 1 u := ⟨_, rfl⟩
  rw [← h2] at S2 x2 sc2 ⊢
  rw [q_letE (σ2.1 R 10)]
  have f10 : (σ2.1 R 10).toInt = dp := S2.2.2
  obtain ⟨S3, x3⟩ := S2.set Y D (id := 6) (r := q_rf X R 9) ⟨by decide, by decide⟩ rfl f10 z8 hd.1 (by rw [n6]; exact hd.2)
  have sc3 := rd_sameS (σ := σ2) Y D (id := 6) (r := q_rf X R 9) ⟨by decide, by decide⟩ rfl (x := σ2.1 R 10) z8 (by omega) (by rw [n6]; omega)
  rw [hz8] at S3
  rw [q_letE (F_X5_set X σ2 (q_rf X R 9) (σ2.1 R 10) z8)]
  obtain ⟨σ3, h3⟩ : ∃ t, t = F_X5_set X σ2 (q_rf X R 9) (σ2.1 R 10) z8 := ⟨_, rfl⟩
  rw [← h3] at S3 x3 sc3 ⊢
  obtain ⟨u4, hu4⟩ : ∃ u, u = σ3.1 R 10 + 1 := ⟨_, rfl⟩
  have uv4 : u4.toInt = dp + 1 := by rw [hu4, ar_add, S3.2.2, one, ar_wr (by omega) (by omega)]
  obtain ⟨S4, x4⟩ := S3.dep D u4
  rw [uv4] at S4
  have sc4 := rd_sameD (σ := σ3) (R := R) u4
  rw [q_letE (σ3.1 R 10), ← hu4, q_letE u4, q_letE (q_si σ3 R 10 u4)]
  have fr := rd_Fr.cl (a := a) (τ := τ) (((x1.tr x2).tr x3).tr x4)
  have V4 : y_v X g (q_si σ3 R 10 u4) = Vg := by rw [fr.1.v Y D G (by decide), hV]
  have K4 := K.same (fun f a1 a2 => (sc4 f a1 a2).trans ((sc3 f a1 a2).trans ((sc2 f a1 a2).trans (sc1 f a1 a2)))) (tl_same.rf (a := a) (τ := τ))
  obtain ⟨z, σ', e, fr2, o⟩ := op_rest Y D ha G (v := z8) (r := r) (rk := rk) (A := A) (k := k) ⟨S4, M, K4, h0, V4⟩ hP6 hP N hz8 hl hs ht hA hrk hk (by rw [y_up_ne (Or.inl (by decide)), y_up_ne (Or.inl (by decide)), y_up_ne (Or.inl (by decide)), y_up_eq]; exact hA)
  refine ⟨z, σ', e, fr.tr fr2, ?_⟩
  rcases o with ⟨o1, ⟨U', c', I', p1, p2⟩, o3⟩ | o
  · obtain ⟨y1, y2, y3⟩ := rd_1w (U1 := U) p1
    refine Or.inl ⟨o1, ⟨U', c', I', ⟨fun id i h => ?_, y2⟩, y3, p2⟩, o3⟩
    rw [y1 id i h]
    by_cases q6 : id = 6 ∧ i = dp
    · rw [q6.1, q6.2, y_up_eq, y_up_eq]
    · rw [y_up_ne (V := y_up (y_up (y_up U 1 L r.toInt) 0 2 (L + 1)) 0 1 (s + 1)) (id := 6) (i := dp) (by omega), y_up_ne (V := y_up (y_up U 0 2 (L + 1)) 0 1 (s + 1)) (id := 6) (i := dp) (by omega)]
      by_cases q0 : id = 0
      · subst q0
        by_cases q1 : i = 1
        · rw [q1, y_up_eq, y_up_eq]
        · rw [y_up_ne (Or.inr q1), y_up_ne (Or.inr q1)]
          by_cases q2 : i = 2
          · rw [q2, y_up_eq, y_up_eq]
          · rw [y_up_ne (Or.inr q2), y_up_ne (Or.inr q2), y_up_ne (Or.inl (by decide))]
      · rw [y_up_ne (Or.inl q0), y_up_ne (Or.inl q0), y_up_ne (Or.inl q0), y_up_ne (Or.inl q0), y_up_ne (by omega)]
  · exact Or.inr o
end RW

/-! FROM 49x.depths.lean.txt -/
/-! A ROUND BEING READ: the reference's step at each depth *d0* to *d3*, up to its body -/
section RX
variable {X : XW} {a : Nat} {τ : ST}
theorem rs_81_0 (r x3 v : Int32) (h : 0 < (τ.1 a 12).toInt) : F_X12_readStep_d0_J81_4 X a r x3 τ = τ := by
  unfold F_X12_readStep_d0_J81_4
  rw [q_letE, if_pos h]
theorem rs_55_0 (r x3 v : Int32) (h : 0 < (τ.1 a 12).toInt) : F_X12_readStep_d0_J55_3 X a x3 r v τ = τ := by
  unfold F_X12_readStep_d0_J55_3
  rw [q_letE, if_neg (by omega), rs_81_0 r x3 v h]
theorem rs_29_0 (r x3 v : Int32) (h : 0 < (τ.1 a 12).toInt) : F_X12_readStep_d0_J29_2 X a x3 r v τ = τ := by
  unfold F_X12_readStep_d0_J29_2
  rw [q_letE, if_neg (by omega), rs_55_0 r x3 v h]
theorem rs_d_0 (v : Int32) : F_X12_readStep_d0 X τ a v = F_X12_readStep_d0_J20_1 X (F_X12_stepWord X τ a) τ a v (if (F_X12_stepWord X τ a).toInt = 3 ∨ (F_X12_stepWord X τ a).toInt = 4 then 1 else 0) := by
  unfold F_X12_readStep_d0
  rw [q_letE]
  by_cases q3 : (F_X12_stepWord X τ a).toInt = 3
  · rw [if_pos q3, if_pos (Or.inl q3)]
  · rw [if_neg q3]
    by_cases q4 : (F_X12_stepWord X τ a).toInt = 4
    · rw [if_pos q4, if_pos (Or.inr q4)]
    · rw [if_neg q4, if_neg (fun z => z.elim q3 q4)]
theorem rs_a_0 (r x3 v : Int32) (hr : r.toInt < 0) (h : 0 < ((F_X12_wrong X τ a).1 a 12).toInt) : F_X12_readStep_d0_J20_1 X r τ a v x3 = F_X12_wrong X τ a := by
  unfold F_X12_readStep_d0_J20_1
  rw [if_pos hr, q_letE, rs_29_0 r x3 v h]
theorem rs_b_0 (r x3 v : Int32) (h0 : (τ.1 a 12).toInt = 0) (hr : ¬ r.toInt < 0) (hs : (τ.1 a 27).toInt = 30) (h : 0 < ((F_X12_fail X τ a 6 (τ.1 a 15)).1 a 12).toInt) : F_X12_readStep_d0_J20_1 X r τ a v x3 = F_X12_fail X τ a 6 (τ.1 a 15) := by
  unfold F_X12_readStep_d0_J20_1 F_X12_readStep_d0_J29_2
  rw [if_neg hr, q_letE (τ.1 a 12), h0, if_pos rfl, q_letE (τ.1 a 27), if_pos hs, q_letE (τ.1 a 15), q_letE, rs_55_0 r x3 v h]
theorem rs_c_0 (r x3 v : Int32) (h0 : (τ.1 a 12).toInt = 0) (hr : ¬ r.toInt < 0) (hs : ¬ (τ.1 a 27).toInt = 30) (hx : ¬ x3.toInt = 0) (hv : v.toInt = 3) (h : 0 < ((F_X12_fail X τ a 7 (τ.1 a 15)).1 a 12).toInt) : F_X12_readStep_d0_J20_1 X r τ a v x3 = F_X12_fail X τ a 7 (τ.1 a 15) := by
  unfold F_X12_readStep_d0_J20_1 F_X12_readStep_d0_J29_2 F_X12_readStep_d0_J55_3
  rw [if_neg hr, q_letE (τ.1 a 12), h0, if_pos rfl, q_letE (τ.1 a 27), if_neg hs, q_letE (τ.1 a 12), h0, if_pos rfl, if_neg hx, if_pos hv, q_letE (τ.1 a 15), q_letE, rs_81_0 r x3 v h]
theorem rs_e_0 (r x3 v : Int32) (h0 : (τ.1 a 12).toInt = 0) (hr : ¬ r.toInt < 0) (hs : ¬ (τ.1 a 27).toInt = 30) (hx : x3.toInt = 0 ∨ ¬ v.toInt = 3) : ∃ fu : Nat, ((901 - ((hd_M X a r τ).1 a 15).toInt).toNat + (1 - ((hd_M X a r τ).1 a 12).toInt).toNat) < fu ∧ F_X12_readStep_d0_J20_1 X r τ a v x3 = F_X12_readStep_d0_L140_5 X x3 ((4376 : Int32) + 9 * τ.1 a 27) a fu (hd_M X a r τ) := by
  refine ⟨(901 - ((hd_M X a r τ).1 a 15).toInt).toNat + (1 - ((hd_M X a r τ).1 a 12).toInt).toNat + 1, Nat.lt_succ_self _, ?_⟩
  have e : F_X12_readStep_d0_J81_4 X a r x3 τ = F_X12_readStep_d0_L140_5 X x3 ((4376 : Int32) + 9 * τ.1 a 27) a ((901 - ((hd_M X a r τ).1 a 15).toInt).toNat + (1 - ((hd_M X a r τ).1 a 12).toInt).toNat + 1) (hd_M X a r τ) := by
    unfold F_X12_readStep_d0_J81_4
    rw [q_letE (τ.1 a 12), h0, if_neg (by decide : ¬ (0 : Int) < 0), q_letE (τ.1 a 27), q_letE ((9 : Int32) * τ.1 a 27), q_letE ((4376 : Int32) + 9 * τ.1 a 27), q_letE (τ.1 a 27), q_letE (τ.1 a 27 + 1), q_letE, q_letE, q_letE, q_letE, q_letE, q_letE]
    rfl
  unfold F_X12_readStep_d0_J20_1 F_X12_readStep_d0_J29_2 F_X12_readStep_d0_J55_3
  rw [if_neg hr, q_letE (τ.1 a 12), h0, if_pos rfl, q_letE (τ.1 a 27), if_neg hs, q_letE (τ.1 a 12), h0, if_pos rfl]
  by_cases q : x3.toInt = 0
  · rw [if_pos q, e]
  · rw [if_neg q]
    rcases hx with hx | hx
    · exact absurd hx q
    · rw [if_neg hx, e]
theorem rs_81_1 (r x3 v : Int32) (h : 0 < (τ.1 a 12).toInt) : F_X12_readStep_d1_J81_4 X a r x3 v τ = τ := by
  unfold F_X12_readStep_d1_J81_4
  rw [q_letE, if_pos h]
theorem rs_55_1 (r x3 v : Int32) (h : 0 < (τ.1 a 12).toInt) : F_X12_readStep_d1_J55_3 X a x3 r v τ = τ := by
  unfold F_X12_readStep_d1_J55_3
  rw [q_letE, if_neg (by omega), rs_81_1 r x3 v h]
theorem rs_29_1 (r x3 v : Int32) (h : 0 < (τ.1 a 12).toInt) : F_X12_readStep_d1_J29_2 X a x3 r v τ = τ := by
  unfold F_X12_readStep_d1_J29_2
  rw [q_letE, if_neg (by omega), rs_55_1 r x3 v h]
theorem rs_d_1 (v : Int32) : F_X12_readStep_d1 X τ a v = F_X12_readStep_d1_J20_1 X (F_X12_stepWord X τ a) τ a v (if (F_X12_stepWord X τ a).toInt = 3 ∨ (F_X12_stepWord X τ a).toInt = 4 then 1 else 0) := by
  unfold F_X12_readStep_d1
  rw [q_letE]
  by_cases q3 : (F_X12_stepWord X τ a).toInt = 3
  · rw [if_pos q3, if_pos (Or.inl q3)]
  · rw [if_neg q3]
    by_cases q4 : (F_X12_stepWord X τ a).toInt = 4
    · rw [if_pos q4, if_pos (Or.inr q4)]
    · rw [if_neg q4, if_neg (fun z => z.elim q3 q4)]
theorem rs_a_1 (r x3 v : Int32) (hr : r.toInt < 0) (h : 0 < ((F_X12_wrong X τ a).1 a 12).toInt) : F_X12_readStep_d1_J20_1 X r τ a v x3 = F_X12_wrong X τ a := by
  unfold F_X12_readStep_d1_J20_1
  rw [if_pos hr, q_letE, rs_29_1 r x3 v h]
theorem rs_b_1 (r x3 v : Int32) (h0 : (τ.1 a 12).toInt = 0) (hr : ¬ r.toInt < 0) (hs : (τ.1 a 27).toInt = 30) (h : 0 < ((F_X12_fail X τ a 6 (τ.1 a 15)).1 a 12).toInt) : F_X12_readStep_d1_J20_1 X r τ a v x3 = F_X12_fail X τ a 6 (τ.1 a 15) := by
  unfold F_X12_readStep_d1_J20_1 F_X12_readStep_d1_J29_2
  rw [if_neg hr, q_letE (τ.1 a 12), h0, if_pos rfl, q_letE (τ.1 a 27), if_pos hs, q_letE (τ.1 a 15), q_letE, rs_55_1 r x3 v h]
theorem rs_e_1 (r x3 v : Int32) (h0 : (τ.1 a 12).toInt = 0) (hr : ¬ r.toInt < 0) (hs : ¬ (τ.1 a 27).toInt = 30) (hx : x3.toInt = 0 ∨ ¬ v.toInt = 3) : ∃ fu : Nat, ((901 - ((hd_M X a r τ).1 a 15).toInt).toNat + (1 - ((hd_M X a r τ).1 a 12).toInt).toNat) < fu ∧ F_X12_readStep_d1_J20_1 X r τ a v x3 = F_X12_readStep_d1_L140_5 X x3 ((4376 : Int32) + 9 * τ.1 a 27) a v fu (hd_M X a r τ) := by
  refine ⟨(901 - ((hd_M X a r τ).1 a 15).toInt).toNat + (1 - ((hd_M X a r τ).1 a 12).toInt).toNat + 1, Nat.lt_succ_self _, ?_⟩
  have e : F_X12_readStep_d1_J81_4 X a r x3 v τ = F_X12_readStep_d1_L140_5 X x3 ((4376 : Int32) + 9 * τ.1 a 27) a v ((901 - ((hd_M X a r τ).1 a 15).toInt).toNat + (1 - ((hd_M X a r τ).1 a 12).toInt).toNat + 1) (hd_M X a r τ) := by
    unfold F_X12_readStep_d1_J81_4
    rw [q_letE (τ.1 a 12), h0, if_neg (by decide : ¬ (0 : Int) < 0), q_letE (τ.1 a 27), q_letE ((9 : Int32) * τ.1 a 27), q_letE ((4376 : Int32) + 9 * τ.1 a 27), q_letE (τ.1 a 27), q_letE (τ.1 a 27 + 1), q_letE, q_letE, q_letE, q_letE, q_letE, q_letE]
    rfl
  unfold F_X12_readStep_d1_J20_1 F_X12_readStep_d1_J29_2 F_X12_readStep_d1_J55_3
  rw [if_neg hr, q_letE (τ.1 a 12), h0, if_pos rfl, q_letE (τ.1 a 27), if_neg hs, q_letE (τ.1 a 12), h0, if_pos rfl]
  by_cases q : x3.toInt = 0
  · rw [if_pos q, e]
  · rw [if_neg q]
    rcases hx with hx | hx
    · exact absurd hx q
    · rw [if_neg hx, e]
theorem rs_81_2 (r x3 v : Int32) (h : 0 < (τ.1 a 12).toInt) : F_X12_readStep_d2_J81_4 X a r x3 v τ = τ := by
  unfold F_X12_readStep_d2_J81_4
  rw [q_letE, if_pos h]
theorem rs_55_2 (r x3 v : Int32) (h : 0 < (τ.1 a 12).toInt) : F_X12_readStep_d2_J55_3 X a x3 r v τ = τ := by
  unfold F_X12_readStep_d2_J55_3
  rw [q_letE, if_neg (by omega), rs_81_2 r x3 v h]
theorem rs_29_2 (r x3 v : Int32) (h : 0 < (τ.1 a 12).toInt) : F_X12_readStep_d2_J29_2 X a x3 r v τ = τ := by
  unfold F_X12_readStep_d2_J29_2
  rw [q_letE, if_neg (by omega), rs_55_2 r x3 v h]
theorem rs_d_2 (v : Int32) : F_X12_readStep_d2 X τ a v = F_X12_readStep_d2_J20_1 X (F_X12_stepWord X τ a) τ a v (if (F_X12_stepWord X τ a).toInt = 3 ∨ (F_X12_stepWord X τ a).toInt = 4 then 1 else 0) := by
  unfold F_X12_readStep_d2
  rw [q_letE]
  by_cases q3 : (F_X12_stepWord X τ a).toInt = 3
  · rw [if_pos q3, if_pos (Or.inl q3)]
  · rw [if_neg q3]
    by_cases q4 : (F_X12_stepWord X τ a).toInt = 4
    · rw [if_pos q4, if_pos (Or.inr q4)]
    · rw [if_neg q4, if_neg (fun z => z.elim q3 q4)]
theorem rs_a_2 (r x3 v : Int32) (hr : r.toInt < 0) (h : 0 < ((F_X12_wrong X τ a).1 a 12).toInt) : F_X12_readStep_d2_J20_1 X r τ a v x3 = F_X12_wrong X τ a := by
  unfold F_X12_readStep_d2_J20_1
  rw [if_pos hr, q_letE, rs_29_2 r x3 v h]
theorem rs_b_2 (r x3 v : Int32) (h0 : (τ.1 a 12).toInt = 0) (hr : ¬ r.toInt < 0) (hs : (τ.1 a 27).toInt = 30) (h : 0 < ((F_X12_fail X τ a 6 (τ.1 a 15)).1 a 12).toInt) : F_X12_readStep_d2_J20_1 X r τ a v x3 = F_X12_fail X τ a 6 (τ.1 a 15) := by
  unfold F_X12_readStep_d2_J20_1 F_X12_readStep_d2_J29_2
  rw [if_neg hr, q_letE (τ.1 a 12), h0, if_pos rfl, q_letE (τ.1 a 27), if_pos hs, q_letE (τ.1 a 15), q_letE, rs_55_2 r x3 v h]
theorem rs_e_2 (r x3 v : Int32) (h0 : (τ.1 a 12).toInt = 0) (hr : ¬ r.toInt < 0) (hs : ¬ (τ.1 a 27).toInt = 30) (hx : x3.toInt = 0 ∨ ¬ v.toInt = 3) : ∃ fu : Nat, ((901 - ((hd_M X a r τ).1 a 15).toInt).toNat + (1 - ((hd_M X a r τ).1 a 12).toInt).toNat) < fu ∧ F_X12_readStep_d2_J20_1 X r τ a v x3 = F_X12_readStep_d2_L140_5 X x3 ((4376 : Int32) + 9 * τ.1 a 27) a v fu (hd_M X a r τ) := by
  refine ⟨(901 - ((hd_M X a r τ).1 a 15).toInt).toNat + (1 - ((hd_M X a r τ).1 a 12).toInt).toNat + 1, Nat.lt_succ_self _, ?_⟩
  have e : F_X12_readStep_d2_J81_4 X a r x3 v τ = F_X12_readStep_d2_L140_5 X x3 ((4376 : Int32) + 9 * τ.1 a 27) a v ((901 - ((hd_M X a r τ).1 a 15).toInt).toNat + (1 - ((hd_M X a r τ).1 a 12).toInt).toNat + 1) (hd_M X a r τ) := by
    unfold F_X12_readStep_d2_J81_4
    rw [q_letE (τ.1 a 12), h0, if_neg (by decide : ¬ (0 : Int) < 0), q_letE (τ.1 a 27), q_letE ((9 : Int32) * τ.1 a 27), q_letE ((4376 : Int32) + 9 * τ.1 a 27), q_letE (τ.1 a 27), q_letE (τ.1 a 27 + 1), q_letE, q_letE, q_letE, q_letE, q_letE, q_letE]
    rfl
  unfold F_X12_readStep_d2_J20_1 F_X12_readStep_d2_J29_2 F_X12_readStep_d2_J55_3
  rw [if_neg hr, q_letE (τ.1 a 12), h0, if_pos rfl, q_letE (τ.1 a 27), if_neg hs, q_letE (τ.1 a 12), h0, if_pos rfl]
  by_cases q : x3.toInt = 0
  · rw [if_pos q, e]
  · rw [if_neg q]
    rcases hx with hx | hx
    · exact absurd hx q
    · rw [if_neg hx, e]
theorem rs_81_3 (r x3 v : Int32) (h : 0 < (τ.1 a 12).toInt) : F_X12_readStep_d3_J81_4 X a r x3 v τ = τ := by
  unfold F_X12_readStep_d3_J81_4
  rw [q_letE, if_pos h]
theorem rs_55_3 (r x3 v : Int32) (h : 0 < (τ.1 a 12).toInt) : F_X12_readStep_d3_J55_3 X a x3 r v τ = τ := by
  unfold F_X12_readStep_d3_J55_3
  rw [q_letE, if_neg (by omega), rs_81_3 r x3 v h]
theorem rs_29_3 (r x3 v : Int32) (h : 0 < (τ.1 a 12).toInt) : F_X12_readStep_d3_J29_2 X a x3 r v τ = τ := by
  unfold F_X12_readStep_d3_J29_2
  rw [q_letE, if_neg (by omega), rs_55_3 r x3 v h]
theorem rs_d_3 (v : Int32) : F_X12_readStep_d3 X τ a v = F_X12_readStep_d3_J20_1 X (F_X12_stepWord X τ a) τ a v (if (F_X12_stepWord X τ a).toInt = 3 ∨ (F_X12_stepWord X τ a).toInt = 4 then 1 else 0) := by
  unfold F_X12_readStep_d3
  rw [q_letE]
  by_cases q3 : (F_X12_stepWord X τ a).toInt = 3
  · rw [if_pos q3, if_pos (Or.inl q3)]
  · rw [if_neg q3]
    by_cases q4 : (F_X12_stepWord X τ a).toInt = 4
    · rw [if_pos q4, if_pos (Or.inr q4)]
    · rw [if_neg q4, if_neg (fun z => z.elim q3 q4)]
theorem rs_a_3 (r x3 v : Int32) (hr : r.toInt < 0) (h : 0 < ((F_X12_wrong X τ a).1 a 12).toInt) : F_X12_readStep_d3_J20_1 X r τ a v x3 = F_X12_wrong X τ a := by
  unfold F_X12_readStep_d3_J20_1
  rw [if_pos hr, q_letE, rs_29_3 r x3 v h]
theorem rs_b_3 (r x3 v : Int32) (h0 : (τ.1 a 12).toInt = 0) (hr : ¬ r.toInt < 0) (hs : (τ.1 a 27).toInt = 30) (h : 0 < ((F_X12_fail X τ a 6 (τ.1 a 15)).1 a 12).toInt) : F_X12_readStep_d3_J20_1 X r τ a v x3 = F_X12_fail X τ a 6 (τ.1 a 15) := by
  unfold F_X12_readStep_d3_J20_1 F_X12_readStep_d3_J29_2
  rw [if_neg hr, q_letE (τ.1 a 12), h0, if_pos rfl, q_letE (τ.1 a 27), if_pos hs, q_letE (τ.1 a 15), q_letE, rs_55_3 r x3 v h]
theorem rs_e_3 (r x3 v : Int32) (h0 : (τ.1 a 12).toInt = 0) (hr : ¬ r.toInt < 0) (hs : ¬ (τ.1 a 27).toInt = 30) (hx : x3.toInt = 0 ∨ ¬ v.toInt = 3) : ∃ fu : Nat, ((901 - ((hd_M X a r τ).1 a 15).toInt).toNat + (1 - ((hd_M X a r τ).1 a 12).toInt).toNat) < fu ∧ F_X12_readStep_d3_J20_1 X r τ a v x3 = F_X12_readStep_d3_L140_5 X x3 ((4376 : Int32) + 9 * τ.1 a 27) a v fu (hd_M X a r τ) := by
  refine ⟨(901 - ((hd_M X a r τ).1 a 15).toInt).toNat + (1 - ((hd_M X a r τ).1 a 12).toInt).toNat + 1, Nat.lt_succ_self _, ?_⟩
  have e : F_X12_readStep_d3_J81_4 X a r x3 v τ = F_X12_readStep_d3_L140_5 X x3 ((4376 : Int32) + 9 * τ.1 a 27) a v ((901 - ((hd_M X a r τ).1 a 15).toInt).toNat + (1 - ((hd_M X a r τ).1 a 12).toInt).toNat + 1) (hd_M X a r τ) := by
    unfold F_X12_readStep_d3_J81_4
    rw [q_letE (τ.1 a 12), h0, if_neg (by decide : ¬ (0 : Int) < 0), q_letE (τ.1 a 27), q_letE ((9 : Int32) * τ.1 a 27), q_letE ((4376 : Int32) + 9 * τ.1 a 27), q_letE (τ.1 a 27), q_letE (τ.1 a 27 + 1), q_letE, q_letE, q_letE, q_letE, q_letE, q_letE]
    rfl
  unfold F_X12_readStep_d3_J20_1 F_X12_readStep_d3_J29_2 F_X12_readStep_d3_J55_3
  rw [if_neg hr, q_letE (τ.1 a 12), h0, if_pos rfl, q_letE (τ.1 a 27), if_neg hs, q_letE (τ.1 a 12), h0, if_pos rfl]
  by_cases q : x3.toInt = 0
  · rw [if_pos q, e]
  · rw [if_neg q]
    rcases hx with hx | hx
    · exact absurd hx q
    · rw [if_neg hx, e]
end RX

/-! FROM 49y.ends.lean.txt -/
/-! A ROUND BEING READ: the body's ends, an end read, a step read by both -/
section RY
variable {X : XW} {lb : Nat → Nat} {R T a g : Nat} {σ τ σ' τ' : ST} {n dp s L : Int} {B c w : Int → Int} {U Vg : Nat → Int → Int}
theorem ls_flat_0 (x3 z v : Int32) (hx : x3.toInt = 0) (fu : Nat) (hf : 0 < fu) : F_X12_readStep_d0_L140_5 X x3 z a fu τ = q_si τ (q_rf X a 20) (z + 8).toNatClampNeg (τ.1 a 27) := by
  obtain ⟨k, rfl⟩ : ∃ k, fu = k + 1 := ⟨fu - 1, by omega⟩
  rw [F_X12_readStep_d0_L140_5_s]
  unfold F_X12_readStep_d0_B140_5
  rw [if_pos hx]
  unfold F_X12_readStep_d0_E168_6
  rw [if_pos hx, q_letE, q_letE, q_letE]
theorem ls_flat_1 (x3 z v : Int32) (hx : x3.toInt = 0) (fu : Nat) (hf : 0 < fu) : F_X12_readStep_d1_L140_5 X x3 z a v fu τ = q_si τ (q_rf X a 20) (z + 8).toNatClampNeg (τ.1 a 27) := by
  obtain ⟨k, rfl⟩ : ∃ k, fu = k + 1 := ⟨fu - 1, by omega⟩
  rw [F_X12_readStep_d1_L140_5_s]
  unfold F_X12_readStep_d1_B140_5
  rw [if_pos hx]
  unfold F_X12_readStep_d1_E168_6
  rw [if_pos hx, q_letE, q_letE, q_letE]
theorem ls_bad_1 (x3 z v : Int32) (hx : ¬ x3.toInt = 0) (fu : Nat) (hf : 0 < fu) (h : 0 < (τ.1 a 12).toInt) : F_X12_readStep_d1_L140_5 X x3 z a v fu τ = q_si τ (q_rf X a 20) (z + 8).toNatClampNeg (τ.1 a 27) := by
  obtain ⟨k, rfl⟩ : ∃ k, fu = k + 1 := ⟨fu - 1, by omega⟩
  rw [F_X12_readStep_d1_L140_5_s]
  unfold F_X12_readStep_d1_B140_5
  rw [if_neg hx, q_letE (τ.1 a 12), if_neg (by omega : ¬ (τ.1 a 12).toInt = 0)]
  unfold F_X12_readStep_d1_E168_7
  rw [if_neg hx, q_letE (F_X12_isEnd X τ a), q_letE (F_X12_must X τ a (F_X12_isEnd X τ a)), tm_must2 h, q_letE (F_X12_isSign X τ a 59), q_letE (F_X12_must X τ a (F_X12_isSign X τ a 59)), tm_must2 h, q_letE, q_letE, q_letE]
theorem ls_end_1 (x3 z v : Int32) (hx : ¬ x3.toInt = 0) (fu : Nat) (hf : 0 < fu) (h : (τ.1 a 12).toInt = 0) (he : ¬ (F_X12_isEnd X τ a).toInt = 0) {τ5 : ST} (h5 : τ5 = F_X12_must X (F_X12_must X τ a (F_X12_isEnd X τ a)) a (F_X12_isSign X (F_X12_must X τ a (F_X12_isEnd X τ a)) a 59)) : F_X12_readStep_d1_L140_5 X x3 z a v fu τ = q_si τ5 (q_rf X a 20) (z + 8).toNatClampNeg (τ5.1 a 27) := by
  obtain ⟨k, rfl⟩ : ∃ k, fu = k + 1 := ⟨fu - 1, by omega⟩
  rw [F_X12_readStep_d1_L140_5_s]
  unfold F_X12_readStep_d1_B140_5
  rw [if_neg hx, q_letE (τ.1 a 12), if_pos h, q_letE (F_X12_isEnd X τ a), if_neg he]
  unfold F_X12_readStep_d1_E168_8
  rw [if_neg hx, q_letE (F_X12_isEnd X τ a), q_letE (F_X12_must X τ a (F_X12_isEnd X τ a)), q_letE (F_X12_isSign X (F_X12_must X τ a (F_X12_isEnd X τ a)) a 59), q_letE, ← h5, q_letE, q_letE, q_letE]
theorem ls_rec_1 (x3 z v : Int32) (hx : ¬ x3.toInt = 0) (fu : Nat) (h : (τ.1 a 12).toInt = 0) (he : (F_X12_isEnd X τ a).toInt = 0) : F_X12_readStep_d1_L140_5 X x3 z a v (fu + 1) τ = F_X12_readStep_d1_L140_5 X x3 z a v fu (F_X12_readStep_d0 X τ a (v + 1)) := by
  rw [F_X12_readStep_d1_L140_5_s]
  unfold F_X12_readStep_d1_B140_5
  rw [if_neg hx, q_letE (τ.1 a 12), if_pos h, q_letE (F_X12_isEnd X τ a), if_pos he, q_letE (v + 1), q_letE]
theorem ls_flat_2 (x3 z v : Int32) (hx : x3.toInt = 0) (fu : Nat) (hf : 0 < fu) : F_X12_readStep_d2_L140_5 X x3 z a v fu τ = q_si τ (q_rf X a 20) (z + 8).toNatClampNeg (τ.1 a 27) := by
  obtain ⟨k, rfl⟩ : ∃ k, fu = k + 1 := ⟨fu - 1, by omega⟩
  rw [F_X12_readStep_d2_L140_5_s]
  unfold F_X12_readStep_d2_B140_5
  rw [if_pos hx]
  unfold F_X12_readStep_d2_E168_6
  rw [if_pos hx, q_letE, q_letE, q_letE]
theorem ls_bad_2 (x3 z v : Int32) (hx : ¬ x3.toInt = 0) (fu : Nat) (hf : 0 < fu) (h : 0 < (τ.1 a 12).toInt) : F_X12_readStep_d2_L140_5 X x3 z a v fu τ = q_si τ (q_rf X a 20) (z + 8).toNatClampNeg (τ.1 a 27) := by
  obtain ⟨k, rfl⟩ : ∃ k, fu = k + 1 := ⟨fu - 1, by omega⟩
  rw [F_X12_readStep_d2_L140_5_s]
  unfold F_X12_readStep_d2_B140_5
  rw [if_neg hx, q_letE (τ.1 a 12), if_neg (by omega : ¬ (τ.1 a 12).toInt = 0)]
  unfold F_X12_readStep_d2_E168_7
  rw [if_neg hx, q_letE (F_X12_isEnd X τ a), q_letE (F_X12_must X τ a (F_X12_isEnd X τ a)), tm_must2 h, q_letE (F_X12_isSign X τ a 59), q_letE (F_X12_must X τ a (F_X12_isSign X τ a 59)), tm_must2 h, q_letE, q_letE, q_letE]
theorem ls_end_2 (x3 z v : Int32) (hx : ¬ x3.toInt = 0) (fu : Nat) (hf : 0 < fu) (h : (τ.1 a 12).toInt = 0) (he : ¬ (F_X12_isEnd X τ a).toInt = 0) {τ5 : ST} (h5 : τ5 = F_X12_must X (F_X12_must X τ a (F_X12_isEnd X τ a)) a (F_X12_isSign X (F_X12_must X τ a (F_X12_isEnd X τ a)) a 59)) : F_X12_readStep_d2_L140_5 X x3 z a v fu τ = q_si τ5 (q_rf X a 20) (z + 8).toNatClampNeg (τ5.1 a 27) := by
  obtain ⟨k, rfl⟩ : ∃ k, fu = k + 1 := ⟨fu - 1, by omega⟩
  rw [F_X12_readStep_d2_L140_5_s]
  unfold F_X12_readStep_d2_B140_5
  rw [if_neg hx, q_letE (τ.1 a 12), if_pos h, q_letE (F_X12_isEnd X τ a), if_neg he]
  unfold F_X12_readStep_d2_E168_8
  rw [if_neg hx, q_letE (F_X12_isEnd X τ a), q_letE (F_X12_must X τ a (F_X12_isEnd X τ a)), q_letE (F_X12_isSign X (F_X12_must X τ a (F_X12_isEnd X τ a)) a 59), q_letE, ← h5, q_letE, q_letE, q_letE]
theorem ls_rec_2 (x3 z v : Int32) (hx : ¬ x3.toInt = 0) (fu : Nat) (h : (τ.1 a 12).toInt = 0) (he : (F_X12_isEnd X τ a).toInt = 0) : F_X12_readStep_d2_L140_5 X x3 z a v (fu + 1) τ = F_X12_readStep_d2_L140_5 X x3 z a v fu (F_X12_readStep_d1 X τ a (v + 1)) := by
  rw [F_X12_readStep_d2_L140_5_s]
  unfold F_X12_readStep_d2_B140_5
  rw [if_neg hx, q_letE (τ.1 a 12), if_pos h, q_letE (F_X12_isEnd X τ a), if_pos he, q_letE (v + 1), q_letE]
theorem ls_flat_3 (x3 z v : Int32) (hx : x3.toInt = 0) (fu : Nat) (hf : 0 < fu) : F_X12_readStep_d3_L140_5 X x3 z a v fu τ = q_si τ (q_rf X a 20) (z + 8).toNatClampNeg (τ.1 a 27) := by
  obtain ⟨k, rfl⟩ : ∃ k, fu = k + 1 := ⟨fu - 1, by omega⟩
  rw [F_X12_readStep_d3_L140_5_s]
  unfold F_X12_readStep_d3_B140_5
  rw [if_pos hx]
  unfold F_X12_readStep_d3_E168_6
  rw [if_pos hx, q_letE, q_letE, q_letE]
theorem ls_bad_3 (x3 z v : Int32) (hx : ¬ x3.toInt = 0) (fu : Nat) (hf : 0 < fu) (h : 0 < (τ.1 a 12).toInt) : F_X12_readStep_d3_L140_5 X x3 z a v fu τ = q_si τ (q_rf X a 20) (z + 8).toNatClampNeg (τ.1 a 27) := by
  obtain ⟨k, rfl⟩ : ∃ k, fu = k + 1 := ⟨fu - 1, by omega⟩
  rw [F_X12_readStep_d3_L140_5_s]
  unfold F_X12_readStep_d3_B140_5
  rw [if_neg hx, q_letE (τ.1 a 12), if_neg (by omega : ¬ (τ.1 a 12).toInt = 0)]
  unfold F_X12_readStep_d3_E168_7
  rw [if_neg hx, q_letE (F_X12_isEnd X τ a), q_letE (F_X12_must X τ a (F_X12_isEnd X τ a)), tm_must2 h, q_letE (F_X12_isSign X τ a 59), q_letE (F_X12_must X τ a (F_X12_isSign X τ a 59)), tm_must2 h, q_letE, q_letE, q_letE]
theorem ls_end_3 (x3 z v : Int32) (hx : ¬ x3.toInt = 0) (fu : Nat) (hf : 0 < fu) (h : (τ.1 a 12).toInt = 0) (he : ¬ (F_X12_isEnd X τ a).toInt = 0) {τ5 : ST} (h5 : τ5 = F_X12_must X (F_X12_must X τ a (F_X12_isEnd X τ a)) a (F_X12_isSign X (F_X12_must X τ a (F_X12_isEnd X τ a)) a 59)) : F_X12_readStep_d3_L140_5 X x3 z a v fu τ = q_si τ5 (q_rf X a 20) (z + 8).toNatClampNeg (τ5.1 a 27) := by
  obtain ⟨k, rfl⟩ : ∃ k, fu = k + 1 := ⟨fu - 1, by omega⟩
  rw [F_X12_readStep_d3_L140_5_s]
  unfold F_X12_readStep_d3_B140_5
  rw [if_neg hx, q_letE (τ.1 a 12), if_pos h, q_letE (F_X12_isEnd X τ a), if_neg he]
  unfold F_X12_readStep_d3_E168_8
  rw [if_neg hx, q_letE (F_X12_isEnd X τ a), q_letE (F_X12_must X τ a (F_X12_isEnd X τ a)), q_letE (F_X12_isSign X (F_X12_must X τ a (F_X12_isEnd X τ a)) a 59), q_letE, ← h5, q_letE, q_letE, q_letE]
theorem ls_rec_3 (x3 z v : Int32) (hx : ¬ x3.toInt = 0) (fu : Nat) (h : (τ.1 a 12).toInt = 0) (he : (F_X12_isEnd X τ a).toInt = 0) : F_X12_readStep_d3_L140_5 X x3 z a v (fu + 1) τ = F_X12_readStep_d3_L140_5 X x3 z a v fu (F_X12_readStep_d2 X τ a (v + 1)) := by
  rw [F_X12_readStep_d3_L140_5_s]
  unfold F_X12_readStep_d3_B140_5
  rw [if_neg hx, q_letE (τ.1 a 12), if_pos h, q_letE (F_X12_isEnd X τ a), if_pos he, q_letE (v + 1), q_letE]
/-- which step stands here, for both -/
theorem rd_act (I : rd_I X R T a g n B Vg w σ τ U dp c s) : ((F_X4_actionHere X σ R).toInt = -1 ∧ (F_X12_stepWord X τ a).toInt = -1) ∨ (rd_k (F_X12_stepWord X τ a).toInt (F_X4_actionHere X σ R).toInt ∧ (τ.1 a 14).toInt = 1) := by
  obtain ⟨S, M, K, h0, hV⟩ := I
  have tw := tm_stepWord (X := X) (σ := τ) (a := a)
  have c14 : y_cw 14 = 677454 := rfl
  have c9 : y_cw 9 = 402611 := rfl
  have c10 : y_cw 10 = 150637203 := rfl
  have c17 : y_cw 17 = 762030 := rfl
  have c16 : y_cw 16 = 409072 := rfl
  have c15 : y_cw 15 = 643568 := rfl
  have iw : ∀ rr : Nat, y_isw rr → (F_X3_isWord X σ R rr).toInt = if (τ.1 a 14).toInt = 1 ∧ (τ.2.1 a 19).toInt = y_cw rr then 1 else 0 := fun rr hr => tl_isWord S.1 K hr
  have i1 : ∀ rr : Nat, y_isw rr → (τ.1 a 14).toInt = 1 ∧ (τ.2.1 a 19).toInt = y_cw rr → ¬ (F_X3_isWord X σ R rr).toInt = 0 := fun rr hr h => by rw [iw rr hr, if_pos h]; decide
  have i0 : ∀ rr : Nat, y_isw rr → ¬ ((τ.1 a 14).toInt = 1 ∧ (τ.2.1 a 19).toInt = y_cw rr) → (F_X3_isWord X σ R rr).toInt = 0 := fun rr hr h => by rw [iw rr hr, if_neg h]
  rw [tw]
  unfold F_X4_actionHere rd_k
  rw [q_letE (F_X3_isWord X σ R 14)]
  by_cases w14 : (τ.1 a 14).toInt = 1 ∧ (τ.2.1 a 19).toInt = 677454
  · rw [if_pos w14, if_neg (i1 14 ⟨by decide, by decide⟩ w14)]
    exact Or.inr ⟨Or.inl ⟨rfl, rfl⟩, w14.1⟩
  rw [if_neg w14, if_pos (i0 14 ⟨by decide, by decide⟩ w14), q_letE (F_X3_isWord X σ R 9)]
  by_cases w9 : (τ.1 a 14).toInt = 1 ∧ (τ.2.1 a 19).toInt = 402611
  · rw [if_pos w9, if_neg (i1 9 ⟨by decide, by decide⟩ w9)]
    exact Or.inr ⟨Or.inr (Or.inl ⟨rfl, rfl⟩), w9.1⟩
  rw [if_neg w9, if_pos (i0 9 ⟨by decide, by decide⟩ w9), q_letE (F_X3_isWord X σ R 10)]
  by_cases w10 : (τ.1 a 14).toInt = 1 ∧ (τ.2.1 a 19).toInt = 150637203
  · rw [if_pos w10, if_neg (i1 10 ⟨by decide, by decide⟩ w10)]
    exact Or.inr ⟨Or.inr (Or.inr (Or.inl ⟨rfl, rfl⟩)), w10.1⟩
  rw [if_neg w10, if_pos (i0 10 ⟨by decide, by decide⟩ w10), q_letE (F_X3_isWord X σ R 15)]
  by_cases w15 : (τ.1 a 14).toInt = 1 ∧ (τ.2.1 a 19).toInt = 643568
  · rw [if_neg (show ¬ ((τ.1 a 14).toInt = 1 ∧ (τ.2.1 a 19).toInt = 762030) from fun z => by omega), if_neg (show ¬ ((τ.1 a 14).toInt = 1 ∧ (τ.2.1 a 19).toInt = 409072) from fun z => by omega), if_pos w15, if_neg (i1 15 ⟨by decide, by decide⟩ w15)]
    exact Or.inr ⟨Or.inr (Or.inr (Or.inr (Or.inl ⟨rfl, rfl⟩))), w15.1⟩
  rw [if_pos (i0 15 ⟨by decide, by decide⟩ w15), q_letE (F_X3_isWord X σ R 16)]
  by_cases w16 : (τ.1 a 14).toInt = 1 ∧ (τ.2.1 a 19).toInt = 409072
  · rw [if_neg (show ¬ ((τ.1 a 14).toInt = 1 ∧ (τ.2.1 a 19).toInt = 762030) from fun z => by omega), if_pos w16, if_neg (i1 16 ⟨by decide, by decide⟩ w16)]
    exact Or.inr ⟨Or.inr (Or.inr (Or.inr (Or.inr (Or.inl ⟨rfl, rfl⟩)))), w16.1⟩
  rw [if_pos (i0 16 ⟨by decide, by decide⟩ w16), q_letE (F_X3_isWord X σ R 17)]
  by_cases w17 : (τ.1 a 14).toInt = 1 ∧ (τ.2.1 a 19).toInt = 762030
  · rw [if_pos w17, if_neg (i1 17 ⟨by decide, by decide⟩ w17)]
    exact Or.inr ⟨Or.inr (Or.inr (Or.inr (Or.inr (Or.inr ⟨rfl, rfl⟩)))), w17.1⟩
  · rw [if_neg w17, if_neg w16, if_neg w15, if_pos (i0 17 ⟨by decide, by decide⟩ w17)]
    exact Or.inl ⟨rfl, rfl⟩
/-- an end read by both -/
theorem op_end (Y : y_S X lb) (D : rd_D X lb R T) (ha : q_kd X a = 12) (G : y_G X lb g 1) (I : rd_I X R T a g n B Vg w σ τ U (dp + 1) c s) (hd : 0 ≤ dp ∧ dp < 3) (hL : U 0 2 = L) (hl : 0 ≤ L ∧ L < 60) {l0 : Int} (h6 : U 6 dp = l0) (hl0 : 0 ≤ l0 ∧ l0 < L) (he : ¬ (F_X12_isEnd X τ a).toInt = 0) {τ5 : ST} (h5 : τ5 = F_X12_must X (F_X12_must X τ a (F_X12_isEnd X τ a)) a (F_X12_isSign X (F_X12_must X τ a (F_X12_isEnd X τ a)) a 59)) :
    ∃ (z : Int32) (σ' : ST), F_X4_readEnd X σ R = (z, σ') ∧ rd_Fr X R a σ σ' τ τ5 ∧ ((z.toInt = 1 ∧ rd_I X R T a g n B Vg w σ' τ5 (y_up (y_up (y_up (y_up U 1 L 9) 0 2 (L + 1)) 2 L l0) 2 l0 L) dp c s ∧ (τ.1 a 15).toInt < (τ5.1 a 15).toInt) ∨ (z.toInt = 0 ∧ tl_F σ' R τ5 a)) := by
  obtain ⟨S, M, K, h0, hV⟩ := I
  have hT := Y.1
  have kb := K.b
  have one : (1 : Int32).toInt = 1 := rfl
  have n6 : ((rdN 6 : Nat) : Int) = 3 := rfl
  have n2 : ((rdN 2 : Nat) : Int) = 60 := rfl
  have ty : (τ.1 a 14).toInt = 1 := by
    rw [tm_isEnd] at he
    by_cases q : (τ.1 a 14).toInt = 1 ∧ (τ.2.1 a 19).toInt = 5572
    · exact q.1
    · rw [if_neg q] at he
      exact absurd rfl he
  unfold F_X4_readEnd
  have f10 : (σ.1 R 10).toInt = dp + 1 := S.2.2
  rw [q_letE (σ.1 R 10), if_neg (by omega : ¬ (σ.1 R 10).toInt = 0), q_letE (σ.1 R 10)]
  obtain ⟨u, hu⟩ : ∃ u, u = σ.1 R 10 - 1 := ⟨_, rfl⟩
  have uv : u.toInt = dp := by rw [hu, ar_sub, f10, one, ar_wr (by omega) (by omega)]; omega
  rw [← hu, q_letE u, q_letE (q_si σ R 10 u)]
  obtain ⟨S1, x1⟩ := S.dep D u
  rw [uv] at S1
  have sc1 := rd_sameD (σ := σ) (R := R) u
  obtain ⟨σ1, e1⟩ : ∃ t, t = q_si σ R 10 u := ⟨_, rfl⟩
  rw [← e1] at S1 x1 sc1 ⊢
  have g7 : (F_X5_get X σ1 (q_rf X R 9) (σ1.1 R 10)).toInt = l0 := (S1.get Y D (id := 6) (r := q_rf X R 9) ⟨by decide, by decide⟩ rfl S1.2.2 hd.1 (by rw [n6]; exact hd.2)).trans h6
  rw [q_letE (σ1.1 R 10), q_letE (F_X5_get X σ1 (q_rf X R 9) (σ1.1 R 10))]
  obtain ⟨r7, hr7⟩ : ∃ u, u = F_X5_get X σ1 (q_rf X R 9) (σ1.1 R 10) := ⟨_, rfl⟩
  rw [← hr7] at g7 ⊢
  obtain ⟨z8, σ2, e2, hz8, S2, x2, sc2⟩ := op_add Y D S1 hL hl 9
  rw [e2, q_biP z8 σ2]
  have e9 : (9 : Int32).toInt = 9 := rfl
  rw [e9] at S2
  obtain ⟨S3, x3⟩ := S2.set Y D (id := 2) (r := q_rf X (q_rf X R 8) 4) ⟨by decide, by decide⟩ rfl hz8 r7 hl.1 (by rw [n2]; exact hl.2)
  have sc3 := rd_sameS (σ := σ2) Y D (id := 2) (r := q_rf X (q_rf X R 8) 4) ⟨by decide, by decide⟩ rfl (x := z8) r7 (by omega) (by rw [n2]; omega)
  rw [g7] at S3
  rw [q_letE (F_X5_set X σ2 (q_rf X (q_rf X R 8) 4) z8 r7)]
  obtain ⟨σ3, e3⟩ : ∃ t, t = F_X5_set X σ2 (q_rf X (q_rf X R 8) 4) z8 r7 := ⟨_, rfl⟩
  rw [← e3] at S3 x3 sc3 ⊢
  obtain ⟨S4, x4⟩ := S3.set Y D (id := 2) (r := q_rf X (q_rf X R 8) 4) ⟨by decide, by decide⟩ rfl g7 z8 hl0.1 (by rw [n2]; omega)
  have sc4 := rd_sameS (σ := σ3) Y D (id := 2) (r := q_rf X (q_rf X R 8) 4) ⟨by decide, by decide⟩ rfl (x := r7) z8 (by omega) (by rw [n2]; omega)
  rw [hz8] at S4
  rw [q_letE (F_X5_set X σ3 (q_rf X (q_rf X R 8) 4) r7 z8)]
  obtain ⟨σ4, e4⟩ : ∃ t, t = F_X5_set X σ3 (q_rf X (q_rf X R 8) 4) r7 z8 := ⟨_, rfl⟩
  rw [← e4] at S4 x4 sc4 ⊢
  have K4 := K.same (fun f a1 a2 => (sc4 f a1 a2).trans ((sc3 f a1 a2).trans ((sc2 f a1 a2).trans (sc1 f a1 a2)))) (tl_same.rf (a := a) (τ := τ))
  have fr4 := rd_Fr.cl (a := a) (τ := τ) (((x1.tr x2).tr x3).tr x4)
  obtain ⟨y1, y2, K5, g5⟩ := tl_adv2 S4.1 M.1 K4
  obtain ⟨S5, f5⟩ := S4.rd D y1.S2
  have M5 := M.rd hT ha y2.S2
  have fr5 := fr4.tr (rd_Fr.rd (τ := τ) hT ha D S4 y1.S2 y2.S2)
  have h05 : ((F_X12_next X τ a).1 a 12).toInt = 0 := by rw [tn_12 y2]; exact h0
  rw [tm_must1 h0 he] at h5
  rw [q_letE (F_X3_advance X σ4 R)]
  obtain ⟨z6, σ6, e6, hz6, ⟨w1, w2, w3⟩⟩ := tl_passSemi S5.1 M5.1 K5 h05
  obtain ⟨S6, f6⟩ := S5.rd D w1
  have M6 := M5.rd hT ha w2
  have fr6 := fr5.tr (rd_Fr.rd (τ := F_X12_next X τ a) hT ha D S5 w1 w2)
  have V6 : y_v X g σ6 = Vg := by rw [fr6.1.v Y D G (by decide), hV]
  rw [← h5] at w2 w3 M6 fr6
  rw [e6, q_biP z6 σ6]
  have k5b := K5.b
  rcases w3 with ⟨q1, K7, h07, g7'⟩ | ⟨q1, F7⟩
  · exact ⟨z6, σ6, rfl, fr6, Or.inl ⟨q1, ⟨S6, M6, K7, h07, V6⟩, by omega⟩⟩
  · exact ⟨z6, σ6, rfl, fr6, Or.inr ⟨by omega, F7⟩⟩
end RY

/-! FROM 49z.loop.lean.txt -/
/-! A ROUND BEING READ: steps with their bodies *d0* to *d3* -/
def rd_Z (U : Nat → Int → Int) (s dp : Int) : Prop := U 0 1 = s ∧ 0 ≤ U 0 2 ∧ U 0 2 + dp ≤ 2 * s ∧ 0 ≤ s ∧ s ≤ 30 ∧ 0 ≤ dp ∧ dp ≤ 3
def rd_p (U U' : Nat → Int → Int) (c c' : Int → Int) (L s dp : Int) : Prop := (∀ (id : Nat) (i : Int), 1 ≤ id → id ≤ 5 → i < L → U' id i = U id i) ∧ (∀ i : Int, i < dp → U' 6 i = U 6 i) ∧ ∀ j : Int, j < 4376 + 9 * s → c' j = c j
theorem rd_p.tr {U U1 U2 : Nat → Int → Int} {c c1 c2 : Int → Int} {L L1 s s1 dp dp1 : Int} (h : rd_p U U1 c c1 L s dp) (k : rd_p U1 U2 c1 c2 L1 s1 dp1) (hL : L ≤ L1) (hs : s ≤ s1) (hd : dp ≤ dp1) : rd_p U U2 c c2 L s dp := ⟨fun id i a b q => (k.1 id i a b (by omega)).trans (h.1 id i a b q), fun i q => (k.2.1 i (by omega)).trans (h.2.1 i q), fun j q => (k.2.2 j (by omega)).trans (h.2.2 j q)⟩
theorem st_l.y {V V' : Nat → Int → Int} {c c' : Int → Int} {s l : Int} (hV : ∀ id : Nat, id = 18 ∨ id = 20 ∨ id = 21 ∨ id = 22 → V' id l = V id l) (hc : ∀ j : Int, 656 + 9 * s ≤ j → j ≤ 656 + 9 * s + 7 → c' j = c j) (h : st_l V c s l) : st_l V' c' s l := by
  unfold st_l at h ⊢
  rw [hV 18 (by decide), hV 20 (by decide), hV 21 (by decide), hV 22 (by decide), hc (656 + 9 * s) (by omega) (by omega), hc (656 + 9 * s + 1) (by omega) (by omega), hc (656 + 9 * s + 2) (by omega) (by omega), hc (656 + 9 * s + 6) (by omega) (by omega), hc (656 + 9 * s + 7) (by omega) (by omega)]
  exact h
/-- what stands between stays -/
theorem fl_y {V V' : Nat → Int → Int} {c c' : Int → Int} (n : Nat) : ∀ {s e l l' : Int}, (∀ (id : Nat) (i : Int), 18 ≤ id → id < 23 → l ≤ i → i < l' → V' id i = V id i) → (∀ j : Int, 656 + 9 * s ≤ j → j < 656 + 9 * e → c' j = c j) → fl V c n s e l l' → fl V' c' n s e l l' := by
  induction n with
  | zero => intro s e l l' _ _ h; exact h
  | succ n ih =>
    intro s e l l' hV hc h
    rcases h with h | ⟨a1, a2, a3⟩
    · exact Or.inl h
    · have st : (l < l') → st_l V' c' s l := fun hl => a2.y (fun id h => hV id l (by omega) (by omega) (Int.le_refl _) hl) (fun j j0 j1 => hc j j0 (by omega))
      rcases a3 with ⟨b1, b2, b3, h3⟩ | ⟨b1, m, b, h4, h5, h6, h7, h8, h9⟩
      · have le := fl_le n h3
        refine Or.inr ⟨a1, st (by omega), Or.inl ⟨?_, ?_, ?_, ih (fun id i q0 q1 q2 q3 => hV id i q0 q1 (by omega) q3) (fun j j0 j1 => hc j (by omega) j1) h3⟩⟩
        · rw [hc _ (by omega) (by omega)]; exact b1
        · rw [hc _ (by omega) (by omega)]; exact b2
        · rw [hc _ (by omega) (by omega)]; exact b3
      · have le8 := fl_le n h8
        have le9 := fl_le n h9
        refine Or.inr ⟨a1, st (by omega), Or.inr ⟨?_, m, b, ?_, ?_, ?_, ?_, ih (fun id i q0 q1 q2 q3 => hV id i q0 q1 (by omega) (by omega)) (fun j j0 j1 => hc j (by omega) (by omega)) h8, ih (fun id i q0 q1 q2 q3 => hV id i q0 q1 (by omega) q3) (fun j j0 j1 => hc j (by omega) j1) h9⟩⟩
        · rw [hc _ (by omega) (by omega)]; exact b1
        · rw [hc _ (by omega) (by omega)]; exact h4
        · rw [hV 18 m (by decide) (by decide) (by omega) (by omega)]; exact h5
        · rw [hV 19 m (by decide) (by decide) (by omega) (by omega)]; exact h6
        · rw [hV 19 l (by decide) (by decide) (by omega) (by omega)]; exact h7
/-- what k lines of the class, and the reference's way to τ', come to -/
def rd_A (X : XW) (R T a g : Nat) (n : Int) (B : Int → Int) (Vg : Nat → Int → Int) (w : Int → Int) (σ τ τ' : ST) (U : Nat → Int → Int) (c : Int → Int) (dp : Int) (Q : (Nat → Int → Int) → (Int → Int) → Int → Prop) : Prop := ∃ k : Nat, 1 ≤ k ∧
  ((∃ (σ' : ST) (U' : Nat → Int → Int) (c' : Int → Int) (s' : Int), (∀ (fu : Nat) (i : Int32), 0 ≤ i.toInt → i.toInt ≤ (τ.1 a 15).toInt → ∃ i' : Int32, i'.toInt = i.toInt + (k : Int) ∧ F_X4_takes_L21_1 X R (q_rf X g 0) (fu + k) i σ = F_X4_takes_L21_1 X R (q_rf X g 0) fu i' σ') ∧ rd_I X R T a g n B Vg w σ' τ' U' dp c' s' ∧ rd_Z U' s' dp ∧ rd_Fr X R a σ σ' τ τ' ∧ Q U' c' s' ∧ (τ.1 a 15).toInt + (k : Int) ≤ (τ'.1 a 15).toInt) ∨
   (∃ σ' : ST, (∀ (fu : Nat) (i : Int32), 0 ≤ i.toInt → i.toInt ≤ (τ.1 a 15).toInt → F_X4_takes_L21_1 X R (q_rf X g 0) (fu + k) i σ = (0, σ')) ∧ tl_F σ' R τ' a ∧ rd_Fr X R a σ σ' τ τ' ∧ (τ.1 a 15).toInt + (k : Int) ≤ 301))
section RZ
variable {X : XW} {lb : Nat → Nat} {R T a g : Nat} {σ τ σ' τ' : ST} {n dp s L : Int} {B c w : Int → Int} {U Vg : Nat → Int → Int}
theorem lc_step (I : rd_I X R T a g n B Vg w σ τ U dp c s) (hn : n ≤ 300) (ht : ¬ (τ.1 a 14).toInt = 0) (he : (F_X12_isEnd X τ a).toInt = 0) (fu : Nat) (i : Int32) (hi : i.toInt ≤ (τ.1 a 15).toInt) : F_X4_takes_L21_1 X R (q_rf X g 0) (fu + 1) i σ = q_bi (F_X4_readStep X σ R (q_rf X g 0)) (fun r_29 σ_30 => if r_29.toInt = 0 then ((0 : Int32), σ_30) else q_let (i + 1 : Int32) (fun z_32 => F_X4_takes_L21_1 X R (q_rf X g 0) fu z_32 σ_30)) := by
  obtain ⟨S, M, K, h0, hV⟩ := I
  have kb := K.b
  have iw := tl_isWord S.1 K (r := 13) ⟨by decide, by decide⟩
  have c13 : y_cw 13 = 5572 := rfl
  rw [tm_isEnd] at he
  rw [c13, he] at iw
  have tt : (σ.1 R 4).toInt = (τ.1 a 14).toInt := K.2.2.1
  rw [F_X4_takes_L21_1_s]
  unfold F_X4_takes_B21_1
  rw [if_pos (by omega), q_letE (σ.1 R 4), tt, if_neg ht, q_letE (F_X3_isWord X σ R 13), iw, if_pos rfl]
theorem lc_end (I : rd_I X R T a g n B Vg w σ τ U dp c s) (hn : n ≤ 300) (he : ¬ (F_X12_isEnd X τ a).toInt = 0) (fu : Nat) (i : Int32) (hi : i.toInt ≤ (τ.1 a 15).toInt) : F_X4_takes_L21_1 X R (q_rf X g 0) (fu + 1) i σ = q_bi (F_X4_readEnd X σ R) (fun r_33 σ_34 => if r_33.toInt = 0 then ((0 : Int32), σ_34) else q_let (i + 1 : Int32) (fun z_36 => F_X4_takes_L21_1 X R (q_rf X g 0) fu z_36 σ_34)) := by
  obtain ⟨S, M, K, h0, hV⟩ := I
  have kb := K.b
  have iw := tl_isWord S.1 K (r := 13) ⟨by decide, by decide⟩
  have c13 : y_cw 13 = 5572 := rfl
  rw [tm_isEnd] at he
  rw [c13] at iw
  have ty : (τ.1 a 14).toInt = 1 := by
    by_cases q : (τ.1 a 14).toInt = 1 ∧ (τ.2.1 a 19).toInt = 5572
    · exact q.1
    · rw [if_neg q] at he
      exact absurd rfl he
  rw [← iw] at he
  have tt : (σ.1 R 4).toInt = (τ.1 a 14).toInt := K.2.2.1
  rw [F_X4_takes_L21_1_s]
  unfold F_X4_takes_B21_1
  rw [if_pos (by omega), q_letE (σ.1 R 4), tt, if_neg (by omega), q_letE (F_X3_isWord X σ R 13), if_neg he]
/-- the text's end -/
theorem lc_fin (I : rd_I X R T a g n B Vg w σ τ U dp c s) (ht : (τ.1 a 14).toInt = 0) (fu : Nat) (i : Int32) : F_X4_takes_L21_1 X R (q_rf X g 0) (fu + 1) i σ = F_X4_takes_E72_3 X σ R := by
  obtain ⟨S, M, K, h0, hV⟩ := I
  have tt : (σ.1 R 4).toInt = (τ.1 a 14).toInt := K.2.2.1
  have e : F_X4_takes_E72_2 X σ R = F_X4_takes_E72_3 X σ R := rfl
  rw [F_X4_takes_L21_1_s]
  unfold F_X4_takes_B21_1
  by_cases q : i.toInt < 300
  · rw [if_pos q, q_letE (σ.1 R 4), tt, if_pos ht]
  · rw [if_neg q, e]
/-- the class's step: a fault, a line, a line with a body -/
theorem cl_step (I : rd_I X R T a g n B Vg w σ τ U dp c s) (hs : U 0 1 = s) :
    ((F_X4_actionHere X σ R).toInt = -1 → F_X4_readStep X σ R (q_rf X g 0) = F_X3_fails X σ R 2) ∧
    ((F_X4_actionHere X σ R).toInt ≠ -1 → ¬ s < 30 → F_X4_readStep X σ R (q_rf X g 0) = F_X3_fails X σ R 6) ∧
    ((F_X4_actionHere X σ R).toInt ≠ -1 → s < 30 → (F_X4_actionHere X σ R).toInt = 4 ∨ (F_X4_actionHere X σ R).toInt = 8 → dp < 3 → F_X4_readStep X σ R (q_rf X g 0) = F_X4_readStep_J72_2 X σ R (F_X4_actionHere X σ R) (q_rf X g 0)) ∧
    ((F_X4_actionHere X σ R).toInt ≠ -1 → s < 30 → (F_X4_actionHere X σ R).toInt = 4 ∨ (F_X4_actionHere X σ R).toInt = 8 → ¬ dp < 3 → F_X4_readStep X σ R (q_rf X g 0) = F_X3_fails X σ R 7) ∧
    ((F_X4_actionHere X σ R).toInt ≠ -1 → s < 30 → 0 ≤ (F_X4_actionHere X σ R).toInt ∧ (F_X4_actionHere X σ R).toInt < 4 → F_X4_readStep X σ R (q_rf X g 0) = F_X4_readStep_J72_4 X σ R (F_X4_actionHere X σ R) 0 (q_rf X g 0)) := by
  obtain ⟨S, M, K, h0, hV⟩ := I
  have f4 : (σ.1 (q_rf X R 8) 1).toInt = s := by
    have z := rv_n (X := X) (R := R) (σ := σ) (id := 0) (by decide) 1
    rw [S.2.1] at z
    exact z.trans hs
  have f10 : (σ.1 R 10).toInt = dp := S.2.2
  have pe : ∀ A : Int32 × ST, q_bi A (fun r s => (r, s)) = A := fun A => by
    obtain ⟨r, s⟩ := A
    rw [q_biP]
  have e8 : (8 : Int32).toInt = 8 := rfl
  have blk : (F_X4_actionHere X σ R).toInt = 4 ∨ (F_X4_actionHere X σ R).toInt = 8 → (if (F_X4_actionHere X σ R).toInt = 4 then F_X4_readStep_J47_1 X σ R (F_X4_actionHere X σ R) (q_rf X g 0) else q_let (F_X8_isWhen X σ (F_X4_actionHere X σ R) : Int32) (fun r_124 => if r_124.toInt = 0 then F_X4_readStep_J52_3 X σ R (F_X4_actionHere X σ R) (q_rf X g 0) (0 : Int32) else F_X4_readStep_J47_1 X σ R (F_X4_actionHere X σ R) (q_rf X g 0))) = F_X4_readStep_J47_1 X σ R (F_X4_actionHere X σ R) (q_rf X g 0) := by
    intro h
    by_cases q : (F_X4_actionHere X σ R).toInt = 4
    · rw [if_pos q]
    · have w : ¬ (F_X8_isWhen X σ (F_X4_actionHere X σ R)).toInt = 0 := by
        unfold F_X8_isWhen
        rw [if_neg (by omega), if_neg (by omega)]
        decide
      rw [if_neg q, q_letE, if_neg w]
  refine ⟨fun h => ?_, fun h hs => ?_, fun h hs hb hd => ?_, fun h hs hb hd => ?_, fun h hs hb => ?_⟩
  · unfold F_X4_readStep
    rw [q_letE, if_pos h, pe]
  · unfold F_X4_readStep
    rw [q_letE, if_neg h, q_letE, f4, if_neg hs, pe]
  · unfold F_X4_readStep
    rw [q_letE, if_neg h, q_letE, f4, if_pos hs, blk hb]
    unfold F_X4_readStep_J47_1
    rw [if_neg (by decide), q_letE, f10, if_pos hd]
  · unfold F_X4_readStep
    rw [q_letE, if_neg h, q_letE, f4, if_pos hs, blk hb]
    unfold F_X4_readStep_J47_1
    rw [if_neg (by decide), q_letE, f10, if_neg hd, pe]
  · have w : (F_X8_isWhen X σ (F_X4_actionHere X σ R)).toInt = 0 := by
      unfold F_X8_isWhen
      rw [if_pos (by omega)]
      rfl
    unfold F_X4_readStep
    rw [q_letE, if_neg h, q_letE, f4, if_pos hs, if_neg (by omega), q_letE, w, if_pos rfl]
    unfold F_X4_readStep_J52_3
    rw [if_pos (by decide)]
end RZ
