/-! FROM 49zm.choose.lean.txt -/
/-! A ROUND PLAYED: what is laid, in both -/
/-- what the class writes in a turn: the game's own cells, the run's numbers -/
def pl_Sc (lb : Nat → Nat) (o R : Nat) (b f : Nat) : Prop := lb b / 8192 = o ∨ b = R ∧ 1 ≤ f ∧ f ≤ 6 ∧ f ≠ 5
/-- what the reference writes in a turn -/
def pl_Sr (X : XW) (a : Nat) (b f : Nat) : Prop := b = q_rf X a 20 ∨ b = q_rf X a 28 ∨ b = a ∧ (f = 39 ∨ 42 ≤ f ∧ f ≤ 44)
/-- what stays in a turn -/
def pl_fix (V V' : Nat → Int → Int) (c c' : Int → Int) : Prop := (∀ (id : Nat) (i : Int), id = 1 ∨ id = 3 ∨ id = 5 ∨ id = 6 ∨ 18 ≤ id ∧ id < 23 → V' id i = V id i) ∧ ∀ j : Int, 0 ≤ j → j ≤ 4 ∨ 654 ≤ j → c' j = c j
theorem pl_fix.rf {V : Nat → Int → Int} {c : Int → Int} : pl_fix V V c c := ⟨fun _ _ _ => rfl, fun _ _ _ => rfl⟩
theorem pl_fix.tr {V V' V2 : Nat → Int → Int} {c c' c2 : Int → Int} (h : pl_fix V V' c c') (k : pl_fix V' V2 c' c2) : pl_fix V V2 c c2 := ⟨fun id i q => (k.1 id i q).trans (h.1 id i q), fun j j0 q => (k.2 j j0 q).trans (h.2 j j0 q)⟩
theorem m_S_z {f : Int → Int} {b : Int} {n : Nat} (h : ∀ j : Int, b ≤ j → j < b + (n : Int) → f j = 0) : m_S f b n = 0 := by
  induction n with
  | zero => rfl
  | succ n ih =>
    show m_S f b n + f (b + (n : Int)) = 0
    rw [ih (fun j j0 j1 => h j j0 (by omega)), h (b + (n : Int)) (by omega) (by omega)]
    rfl
/-- a hand of one kind alone, or of another one too -/
theorem pl_hand {c : Int → Int} (hG : m_G c) {p : Int} (hp : 0 ≤ p ∧ p < 6) : c (34 + 10 * p + c 5) ≤ m_S c (34 + 10 * p) 10 ∧ ((∀ k : Int, 0 ≤ k → k < c 0 → k ≠ c 5 → c (34 + 10 * p + k) ≤ 0) → m_S c (34 + 10 * p) 10 = c (34 + 10 * p + c 5)) ∧ ∀ z : Int, 0 ≤ z ∧ z < c 0 → z ≠ c 5 → c (34 + 10 * p + z) + c (34 + 10 * p + c 5) ≤ m_S c (34 + 10 * p) 10 := by
  obtain ⟨b0, b2, b4, b5, b6, b7, b9, b79⟩ := hG.1
  have nn : ∀ j : Int, 34 + 10 * p ≤ j → j < 34 + 10 * p + ((10 : Nat) : Int) → 0 ≤ c j := fun j j0 j1 => hG.hand0 (by omega) (by omega)
  obtain ⟨A, hA⟩ : ∃ A, A = 34 + 10 * p + c 5 := ⟨_, rfl⟩
  obtain ⟨f, hf⟩ : ∃ f : Int → Int, f = fun j => if j = A then 0 else c j := ⟨_, rfl⟩
  have f1 : ∀ j : Int, f j = if j = A then 0 else c j := fun j => by rw [hf]
  have u := m_S_upd (c := c) (c' := f) (b := 34 + 10 * p) (A := A) (v := 0) (n := 10) (fun j _ _ => f1 j) (by omega) (by omega)
  have fn : ∀ j : Int, 34 + 10 * p ≤ j → j < 34 + 10 * p + ((10 : Nat) : Int) → 0 ≤ f j := fun j j0 j1 => by
    rw [f1]
    split
    · exact Int.le_refl 0
    · exact nn j j0 j1
  rw [← hA]
  refine ⟨m_S_ge nn (by omega) (by omega), fun h => ?_, fun z z0 z5 => ?_⟩
  · have e := m_S_z (f := f) (b := 34 + 10 * p) (n := 10) (fun j j0 j1 => by
      rw [f1]
      split
      · rfl
      · rename_i q
        have x := nn j j0 j1
        have ej : j = 34 + 10 * p + (j - (34 + 10 * p)) := by omega
        by_cases k : j - (34 + 10 * p) < c 0
        · have y := h (j - (34 + 10 * p)) (by omega) k (by omega)
          rw [← ej] at y
          omega
        · have y := (hG.2.1 p (j - (34 + 10 * p)) hp.1 hp.2 (by omega) (by omega)).2 (by omega)
          rw [← ej] at y
          exact y)
    omega
  · have e := m_S_ge (c := f) (A := 34 + 10 * p + z) fn (by omega) (by omega)
    rw [f1 (34 + 10 * p + z), if_neg (by omega)] at e
    omega
section PB
variable {X : XW} {lb : Nat → Nat} {g o a R : Nat} {σ σ' τ τ' σ0 τ0 : ST} {V V' : Nat → Int → Int} {c : Int → Int}
theorem pl_W (hV : y_v X g σ = V) : y_W X lb g o σ σ V := ⟨fun _ _ _ => rfl, rfl, hV⟩
theorem pl_Wt (w : y_W X lb g o σ σ' V') : tkl (pl_Sc lb o R) (fun _ _ => False) σ σ' := ⟨fun b f q => w.1 b (fun e => q (Or.inl e)) f, fun b f _ => by rw [w.2.1], by rw [w.2.1]⟩
theorem pl_vR (Y : y_S X lb) (G : y_G X lb g o) (hR : lb R / 8192 ≠ o) (f : Nat) (v : Int32) : y_v X g (q_si σ R f v) = y_v X g σ := y_v.k Y G (fun b hb f' => q_si_ne (fun e => hR (by rw [← e]; exact hb)) f')
theorem pl_vt (Y : y_S X lb) (G : y_G X lb g o) (hR : lb R / 8192 ≠ o) {P : Nat → Prop} (h : tkl (fun b f => b = R ∧ P f) (fun _ _ => False) σ σ') : y_v X g σ' = y_v X g σ := y_v.k Y G (fun b hb f' => h.1 b f' (fun z => hR (by rw [← z.1]; exact hb)))
theorem pl_mc (h : ∀ f, τ'.1 (q_rf X a 20) f = τ.1 (q_rf X a 20) f) : m_c X τ' a = m_c X τ a := by
  funext j
  exact congrArg Int32.toInt (h _)
theorem pl_k28 (hT : q_T X) (ha : q_kd X a = 12) : q_rf X a 28 ≠ q_rf X a 20 ∧ q_rf X a 28 ≠ a ∧ q_rf X a 20 ≠ a := by
  have k28 : q_kd X (q_rf X a 28) = 39 := (hT.1 a 28 (by rw [ha]; decide)).trans (by rw [ha]; rfl)
  have k20 := (tb_k hT ha).1
  exact ⟨m_ne k28 k20 (by decide), m_ne k28 ha (by decide), m_ne k20 ha (by decide)⟩
theorem pl_want (Y : y_S X lb) (G : y_G X lb g o) (w : y_W X lb g o σ0 σ V) {v n : Int32} {k m : Int} (hv : v.toInt = k) (hn : n.toInt = m) (hk : 0 ≤ k ∧ k < 10) (hm : 0 ≤ m ∧ m ≤ 10) (b : 0 ≤ V 23 k ∧ V 23 k ≤ 10) (b9 : 0 ≤ V 0 9 ∧ V 0 9 ≤ 20) :
    ∃ V' : Nat → Int → Int, y_W X lb g o σ0 (F_X0_want X σ g v n) V' ∧ (∀ (id : Nat) (i : Int), id ≠ 23 → (id ≠ 0 ∨ i ≠ 9) → V' id i = V id i) ∧ (∀ j : Int, V' 23 j = V 23 j + (if j = k then m else 0)) ∧ V' 0 9 = V 0 9 + m := by
  have gn : ((y_gn 23 : Nat) : Int) = 10 := rfl
  unfold F_X0_want
  rw [if_neg (by omega : ¬ v.toInt = -1), q_letE (F_X5_add X σ (q_rf X g 8) v n)]
  have w1 := w.add Y G (id := 23) (r := q_rf X g 8) ⟨by decide, by decide⟩ rfl v n (by omega) (by rw [gn]; omega)
  rw [hv, hn, ar_wr (by omega) (by omega)] at w1
  obtain ⟨τ1, e1⟩ : ∃ s, s = F_X5_add X σ (q_rf X g 8) v n := ⟨_, rfl⟩
  rw [← e1] at w1 ⊢
  have f9 : (τ1.1 g 9).toInt = V 0 9 := (w1.rd (id := 0) (by decide) 9 rfl).trans (y_up_ne (Or.inl (by decide)))
  rw [q_letE (τ1.1 g 9)]
  obtain ⟨u, hu⟩ : ∃ u, u = τ1.1 g 9 + n := ⟨_, rfl⟩
  have uv : u.toInt = V 0 9 + m := by rw [hu, ar_add, f9, hn, ar_wr (by omega) (by omega)]
  rw [← hu, q_letE u, q_letE (q_si τ1 g 9 u)]
  have w2 : y_W X lb g o σ0 (q_si τ1 g 9 u) (y_up (y_up V 23 k (V 23 k + m)) 0 9 u.toInt) := w1.si Y G (id := 0) (by decide) 9 u
  rw [uv] at w2
  refine ⟨_, w2, fun id i i23 i0 => ?_, fun j => ?_, y_up_eq _ _ _ _⟩
  · rw [y_up_ne i0, y_up_ne (Or.inl i23)]
  · rw [y_up_ne (Or.inl (by decide))]
    by_cases e : j = k
    · rw [if_pos e, e, y_up_eq]
    · rw [if_neg e, y_up_ne (Or.inr e)]
      omega
theorem pl_clear (Y : y_S X lb) (G : y_G X lb g o) (w : y_W X lb g o σ0 σ V) :
    ∃ V' : Nat → Int → Int, y_W X lb g o σ0 (F_X0_clearWanted X σ g) V' ∧ (∀ (id : Nat) (i : Int), id ≠ 23 → (id ≠ 0 ∨ i ≠ 9) → V' id i = V id i) ∧ (∀ j : Int, 0 ≤ j → j < 10 → V' 23 j = 0) ∧ V' 0 9 = 0 := by
  have gn23 : ((y_gn 23 : Nat) : Int) = 10 := rfl
  have wa := w.clear Y G (id := 23) (r := q_rf X g 8) ⟨by decide, by decide⟩ rfl
  have wb : y_W X lb g o σ0 (q_si (F_X5_clear X σ (q_rf X g 8)) g 9 0) (y_up (y_bl V 23 ((y_gn 23 : Nat) : Int) (fun _ => 0)) 0 9 0) := wa.si Y G (id := 0) (by decide) 9 0
  refine ⟨y_up (y_bl V 23 ((y_gn 23 : Nat) : Int) (fun _ => 0)) 0 9 0, ?_, fun id i i23 i0 => (y_up_ne i0).trans (if_neg (fun z => i23 z.1)), fun j j0 j1 => (y_up_ne (Or.inl (by decide))).trans (if_pos ⟨rfl, j0, by rw [gn23]; exact j1⟩), y_up_eq _ _ _ _⟩
  unfold F_X0_clearWanted
  rw [q_letE (F_X5_clear X σ (q_rf X g 8)), q_letE (q_si (F_X5_clear X σ (q_rf X g 8)) g 9 0)]
  exact wb
theorem pl_clr {v1 : Int32} (fu : Nat) : ∀ (x : Int32) (τ : ST), (2147483647 - x.toInt).toNat < fu → 0 ≤ x.toInt → x.toInt ≤ 10 → (∀ j : Int, 0 ≤ j → j < x.toInt → (τ.1 (q_rf X a 28) j.toNat).toInt = 0) → ∃ τ' : ST, F_X12_turns_L61_2 X a v1 fu x τ = F_X12_turns_E80_8 X τ' a v1 ∧ tkl (fun b _ => b = q_rf X a 28) (fun _ _ => False) τ τ' ∧ ∀ j : Int, 0 ≤ j → j < 10 → (τ'.1 (q_rf X a 28) j.toNat).toInt = 0 := by
  induction fu with
  | zero => intro x τ h; exact absurd h (Nat.not_lt_zero _)
  | succ fu ih =>
    intro x τ hf x0 x1 hz
    rw [F_X12_turns_L61_2_s]
    unfold F_X12_turns_B61_2
    by_cases q : x.toInt < 10
    · have ex : (x + 1).toInt = x.toInt + 1 := y_inc (by omega)
      rw [if_pos q, q_letE (q_si τ (q_rf X a 28) x.toNatClampNeg 0), q_letE (x + 1)]
      obtain ⟨τ', i1, i2, i3⟩ := ih (x + 1) (q_si τ (q_rf X a 28) x.toNatClampNeg 0) (by omega) (by omega) (by omega) (fun j j0 j1 => by
        show (if q_rf X a 28 = q_rf X a 28 ∧ j.toNat = x.toNatClampNeg then (0 : Int32) else τ.1 (q_rf X a 28) j.toNat).toInt = 0
        by_cases e : j = x.toInt
        · rw [if_pos ⟨rfl, by rw [ar_cl, e]⟩]; rfl
        · rw [if_neg (fun z => e (by have := z.2; rw [ar_cl] at this; omega))]
          exact hz j j0 (by omega))
      have t0 : tkl (fun b _ => b = q_rf X a 28) (fun _ _ => False) τ (q_si τ (q_rf X a 28) x.toNatClampNeg 0) := tkl.rf.si _ rfl
      exact ⟨τ', i1, t0.tr i2, i3⟩
    · rw [if_neg q]
      exact ⟨τ, rfl, tkl.rf, fun j j0 j1 => hz j j0 (by omega)⟩
/-- a card of another kind beside -/
theorem pl_l28 {l : Int → Int} {x v : Int32} {k m : Int} (hl : ∀ j : Int, 0 ≤ j → j < 10 → (τ.1 (q_rf X a 28) j.toNat).toInt = l j) (hx : x.toInt = k) (hk : 0 ≤ k ∧ k < 10) (hv : v.toInt = m) : ∀ j : Int, 0 ≤ j → j < 10 → ((q_si τ (q_rf X a 28) x.toNatClampNeg v).1 (q_rf X a 28) j.toNat).toInt = if j = k then m else l j := by
  intro j j0 j1
  show (if q_rf X a 28 = q_rf X a 28 ∧ j.toNat = x.toNatClampNeg then v else τ.1 (q_rf X a 28) j.toNat).toInt = _
  by_cases e : j = k
  · rw [if_pos ⟨rfl, by rw [ar_cl, hx, e]⟩, if_pos e, hv]
  · rw [if_neg (fun z => e (by have := z.2; rw [ar_cl] at this; omega)), if_neg e, hl j j0 j1]
/-- what both choose to lay -/
def pl_chosen (X : XW) (lb : Nat → Nat) (g o a R : Nat) (σ σ' τ τ' : ST) (V : Nat → Int → Int) (c l : Int → Int) : Prop :=
  tkl (pl_Sc lb o R) (fun _ _ => False) σ σ' ∧ (∀ f, f ≠ 6 → σ'.1 R f = σ.1 R f) ∧ σ'.1 R 6 = τ'.1 a 39 ∧ (∃ V' : Nat → Int → Int, y_v X g σ' = V' ∧ (∀ (id : Nat) (i : Int), id ≠ 23 → (id ≠ 0 ∨ i ≠ 9) → V' id i = V id i) ∧ ∀ j : Int, 0 ≤ j → j < 10 → V' 23 j = l j) ∧
  tkl (fun b f => b = q_rf X a 28 ∨ b = a ∧ f = 39) (fun _ _ => False) τ τ' ∧ m_c X τ' a = c ∧ (∀ j : Int, 0 ≤ j → j < 10 → (τ'.1 (q_rf X a 28) j.toNat).toInt = l j) ∧ m_lo c l (c 6)
theorem pl_choose (Y : y_S X lb) (G : y_G X lb g o) (ha : q_kd X a = 12) (hR : lb R / 8192 ≠ o) (hV : y_v X g σ = V) (Rg : rg V c) (hG : m_G c) (hc : m_c X τ a = c) (hd : σ.1 R 6 = τ.1 a 39) (h2 : 2 ≤ c 2) (hS : m_S c (34 + 10 * c 6) 10 ≠ 0) {v1 : Int32} (hv : v1.toInt = c 6) :
    ∃ (σ' τ' : ST) (l : Int → Int), F_X7_choose X σ R g = σ' ∧ F_X12_turns_L61_2 X a v1 ((2147483647 - (0 : Int32).toInt).toNat + 1) 0 τ = F_X12_turns_J163_4 X a v1 τ' ∧ pl_chosen X lb g o a R σ σ' τ τ' V c l := by
  obtain ⟨b0, b2, b4, b5, b6, b7, b9, b79⟩ := hG.1
  have hp : 0 ≤ c 6 ∧ c 6 < 6 := by omega
  have gn9 : ((y_gn 9 : Nat) : Int) = 6 := rfl
  have gn10 : ((y_gn 10 : Nat) : Int) = 6 := rfl
  have one : (1 : Int32).toInt = 1 := rfl
  have e10 : (10 : Int32).toInt = 10 := rfl
  obtain ⟨n80, n8a, n0a⟩ := pl_k28 Y.1 ha
  have w := pl_W (lb := lb) (o := o) hV
  have v5 : V 0 5 = c 6 := by
    have z := Rg.2.1.2.1
    rw [if_neg (by omega)] at z
    exact z
  have v4 : V 0 4 = c 5 := Rg.2.1.1
  obtain ⟨hd1, hd2, hd3⟩ := pl_hand hG hp
  obtain ⟨h, hh⟩ : ∃ h, h = c (34 + 10 * c 6 + c 5) := ⟨_, rfl⟩
  obtain ⟨S, hSS⟩ : ∃ S, S = m_S c (34 + 10 * c 6) 10 := ⟨_, rfl⟩
  have hb := hG.h80 (p := c 6) (k := c 5) hp.1 hp.2 b5.1 (by omega)
  rw [← hh] at hd1 hd2 hd3 hb
  rw [← hSS] at hd1 hd2 hd3 hS
  have v9 : V 9 (c 6) = S := (Rg.2.2.2.1.2 (c 6) hp.1 hp.2).trans hSS.symm
  have v10 : V 10 (c 6) = c (10 + c 6) := (Rg.2.2.1 (c 6) hp.1 hp.2).1
  obtain ⟨n, hn⟩ : ∃ n, n = if c 4 < h then c 4 else h := ⟨_, rfl⟩
  have hn' : n = if h < c 4 then h else c 4 := by
    rw [hn]
    split <;> split <;> omega
  have nb : (0 ≤ n ∧ n ≤ c 4) ∧ n ≤ h ∧ (n < c 4 → n = h) ∧ (n = 0 ↔ h = 0) := by
    rw [hn]
    split <;> omega
  -- the class: as many of the kind as it has
  have f1 : (σ.1 g 5).toInt = c 6 := (w.rd (id := 0) (by decide) 5 rfl).trans v5
  have f2 : (σ.1 g 4).toInt = c 5 := (w.rd (id := 0) (by decide) 4 rfl).trans v4
  have f3 : (F_X1_heldBy X σ (q_rf X g 1) (σ.1 g 5) (σ.1 g 4)).toInt = h := by
    rw [gm_held Y G w f1 f2 hp ⟨b5.1, by omega⟩, Rg.2.2.2.1.1 _ (by omega) (by omega), hh]
    congr 1
    omega
  have f5 : (σ.1 (q_rf X g 0) 3).toInt = c 4 := (w.rd (id := 1) (by decide) 3 rfl).trans Rg.1.2.2.2.1
  have f6 : (F_J9_min_7cf53 X σ (F_X1_heldBy X σ (q_rf X g 1) (σ.1 g 5) (σ.1 g 4)) (σ.1 (q_rf X g 0) 3)).toInt = n := by
    rw [gm_min, f5, f3, hn]
  unfold F_X7_choose
  rw [q_letE (σ.1 g 5), q_letE (σ.1 g 4), q_letE (F_X1_heldBy X σ (q_rf X g 1) (σ.1 g 5) (σ.1 g 4))]
  obtain ⟨r3, e3⟩ : ∃ r, r = F_X1_heldBy X σ (q_rf X g 1) (σ.1 g 5) (σ.1 g 4) := ⟨_, rfl⟩
  rw [← e3] at f3 f6 ⊢
  rw [q_letE (σ.1 (q_rf X g 0) 3), q_letE (F_J9_min_7cf53 X σ r3 (σ.1 (q_rf X g 0) 3))]
  obtain ⟨r6, e6⟩ : ∃ r, r = F_J9_min_7cf53 X σ r3 (σ.1 (q_rf X g 0) 3) := ⟨_, rfl⟩
  rw [← e6] at f6 ⊢
  obtain ⟨V9, w9, k9, z9, s9⟩ := pl_clear Y G w
  rw [q_letE (F_X0_clearWanted X σ g)]
  obtain ⟨σ9, e9⟩ : ∃ s, s = F_X0_clearWanted X σ g := ⟨_, rfl⟩
  rw [← e9] at w9 ⊢
  have f10 : (σ9.1 g 4).toInt = c 5 := (w9.rd (id := 0) (by decide) 4 rfl).trans ((k9 0 4 (by decide) (Or.inr (by decide))).trans v4)
  rw [q_letE (σ9.1 g 4)]
  obtain ⟨V12, w12, k12, z12, s12⟩ := pl_want Y G w9 f10 f6 ⟨b5.1, by omega⟩ ⟨nb.1.1, by omega⟩ (by rw [z9 _ b5.1 (by omega)]; decide) (by rw [s9]; decide)
  rw [q_letE (F_X0_want X σ9 g (σ9.1 g 4) r6)]
  obtain ⟨σ12, e12⟩ : ∃ s, s = F_X0_want X σ9 g (σ9.1 g 4) r6 := ⟨_, rfl⟩
  rw [← e12] at w12 ⊢
  have K12 : ∀ (id : Nat) (i : Int), id ≠ 23 → (id ≠ 0 ∨ i ≠ 9) → V12 id i = V id i := fun id i i1 i2 => (k12 id i i1 i2).trans (k9 id i i1 i2)
  have Z12 : ∀ j : Int, 0 ≤ j → j < 10 → V12 23 j = if j = c 5 then n else 0 := fun j j0 j1 => by
    rw [z12 j, z9 j j0 j1]
    omega
  have S12 : V12 0 9 = n := by rw [s12, s9]; omega
  have R12 : rg V12 c := Rg.w hG (fun id i i1 i2 i3 => K12 id i i1 (by omega))
  have f13 : (σ12.1 (q_rf X g 0) 3).toInt = c 4 := (w12.rd (id := 1) (by decide) 3 rfl).trans R12.1.2.2.2.1
  have f33 : (σ12.1 g 5).toInt = c 6 := (w12.rd (id := 0) (by decide) 5 rfl).trans ((K12 0 5 (by decide) (Or.inr (by decide))).trans v5)
  have f34 : (F_X5_get X σ12 (q_rf X (q_rf X g 1) 2) (σ12.1 g 5)).toInt = S := by
    rw [y_getI Y G w12 (id := 9) (r := q_rf X (q_rf X g 1) 2) ⟨by decide, by decide⟩ rfl f33 hp.1 (by rw [gn9]; exact hp.2), K12 9 _ (by decide) (Or.inl (by decide)), v9]
  have t12 : tkl (pl_Sc lb o R) (fun _ _ => False) σ σ12 := pl_Wt w12
  have r12 : ∀ f, σ12.1 R f = σ.1 R f := fun f => w12.1 R hR f
  have v12 : y_v X g σ12 = V12 := w12.2.2
  rw [q_letE (σ12.1 (q_rf X g 0) 3), f6, f13]
  -- the reference
  have z0 : (0 : Int32).toInt = 0 := rfl
  obtain ⟨τz, tz, kz, lz⟩ := pl_clr (X := X) (a := a) (v1 := v1) ((2147483647 - (0 : Int32).toInt).toNat + 1) 0 τ (by omega) (by decide) (by decide) (fun j j0 j1 => by rw [z0] at j1; omega)
  rw [tz]
  have mz : m_c X τz a = c := (pl_mc (fun f => kz.1 _ f (fun e => n80 e.symm))).trans hc
  have dz : τz.1 a 39 = τ.1 a 39 := kz.1 a 39 (fun e => n8a e.symm)
  have g4 : (τz.1 (q_rf X a 20) (4 : Int32).toNatClampNeg).toInt = c 4 := gm_cell (A := 4) mz rfl
  have g5 : (τz.1 (q_rf X a 20) (5 : Int32).toNatClampNeg).toInt = c 5 := gm_cell (A := 5) mz rfl
  unfold F_X12_turns_E80_8
  rw [q_letE (τz.1 (q_rf X a 20) (4 : Int32).toNatClampNeg), q_letE (τz.1 (q_rf X a 20) (5 : Int32).toNatClampNeg)]
  obtain ⟨u4, q4⟩ : ∃ u, u = τz.1 (q_rf X a 20) (4 : Int32).toNatClampNeg := ⟨_, rfl⟩
  obtain ⟨u5, q5⟩ : ∃ u, u = τz.1 (q_rf X a 20) (5 : Int32).toNatClampNeg := ⟨_, rfl⟩
  rw [← q4] at g4 ⊢
  rw [← q5] at g5 ⊢
  have g18 : (F_X12_handOf X τz a v1 u5).toInt = h := (gm_handOf mz hv g5 hp ⟨b5.1, by omega⟩).trans hh.symm
  have g20 : (F_J9_min_7cf53 X τz u4 (F_X12_handOf X τz a v1 u5)).toInt = n := by rw [gm_min, g18, g4, hn']
  rw [q_letE (F_X12_handOf X τz a v1 u5), q_letE (F_J9_min_7cf53 X τz u4 (F_X12_handOf X τz a v1 u5))]
  obtain ⟨r20, e20⟩ : ∃ r, r = F_J9_min_7cf53 X τz u4 (F_X12_handOf X τz a v1 u5) := ⟨_, rfl⟩
  rw [← e20] at g20 ⊢
  rw [q_letE u5, q_letE (q_si τz (q_rf X a 28) u5.toNatClampNeg r20)]
  have l1 := pl_l28 (X := X) (a := a) lz g5 ⟨b5.1, by omega⟩ g20
  obtain ⟨τ1, e1⟩ : ∃ t, t = q_si τz (q_rf X a 28) u5.toNatClampNeg r20 := ⟨_, rfl⟩
  have k1 : tkl (fun b f => b = q_rf X a 28 ∨ b = a ∧ f = 39) (fun _ _ => False) τ τ1 := by
    rw [e1]
    exact (kz.mono (fun b f z => Or.inl z) (fun _ _ z => z)).si _ (Or.inl rfl)
  have m1 : m_c X τ1 a = c := (pl_mc (fun f => by rw [e1]; exact q_si_ne (fun e => n80 e.symm) f)).trans mz
  have d1 : τ1.1 a 39 = τ.1 a 39 := by rw [e1, q_si_ne (fun e => n8a e.symm), dz]
  rw [← e1] at l1 ⊢
  have g26 : (τ1.1 (q_rf X a 20) (4 : Int32).toNatClampNeg).toInt = c 4 := gm_cell (A := 4) m1 rfl
  obtain ⟨zo, o1, o2, o3⟩ := pl_other Y G w12 R12 hG m1 ((K12 0 5 (by decide) (Or.inr (by decide))).trans v5) hp hv
  rw [q_letE (F_X12_otherKind X τ1 a v1), o2, q_letE (τ1.1 (q_rf X a 20) (4 : Int32).toNatClampNeg), g20, g26]
  obtain ⟨f, hf⟩ : ∃ f : Int → Int, f = fun j => if j = c 5 then n else 0 := ⟨_, rfl⟩
  have ff : ∀ j : Int, f j = if j = c 5 then n else 0 := fun j => by rw [hf]
  have hm1 : m_l1 f (c 5) n := fun j _ _ => ff j
  -- of the kind alone
  have alone : ∀ (σ' τ' : ST), tkl (pl_Sc lb o R) (fun _ _ => False) σ12 σ' → (∀ f, f ≠ 6 → σ'.1 R f = σ12.1 R f) → σ'.1 R 6 = τ'.1 a 39 → y_v X g σ' = V12 → tkl (fun b f => b = a ∧ f = 39) (fun _ _ => False) τ1 τ' → 1 ≤ n → pl_chosen X lb g o a R σ σ' τ τ' V c f := by
    intro σ' τ' s1 s2 s3 s4 t1 n1
    refine ⟨t12.tr s1, fun f hf => (s2 f hf).trans (r12 f), s3, ⟨V12, s4, K12, fun j j0 j1 => by rw [ff]; exact Z12 j j0 j1⟩, k1.tr (t1.mono (fun b f z => Or.inr z) (fun _ _ z => z)), (pl_mc (fun f => t1.1 _ f (fun e => n0a e.1))).trans m1, fun j j0 j1 => ?_, ?_⟩
    · rw [t1.1 _ _ (fun e => n8a e.1), l1 j j0 j1, ff]
    · exact m_lo.one hG hp hm1 ⟨n1, by omega⟩ (by rw [← hh]; exact nb.2.1)
  -- and one of another kind
  have beside : ∀ (σ' τ' : ST), tkl (pl_Sc lb o R) (fun _ _ => False) σ12 σ' → (∀ f, f ≠ 6 → σ'.1 R f = σ12.1 R f) → σ'.1 R 6 = τ'.1 a 39 → y_v X g σ' = V12 → tkl (fun b f => b = a ∧ f = 39) (fun _ _ => False) τ1 τ' → n < c 4 → 0 ≤ zo.toInt → pl_chosen X lb g o a R σ (F_X0_want X σ' g zo 1) τ (q_si τ' (q_rf X a 28) zo.toNatClampNeg (τ'.1 (q_rf X a 28) zo.toNatClampNeg + 1)) V c (fun j => if j = zo.toInt then f j + 1 else f j) := by
    intro σ' τ' s1 s2 s3 s4 t1 n1 z1
    have zz : (0 ≤ zo.toInt ∧ zo.toInt < c 0) ∧ zo.toInt ≠ c 5 ∧ 0 < c (34 + 10 * c 6 + zo.toInt) := by
      rcases o3 with o | o
      · have := o.1; omega
      · exact o
    have fz : f zo.toInt = 0 := by rw [ff, if_neg zz.2.1]
    obtain ⟨V3, w3, k3, z3, -⟩ := pl_want (lb := lb) (o := o) Y G (pl_W s4) (v := zo) (n := 1) rfl one ⟨by omega, by omega⟩ ⟨by decide, by decide⟩ (by rw [Z12 _ (by omega) (by omega), if_neg zz.2.1]; decide) (by rw [S12]; omega)
    have lt : ∀ j : Int, 0 ≤ j → j < 10 → (τ'.1 (q_rf X a 28) j.toNat).toInt = f j := fun j j0 j1 => by rw [t1.1 _ _ (fun e => n8a e.1), l1 j j0 j1, ff]
    have ez : (τ'.1 (q_rf X a 28) zo.toNatClampNeg).toInt = 0 := by
      have q := lt zo.toInt (by omega) (by omega)
      rw [fz] at q
      exact q
    have ez1 : (τ'.1 (q_rf X a 28) zo.toNatClampNeg + 1).toInt = 1 := by rw [ar_add, ez, one, ar_wr (by decide) (by decide)]; rfl
    have l2 := pl_l28 (X := X) (a := a) (x := zo) lt rfl ⟨by omega, by omega⟩ ez1
    refine ⟨(t12.tr s1).tr (pl_Wt w3), fun f hf => (w3.1 R hR f).trans ((s2 f hf).trans (r12 f)), ?_, ⟨V3, w3.2.2, fun id i i1 i2 => (k3 id i i1 i2).trans (K12 id i i1 i2), fun j j0 j1 => ?_⟩, (k1.tr (t1.mono (fun b f z => Or.inr z) (fun _ _ z => z))).si _ (Or.inl rfl), ?_, fun j j0 j1 => ?_, ?_⟩
    · rw [w3.1 R hR 6, s3, q_si_ne (fun e => n8a e.symm)]
    · show V3 23 j = if j = zo.toInt then f j + 1 else f j
      rw [z3 j, Z12 j j0 j1, ← ff j]
      by_cases e : j = zo.toInt
      · rw [if_pos e, if_pos e]
      · rw [if_neg e, if_neg e]; omega
    · refine (pl_mc (fun f => q_si_ne (fun e => n80 e.symm) f)).trans ((pl_mc (fun f => t1.1 _ f (fun e => n0a e.1))).trans m1)
    · rw [l2 j j0 j1]
      show (if j = zo.toInt then (1 : Int) else f j) = if j = zo.toInt then f j + 1 else f j
      by_cases e : j = zo.toInt
      · rw [if_pos e, if_pos e, e, fz]; rfl
      · rw [if_neg e, if_neg e]
    · refine m_lo.two (v := f zo.toInt + 1) hG hp hm1 (fun j _ => ?_) rfl ⟨nb.1.1, by omega⟩ (by rw [← hh]; exact nb.2.1) ⟨by omega, by omega⟩ zz.2.1 zz.2.2
      by_cases e : j = zo.toInt
      · rw [if_pos e, if_pos e, e]
      · rw [if_neg e, if_neg e]
  have s12' : σ12.1 R 6 = τ1.1 a 39 := (r12 6).trans (hd.trans d1.symm)
  by_cases q1 : n < c 4
  · rw [if_pos q1, if_pos q1, q_letE (σ12.1 g 5), q_letE (F_X5_get X σ12 (q_rf X (q_rf X g 1) 2) (σ12.1 g 5)), f34, f3]
    by_cases q2 : h < S
    · have zp : 0 ≤ zo.toInt := by
        rcases o3 with o | o
        · have := hd2 o.2; omega
        · exact o.1.1
      rw [if_pos q2, if_neg (by decide : ¬ (1 : Int) = 0), if_neg (by omega : ¬ zo.toInt < 0)]
      by_cases q3 : h = 0
      · rw [if_pos q3, if_pos (nb.2.2.2.mpr q3), q_letE (F_X7_fullestOther X σ12 g), o1, q_letE (F_X0_want X σ12 g zo 1), q_letE (τ1.1 (q_rf X a 28) zo.toNatClampNeg), q_letE (τ1.1 (q_rf X a 28) zo.toNatClampNeg + 1), q_letE (q_si τ1 (q_rf X a 28) zo.toNatClampNeg (τ1.1 (q_rf X a 28) zo.toNatClampNeg + 1))]
        exact ⟨_, _, _, rfl, rfl, beside σ12 τ1 tkl.rf (fun _ _ => rfl) s12' v12 tkl.rf q1 zp⟩
      · have n0 : ¬ n = 0 := fun e => q3 (nb.2.2.2.mp e)
        obtain ⟨d, s, x1, x2⟩ := pl_draw (X := X) (a := a) (R := R) s12'
        rw [if_neg q3, if_neg n0, x1, q_biP d (q_si σ12 R 6 s), x2, q_biP d (q_si τ1 a 39 s)]
        have vs : y_v X g (q_si σ12 R 6 s) = V12 := (pl_vR Y G hR 6 s).trans v12
        have ws := pl_W (lb := lb) (o := o) vs
        have ms : m_c X (q_si τ1 a 39 s) a = c := (mv_cell Y.1 ha 39 s).trans m1
        have cs1 : tkl (pl_Sc lb o R) (fun _ _ => False) σ12 (q_si σ12 R 6 s) := tkl.rf.si _ (Or.inr ⟨rfl, by decide, by decide, by decide⟩)
        have cs2 : ∀ f, f ≠ 6 → (q_si σ12 R 6 s).1 R f = σ12.1 R f := fun f hf => si_f hf _
        have cs3 : (q_si σ12 R 6 s).1 R 6 = (q_si τ1 a 39 s).1 a 39 := by rw [si_eq, si_eq]
        have cs4 : tkl (fun b f => b = a ∧ f = 39) (fun _ _ => False) τ1 (q_si τ1 a 39 s) := tkl.rf.si _ ⟨rfl, rfl⟩
        have f64 : ((q_si σ12 R 6 s).1 g 5).toInt = c 6 := (ws.rd (id := 0) (by decide) 5 rfl).trans ((K12 0 5 (by decide) (Or.inr (by decide))).trans v5)
        have f65 : (F_X5_get X (q_si σ12 R 6 s) (q_rf X (q_rf X g 1) 3) ((q_si σ12 R 6 s).1 g 5)).toInt = c (10 + c 6) := by
          rw [y_getI Y G ws (id := 10) (r := q_rf X (q_rf X g 1) 3) ⟨by decide, by decide⟩ rfl f64 hp.1 (by rw [gn10]; exact hp.2), K12 10 _ (by decide) (Or.inl (by decide)), v10]
        have g82 : ((q_si τ1 a 39 s).1 (q_rf X a 20) ((10 : Int32) + v1).toNatClampNeg).toInt = c (10 + c 6) := gm_cell (A := 10 + c 6) ms (by rw [ar_add, e10, hv, ar_wr (by omega) (by omega)])
        obtain ⟨σs, es⟩ : ∃ t, t = q_si σ12 R 6 s := ⟨_, rfl⟩
        obtain ⟨τs, us⟩ : ∃ t, t = q_si τ1 a 39 s := ⟨_, rfl⟩
        rw [← es] at vs ws cs1 cs2 cs3 f64 f65 ⊢
        rw [← us] at ms cs3 cs4 g82 ⊢
        rw [q_letE (σs.1 g 5), q_letE (F_X5_get X σs (q_rf X (q_rf X g 1) 3) (σs.1 g 5)), f65, q_letE ((10 : Int32) + v1), q_letE (τs.1 (q_rf X a 20) ((10 : Int32) + v1).toNatClampNeg), g82]
        by_cases q4 : d.toInt < c (10 + c 6)
        · obtain ⟨zo', o1', o2', -⟩ := pl_other Y G ws R12 hG m1 ((K12 0 5 (by decide) (Or.inr (by decide))).trans v5) hp hv
          rw [o2] at o2'
          rw [← o2'] at o1'
          rw [if_pos q4, if_pos q4, q_letE (F_X7_fullestOther X σs g), o1', q_letE (F_X0_want X σs g zo 1), q_letE (τs.1 (q_rf X a 28) zo.toNatClampNeg), q_letE (τs.1 (q_rf X a 28) zo.toNatClampNeg + 1), q_letE (q_si τs (q_rf X a 28) zo.toNatClampNeg (τs.1 (q_rf X a 28) zo.toNatClampNeg + 1))]
          exact ⟨_, _, _, rfl, rfl, beside σs τs cs1 cs2 cs3 vs cs4 q1 zp⟩
        · rw [if_neg q4, if_neg q4]
          exact ⟨_, _, _, rfl, rfl, alone σs τs cs1 cs2 cs3 vs cs4 (by omega)⟩
    · have zn : zo.toInt < 0 := by
        rcases o3 with o | o
        · have := o.1; omega
        · have := hd3 _ o.1 o.2.1
          have := o.2.2
          omega
      rw [if_neg q2, if_pos (rfl : (0 : Int) = 0), if_pos zn]
      exact ⟨_, _, _, rfl, rfl, alone σ12 τ1 tkl.rf (fun _ _ => rfl) s12' v12 tkl.rf (by omega)⟩
  · rw [if_neg q1, if_neg q1, if_pos (rfl : (0 : Int) = 0)]
    exact ⟨_, _, _, rfl, rfl, alone σ12 τ1 tkl.rf (fun _ _ => rfl) s12' v12 tkl.rf (by omega)⟩
end PB
