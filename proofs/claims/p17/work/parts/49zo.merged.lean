/-! FROM 49zo.turn.lean.txt -/
/-! A ROUND PLAYED: a turn in both -/
def pl_cnt (a R : Nat) (σ τ : ST) : Prop := σ.1 R 6 = τ.1 a 39 ∧ σ.1 R 2 = τ.1 a 42 ∧ σ.1 R 3 = τ.1 a 43 ∧ σ.1 R 4 = τ.1 a 44
/-- both games the same, and what stays -/
def pl_gm (X : XW) (g a : Nat) (σ' τ' : ST) (V : Nat → Int → Int) (c : Int → Int) (n : Int) : Prop := ∃ (V' : Nat → Int → Int) (c' : Int → Int), y_v X g σ' = V' ∧ m_c X τ' a = c' ∧ rg V' c' ∧ m_G c' ∧ m_W c' n ∧ pl_fix V V' c c'
def pl_turned (X : XW) (lb : Nat → Nat) (g o a R : Nat) (σ σ' τ τ' : ST) (V : Nat → Int → Int) (c : Int → Int) (n : Int) (z : Int32) : Prop :=
  tkl (pl_Sc lb o R) (fun _ _ => False) σ σ' ∧ tkl (pl_Sr X a) (fun _ _ => False) τ τ' ∧ pl_cnt a R σ' τ' ∧ σ'.1 R 1 = (if z.toInt = 0 then σ.1 R 1 + 1 else σ.1 R 1) ∧ pl_gm X g a σ' τ' V c (n + 1)
section PD
variable {X : XW} {lb : Nat → Nat} {g o a R : Nat} {σ σ' τ τ' σ0 τ0 : ST} {V V' : Nat → Int → Int} {c : Int → Int} {n : Int}
theorem pl_20 : ∀ {τ τ' : ST}, tkl (fun b _ => b = q_rf X a 20) (fun _ _ => False) τ τ' → tkl (pl_Sr X a) (fun _ _ => False) τ τ' := fun h => h.mono (fun _ _ z => Or.inl z) (fun _ _ z => z)
theorem pl_top (Y : y_S X lb) (G : y_G X lb g o) (hV : y_v X g σ = V) (Rg : rg V c) (hG : m_G c) (hc : m_c X τ a = c) (h9 : 1 ≤ c 9) : (F_X2_topTruth X σ (q_rf X g 2)).toInt = (F_X12_sortOf X τ a (τ.1 (q_rf X a 20) (9 : Int32).toNatClampNeg - 1)).toInt := by
  have b9 := hG.1.2.2.2.2.2.2.1
  have w := pl_W (lb := lb) (o := o) hV
  have one : (1 : Int32).toInt = 1 := rfl
  have f0 : (σ.1 (q_rf X g 2) 0).toInt = c 9 := (w.rd (id := 2) (by decide) 0 rfl).trans Rg.2.2.2.2.1.1
  have g9 : (τ.1 (q_rf X a 20) (9 : Int32).toNatClampNeg).toInt = c 9 := gm_cell (A := 9) hc rfl
  unfold F_X2_topTruth
  rw [q_letE (σ.1 (q_rf X g 2) 0), q_letE (σ.1 (q_rf X g 2) 0 - 1), q_letE]
  exact (rg.sort Y G w Rg hG hc (k := c 9 - 1) (by rw [ar_sub, f0, one, ar_wr (by omega) (by omega)]) (by rw [ar_sub, g9, one, ar_wr (by omega) (by omega)]) ⟨by omega, by omega⟩).1
theorem pl_Wd {c c' : Int → Int} {t P kd tn W u : Int} (h : m_W c n) (hP : 0 ≤ P ∧ P < 6) (r : gd_C c c' t P kd tn W u) (ht : 0 ≤ t) (hu : u = 0 ∨ u = 1) : m_W c' (n + 1) := by
  intro q q0 q1
  have hq := h q q0 q1
  by_cases e : q = P
  · have e1 := r.2.2.1
    have e2 := r.2.2.2.1
    rw [e] at hq ⊢
    omega
  · have e1 := r.1 (22 + q) (by omega) (by omega) (by omega) (by omega) (by omega) (by omega) (by omega) (by omega) (by omega)
    have e2 := r.1 (28 + q) (by omega) (by omega) (by omega) (by omega) (by omega) (by omega) (by omega) (by omega) (by omega)
    omega
/-- left, or doubted -/
theorem pl_leave (Y : y_S X lb) (G : y_G X lb g o) (ha : q_kd X a = 12) (hR : lb R / 8192 ≠ o) (hV : y_v X g σ = V) (Rg : rg V c) (hG : m_G c) (hW : m_W c n) (hc : m_c X τ a = c) (h7 : c 7 = 1) (K : pl_cnt a R σ τ) :
    tkl (pl_Sc lb o R) (fun _ _ => False) σ (F_X0_letLie X σ g) ∧ tkl (pl_Sr X a) (fun _ _ => False) τ (F_X12_leaves X τ a) ∧ pl_cnt a R (F_X0_letLie X σ g) (F_X12_leaves X τ a) ∧ (∀ f, (F_X0_letLie X σ g).1 R f = σ.1 R f) ∧ pl_gm X g a (F_X0_letLie X σ g) (F_X12_leaves X τ a) V c n := by
  obtain ⟨n80, n8a, n0a⟩ := pl_k28 Y.1 ha
  obtain ⟨V', c', w', m', t', R', hV', hc', G'⟩ := gm_letLie Y G ha (pl_W (lb := lb) (o := o) hV) Rg hG hc h7
  have kr : ∀ f, (F_X0_letLie X σ g).1 R f = σ.1 R f := fun f => w'.1 R hR f
  have kt : ∀ f, (F_X12_leaves X τ a).1 a f = τ.1 a f := fun f => t'.1 a f (fun e => n0a e.symm)
  refine ⟨pl_Wt w', pl_20 t', ?_, kr, V', c', w'.2.2, m', R', G', m_W.ext (fun j j0 j1 => hc' j (by omega) (by omega) (by omega) (by omega)) hW, fun id i h => hV' id i (by omega), fun j j0 h => hc' j (by omega) (by omega) (by omega) (by omega)⟩
  unfold pl_cnt
  rw [kr, kr, kr, kr, kt, kt, kt, kt]
  exact K
theorem pl_doubt (Y : y_S X lb) (G : y_G X lb g o) (ha : q_kd X a = 12) (hR : lb R / 8192 ≠ o) (hV : y_v X g σ = V) (Rg : rg V c) (hG : m_G c) (hW : m_W c n) (hn : n ≤ 900000) (hc : m_c X τ a = c) (h7 : c 7 = 1) (h9 : 1 ≤ c 9) (K : pl_cnt a R σ τ) {v v' v1 : Int32} (hv : v'.toInt = v.toInt) (hq : 0 ≤ v.toInt ∧ v.toInt < c 2) (hne : v.toInt ≠ c 6) (hv1 : v1.toInt = c 6) {f3 : Int32} (ef3 : f3 = σ.1 R 3 + 1) (A B : ST → ST)
    (eA : ∀ s, A s = q_bi (F_X0_challenge X s g v) (fun _ s' => s')) (eB : ∀ s, B s = q_let (s.1 R 4) (fun f => q_let (f + 1) (fun z => q_let (q_si s R 4 z) (fun s' => q_bi (F_X0_challenge X s' g v) (fun _ s2 => s2))))) :
    ∃ (σ' τ' : ST), (if (F_X2_topTruth X (q_si σ R 3 f3) (q_rf X g 2)).toInt = 0 then A (q_si σ R 3 f3) else B (q_si σ R 3 f3)) = σ' ∧ F_X12_turns_E224_7 X τ a v' v1 = (1, τ') ∧ tkl (pl_Sc lb o R) (fun _ _ => False) σ σ' ∧ tkl (pl_Sr X a) (fun _ _ => False) τ τ' ∧ pl_cnt a R σ' τ' ∧ σ'.1 R 1 = σ.1 R 1 ∧ pl_gm X g a σ' τ' V c (n + 1) := by
  obtain ⟨b0, b2, b4, b5, b6, b7, b9, b79⟩ := id hG.1
  obtain ⟨n80, n8a, n0a⟩ := pl_k28 Y.1 ha
  obtain ⟨K6, K2, K3, K4⟩ := K
  have na0 : a ≠ q_rf X a 20 := fun e => n0a e.symm
  have hWW : ∀ q : Int, 0 ≤ q → q < 6 → (0 ≤ c (22 + q) ∧ c (22 + q) ≤ 1000000) ∧ 0 ≤ c (28 + q) ∧ c (28 + q) ≤ 1000000 := fun q q0 q1 => by
    have := hW q q0 q1
    omega
  -- the reference
  have m1 : m_c X (q_si τ a 43 f3) a = c := (mv_cell Y.1 ha 43 f3).trans hc
  have e43 : τ.1 a 43 + 1 = f3 := by rw [ef3, K3]
  have e44 : (q_si τ a 43 f3).1 a 44 = τ.1 a 44 := si_f (by decide) _
  have c1 : tkl (pl_Sc lb o R) (fun _ _ => False) σ (q_si σ R 3 f3) := tkl.rf.si _ (Or.inr ⟨rfl, by decide, by decide, by decide⟩)
  have v1' : y_v X g (q_si σ R 3 f3) = V := (pl_vR Y G hR 3 f3).trans hV
  have r1 : ∀ f, f ≠ 3 → (q_si σ R 3 f3).1 R f = σ.1 R f := fun f h => si_f h _
  have s3 : (q_si σ R 3 f3).1 R 3 = f3 := si_eq _ _ _ _
  obtain ⟨σ1, es⟩ : ∃ s, s = q_si σ R 3 f3 := ⟨_, rfl⟩
  obtain ⟨τ1, et⟩ : ∃ s, s = q_si τ a 43 f3 := ⟨_, rfl⟩
  have T1 : tkl (pl_Sr X a) (fun _ _ => False) τ τ1 := by
    rw [et]
    exact tkl.rf.si _ (Or.inr (Or.inr ⟨rfl, Or.inr ⟨by decide, by decide⟩⟩))
  have tt1 : ∀ f, f ≠ 43 → τ1.1 a f = τ.1 a f := fun f h => by rw [et]; exact si_f h _
  have t43 : τ1.1 a 43 = f3 := by rw [et]; exact si_eq _ _ _ _
  rw [← es] at c1 v1' r1 s3 ⊢
  rw [← et] at m1 e44
  have tp := pl_top Y G v1' Rg hG m1 h9
  have ref : ∀ (z : Int32) (τ2 : ST), F_X12_doubts X τ1 a v' = (z, τ2) → F_X12_turns_E224_7 X τ a v' v1 = (1, q_si τ2 a 44 (if z.toInt = c 6 then τ.1 a 44 + 1 else τ.1 a 44)) := by
    intro z τ2 h
    unfold F_X12_turns_E224_7
    rw [q_letE (τ.1 a 43), e43, q_letE f3, q_letE (q_si τ a 43 f3), ← et, q_letE (τ1.1 a 44), h, q_biP z τ2, hv1, e44]
    by_cases q : z.toInt = c 6
    · rw [if_pos q, if_pos q, q_letE, q_letE]
    · rw [if_neg q, if_neg q, q_letE, q_letE]
      congr 2
      exact Int32.add_zero _
  have key : ∀ (σ2 : ST) (s : Int32), y_v X g σ2 = V → tkl (pl_Sc lb o R) (fun _ _ => False) σ σ2 → (∀ f, f ≠ 4 → σ2.1 R f = σ1.1 R f) → σ2.1 R 4 = s → (F_X2_topTruth X σ2 (q_rf X g 2)).toInt = (F_X12_sortOf X τ1 a (τ1.1 (q_rf X a 20) (9 : Int32).toNatClampNeg - 1)).toInt → s = (if (F_X2_topTruth X σ2 (q_rf X g 2)).toInt = 0 then σ.1 R 4 else σ.1 R 4 + 1) →
      ∃ (σ' τ' : ST), q_bi (F_X0_challenge X σ2 g v) (fun _ s' => s') = σ' ∧ F_X12_turns_E224_7 X τ a v' v1 = (1, τ') ∧ tkl (pl_Sc lb o R) (fun _ _ => False) σ σ' ∧ tkl (pl_Sr X a) (fun _ _ => False) τ τ' ∧ pl_cnt a R σ' τ' ∧ σ'.1 R 1 = σ.1 R 1 ∧ pl_gm X g a σ' τ' V c (n + 1) := by
    intro σ2 s y2 x2 x3 x4 x5 x6
    obtain ⟨z, z', σ3, τ3, V3, c3, t, P, kd, tn, W, u, d1, d2, d3, d4, d5, d6, d7, d8, d9, d10, d11, d12, d13, d14, d15⟩ := gm_doubt2 Y G (pl_W (lb := lb) (o := o) y2) Rg m1 hG h7 hWW (v := v) (v' := v') rfl hv hq
    rw [d1, q_biP z σ3]
    have rr := ref z' τ3 d2
    have kr : ∀ f, σ3.1 R f = σ2.1 R f := fun f => d6.1 R hR f
    have kt : ∀ f, τ3.1 a f = τ1.1 a f := fun f => d8.1 a f na0
    obtain ⟨y, ey⟩ : ∃ y, y = if z'.toInt = c 6 then τ.1 a 44 + 1 else τ.1 a 44 := ⟨_, rfl⟩
    rw [← ey] at rr
    have ys : s = y := by
      rw [x6, ey, d4, K4]
      by_cases q : (F_X2_topTruth X σ2 (q_rf X g 2)).toInt = 0
      · rw [if_pos q, if_neg (fun e => by
          have := d14.mp (e.trans d13.symm)
          rcases this with k | k
          · exact k q
          · exact hne (k.trans d13))]
      · rw [if_neg q, if_pos ((d14.mpr (Or.inl q)).trans d13)]
    have t0 : 0 ≤ t := by rcases d5 with e | e <;> omega
    refine ⟨σ3, q_si τ3 a 44 y, rfl, rr, x2.tr (pl_Wt d6), (T1.tr (pl_20 d8)).si _ (Or.inr (Or.inr ⟨rfl, Or.inr ⟨by decide, by decide⟩⟩)), ⟨?_, ?_, ?_, ?_⟩, ?_, V3, c3, d6.2.2, (mv_cell Y.1 ha 44 y).trans d7, d9, d10, pl_Wd hW (by omega) d12 t0 d15, fun id i h => d11.1 id i (by omega) (by omega) (by omega) (by omega) (by omega) (by omega) (by omega), fun j j0 h => d12.1 j j0 (by omega) (by omega) (by omega) (by omega) (by omega) (by omega) (by omega) (by omega)⟩
    · rw [kr, x3 6 (by decide), r1 6 (by decide), si_f (by decide), kt, tt1 39 (by decide), K6]
    · rw [kr, x3 2 (by decide), r1 2 (by decide), si_f (by decide), kt, tt1 42 (by decide), K2]
    · rw [kr, x3 3 (by decide), s3, si_f (by decide), kt, t43]
    · rw [kr, x4, si_eq, ys]
    · rw [kr, x3 1 (by decide), r1 1 (by decide)]
  by_cases q : (F_X2_topTruth X σ1 (q_rf X g 2)).toInt = 0
  · rw [if_pos q, eA]
    exact key σ1 _ v1' c1 (fun _ _ => rfl) (r1 4 (by decide)) tp (by rw [if_pos q])
  · rw [if_neg q, eB, q_letE (σ1.1 R 4), q_letE (σ1.1 R 4 + 1), q_letE (q_si σ1 R 4 (σ1.1 R 4 + 1))]
    have v2' : y_v X g (q_si σ1 R 4 (σ1.1 R 4 + 1)) = V := (pl_vR Y G hR 4 _).trans v1'
    have tp2 := pl_top Y G v2' Rg hG m1 h9
    refine key _ _ v2' (c1.si _ (Or.inr ⟨rfl, by decide, by decide, by decide⟩)) (fun f h => si_f h _) (si_eq _ _ _ _) tp2 ?_
    rw [if_neg (by rw [tp2, ← tp]; exact q), r1 4 (by decide)]
/-- what comes behind what was left before -/
theorem pl_turnJ (Y : y_S X lb) (G : y_G X lb g o) (ha : q_kd X a = 12) (hR : lb R / 8192 ≠ o) (hV : y_v X g σ = V) (Rg : rg V c) (hG : m_G c) (hW : m_W c n) (hn : n ≤ 900000) (hc : m_c X τ a = c) (K : pl_cnt a R σ τ) :
    ∃ (z : Int32) (σ' τ' : ST), F_X7_takeTurn_J11_1 X g R σ = σ' ∧ F_X12_turns_J15_1 X a τ = (z, τ') ∧ pl_turned X lb g o a R σ σ' τ τ' V c n z := by
  obtain ⟨b0, b2, b4, b5, b6, b7, b9, b79⟩ := id hG.1
  obtain ⟨n80, n8a, n0a⟩ := pl_k28 Y.1 ha
  obtain ⟨K6, K2, K3, K4⟩ := id K
  have na0 : a ≠ q_rf X a 20 := fun e => n0a e.symm
  have gn9 : ((y_gn 9 : Nat) : Int) = 6 := rfl
  have w := pl_W (lb := lb) (o := o) hV
  have s3 := Rg.2.1.2.2.1
  have f6 : (σ.1 g 6).toInt = c 8 := (w.rd (id := 0) (by decide) 6 rfl).trans s3.1
  have f4 : (σ.1 (q_rf X g 0) 4).toInt = c 2 := (w.rd (id := 1) (by decide) 4 rfl).trans Rg.1.2.2.2.2.1
  have g8 : (τ.1 (q_rf X a 20) (8 : Int32).toNatClampNeg).toInt = c 8 := gm_cell (A := 8) hc rfl
  have g2 : (τ.1 (q_rf X a 20) (2 : Int32).toNatClampNeg).toInt = c 2 := gm_cell (A := 2) hc rfl
  have g6 : (τ.1 (q_rf X a 20) (6 : Int32).toNatClampNeg).toInt = c 6 := gm_cell (A := 6) hc rfl
  have missed : ∀ z : Int32, z.toInt = 0 → pl_turned X lb g o a R σ (q_si σ R 1 (σ.1 R 1 + 1)) τ τ V c n z := by
    intro z hz
    refine ⟨tkl.rf.si _ (Or.inr ⟨rfl, by decide, by decide, by decide⟩), tkl.rf, ⟨?_, ?_, ?_, ?_⟩, ?_, V, c, (pl_vR Y G hR 1 _).trans hV, hc, Rg, hG, hW.le (by omega), pl_fix.rf⟩
    · rw [si_f (by decide)]; exact K6
    · rw [si_f (by decide)]; exact K2
    · rw [si_f (by decide)]; exact K3
    · rw [si_f (by decide)]; exact K4
    · rw [if_pos hz, si_eq]
  unfold F_X7_takeTurn_J11_1 F_X12_turns_J15_1
  rw [q_letE (σ.1 g 6), f6, q_letE (τ.1 (q_rf X a 20) (8 : Int32).toNatClampNeg), g8]
  by_cases q8 : ¬ c 8 = -1
  · rw [if_neg q8, if_neg (by omega : ¬ c 8 < 0), q_letE (σ.1 R 1), q_letE (σ.1 R 1 + 1), q_letE (q_si σ R 1 (σ.1 R 1 + 1))]
    exact ⟨0, _, τ, rfl, rfl, missed 0 rfl⟩
  have q8' := Classical.not_not.mp q8
  rw [if_pos q8', if_pos (by omega : c 8 < 0), q_letE (σ.1 (q_rf X g 0) 4), f4, q_letE (τ.1 (q_rf X a 20) (2 : Int32).toNatClampNeg), g2]
  by_cases q2 : c 2 < 2
  · rw [if_pos q2, if_pos q2, q_letE (σ.1 R 1), q_letE (σ.1 R 1 + 1), q_letE (q_si σ R 1 (σ.1 R 1 + 1))]
    exact ⟨0, _, τ, rfl, rfl, missed 0 rfl⟩
  have hp : 0 ≤ c 6 ∧ c 6 < 6 := by omega
  have v5 : V 0 5 = c 6 := by
    have z := Rg.2.1.2.1
    rw [if_neg (by omega)] at z
    exact z
  have f5 : (σ.1 g 5).toInt = c 6 := (w.rd (id := 0) (by decide) 5 rfl).trans v5
  have f9 : (F_X5_get X σ (q_rf X (q_rf X g 1) 2) (σ.1 g 5)).toInt = m_S c (34 + 10 * c 6) 10 := (y_getI Y G w (id := 9) (r := q_rf X (q_rf X g 1) 2) ⟨by decide, by decide⟩ rfl f5 hp.1 (by rw [gn9]; exact hp.2)).trans (Rg.2.2.2.1.2 (c 6) hp.1 hp.2)
  have g9 := gm_cardsOf (X := X) hc hG g6 hp
  rw [if_neg q2, if_neg q2, q_letE (σ.1 g 5), q_letE (F_X5_get X σ (q_rf X (q_rf X g 1) 2) (σ.1 g 5)), f9, q_letE (τ.1 (q_rf X a 20) (6 : Int32).toNatClampNeg), q_letE (F_X12_cardsOf X τ a (τ.1 (q_rf X a 20) (6 : Int32).toNatClampNeg)), g9]
  by_cases qS : m_S c (34 + 10 * c 6) 10 = 0
  · rw [if_pos qS, if_pos qS, q_letE (σ.1 R 1), q_letE (σ.1 R 1 + 1), q_letE (q_si σ R 1 (σ.1 R 1 + 1))]
    exact ⟨0, _, τ, rfl, rfl, missed 0 rfl⟩
  rw [if_neg qS, if_neg qS, q_letE (τ.1 (q_rf X a 20) (6 : Int32).toNatClampNeg)]
  obtain ⟨v1, ev1⟩ : ∃ v, v = τ.1 (q_rf X a 20) (6 : Int32).toNatClampNeg := ⟨_, rfl⟩
  rw [← ev1] at g6 ⊢
  -- what is laid
  obtain ⟨σ1, τ1, l, x1, x2, t1, r1, d1, ⟨V1, hV1, kV1, l1⟩, u1, m1, of1, lo⟩ := pl_choose Y G ha hR hV Rg hG hc K6 (by omega) qS g6
  rw [q_letE (F_X7_choose X σ R g), x1, x2]
  have R1 : rg V1 c := Rg.w hG (fun id i i1 i2 i3 => kV1 id i i1 (by omega))
  have b79' := lo.c9
  have s80 := hG.S80 (p := c 6) (k := 10) hp.1 hp.2 (by decide) (by decide)
  have z10 : m_S c (34 + 10 * c 6) (10 : Int).toNat = m_S c (34 + 10 * c 6) 10 := rfl
  have l80 := hG.L80 b9.1 (Int.le_refl (c 9))
  have gp : gl_p V1 l (c 6) (c 9) (c 0) := by
    refine ⟨(kV1 0 5 (by decide) (Or.inr (by decide))).trans v5, R1.1.1, hp, ⟨by omega, by omega⟩, ⟨by omega, by omega⟩, fun t a0 a1 => ⟨l1 t a0 a1, (lo.2.2.1 t a0 a1).1⟩, lo.2.2.2.2, ?_, fun t a0 a1 => ⟨?_, ?_⟩, ?_⟩
    · rw [R1.2.2.2.2.1.2.1]; omega
    · rw [R1.2.2.2.1.1 (10 * c 6 + t) (by omega) (by omega)]
      have := hG.h80 (p := c 6) (k := t) hp.1 hp.2 a0 a1
      have e : (34 : Int) + (10 * c 6 + t) = 34 + 10 * c 6 + t := by omega
      rw [e]
      omega
    · rw [R1.2.2.2.2.2.1 (c 6) t hp.1 hp.2 a0 a1]
      have := hG.A_bd (c 6) t (c 9).toNat (by omega)
      omega
    · rw [R1.2.2.2.1.2 (c 6) hp.1 hp.2]; omega
  obtain ⟨V5, w5, gv⟩ := gm_layWanted Y G (pl_W (lb := lb) (o := o) hV1) gp R1.2.2.2.2.1.1
  unfold F_X12_turns_J163_4
  obtain ⟨c5, mc, tc, gr, gG⟩ := gm_laysDown (X := X) (τ := τ1) Y.1 ha m1 lo rfl (v1 := v1) g6 of1
  rw [q_letE (F_X0_layWanted X σ1 g), q_letE (F_X12_laysDown X τ1 a v1 (q_rf X a 28))]
  obtain ⟨σ5, e5⟩ : ∃ t, t = F_X0_layWanted X σ1 g := ⟨_, rfl⟩
  obtain ⟨τ5, u5⟩ : ∃ t, t = F_X12_laysDown X τ1 a v1 (q_rf X a 28) := ⟨_, rfl⟩
  rw [← e5] at w5 ⊢
  rw [← u5] at mc tc ⊢
  have R5 := rg.lay R1 lo rfl gv gr
  have hV5 : y_v X g σ5 = y_up V5 0 7 1 := w5.2.2
  obtain ⟨V6, e6⟩ : ∃ v, v = y_up V5 0 7 1 := ⟨_, rfl⟩
  rw [← e6] at R5 hV5
  have c57 : c5 7 = 1 := gr.2.2.2.2.2.2.1
  have c59 : c5 9 = c 9 + 1 := gr.2.2.2.2.2.1
  have c5j : ∀ j : Int, 0 ≤ j → j < 34 → j ≠ 7 → j ≠ 9 → c5 j = c j := fun j j0 j1 j2 j3 => gr.1 j j0 (by omega) (by omega) j3 j2
  have fx5 : pl_fix V V6 c c5 := by
    refine ⟨fun id i h => ?_, fun j j0 h => gr.1 j j0 (by omega) (by omega) (by omega) (by omega)⟩
    rw [e6, y_up_ne (by omega), gv.1 id i (by omega) (by omega) (by omega) (by omega) (by omega) (by omega) (by omega) (by omega)]
    exact kV1 id i (by omega) (by omega)
  have W5 : m_W c5 n := m_W.ext (fun j j0 j1 => c5j j (by omega) j1 (by omega) (by omega)) hW
  have c52 : c5 2 = c 2 := c5j 2 (by decide) (by decide) (by decide) (by decide)
  have c56 : c5 6 = c 6 := c5j 6 (by decide) (by decide) (by decide) (by decide)
  have kr5 : ∀ f, σ5.1 R f = σ1.1 R f := fun f => w5.1 R hR f
  have kt5 : ∀ f, τ5.1 a f = τ1.1 a f := fun f => tc.1 a f na0
  have kt1 : ∀ f, f ≠ 39 → τ1.1 a f = τ.1 a f := fun f h => u1.1 a f (fun z => by
    rcases z with z | z
    · exact n8a z.symm
    · exact h z.2)
  have T5 : tkl (pl_Sr X a) (fun _ _ => False) τ τ5 := (u1.mono (fun b f z => by
    rcases z with z | z
    · exact Or.inr (Or.inl z)
    · exact Or.inr (Or.inr ⟨z.1, Or.inl z.2⟩)) (fun _ _ z => z)).tr (pl_20 tc)
  have S5 : tkl (pl_Sc lb o R) (fun _ _ => False) σ σ5 := t1.tr (pl_Wt w5)
  -- one laying more
  have y42 : σ5.1 R 2 = τ5.1 a 42 := by rw [kr5, kt5, r1 2 (by decide), kt1 42 (by decide), K2]
  obtain ⟨m2, em2⟩ : ∃ m, m = τ5.1 a 42 + 1 := ⟨_, rfl⟩
  rw [q_letE (σ5.1 R 2), y42, q_letE (τ5.1 a 42), ← em2, q_letE m2, q_letE (q_si σ5 R 2 m2), q_letE m2, q_letE (q_si τ5 a 42 m2)]
  have hV6 : y_v X g (q_si σ5 R 2 m2) = V6 := (pl_vR Y G hR 2 m2).trans hV5
  have mc6 : m_c X (q_si τ5 a 42 m2) a = c5 := (mv_cell Y.1 ha 42 m2).trans mc
  have K6' : pl_cnt a R (q_si σ5 R 2 m2) (q_si τ5 a 42 m2) := by
    refine ⟨?_, by rw [si_eq, si_eq], ?_, ?_⟩
    · rw [si_f (by decide), si_f (by decide), kr5, kt5, d1]
    · rw [si_f (by decide), si_f (by decide), kr5, kt5, r1 3 (by decide), kt1 43 (by decide), K3]
    · rw [si_f (by decide), si_f (by decide), kr5, kt5, r1 4 (by decide), kt1 44 (by decide), K4]
  have R1' : (q_si σ5 R 2 m2).1 R 1 = σ.1 R 1 := by rw [si_f (by decide), kr5, r1 1 (by decide)]
  have S6 : tkl (pl_Sc lb o R) (fun _ _ => False) σ (q_si σ5 R 2 m2) := S5.si _ (Or.inr ⟨rfl, by decide, by decide, by decide⟩)
  have T6 : tkl (pl_Sr X a) (fun _ _ => False) τ (q_si τ5 a 42 m2) := T5.si _ (Or.inr (Or.inr ⟨rfl, Or.inr ⟨by decide, by decide⟩⟩))
  obtain ⟨σ6, es6⟩ : ∃ t, t = q_si σ5 R 2 m2 := ⟨_, rfl⟩
  obtain ⟨τ6, et6⟩ : ∃ t, t = q_si τ5 a 42 m2 := ⟨_, rfl⟩
  rw [← es6] at hV6 K6' R1' S6 ⊢
  rw [← et6] at mc6 K6' T6 ⊢
  -- who doubts
  have bq := gm_behindOf (X := X) mc6 (by rw [c52]; exact b2) (x := v1) (p := c5 6) (by rw [c56]; exact g6) (by rw [c56, c52]; omega)
  rw [q_letE (F_X12_behindOf X τ6 a v1)]
  obtain ⟨q, eq⟩ : ∃ q, q = F_X12_behindOf X τ6 a v1 := ⟨_, rfl⟩
  rw [← eq] at bq ⊢
  have one : (1 : Int32).toInt = 1 := rfl
  obtain ⟨z, σ7, τ7, y1, ⟨y2, y3, y4⟩, y5⟩ := pl_firstL (R := R) Y G ha hR R5 gG (by rw [c59]; omega) (by rw [c52]; omega) (v1 := v1) (by rw [c56]; exact g6) ((2147483647 - (1 : Int32).toInt).toNat + 1) ((v1.toInt - q.toInt + 20 * min 1 (max 0 (q.toInt - v1.toInt))).toNat + 1) 1 q σ6 τ6 (Nat.lt_succ_self _) (by
      rw [g6, c56]
      exact Nat.lt_succ_self _) (by decide) (by rw [one, c52]; omega) (by rw [bq, one]) hV6 mc6 K6'.1
  have fd : F_X7_firstDoubter X σ6 R g = (z, σ7) := y1
  rw [fd, q_biP z σ7]
  have hV7 : y_v X g σ7 = V6 := (pl_vt Y G hR y2).trans hV6
  have mc7 : m_c X τ7 a = c5 := (pl_mc (fun f => y3.1 _ f (fun e => n0a e.1))).trans mc6
  have kr7 : ∀ f, f ≠ 6 → σ7.1 R f = σ6.1 R f := fun f h => y2.1 R f (fun e => h e.2)
  have kt7 : ∀ f, f ≠ 39 → τ7.1 a f = τ6.1 a f := fun f h => y3.1 a f (fun e => h e.2)
  have K7 : pl_cnt a R σ7 τ7 := by
    refine ⟨y4, ?_, ?_, ?_⟩
    · rw [kr7 2 (by decide), kt7 42 (by decide)]; exact K6'.2.1
    · rw [kr7 3 (by decide), kt7 43 (by decide)]; exact K6'.2.2.1
    · rw [kr7 4 (by decide), kt7 44 (by decide)]; exact K6'.2.2.2
  have S7 : tkl (pl_Sc lb o R) (fun _ _ => False) σ σ7 := S6.tr (y2.mono (fun b f e => Or.inr ⟨e.1, by rw [e.2]; decide⟩) (fun _ _ e => e))
  have T7 : tkl (pl_Sr X a) (fun _ _ => False) τ τ7 := T6.tr (y3.mono (fun b f e => Or.inr (Or.inr ⟨e.1, Or.inl e.2⟩)) (fun _ _ e => e))
  have R7 : σ7.1 R 1 = σ.1 R 1 := (kr7 1 (by decide)).trans R1'
  rcases y5 with ⟨zn, yl⟩ | ⟨zb, zne, z', ez, yl⟩
  · have lv := pl_leave Y G ha hR hV7 R5 gG W5 mc7 c57 K7
    rw [if_pos zn, q_letE (F_X0_letLie X σ7 g), yl]
    unfold F_X12_turns_E271_6
    rw [q_letE (F_X12_leaves X τ7 a)]
    obtain ⟨V8, c8, i1, i2, i3, i4, i5, i6⟩ := lv.2.2.2.2
    refine ⟨1, _, _, rfl, rfl, S7.tr lv.1, T7.tr lv.2.1, lv.2.2.1, ?_, V8, c8, i1, i2, i3, i4, i5.le (by omega), fx5.tr i6⟩
    rw [if_neg (by decide), lv.2.2.2.1, R7]
  · obtain ⟨σ', τ', j1, j2, j3, j4, j5, j6, V8, c8, i1, i2, i3, i4, i5, i6⟩ := pl_doubt Y G ha hR hV7 R5 gG W5 hn mc7 c57 (by rw [c59]; omega) K7 (v := z) (v' := z') (v1 := v1) ez zb zne (by rw [c56]; exact g6) (f3 := σ7.1 R 3 + 1) rfl (fun s => q_bi (F_X0_challenge X s g z) (fun _ s' => s')) (fun s => q_let (s.1 R 4) (fun f => q_let (f + 1) (fun z_ => q_let (q_si s R 4 z_) (fun s' => q_bi (F_X0_challenge X s' g z) (fun _ s2 => s2))))) (fun _ => rfl) (fun _ => rfl)
    rw [if_neg (by omega : ¬ z.toInt = -1), yl, j2, q_letE (σ7.1 R 3), q_letE (σ7.1 R 3 + 1), q_letE (q_si σ7 R 3 (σ7.1 R 3 + 1)), q_letE (F_X2_topTruth X (q_si σ7 R 3 (σ7.1 R 3 + 1)) (q_rf X g 2))]
    refine ⟨1, σ', τ', j1, rfl, S7.tr j3, T7.tr j4, j5, ?_, V8, c8, i1, i2, i3, i4, i5, fx5.tr i6⟩
    rw [if_neg (by decide), j6, R7]
theorem pl_turn (Y : y_S X lb) (G : y_G X lb g o) (ha : q_kd X a = 12) (hR : lb R / 8192 ≠ o) (hV : y_v X g σ = V) (Rg : rg V c) (hG : m_G c) (hW : m_W c n) (hn : n ≤ 900000) (hc : m_c X τ a = c) (K : pl_cnt a R σ τ) :
    ∃ (z : Int32) (σ' τ' : ST), F_X7_takeTurn X σ R g = σ' ∧ F_X12_turns X τ a = (z, τ') ∧ pl_turned X lb g o a R σ σ' τ τ' V c n z := by
  have b7 := hG.1.2.2.2.2.2.1
  have w := pl_W (lb := lb) (o := o) hV
  have f7 : (σ.1 g 7).toInt = c 7 := (w.rd (id := 0) (by decide) 7 rfl).trans Rg.2.1.2.2.2
  have g7 : (τ.1 (q_rf X a 20) (7 : Int32).toNatClampNeg).toInt = c 7 := gm_cell (A := 7) hc rfl
  unfold F_X7_takeTurn F_X12_turns
  rw [q_letE (σ.1 g 7), f7, q_letE (τ.1 (q_rf X a 20) (7 : Int32).toNatClampNeg), g7]
  by_cases q : c 7 = 0
  · rw [if_pos q, if_neg (by omega)]
    exact pl_turnJ Y G ha hR hV Rg hG hW hn hc K
  · have q1 : c 7 = 1 := by omega
    obtain ⟨s1, s2, s3, s4, V1, c1, i1, i2, i3, i4, i5, i6⟩ := pl_leave Y G ha hR hV Rg hG hW hc q1 K
    rw [if_neg q, if_pos q1, q_letE (F_X0_letLie X σ g), q_letE (F_X12_leaves X τ a)]
    obtain ⟨z, σ', τ', j1, j2, k1, k2, k3, k4, V2, c2, l1, l2, l3, l4, l5, l6⟩ := pl_turnJ Y G ha hR i1 i3 i4 i5 hn i2 s3
    refine ⟨z, σ', τ', j1, j2, s1.tr k1, s2.tr k2, k3, ?_, V2, c2, l1, l2, l3, l4, l5, i6.tr l6⟩
    rw [k4, s4]
end PD
