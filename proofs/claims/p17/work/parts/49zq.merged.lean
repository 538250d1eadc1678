/-! FROM 49zq.plain.lean.txt -/
/-! A ROUND PLAYED: a step without a body -/
section PF
variable {X : XW} {lb : Nat → Nat} {g o a R : Nat} {σ σ' τ τ' : ST} {V0 V : Nat → Int → Int} {c0 c : Int → Int} {n : Int}
theorem st_l.act {s l : Int} (h : st_l V c s l) : 0 ≤ V 18 l ∧ V 18 l ≤ 8 ∧ (V 18 l = 4 ↔ c (656 + 9 * s) = 4) := by
  unfold st_l at h
  omega
theorem pl_fix.st (F : pl_fix V0 V c0 c) {s l : Int} (hs : 0 ≤ s ∧ s < 30) (hl : 0 ≤ l ∧ l < 60) (h : st_l V0 c0 s l) : st_l V c s l := h.x hs hl (fun id i h1 h2 _ _ => F.1 id i (by omega)) (fun j j0 _ => F.2 j (by omega) (by omega))
theorem pl_Sc_Sg (D : pl_D X lb o R) (h : tkl (pl_Sc lb o R) (fun _ _ => False) σ σ') : tkl (pl_Sg X lb o R) (fun _ _ => False) σ σ' ∧ σ'.1 R 0 = σ.1 R 0 ∧ σ'.1 R 5 = σ.1 R 5 ∧ ∀ y : Nat, σ'.1 (pl_T X R) y = σ.1 (pl_T X R) y := by
  refine ⟨h.mono (fun b f z => ?_) (fun _ _ z => z), h.1 R 0 ?_, h.1 R 5 ?_, fun y => h.1 _ y ?_⟩
  · rcases z with z | ⟨z, z1, z2, z3⟩
    · exact Or.inl z
    · exact Or.inr (Or.inl ⟨z, z2⟩)
  · rintro (z | ⟨-, z, -⟩)
    · exact D.2.1 z
    · omega
  · rintro (z | ⟨-, -, -, z⟩)
    · exact D.2.1 z
    · exact z rfl
  · rintro (z | ⟨z, -⟩)
    · exact D.2.2.1 z
    · exact D.ne z
theorem pl_Sr_Sq (ha : q_rf X a 20 ≠ a) (ha8 : q_rf X a 28 ≠ a) (h : tkl (pl_Sr X a) (fun _ _ => False) τ τ') : tkl (pl_Sq X a) (fun _ _ => False) τ τ' ∧ ∀ f, f ≠ 39 → f ≠ 42 → f ≠ 43 → f ≠ 44 → τ'.1 a f = τ.1 a f := by
  refine ⟨h.mono (fun b f z => ?_) (fun _ _ z => z), fun f h1 h2 h3 h4 => h.1 a f ?_⟩
  · rcases z with z | z | ⟨z, z1⟩
    · exact Or.inl z
    · exact Or.inr (Or.inl z)
    · exact Or.inr (Or.inr ⟨z, by omega, by omega⟩)
  · rintro (z | z | ⟨-, z⟩)
    · exact ha z.symm
    · exact ha8 z.symm
    · omega
theorem pl_w656 {v1 : Int32} {s : Int} (hv : v1.toInt = s) (hs : 0 ≤ s ∧ s < 30) : ((656 : Int32) + (9 : Int32) * v1).toInt = 656 + 9 * s := by
  have e9 : (9 : Int32).toInt = 9 := rfl
  have e6 : (656 : Int32).toInt = 656 := rfl
  rw [ar_add, ar_mul, e6, e9, hv, ar_wr (n := 9 * s) (by omega) (by omega), ar_wr (by omega) (by omega)]
theorem pl_cellk {z : Int32} {W : Int} (hc : m_c X τ a = c) (hz : z.toInt = W) (hW : 0 ≤ W ∧ W ≤ 5000) (k : Int32) {j : Int} (hk : k.toInt = j) (hj : 0 ≤ j ∧ j ≤ 10) : (τ.1 (q_rf X a 20) (z + k).toNatClampNeg).toInt = c (W + j) := gm_cell hc (by rw [ar_add, hz, hk, ar_wr (by omega) (by omega)])
/-- lies and doubts of a player set by a step -/
theorem pl_bent (Y : y_S X lb) (G : y_G X lb g o) (D : pl_D X lb o R) (ha : q_kd X a = 12) (J : pl_J X g a R V0 c0 n σ τ) {x y q z : Int32} {p : Int} {id : Nat} {r : Nat} {A : Int} (hid : id = 10 ∧ A = 10 ∧ r = q_rf X (q_rf X g 1) 3 ∨ id = 11 ∧ A = 16 ∧ r = q_rf X (q_rf X g 1) 4) (hx : x.toInt = p) (hp : 0 ≤ p ∧ p < 6) (hy : y.toInt = z.toInt) (hq : q.toInt = A + p) :
    pl_J X g a R V0 c0 n (F_X5_set X σ r x y) (q_si τ (q_rf X a 20) q.toNatClampNeg z) ∧ tkl (pl_Sc lb o R) (fun _ _ => False) σ (F_X5_set X σ r x y) := by
  obtain ⟨⟨k6, k2, k3, k4⟩, j0, j1, j5, jb, V', c', i1, i2, i3, i4, i5, i6⟩ := J
  obtain ⟨n80, n8a, n0a⟩ := pl_k28 Y.1 ha
  have n10 : ((y_gn 10 : Nat) : Int) = 6 := rfl
  have n11 : ((y_gn 11 : Nat) : Int) = 6 := rfl
  have w := pl_W (lb := lb) (o := o) i1
  have w1 : y_W X lb g o σ (F_X5_set X σ r x y) (y_up V' id p y.toInt) := by
    rw [← hx]
    rcases hid with ⟨h1, h2, h3⟩ | ⟨h1, h2, h3⟩
    · subst h1
      rw [h3]
      exact w.set Y G (id := 10) ⟨by decide, by decide⟩ rfl x y (by omega) (by rw [n10]; omega)
    · subst h1
      rw [h3]
      exact w.set Y G (id := 11) ⟨by decide, by decide⟩ rfl x y (by omega) (by rw [n11]; omega)
  have m1 : m_c X (q_si τ (q_rf X a 20) q.toNatClampNeg z) a = m_up c' (A + p) z.toInt := by rw [m_c_up (A + p) (by omega) hq, i2]
  have kr : ∀ f, (F_X5_set X σ r x y).1 R f = σ.1 R f := fun f => w1.1 R D.2.1 f
  have kt : ∀ f, (q_si τ (q_rf X a 20) q.toNatClampNeg z).1 a f = τ.1 a f := fun f => q_si_ne (Ne.symm n0a) f
  have ids : (id = 10 ∧ A = 10) ∨ (id = 11 ∧ A = 16) := by
    rcases hid with h | h
    · exact Or.inl ⟨h.1, h.2.1⟩
    · exact Or.inr ⟨h.1, h.2.1⟩
  refine ⟨⟨⟨?_, ?_, ?_, ?_⟩, ?_, ?_, ?_, ?_, y_up V' id p y.toInt, m_up c' (A + p) z.toInt, w1.2.2, m1, ?_, ?_, ?_, ?_⟩, pl_Wt w1⟩
  · rw [kr, kt]; exact k6
  · rw [kr, kt]; exact k2
  · rw [kr, kt]; exact k3
  · rw [kr, kt]; exact k4
  · rw [kr, kt]; exact j0
  · rw [kr, kt]; exact j1
  · rw [kr, kt]; exact j5
  · rw [kt]; exact jb
  · refine i3.bend (fun id' i h1 h2 => y_up_ne (Or.inl (by omega))) (fun j h => m_up_ne (by omega)) (fun p' p0 p1 => ?_)
    have hh := i3.2.2.1 p' p0 p1
    rcases ids with ⟨h1, h2⟩ | ⟨h1, h2⟩
    · subst h1
      subst h2
      refine ⟨?_, ?_⟩
      · by_cases e : p' = p
        · rw [e, y_up_eq, m_up_eq, hy]
        · rw [y_up_ne (Or.inr e), m_up_ne (by omega)]; exact hh.1
      · rw [y_up_ne (Or.inl (by decide)), m_up_ne (by omega)]; exact hh.2.1
    · subst h1
      subst h2
      refine ⟨?_, ?_⟩
      · rw [y_up_ne (Or.inl (by decide)), m_up_ne (by omega)]; exact hh.1
      · by_cases e : p' = p
        · rw [e, y_up_eq, m_up_eq, hy]
        · rw [y_up_ne (Or.inr e), m_up_ne (by omega)]; exact hh.2.1
  · exact i4.wr m_up_e (Or.inr (Or.inr (Or.inl ⟨by omega, by omega⟩)))
  · rw [kt]
    exact i5.wr m_up_e (Or.inl (by omega))
  · exact i6.tr ⟨fun id' i h => y_up_ne (Or.inl (by omega)), fun j j0 h => m_up_ne (by omega)⟩
/-- cut behind three hundred steps -/
theorem pl_cut (Y : y_S X lb) (G : y_G X lb g o) (D : pl_D X lb o R) (ha : q_kd X a = 12) (J : pl_J X g a R V0 c0 n σ τ) {l l' B : Int} {x i : Int32} (step : pl_L X g R x i σ = pl_L X g R x (i + 1) (q_si σ R 5 1)) : pl_O X lb g o a R V0 c0 n σ τ (q_si (q_si τ a 38 1) a 45 1) l l' B x i := by
  obtain ⟨⟨k6, k2, k3, k4⟩, j0, j1, j5, jb, V', c', i1, i2, i3, i4, i5, i6⟩ := J
  have r5 : (q_si σ R 5 1).1 R 5 = 1 := si_eq _ _ _ _
  have e' : ∀ f', f' ≠ 5 → (q_si σ R 5 1).1 R f' = σ.1 R f' := fun f' hf => si_f hf _
  have t' : ∀ f', f' ≠ 38 → f' ≠ 45 → (q_si (q_si τ a 38 1) a 45 1).1 a f' = τ.1 a f' := fun f' h1 h2 => (si_f h2 _).trans (si_f h1 _)
  have t45 : (q_si (q_si τ a 38 1) a 45 1).1 a 45 = 1 := si_eq _ _ _ _
  have t38 : (q_si (q_si τ a 38 1) a 45 1).1 a 38 = 1 := (si_f (by decide) _).trans (si_eq _ _ _ _)
  refine ⟨q_si σ R 5 1, tkl.rf.si _ (Or.inr (Or.inl ⟨rfl, by decide⟩)), (tkl.rf.si _ (Or.inr (Or.inr ⟨rfl, by decide, by decide⟩))).si _ (Or.inr (Or.inr ⟨rfl, by decide, by decide⟩)), ⟨⟨?_, ?_, ?_, ?_⟩, ?_, ?_, ?_, ?_, V', c', (pl_vo Y G D.2.1 5 1).trans i1, (mv_cell Y.1 ha 45 1).trans ((mv_cell Y.1 ha 38 1).trans i2), i3, i4, ?_, i6⟩, fun y _ => q_si_ne D.ne y, Or.inr ⟨by rw [t38]; rfl, ?_⟩⟩
  · rw [e' 6 (by decide), t' 39 (by decide) (by decide)]; exact k6
  · rw [e' 2 (by decide), t' 42 (by decide) (by decide)]; exact k2
  · rw [e' 3 (by decide), t' 43 (by decide) (by decide)]; exact k3
  · rw [e' 4 (by decide), t' 44 (by decide) (by decide)]; exact k4
  · rw [e' 0 (by decide), t' 40 (by decide) (by decide)]; exact j0
  · rw [e' 1 (by decide), t' 41 (by decide) (by decide)]; exact j1
  · rw [r5, t45]
  · rw [t' 40 (by decide) (by decide)]; exact jb
  · rw [t' 40 (by decide) (by decide)]; exact i5
  · rw [step]
    exact pl_Lstop (Or.inl (by rw [r5]; decide))
theorem pl_plain (Y : y_S X lb) (G : y_G X lb g o) (D : pl_D X lb o R) (ha : q_kd X a = 12) (hn : n ≤ 800000) (J : pl_J X g a R V0 c0 n σ τ) (on : pl_on a τ) {s l : Int} (S : st_l V0 c0 s l) (hs : 0 ≤ s ∧ s < c0 655) (hl : 0 ≤ l ∧ l < V0 3 2) (h60 : V0 3 2 ≤ 60) (hne : c0 (656 + 9 * s) ≠ 3 ∧ c0 (656 + 9 * s) ≠ 4) {x i v1 : Int32} (hx : x.toInt = l) (hv : v1.toInt = s) {B : Int} (hi : 0 ≤ i.toInt) (hB : i.toInt - 100 * (τ.1 a 40).toInt ≤ B) (hB0 : B ≤ 0) (FA : ST → Int32 → Int32 → ST) :
    pl_O X lb g o a R V0 c0 n σ τ (F_X12_doOne_s X τ a v1 FA) l (l + 1) B x i := by
  obtain ⟨n80, n8a, n0a⟩ := pl_k28 Y.1 ha
  obtain ⟨⟨k6, k2, k3, k4⟩, j0, j1, j5, jb, V', c', i1, i2, i3, i4, i5, i6⟩ := id J
  have one : (1 : Int32).toInt = 1 := rfl
  have two : (2 : Int32).toInt = 2 := rfl
  have w := pl_W (lb := lb) (o := o) i1
  have e655 : c' 655 = c0 655 := i6.2 655 (by decide) (Or.inr (by decide))
  have qq := i4.2.2.2.2.2.1
  have s30 : s < 30 := by omega
  have hl60 : 0 ≤ l ∧ l < 60 := ⟨hl.1, by omega⟩
  have v32 : V' 3 2 = V0 3 2 := i6.1 3 2 (by decide)
  have st := i6.st ⟨hs.1, s30⟩ hl60 S
  have ck : c' (656 + 9 * s) = c0 (656 + 9 * s) := i6.2 _ (by omega) (by omega)
  rw [← ck] at hne
  have act := st.act
  have f2 : (σ.1 (q_rf X g 3) 2).toInt = V0 3 2 := (w.rd (id := 3) (by decide) 2 rfl).trans v32
  have ln := pl_line Y G i1 hx hl60
  have h5 : (σ.1 R 5).toInt = 0 := by rw [j5]; exact on.2
  have hi6 : 0 ≤ i.toInt ∧ i.toInt < 1000000 := ⟨hi, by omega⟩
  have r0 : (σ.1 R 0).toInt = (τ.1 a 40).toInt := congrArg Int32.toInt j0
  have xi : (x + 1).toInt = l + 1 := by rw [y_inc (by omega), hx]
  have ii : (i + 1).toInt = i.toInt + 1 := y_inc (by omega)
  have step := pl_Lstep (X := X) (x := x) hi6 (by rw [f2]; omega) h5
  rw [if_neg (by rw [ln.1]; omega), r0] at step
  unfold F_X12_doOne_s
  rw [q_letE (τ.1 a 40)]
  by_cases q300 : (τ.1 a 40).toInt = 300
  · rw [if_pos q300] at step
    rw [if_pos q300, q_letE (q_si τ a 38 1), q_letE (q_si (q_si τ a 38 1) a 45 1)]
    exact pl_cut Y G D ha J step
  rw [if_neg q300] at step
  obtain ⟨J5, D5⟩ := J.step Y G D ha q300
  have v5 : y_v X g (q_si σ R 0 (σ.1 R 0 + 1)) = V' := (pl_vo Y G D.2.1 0 _).trans i1
  have m5 : m_c X (q_si τ a 40 (τ.1 a 40 + 1)) a = c' := (mv_cell Y.1 ha 40 _).trans i2
  have S5 : tkl (pl_Sg X lb o R) (fun _ _ => False) σ (q_si σ R 0 (σ.1 R 0 + 1)) := tkl.rf.si _ (Or.inr (Or.inl ⟨rfl, by decide⟩))
  have T5 : tkl (pl_Sq X a) (fun _ _ => False) τ (q_si τ a 40 (τ.1 a 40 + 1)) := tkl.rf.si _ (Or.inr (Or.inr ⟨rfl, by decide, by decide⟩))
  have u5 : ∀ y : Nat, (q_si σ R 0 (σ.1 R 0 + 1)).1 (pl_T X R) y = σ.1 (pl_T X R) y := fun y => q_si_ne D.ne y
  have on5 : pl_on a (q_si τ a 40 (τ.1 a 40 + 1)) := ⟨(congrArg Int32.toInt (si_f (by decide) a)).trans on.1, (congrArg Int32.toInt (si_f (by decide) a)).trans on.2⟩
  rw [if_neg q300, q_letE (τ.1 a 40), q_letE (τ.1 a 40 + 1), q_letE (q_si τ a 40 (τ.1 a 40 + 1)), q_letE ((9 : Int32) * v1), q_letE ((656 : Int32) + (9 : Int32) * v1)]
  obtain ⟨σ5, es⟩ : ∃ t, t = q_si σ R 0 (σ.1 R 0 + 1) := ⟨_, rfl⟩
  obtain ⟨τ5, et⟩ : ∃ t, t = q_si τ a 40 (τ.1 a 40 + 1) := ⟨_, rfl⟩
  rw [← es] at J5 v5 S5 u5 step
  rw [← et] at J5 D5 m5 T5 on5 ⊢
  have wz := pl_w656 hv ⟨hs.1, s30⟩
  obtain ⟨z7, ez⟩ : ∃ z, z = (656 : Int32) + (9 : Int32) * v1 := ⟨_, rfl⟩
  rw [← ez] at wz ⊢
  have g8 : (τ5.1 (q_rf X a 20) z7.toNatClampNeg).toInt = c' (656 + 9 * s) := gm_cell m5 wz
  have gk : ∀ (k : Int32) (j : Int), k.toInt = j → 0 ≤ j ∧ j ≤ 10 → (τ5.1 (q_rf X a 20) (z7 + k).toNatClampNeg).toInt = c' (656 + 9 * s + j) := fun k j h1 h2 => pl_cellk m5 wz ⟨by omega, by omega⟩ k h1 h2
  have ln5 := pl_line Y G v5 hx hl60
  rw [q_letE (τ5.1 (q_rf X a 20) z7.toNatClampNeg), g8]
  -- the class's step
  have bs := step
  unfold F_X7_behindStep at bs
  rw [q_letE (F_X5_get X σ5 (q_rf X (q_rf X g 3) 5) x), q_letE (F_X5_get X σ5 (q_rf X (q_rf X g 3) 7) x), q_letE (F_X5_get X σ5 (q_rf X (q_rf X g 3) 4) x), q_letE (F_X5_get X σ5 (q_rf X (q_rf X g 3) 4) x + 1), q_letE (F_X5_get X σ5 (q_rf X (q_rf X g 3) 3) x), ln5.1] at bs
  have close : ∀ (σ' τ' : ST), pl_J X g a R V0 c0 n σ' τ' → tkl (pl_Sc lb o R) (fun _ _ => False) σ5 σ' → tkl (pl_Sq X a) (fun _ _ => False) τ5 τ' → pl_on a τ' → τ'.1 a 40 = τ5.1 a 40 → pl_L X g R x i σ = pl_L X g R (x + 1) (i + 1) σ' → pl_O X lb g o a R V0 c0 n σ τ τ' l (l + 1) B x i := by
    intro σ' τ' h1 h2 h3 h4 h6 h7
    obtain ⟨p1, p2, p3, p4⟩ := pl_Sc_Sg D h2
    exact ⟨σ', S5.tr p1, T5.tr h3, h1, fun y _ => (p4 y).trans (u5 y), Or.inl ⟨h4, x + 1, i + 1, xi, by omega, by rw [h6, D5]; omega, h7⟩⟩
  have st' := st
  unfold st_l at st'
  have qs := (i4.2.2.2.2.2.2 s hs.1 (by rw [e655]; exact hs.2)).2.1
  rcases st' with ⟨h0, h1⟩ | ⟨h0, h1, h2, h3⟩ | ⟨h0, h1, h2, h3⟩ | ⟨h0, h1⟩ | ⟨h0, -⟩ | ⟨h0, -⟩ | ⟨h0, -⟩ | ⟨h0, -⟩ | ⟨h0, -⟩
  · -- a turn
    rw [h1, if_pos rfl] at bs
    rw [h0, if_pos (by decide : (0 : Int) < 3)]
    obtain ⟨z, σ6, τ6, x1, x2, y1, y2, y3, y4, y5⟩ := pl_turn Y G ha D.2.1 v5 i3 i4 i5 (by omega) m5 J5.1
    unfold F_X12_does
    rw [q_letE (τ5.1 a 41), q_letE (τ5.1 (q_rf X a 20) z7.toNatClampNeg), g8, h0, if_pos (rfl : (0 : Int) = 0), x2, q_biP z τ6, q_biP z τ6]
    rw [q_letE (F_X7_takeTurn X σ5 R g), x1, q_letE (x + 1), q_biP (x + 1)] at bs
    obtain ⟨p1, p2, p3, p4⟩ := pl_Sc_Sg D y1
    obtain ⟨r1, r2⟩ := pl_Sr_Sq n0a n8a y2
    obtain ⟨y, ey⟩ : ∃ y, y = if z.toInt = 0 then τ5.1 a 41 + 1 else τ5.1 a 41 := ⟨_, rfl⟩
    have rf : (if z.toInt = 0 then q_let (τ5.1 a 41 + 1) (fun z_59 => q_let (q_si τ6 a 41 z_59) (fun σ_60 => σ_60)) else q_let (τ5.1 a 41 + 0) (fun z_61 => q_let (q_si τ6 a 41 z_61) (fun σ_62 => σ_62))) = q_si τ6 a 41 y := by
      rw [ey]
      by_cases q : z.toInt = 0
      · rw [if_pos q, if_pos q, q_letE, q_letE]
      · rw [if_neg q, if_neg q, q_letE, q_letE, Int32.add_zero]
    rw [rf]
    have t6 : ∀ f, f ≠ 41 → (q_si τ6 a 41 y).1 a f = τ6.1 a f := fun f h => si_f h _
    have D6 : (q_si τ6 a 41 y).1 a 40 = τ5.1 a 40 := (t6 40 (by decide)).trans (r2 40 (by decide) (by decide) (by decide) (by decide))
    obtain ⟨V2, c2, o1, o2, o3, o4, o5, o6⟩ := y5
    refine close σ6 (q_si τ6 a 41 y) ⟨⟨?_, ?_, ?_, ?_⟩, ?_, ?_, ?_, ?_, V2, c2, o1, (mv_cell Y.1 ha 41 y).trans o2, o3, o4, ?_, i6.tr o6⟩ y1 (r1.si _ (Or.inr (Or.inr ⟨rfl, by decide, by decide⟩))) ⟨?_, ?_⟩ D6 bs
    · rw [t6 39 (by decide)]; exact y3.1
    · rw [t6 42 (by decide)]; exact y3.2.1
    · rw [t6 43 (by decide)]; exact y3.2.2.1
    · rw [t6 44 (by decide)]; exact y3.2.2.2
    · rw [p2, D6]; exact J5.2.1
    · rw [y4, si_eq, ey, J5.2.2.1]
    · rw [p3, t6 45 (by decide), r2 45 (by decide) (by decide) (by decide) (by decide)]; exact J5.2.2.2.1
    · rw [D6]; exact J5.2.2.2.2.1
    · rw [D6, D5]
      have e : n + (τ.1 a 40).toInt + 1 = n + ((τ.1 a 40).toInt + 1) := by omega
      rw [← e]
      exact o5
    · rw [t6 38 (by decide), r2 38 (by decide) (by decide) (by decide) (by decide)]; exact on5.1
    · rw [t6 45 (by decide), r2 45 (by decide) (by decide) (by decide) (by decide)]; exact on5.2
  · -- lies
    have hp := qs (Or.inl h0)
    rw [h1, if_neg (by decide : ¬ (1 : Int) = 0), if_pos rfl, q_letE (F_X5_set X σ5 (q_rf X (q_rf X g 1) 3) (F_X5_get X σ5 (q_rf X (q_rf X g 3) 5) x) (F_X5_get X σ5 (q_rf X (q_rf X g 3) 7) x)), q_letE (x + 1), q_biP (x + 1)] at bs
    rw [h0, if_pos (by decide : (1 : Int) < 3)]
    unfold F_X12_does
    rw [q_letE (τ5.1 a 41), q_letE (τ5.1 (q_rf X a 20) z7.toNatClampNeg), g8, h0, if_neg (by decide : ¬ (1 : Int) = 0), if_pos rfl, q_letE (z7 + 1), q_letE (τ5.1 (q_rf X a 20) (z7 + 1).toNatClampNeg), q_letE ((10 : Int32) + τ5.1 (q_rf X a 20) (z7 + 1).toNatClampNeg), q_letE (z7 + 2), q_letE (τ5.1 (q_rf X a 20) (z7 + 2).toNatClampNeg)]
    have e1 := gk 1 1 rfl (by decide)
    have e2 := gk 2 2 rfl (by decide)
    have e10 : (10 : Int32).toInt = 10 := rfl
    obtain ⟨J6, y1⟩ := pl_bent Y G D ha J5 (x := F_X5_get X σ5 (q_rf X (q_rf X g 3) 5) x) (y := F_X5_get X σ5 (q_rf X (q_rf X g 3) 7) x) (q := (10 : Int32) + τ5.1 (q_rf X a 20) (z7 + 1).toNatClampNeg) (z := τ5.1 (q_rf X a 20) (z7 + 2).toNatClampNeg) (p := c' (656 + 9 * s + 1)) (Or.inl ⟨rfl, rfl, rfl⟩) (ln5.2.2.1.trans h2) ⟨hp.1, by omega⟩ ((ln5.2.2.2.2.trans h3).trans e2.symm) (by rw [ar_add, e10, e1, ar_wr (by omega) (by omega)])
    rw [q_letE (q_si τ5 (q_rf X a 20) ((10 : Int32) + τ5.1 (q_rf X a 20) (z7 + 1).toNatClampNeg).toNatClampNeg (τ5.1 (q_rf X a 20) (z7 + 2).toNatClampNeg)), q_biP (1 : Int32), if_neg (by decide : ¬ (1 : Int32).toInt = 0), q_letE (τ5.1 a 41 + 0)]
    obtain ⟨τ6, e6⟩ : ∃ t, t = q_si τ5 (q_rf X a 20) ((10 : Int32) + τ5.1 (q_rf X a 20) (z7 + 1).toNatClampNeg).toNatClampNeg (τ5.1 (q_rf X a 20) (z7 + 2).toNatClampNeg) := ⟨_, rfl⟩
    have t6 : ∀ f, τ6.1 a f = τ5.1 a f := fun f => by rw [e6]; exact q_si_ne (Ne.symm n0a) f
    have T6 : tkl (pl_Sq X a) (fun _ _ => False) τ5 τ6 := by rw [e6]; exact tkl.rf.si _ (Or.inl rfl)
    rw [← e6] at J6 ⊢
    have same : q_si τ6 a 41 (τ5.1 a 41 + 0) = τ6 := by
      rw [Int32.add_zero, ← t6 41]
      exact pl_same τ6 a 41
    rw [q_letE (q_si τ6 a 41 (τ5.1 a 41 + 0)), same]
    exact close _ τ6 J6 y1 T6 ⟨by rw [t6]; exact on5.1, by rw [t6]; exact on5.2⟩ (t6 40) bs
  · -- doubts
    have hp := qs (Or.inr (Or.inl h0))
    rw [h1, if_neg (by decide : ¬ (2 : Int) = 0), if_neg (by decide : ¬ (2 : Int) = 1), if_pos rfl, q_letE (F_X5_set X σ5 (q_rf X (q_rf X g 1) 4) (F_X5_get X σ5 (q_rf X (q_rf X g 3) 5) x) (F_X5_get X σ5 (q_rf X (q_rf X g 3) 7) x)), q_letE (x + 1), q_biP (x + 1)] at bs
    rw [h0, if_pos (by decide : (2 : Int) < 3)]
    unfold F_X12_does
    rw [q_letE (τ5.1 a 41), q_letE (τ5.1 (q_rf X a 20) z7.toNatClampNeg), g8, h0, if_neg (by decide : ¬ (2 : Int) = 0), if_neg (by decide : ¬ (2 : Int) = 1), q_letE (z7 + 1), q_letE (τ5.1 (q_rf X a 20) (z7 + 1).toNatClampNeg), q_letE ((16 : Int32) + τ5.1 (q_rf X a 20) (z7 + 1).toNatClampNeg), q_letE (z7 + 2), q_letE (τ5.1 (q_rf X a 20) (z7 + 2).toNatClampNeg)]
    have e1 := gk 1 1 rfl (by decide)
    have e2 := gk 2 2 rfl (by decide)
    have e16 : (16 : Int32).toInt = 16 := rfl
    obtain ⟨J6, y1⟩ := pl_bent Y G D ha J5 (x := F_X5_get X σ5 (q_rf X (q_rf X g 3) 5) x) (y := F_X5_get X σ5 (q_rf X (q_rf X g 3) 7) x) (q := (16 : Int32) + τ5.1 (q_rf X a 20) (z7 + 1).toNatClampNeg) (z := τ5.1 (q_rf X a 20) (z7 + 2).toNatClampNeg) (p := c' (656 + 9 * s + 1)) (Or.inr ⟨rfl, rfl, rfl⟩) (ln5.2.2.1.trans h2) ⟨hp.1, by omega⟩ ((ln5.2.2.2.2.trans h3).trans e2.symm) (by rw [ar_add, e16, e1, ar_wr (by omega) (by omega)])
    rw [q_letE (q_si τ5 (q_rf X a 20) ((16 : Int32) + τ5.1 (q_rf X a 20) (z7 + 1).toNatClampNeg).toNatClampNeg (τ5.1 (q_rf X a 20) (z7 + 2).toNatClampNeg)), q_biP (1 : Int32), if_neg (by decide : ¬ (1 : Int32).toInt = 0), q_letE (τ5.1 a 41 + 0)]
    obtain ⟨τ6, e6⟩ : ∃ t, t = q_si τ5 (q_rf X a 20) ((16 : Int32) + τ5.1 (q_rf X a 20) (z7 + 1).toNatClampNeg).toNatClampNeg (τ5.1 (q_rf X a 20) (z7 + 2).toNatClampNeg) := ⟨_, rfl⟩
    have t6 : ∀ f, τ6.1 a f = τ5.1 a f := fun f => by rw [e6]; exact q_si_ne (Ne.symm n0a) f
    have T6 : tkl (pl_Sq X a) (fun _ _ => False) τ5 τ6 := by rw [e6]; exact tkl.rf.si _ (Or.inl rfl)
    rw [← e6] at J6 ⊢
    have same : q_si τ6 a 41 (τ5.1 a 41 + 0) = τ6 := by
      rw [Int32.add_zero, ← t6 41]
      exact pl_same τ6 a 41
    rw [q_letE (q_si τ6 a 41 (τ5.1 a 41 + 0)), same]
    exact close _ τ6 J6 y1 T6 ⟨by rw [t6]; exact on5.1, by rw [t6]; exact on5.2⟩ (t6 40) bs
  · -- stop
    have f52 : (σ5.1 (q_rf X g 3) 2).toInt = V0 3 2 := ((pl_W (lb := lb) (o := o) v5).rd (id := 3) (by decide) 2 rfl).trans v32
    rw [h1, if_neg (by decide : ¬ (3 : Int) = 0), if_neg (by decide : ¬ (3 : Int) = 1), if_neg (by decide : ¬ (3 : Int) = 2), if_pos rfl, q_letE (σ5.1 (q_rf X g 3) 2), q_biP (σ5.1 (q_rf X g 3) 2)] at bs
    rw [h0, if_neg (by decide : ¬ (5 : Int) < 3), if_neg (by decide : ¬ (5 : Int) = 3), if_neg (by decide : ¬ (5 : Int) = 4), if_pos (by decide : (4 : Int) < 5), q_letE (q_si τ5 a 38 1)]
    refine ⟨σ5, S5, T5.si _ (Or.inr (Or.inr ⟨rfl, by decide, by decide⟩)), J5.sq Y ha (by decide), fun y _ => u5 y, Or.inr ⟨by rw [si_eq]; rfl, ?_⟩⟩
    rw [bs]
    exact pl_Lstop (Or.inr (Int.le_refl _))
  · exact absurd h0 hne.2
  · exact absurd h0 hne.1
  · exact absurd h0 hne.1
  · exact absurd h0 hne.1
  · exact absurd h0 hne.1
end PF
