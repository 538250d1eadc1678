/-! OBSERVERS: what it is best to lay -/
section QK
variable {X : XW} {lb : Nat → Nat} {C a : Nat} {σ τ : ST} {n : Int}
/-- what is left, in sixteenths, behind t of the kind and f others -/
def be_v (N H d t f : Int) : Int := 16 * (N - t - f) + if 0 < f then d * (H + t + f) else 0
theorem be_class (K : al_C X lb C a) (A : al_R X C a σ τ) (M : m_M (m_c X τ a) (τ.1 a 24).toInt n) {f5 : Int} (h5 : y_v X (q_rf X C 8) σ 0 5 = f5) (hp : 0 ≤ f5 ∧ f5 < 6) {v1 v2 v3 : Int32} {t f d : Int} (e1 : v1.toInt = t) (e2 : v2.toInt = f) (e3 : v3.toInt = d) (ht : 0 ≤ t ∧ t ≤ 80) (hf : 0 ≤ f ∧ f ≤ 80) (hd : 0 ≤ d ∧ d ≤ 16) : (F_X0_sixteenthsLeft X σ (q_rf X C 8) v1 v2 v3).toInt = be_v (m_S (m_c X τ a) (34 + 10 * f5) 10) (m_L (m_c X τ a) (m_c X τ a 9).toNat) d t f := by
  obtain ⟨kC, ka, S, lC, G8, G9, GM⟩ := id K
  have w : y_W X lb (q_rf X C 8) 1 σ σ (y_v X (q_rf X C 8) σ) := y_W.rf
  have e16 : (16 : Int32).toInt = 16 := rfl
  have z0 : (0 : Int32).toInt = 0 := rfl
  have n9 : ((y_gn 9 : Nat) : Int) = 6 := rfl
  have b9 := M.1.1.1.2.2.2.2.2.2.1
  have l80 := M.1.1.L80 b9.1 (Int.le_refl _)
  have l0 := (M.1.1.A_bd (-1) 0 (m_c X τ a 9).toNat (by omega))
  have s80 := M.1.1.S80 (p := f5) (k := 10) hp.1 hp.2 (by decide) (by decide)
  have z10 : m_S (m_c X τ a) (34 + 10 * f5) (10 : Int).toNat = m_S (m_c X τ a) (34 + 10 * f5) 10 := rfl
  have f1 : (σ.1 (q_rf X (q_rf X C 8) 2) 1).toInt = m_L (m_c X τ a) (m_c X τ a 9).toNat := (w.rd (id := 2) (by decide) 1 rfl).trans A.1.1.2.2.2.2.1.2.1
  have r5 : (σ.1 (q_rf X C 8) 5).toInt = f5 := (w.rd (id := 0) (by decide) 5 rfl).trans h5
  have r2 : (F_X5_get X σ (q_rf X (q_rf X (q_rf X C 8) 1) 2) (σ.1 (q_rf X C 8) 5)).toInt = m_S (m_c X τ a) (34 + 10 * f5) 10 := (y_getI S G8 w (id := 9) (r := q_rf X (q_rf X (q_rf X C 8) 1) 2) ⟨by decide, by decide⟩ rfl r5 hp.1 (by rw [n9]; exact hp.2)).trans (A.1.1.2.2.2.1.2 _ hp.1 hp.2)
  obtain ⟨N, hN⟩ : ∃ N, N = m_S (m_c X τ a) (34 + 10 * f5) 10 := ⟨_, rfl⟩
  obtain ⟨H, hH⟩ : ∃ H, H = m_L (m_c X τ a) (m_c X τ a 9).toNat := ⟨_, rfl⟩
  rw [← hN] at r2 ⊢
  rw [← hH] at f1 l80 l0 ⊢
  rw [z10, ← hN] at s80
  have m := m_mulI (a := d) (A := 16) (b := H + t + f) (B := 240) hd.1 hd.2 (by omega) (by omega)
  unfold F_X0_sixteenthsLeft be_v
  rw [q_letE (σ.1 (q_rf X C 8) 5), q_letE (F_X5_get X σ (q_rf X (q_rf X (q_rf X C 8) 1) 2) (σ.1 (q_rf X C 8) 5))]
  obtain ⟨r, hr⟩ : ∃ r, r = F_X5_get X σ (q_rf X (q_rf X (q_rf X C 8) 1) 2) (σ.1 (q_rf X C 8) 5) := ⟨_, rfl⟩
  rw [← hr] at r2 ⊢
  have e5 : (r - v1 - v2).toInt = N - t - f := by rw [ar_sub, ar_sub, r2, e1, e2, ar_wr (n := N - t) (by omega) (by omega), ar_wr (by omega) (by omega)]
  have e6 : ((16 : Int32) * (r - v1 - v2)).toInt = 16 * (N - t - f) := by rw [ar_mul, e16, e5, ar_wr (by omega) (by omega)]
  rw [q_letE (r - v1), q_letE (r - v1 - v2), q_letE ((16 : Int32) * (r - v1 - v2)), e2]
  by_cases q : 0 < f
  · have e11 : (σ.1 (q_rf X (q_rf X C 8) 2) 1 + v1 + v2).toInt = H + t + f := by rw [ar_add, ar_add, f1, e1, e2, ar_wr (n := H + t) (by omega) (by omega), ar_wr (by omega) (by omega)]
    have e12 : (v3 * (σ.1 (q_rf X (q_rf X C 8) 2) 1 + v1 + v2)).toInt = d * (H + t + f) := by rw [ar_mul, e3, e11, ar_wr (by omega) (by omega)]
    rw [if_pos q, if_pos q, q_letE (σ.1 (q_rf X (q_rf X C 8) 2) 1), q_letE, q_letE, q_letE, q_letE, ar_add, e6, e12, ar_wr (by omega) (by omega)]
  · rw [if_neg q, if_neg q, q_letE, ar_add, e6, z0, ar_wr (by omega) (by omega)]
/-- the two that look for the least: nothing yet, or the same -/
def be_I (x1 x2 x3 y1 y2 y3 : Int32) : Prop := (x1.toInt = -1 ∧ x2.toInt = -1 ∧ x3.toInt = -1 ∧ y1.toInt = -1) ∨ (0 ≤ x1.toInt ∧ 0 ≤ x3.toInt ∧ x1.toInt = y1.toInt ∧ x2.toInt = y2.toInt ∧ x3.toInt = y3.toInt)
theorem be_in (K : al_C X lb C a) (A : al_R X C a σ τ) (M : m_M (m_c X τ a) (τ.1 a 24).toInt n) {f5 : Int} (h5 : y_v X (q_rf X C 8) σ 0 5 = f5) (hp : 0 ≤ f5 ∧ f5 < 6) {τ2 : ST} {r21 r37 v1 w v v2 : Int32} {d f h : Int} (e21 : r21.toInt = m_S (m_c X τ a) (34 + 10 * f5) 10) (e37 : r37.toInt = m_L (m_c X τ a) (m_c X τ a 9).toNat) (e1 : v1.toInt = d) (hd : 0 ≤ d ∧ d ≤ 16) (ew : w.toInt = f) (hf : 0 ≤ f ∧ f ≤ 4) (hh : 0 ≤ h ∧ h + f ≤ m_S (m_c X τ a) (34 + 10 * f5) 10) {T : Int} (hT : 0 ≤ T ∧ T ≤ h) (Bc Bm : Int32 → Int32 → Int32 → Int32 → Int32 × ST) (done : ∀ x1 x2 x3 y1 y2 y3 : Int32, be_I x1 x2 x3 y1 y2 y3 → (x1.toInt = -1 → f = 0 ∧ T = 0) → ob_O X C a (F_X11_best_E233_4 X w Bc x1 x2 x3) (F_X12_best_E257_4 X w Bm y1 y2 y3)) (fu : Nat) : ∀ (x1 x2 x3 y1 y2 y3 t : Int32), (t.toInt + 2147483649).toNat < fu → -1 ≤ t.toInt → t.toInt ≤ T → be_I x1 x2 x3 y1 y2 y3 → (x1.toInt = -1 → t.toInt = T ∨ f = 0 ∧ T = 0) → ob_O X C a (F_X11_best_L175_3 X w Bc σ C v1 fu x1 x2 x3 t) (F_X12_best_L169_3 X w Bm r21 r37 v1 τ2 fu y1 y2 y3 t) := by
  have e16 : (16 : Int32).toInt = 16 := rfl
  have em1 : (-1 : Int32).toInt = -1 := rfl
  have b9 := M.1.1.1.2.2.2.2.2.2.1
  have l80 := M.1.1.L80 b9.1 (Int.le_refl _)
  have l0 := (M.1.1.A_bd (-1) 0 (m_c X τ a 9).toNat (by omega))
  have s80 := M.1.1.S80 (p := f5) (k := 10) hp.1 hp.2 (by decide) (by decide)
  have z10 : m_S (m_c X τ a) (34 + 10 * f5) (10 : Int).toNat = m_S (m_c X τ a) (34 + 10 * f5) 10 := rfl
  have bc := fun {t' : Int32} (a1 : 0 ≤ t'.toInt ∧ t'.toInt ≤ 80) => be_class K A M h5 hp (v1 := t') (v2 := w) (v3 := v1) rfl ew e1 a1 ⟨hf.1, by omega⟩ hd
  obtain ⟨N, hN⟩ : ∃ N, N = m_S (m_c X τ a) (34 + 10 * f5) 10 := ⟨_, rfl⟩
  obtain ⟨H, hH⟩ : ∃ H, H = m_L (m_c X τ a) (m_c X τ a 9).toNat := ⟨_, rfl⟩
  rw [← hN] at e21 hh bc
  rw [← hH] at e37 bc l80 l0
  rw [z10, ← hN] at s80
  clear hN hH z10
  induction fu with
  | zero => intro x1 x2 x3 y1 y2 y3 t h; exact absurd h (Nat.not_lt_zero _)
  | succ fu ih =>
    intro x1 x2 x3 y1 y2 y3 t hfu t0 tT I nf
    rw [F_X11_best_L175_3_s, F_X12_best_L169_3_s]
    unfold F_X11_best_B175_3 F_X12_best_B169_3
    by_cases q : t.toInt < 0
    · rw [if_pos q, if_pos q]
      refine done _ _ _ _ _ _ I (fun hx => ?_)
      rcases nf hx with z | z
      · omega
      · exact z
    · have tm : (t + -1).toInt = t.toInt - 1 := by rw [ar_add, em1, ar_wr (by omega) (by omega)]; omega
      have tf : (t + w).toInt = t.toInt + f := by rw [ar_add, ew, ar_wr (by omega) (by omega)]
      have cl := bc (t' := t) ⟨by omega, by omega⟩
      rw [if_neg q, if_neg q, q_letE (F_X0_sixteenthsLeft X σ (q_rf X C 8) t w v1), q_letE (t + w), q_letE (t + w), tf]
      obtain ⟨s, hs⟩ : ∃ s, s = F_X0_sixteenthsLeft X σ (q_rf X C 8) t w v1 := ⟨_, rfl⟩
      rw [← hs] at cl ⊢
      by_cases qz : t.toInt + f = 0
      · rw [if_neg (by omega), if_pos qz, q_letE (t + -1), q_letE (t + -1)]
        refine ih _ _ _ _ _ _ _ (by omega) (by omega) (by omega) I (fun hx => ?_)
        rcases nf hx with z | z
        · exact Or.inr ⟨by omega, by omega⟩
        · exact Or.inr z
      · have m := m_mulI (a := d) (A := 16) (b := H + t.toInt + f) (B := 240) hd.1 hd.2 (by omega) (by omega)
        have vb : 0 ≤ be_v N H d t.toInt f := by
          unfold be_v
          split <;> omega
        rw [cl.symm.trans rfl] at vb
        rw [if_pos (by omega), if_neg qz]
        -- what the reference finds
        have main : ∀ z : Int32, z.toInt = be_v N H d t.toInt f → ob_O X C a (if x3.toInt = -1 then F_X11_best_L175_3 X w Bc σ C v1 fu t w s (t + -1) else if s.toInt < x3.toInt then F_X11_best_L175_3 X w Bc σ C v1 fu t w s (t + -1) else F_X11_best_L175_3 X w Bc σ C v1 fu x1 x2 x3 (t + -1)) (if y1.toInt < 0 then F_X12_best_L169_3 X w Bm r21 r37 v1 τ2 fu t w z (t + -1) else if z.toInt < y3.toInt then F_X12_best_L169_3 X w Bm r21 r37 v1 τ2 fu t w z (t + -1) else F_X12_best_L169_3 X w Bm r21 r37 v1 τ2 fu y1 y2 y3 (t + -1)) := fun z hz => by
          have new : ob_O X C a (F_X11_best_L175_3 X w Bc σ C v1 fu t w s (t + -1)) (F_X12_best_L169_3 X w Bm r21 r37 v1 τ2 fu t w z (t + -1)) := ih _ _ _ _ _ _ _ (by omega) (by omega) (by omega) (Or.inr ⟨by omega, vb, rfl, rfl, cl.trans hz.symm⟩) (fun hx => by omega)
          rcases I with ⟨i1, i2, i3, i4⟩ | ⟨i1, i2, i3, i4, i5⟩
          · rw [if_pos i3, if_pos (by omega)]
            exact new
          · rw [if_neg (by omega), if_neg (by omega), cl, hz, ← i5]
            by_cases q4 : be_v N H d t.toInt f < x3.toInt
            · rw [if_pos q4, if_pos q4]
              exact new
            · rw [if_neg q4, if_neg q4]
              exact ih _ _ _ _ _ _ _ (by omega) (by omega) (by omega) (Or.inr ⟨i1, i2, i3, i4, i5⟩) (fun hx => by omega)
        rw [q_letE (t + -1), q_letE (t + -1), q_letE (t + -1)]
        rw [ew]
        by_cases q0 : f = 0
        · have e80 : (r21 - t).toInt = N - t.toInt := by rw [ar_sub, e21, ar_wr (by omega) (by omega)]
          have e81 : ((16 : Int32) * (r21 - t)).toInt = be_v N H d t.toInt f := by
            rw [ar_mul, e16, e80, ar_wr (by omega) (by omega)]
            unfold be_v
            rw [if_neg (by omega)]
            omega
          rw [if_pos q0, q_letE (r21 - t), q_letE ((16 : Int32) * (r21 - t)), q_letE (t + -1), q_letE (t + -1), q_letE (t + -1)]
          exact main _ e81
        · have e68 : (r21 + r37).toInt = N + H := by rw [ar_add, e21, e37, ar_wr (by omega) (by omega)]
          have m1 := m_mulI (a := d) (A := 16) (b := N + H) (B := 160) hd.1 hd.2 (by omega) (by omega)
          have e69 : (v1 * (r21 + r37)).toInt = d * (N + H) := by rw [ar_mul, e1, e68, ar_wr (by omega) (by omega)]
          have e70 : ((16 : Int32) - v1).toInt = 16 - d := by rw [ar_sub, e16, e1, ar_wr (by omega) (by omega)]
          have e72 : (r21 - t - w).toInt = N - t.toInt - f := by rw [ar_sub, ar_sub, e21, ew, ar_wr (n := N - t.toInt) (by omega) (by omega), ar_wr (by omega) (by omega)]
          have m2 := m_mulI (a := 16 - d) (A := 16) (b := N - t.toInt - f) (B := 80) (by omega) (by omega) (by omega) (by omega)
          have e73 : (((16 : Int32) - v1) * (r21 - t - w)).toInt = (16 - d) * (N - t.toInt - f) := by rw [ar_mul, e70, e72, ar_wr (by omega) (by omega)]
          have e74 : (v1 * (r21 + r37) + ((16 : Int32) - v1) * (r21 - t - w)).toInt = be_v N H d t.toInt f := by
            rw [ar_add, e69, e73, ar_wr (by omega) (by omega)]
            unfold be_v
            rw [if_pos (by omega), Int.sub_mul]
            have g1 : d * (N + H) = d * (N - t.toInt - f) + d * (H + t.toInt + f) := by
              rw [← Int.mul_add]
              congr 1
              omega
            omega
          rw [if_neg q0, q_letE (r21 + r37), q_letE (v1 * (r21 + r37)), q_letE ((16 : Int32) - v1), q_letE (r21 - t), q_letE (r21 - t - w), q_letE (((16 : Int32) - v1) * (r21 - t - w)), q_letE (v1 * (r21 + r37) + ((16 : Int32) - v1) * (r21 - t - w)), q_letE (t + -1), q_letE (t + -1), q_letE (t + -1)]
          exact main _ e74
theorem be_out (K : al_C X lb C a) (A : al_R X C a σ τ) (M : m_M (m_c X τ a) (τ.1 a 24).toInt n) {f5 h : Int} (h5 : y_v X (q_rf X C 8) σ 0 5 = f5) (hp : 0 ≤ f5 ∧ f5 < 6) {r21 r35 r35' r37 v1 v2 : Int32} {d : Int} (e15 : r21.toInt = m_S (m_c X τ a) (34 + 10 * f5) 10) {r15 : Int32} (e15' : r15.toInt = m_S (m_c X τ a) (34 + 10 * f5) 10) (hN : 1 ≤ m_S (m_c X τ a) (34 + 10 * f5) 10) (e35 : r35.toInt = h) (e35' : r35'.toInt = h) (hh : 0 ≤ h ∧ h ≤ m_S (m_c X τ a) (34 + 10 * f5) 10) (e37 : r37.toInt = m_L (m_c X τ a) (m_c X τ a 9).toNat) (e1 : v1.toInt = d) (hd : 0 ≤ d ∧ d ≤ 16) (fu : Nat) : ∀ (x1 x2 x3 y1 y2 y3 w : Int32), (2147483647 - w.toInt).toNat < fu → 0 ≤ w.toInt → w.toInt ≤ 5 → be_I x1 x2 x3 y1 y2 y3 → (x1.toInt = -1 → w.toInt = 0 ∨ w.toInt = 1 ∧ h = 0) → ob_O X C a (F_X11_best_L133_1 X σ C r15 r35' v2 v1 fu x1 x2 x3 w) (F_X12_best_L134_1 X (q_si (q_si τ a 1 0) a 0 0) a r21 r35 v2 r37 v1 fu y1 y2 y3 w) := by
  obtain ⟨kC, ka, S, lC, G8, G9, GM⟩ := id K
  obtain ⟨m2, s2, t2⟩ := mv_beg S.1 ka (rfl : m_c X τ a = m_c X τ a)
  obtain ⟨b0, b2, b4, b5, b6, b7, b9, b79⟩ := M.1.1.1
  have w0 : y_W X lb (q_rf X C 8) 1 σ σ (y_v X (q_rf X C 8) σ) := y_W.rf
  have s80 := M.1.1.S80 (p := f5) (k := 10) hp.1 hp.2 (by decide) (by decide)
  have z10 : m_S (m_c X τ a) (34 + 10 * f5) (10 : Int).toNat = m_S (m_c X τ a) (34 + 10 * f5) 10 := rfl
  rw [z10] at s80
  have f3 : (σ.1 (q_rf X (q_rf X C 8) 0) 3).toInt = m_c X τ a 4 := (w0.rd (id := 1) (by decide) 3 rfl).trans A.1.1.1.2.2.2.1
  have g4 : ((q_si (q_si τ a 1 0) a 0 0).1 (q_rf X a 20) (4 : Int32).toNatClampNeg).toInt = m_c X τ a 4 := gm_cell (A := 4) m2 rfl
  have tl := an_tell K A M
  obtain ⟨τ2, et⟩ : ∃ t, t = q_si (q_si τ a 1 0) a 0 0 := ⟨_, rfl⟩
  rw [← et] at g4 tl ⊢
  have nd : (r15 - r35').toInt = m_S (m_c X τ a) (34 + 10 * f5) 10 - h := by rw [ar_sub, e15', e35', ar_wr (by omega) (by omega)]
  have nd' : (r21 - r35).toInt = m_S (m_c X τ a) (34 + 10 * f5) 10 - h := by rw [ar_sub, e15, e35, ar_wr (by omega) (by omega)]
  induction fu with
  | zero => intro x1 x2 x3 y1 y2 y3 w h; exact absurd h (Nat.not_lt_zero _)
  | succ fu ih =>
    intro x1 x2 x3 y1 y2 y3 w hfu w0' w5 I nf
    rw [F_X11_best_L133_1_s, F_X12_best_L134_1_s]
    unfold F_X11_best_B133_1 F_X12_best_B134_1
    rw [q_letE (σ.1 (q_rf X (q_rf X C 8) 0) 3), q_letE (r15 - r35'), q_letE (F_J9_min_7cf53 X σ (σ.1 (q_rf X (q_rf X C 8) 0) 3) (r15 - r35')), q_letE (τ2.1 (q_rf X a 20) (4 : Int32).toNatClampNeg), q_letE (r21 - r35), q_letE (F_J9_min_7cf53 X τ2 (τ2.1 (q_rf X a 20) (4 : Int32).toNatClampNeg) (r21 - r35)), gm_min, gm_min, f3, g4, nd, nd']
    by_cases q : (if m_S (m_c X τ a) (34 + 10 * f5) 10 - h < m_c X τ a 4 then m_S (m_c X τ a) (34 + 10 * f5) 10 - h else m_c X τ a 4) < w.toInt
    · rw [if_pos q, if_pos q]
      have fd : ¬ x1.toInt = -1 := fun hx => by
        rcases nf hx with z | z
        · split at q <;> omega
        · split at q <;> omega
      rcases I with ⟨i1, -⟩ | ⟨i1, i2, i3, i4, i5⟩
      · exact absurd i1 fd
      · unfold F_X11_best_E239_2 F_X12_best_E263_2
        rw [q_letE x3.toInt64, q_letE y3.toInt64]
        have z := tl x3.toInt64 16 y3.toInt64 16
        rw [ob_pe, ob_pe] at z
        obtain ⟨σ9, s9, -⟩ := fr_tell (X := X) (C := C) σ x3.toInt64 16
        obtain ⟨τ9, t9, -⟩ := fr_frac (X := X) (a := a) τ2 y3.toInt64 16
        rw [s9, t9] at z
        rw [s9, t9, q_biP (1 : Int32) σ9, q_biP (1 : Int32) τ9]
        by_cases qv : v2.toInt = 0
        · rw [if_pos qv, if_pos qv]
          exact ⟨i3, z.2⟩
        · rw [if_neg qv, if_neg qv]
          exact ⟨i4, z.2⟩
    · rw [if_neg q, if_neg q]
      have wm : w.toInt ≤ m_c X τ a 4 ∧ w.toInt ≤ m_S (m_c X τ a) (34 + 10 * f5) 10 - h := by
        split at q <;> omega
      have d1 : (σ.1 (q_rf X (q_rf X C 8) 0) 3 - w).toInt = m_c X τ a 4 - w.toInt := by rw [ar_sub, f3, ar_wr (by omega) (by omega)]
      have d2 : (τ2.1 (q_rf X a 20) (4 : Int32).toNatClampNeg - w).toInt = m_c X τ a 4 - w.toInt := by rw [ar_sub, g4, ar_wr (by omega) (by omega)]
      have n1 := gm_min (X := X) (σ := σ) (σ.1 (q_rf X (q_rf X C 8) 0) 3 - w) r35'
      have n2 := gm_min (X := X) (σ := τ2) (τ2.1 (q_rf X a 20) (4 : Int32).toNatClampNeg - w) r35
      rw [d1, e35'] at n1
      rw [d2, e35] at n2
      rw [q_letE (σ.1 (q_rf X (q_rf X C 8) 0) 3), q_letE (σ.1 (q_rf X (q_rf X C 8) 0) 3 - w), q_letE (F_J9_min_7cf53 X σ (σ.1 (q_rf X (q_rf X C 8) 0) 3 - w) r35'), q_letE (τ2.1 (q_rf X a 20) (4 : Int32).toNatClampNeg), q_letE (τ2.1 (q_rf X a 20) (4 : Int32).toNatClampNeg - w), q_letE (F_J9_min_7cf53 X τ2 (τ2.1 (q_rf X a 20) (4 : Int32).toNatClampNeg - w) r35)]
      obtain ⟨u, hu⟩ : ∃ u, u = F_J9_min_7cf53 X σ (σ.1 (q_rf X (q_rf X C 8) 0) 3 - w) r35' := ⟨_, rfl⟩
      obtain ⟨u', hu'⟩ : ∃ u, u = F_J9_min_7cf53 X τ2 (τ2.1 (q_rf X a 20) (4 : Int32).toNatClampNeg - w) r35 := ⟨_, rfl⟩
      rw [← hu] at n1 ⊢
      rw [← hu'] at n2 ⊢
      have uu : u' = u := Int32.toInt_inj.mp (n2.trans n1.symm)
      rw [uu]
      obtain ⟨T, hT⟩ : ∃ T, T = if h < m_c X τ a 4 - w.toInt then h else m_c X τ a 4 - w.toInt := ⟨_, rfl⟩
      rw [← hT] at n1
      have Tb : 0 ≤ T ∧ T ≤ h ∧ (T = 0 → h = 0 ∨ w.toInt = m_c X τ a 4) := by
        rw [hT]
        split <;> exact ⟨by omega, by omega, fun _ => by omega⟩
      refine be_in K A M h5 hp e15 e37 e1 hd (rfl : w.toInt = w.toInt) ⟨w0', by omega⟩ (h := h) ⟨hh.1, by omega⟩ (T := T) ⟨Tb.1, Tb.2.1⟩ _ _ (fun z1 z2 z3 y1' y2' y3' I' nf' => ?_) _ x1 x2 x3 y1 y2 y3 u (Nat.lt_succ_self _) (by omega) (by omega) I (fun _ => Or.inl n1)
      unfold F_X11_best_E233_4 F_X12_best_E257_4
      have w1 : (w + 1).toInt = w.toInt + 1 := y_inc (by omega)
      rw [q_letE (w + 1), q_letE (w + 1)]
      refine ih _ _ _ _ _ _ _ (by omega) (by omega) (by omega) I' (fun hx => ?_)
      obtain ⟨k1, k2⟩ := nf' hx
      rcases Tb.2.2 k2 with z | z
      · exact Or.inr ⟨by omega, z⟩
      · omega
theorem ob_best (K : al_C X lb C a) (A : al_R X C a σ τ) (M : m_M (m_c X τ a) (τ.1 a 24).toInt n) (v1 v2 : Int32) : ob_O X C a (F_X11_best X σ C v1 v2) (F_X12_best X τ a v1 v2) := by
  obtain ⟨kC, ka, S, lC, G8, G9, GM⟩ := id K
  obtain ⟨m2, s2, t2⟩ := mv_beg S.1 ka (rfl : m_c X τ a = m_c X τ a)
  obtain ⟨b0, b2, b4, b5, b6, b7, b9, b79⟩ := M.1.1.1
  have w : y_W X lb (q_rf X C 8) 1 σ σ (y_v X (q_rf X C 8) σ) := y_W.rf
  have z0 : (0 : Int32).toInt = 0 := rfl
  have em1 : (-1 : Int32).toInt = -1 := rfl
  have e0 : (0 : Int64).toInt = 0 := rfl
  have e1 : (1 : Int64).toInt = 1 := rfl
  have e16 : (16 : Int64).toInt = 16 := rfl
  have n9 : ((y_gn 9 : Nat) : Int) = 6 := rfl
  have i1 : (F_X12_isIn X (q_si (q_si τ a 1 0) a 0 0) v1.toInt64 (0 : Int64) (16 : Int64)).toInt = if 0 ≤ v1.toInt ∧ v1.toInt ≤ 16 then 1 else 0 := lk_in (X := X) v1 e0 e16
  have i2 : (F_X12_isIn X (q_si (q_si τ a 1 0) a 0 0) v2.toInt64 (0 : Int64) (1 : Int64)).toInt = if 0 ≤ v2.toInt ∧ v2.toInt ≤ 1 then 1 else 0 := lk_in (X := X) v2 e0 e1
  have cls : (F_X11_isSixteenths X σ v1).toInt = if 0 ≤ v1.toInt ∧ v1.toInt ≤ 16 then 1 else 0 := by
    unfold F_X11_isSixteenths
    by_cases q1 : v1.toInt < 0
    · rw [if_pos q1, if_neg (by omega)]; rfl
    · rw [if_neg q1]
      by_cases q2 : 16 < v1.toInt
      · rw [if_pos q2, if_neg (by omega)]; rfl
      · rw [if_neg q2, if_pos ⟨by omega, by omega⟩]; rfl
  unfold F_X11_best F_X12_best
  rw [q_letE (F_X11_isSixteenths X σ v1), cls, q_letE (q_si τ a 1 0), q_letE (q_si (q_si τ a 1 0) a 0 0), q_letE v1.toInt64, q_letE (F_X12_isIn X (q_si (q_si τ a 1 0) a 0 0) v1.toInt64 (0 : Int64) (16 : Int64)), i1]
  by_cases q : 0 ≤ v1.toInt ∧ v1.toInt ≤ 16
  · rw [if_pos q, if_neg (by decide : ¬ (1 : Int) = 0), if_neg (by decide : ¬ (1 : Int) = 0), q_letE v2.toInt64, q_letE (F_X12_isIn X (q_si (q_si τ a 1 0) a 0 0) v2.toInt64 (0 : Int64) (1 : Int64)), i2]
    by_cases q1 : v2.toInt < 0
    · rw [if_pos q1, if_neg (by omega : ¬ (0 ≤ v2.toInt ∧ v2.toInt ≤ 1)), if_pos rfl]
      exact ob_none K A M 5
    · rw [if_neg q1]
      by_cases q2 : 1 < v2.toInt
      · rw [if_pos q2, if_neg (by omega : ¬ (0 ≤ v2.toInt ∧ v2.toInt ≤ 1)), if_pos rfl]
        exact ob_none K A M 5
      · have s := A.1.1.2.1
        have f4 : (σ.1 (q_rf X (q_rf X C 8) 0) 4).toInt = m_c X τ a 2 := (w.rd (id := 1) (by decide) 4 rfl).trans A.1.1.1.2.2.2.2.1
        have g6 : ((q_si (q_si τ a 1 0) a 0 0).1 (q_rf X a 20) (6 : Int32).toNatClampNeg).toInt = m_c X τ a 6 := gm_cell (A := 6) m2 rfl
        rw [if_neg q2, if_pos (⟨by omega, by omega⟩ : 0 ≤ v2.toInt ∧ v2.toInt ≤ 1), if_neg (by decide : ¬ (1 : Int) = 0), q_letE (σ.1 (q_rf X (q_rf X C 8) 0) 4), f4, q_letE ((q_si (q_si τ a 1 0) a 0 0).1 (q_rf X a 20) (6 : Int32).toNatClampNeg), g6]
        by_cases q3 : m_c X τ a 2 = 0
        · rw [if_pos q3, if_pos (by omega : m_c X τ a 6 < 0)]
          exact ob_none K A M 8
        · have v5 : y_v X (q_rf X C 8) σ 0 5 = m_c X τ a 6 := by
            have z := s.2.1
            rw [if_neg (by omega)] at z
            exact z
          have hp : 0 ≤ m_c X τ a 6 ∧ m_c X τ a 6 < 6 := ⟨by omega, by omega⟩
          have f5 : (σ.1 (q_rf X C 8) 5).toInt = m_c X τ a 6 := (w.rd (id := 0) (by decide) 5 rfl).trans v5
          have f7 : (σ.1 (q_rf X C 8) 7).toInt = m_c X τ a 7 := (w.rd (id := 0) (by decide) 7 rfl).trans s.2.2.2
          have f6 : (σ.1 (q_rf X C 8) 6).toInt = m_c X τ a 8 := (w.rd (id := 0) (by decide) 6 rfl).trans s.2.2.1.1
          have fk : (σ.1 (q_rf X C 8) 4).toInt = m_c X τ a 5 := (w.rd (id := 0) (by decide) 4 rfl).trans s.1
          have c8 := s.2.2.1.2
          have g7 : ((q_si (q_si τ a 1 0) a 0 0).1 (q_rf X a 20) (7 : Int32).toNatClampNeg).toInt = m_c X τ a 7 := gm_cell (A := 7) m2 rfl
          have g8 : ((q_si (q_si τ a 1 0) a 0 0).1 (q_rf X a 20) (8 : Int32).toNatClampNeg).toInt = m_c X τ a 8 := gm_cell (A := 8) m2 rfl
          have g5 : ((q_si (q_si τ a 1 0) a 0 0).1 (q_rf X a 20) (5 : Int32).toNatClampNeg).toInt = m_c X τ a 5 := gm_cell (A := 5) m2 rfl
          have r15 : (F_X5_get X σ (q_rf X (q_rf X (q_rf X C 8) 1) 2) (σ.1 (q_rf X C 8) 5)).toInt = m_S (m_c X τ a) (34 + 10 * m_c X τ a 6) 10 := (y_getI S G8 w (id := 9) (r := q_rf X (q_rf X (q_rf X C 8) 1) 2) ⟨by decide, by decide⟩ rfl f5 hp.1 (by rw [n9]; exact hp.2)).trans (A.1.1.2.2.2.1.2 _ hp.1 hp.2)
          have r21 := gm_cardsOf (X := X) (a := a) m2 M.1.1 g6 hp
          have hh := an_held K A M m2 (x := σ.1 (q_rf X C 8) 5) (y := σ.1 (q_rf X C 8) 4) f5 fk hp ⟨b5.1, by omega⟩
          have hh' := an_held K A M m2 (x := (q_si (q_si τ a 1 0) a 0 0).1 (q_rf X a 20) (6 : Int32).toNatClampNeg) (y := (q_si (q_si τ a 1 0) a 0 0).1 (q_rf X a 20) (5 : Int32).toNatClampNeg) g6 g5 hp ⟨b5.1, by omega⟩
          have heap := lk_heap (X := X) (a := a) m2 M.1.1
          have hb := M.1.1.h80 (p := m_c X τ a 6) (k := m_c X τ a 5) hp.1 hp.2 b5.1 (by omega)
          have ge := m_S_ge (c := m_c X τ a) (b := 34 + 10 * m_c X τ a 6) (A := 34 + 10 * m_c X τ a 6 + m_c X τ a 5) (n := 10) (fun j j0 j1 => M.1.1.hand0 (by omega) (by omega)) (by omega) (by omega)
          have s80 := M.1.1.S80 (p := m_c X τ a 6) (k := 10) hp.1 hp.2 (by decide) (by decide)
          have z10 : m_S (m_c X τ a) (34 + 10 * m_c X τ a 6) (10 : Int).toNat = m_S (m_c X τ a) (34 + 10 * m_c X τ a 6) 10 := rfl
          rw [if_neg q3, if_neg (by omega : ¬ m_c X τ a 6 < 0), q_letE (σ.1 (q_rf X C 8) 5), q_letE (F_X5_get X σ (q_rf X (q_rf X (q_rf X C 8) 1) 2) (σ.1 (q_rf X C 8) 5)), q_letE (σ.1 (q_rf X C 8) 7), f7, q_letE ((q_si (q_si τ a 1 0) a 0 0).1 (q_rf X a 20) (6 : Int32).toNatClampNeg), q_letE (F_X12_cardsOf X (q_si (q_si τ a 1 0) a 0 0) a ((q_si (q_si τ a 1 0) a 0 0).1 (q_rf X a 20) (6 : Int32).toNatClampNeg)), q_letE ((q_si (q_si τ a 1 0) a 0 0).1 (q_rf X a 20) (7 : Int32).toNatClampNeg), g7]
          by_cases q7 : m_c X τ a 7 = 0
          · rw [if_pos q7, if_neg (by omega), q_letE (σ.1 (q_rf X C 8) 6), f6, q_letE ((q_si (q_si τ a 1 0) a 0 0).1 (q_rf X a 20) (8 : Int32).toNatClampNeg), g8]
            by_cases q8 : m_c X τ a 8 = -1
            · rw [if_pos q8, if_pos (by omega : m_c X τ a 8 < 0), r15, r21]
              by_cases qn : m_S (m_c X τ a) (34 + 10 * m_c X τ a 6) 10 = 0
              · rw [if_pos qn, if_pos qn]
                exact ob_none K A M 9
              · rw [if_neg qn, if_neg qn, q_letE (σ.1 (q_rf X C 8) 5), q_letE (σ.1 (q_rf X C 8) 4), q_letE (F_X1_heldBy X σ (q_rf X (q_rf X C 8) 1) (σ.1 (q_rf X C 8) 5) (σ.1 (q_rf X C 8) 4)), q_letE ((q_si (q_si τ a 1 0) a 0 0).1 (q_rf X a 20) (5 : Int32).toNatClampNeg), q_letE (F_X12_handOf X (q_si (q_si τ a 1 0) a 0 0) a ((q_si (q_si τ a 1 0) a 0 0).1 (q_rf X a 20) (6 : Int32).toNatClampNeg) ((q_si (q_si τ a 1 0) a 0 0).1 (q_rf X a 20) (5 : Int32).toNatClampNeg)), q_letE (F_X12_heapMany X (q_si (q_si τ a 1 0) a 0 0) a)]
                exact be_out K A M v5 hp r21 r15 (by omega) hh'.2 hh.1 ⟨hb.1, ge⟩ heap (rfl : v1.toInt = v1.toInt) q _ (-1) (-1) (-1) (-1) 0 0 0 (Nat.lt_succ_self _) (by decide) (by decide) (Or.inl ⟨rfl, rfl, rfl, rfl⟩) (fun _ => Or.inl rfl)
            · rw [if_neg q8, if_neg (by omega : ¬ m_c X τ a 8 < 0)]
              exact ob_none K A M 9
          · rw [if_neg q7, if_pos (by omega)]
            exact ob_none K A M 9
  · rw [if_neg q, if_pos rfl, if_pos rfl]
    exact ob_none K A M 5
end QK
