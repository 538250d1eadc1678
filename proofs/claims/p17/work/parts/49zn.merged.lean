/-! FROM 49zn.first.lean.txt -/
/-! A ROUND PLAYED: who doubts first, in both -/
theorem pl_add1 {p x m : Int} (hm : 0 < m) (hp : 0 ≤ p ∧ p < m) (hx : 0 ≤ x) : ((p + x) % m + 1) % m = (p + (x + 1)) % m := by
  rw [Int.emod_add_emod]
  congr 1
  omega
theorem pl_round {p x m : Int} (hp : 0 ≤ p ∧ p < m) (hx : 1 ≤ x ∧ x ≤ m) : ((p + x) % m = p ↔ x = m) ∧ (0 ≤ (p + x) % m ∧ (p + x) % m < m) := by
  have e : (p + x) % m = if p + x < m then p + x else p + x - m := by
    split
    · exact Int.emod_eq_of_lt (by omega) (by omega)
    · have z := Int.sub_emod_right (p + x) m
      rw [← z]
      exact Int.emod_eq_of_lt (by omega) (by omega)
  rw [e]
  split <;> exact ⟨⟨fun z => by omega, fun z => by omega⟩, by omega, by omega⟩
section PC
variable {X : XW} {lb : Nat → Nat} {g o a R : Nat} {σ σ' τ τ' σ0 τ0 : ST} {V V' : Nat → Int → Int} {c : Int → Int}
/-- impossible for one, in both -/
theorem pl_imp (Y : y_S X lb) (G : y_G X lb g o) (hV : y_v X g σ = V) (Rg : rg V c) (hG : m_G c) (hc : m_c X τ a = c) (h9 : 1 ≤ c 9) {v v' : Int32} {q : Int} (hv : v.toInt = q) (hv' : v'.toInt = q) (hq : 0 ≤ q ∧ q < c 2) : (F_X0_isImpossibleFor X σ g v).toInt = (F_X12_isImpossible X τ a v').toInt ∧ ((F_X12_isImpossible X τ a v').toInt = 0 ∨ (F_X12_isImpossible X τ a v').toInt = 1) := by
  obtain ⟨b0, b2, b4, b5, b6, b7, b9, b79⟩ := hG.1
  have w := pl_W (lb := lb) (o := o) hV
  have one : (1 : Int32).toInt = 1 := rfl
  have e2 : (2 : Int32).toInt = 2 := rfl
  have n4 : ((y_gn 4 : Nat) : Int) = 10 := rfl
  have n16 : ((y_gn 16 : Nat) : Int) = 80 := rfl
  have ub := hG.U_bd (p := q) (k := c 5) hq.1 hq.2 b5.1 (by omega)
  have ib := hG.I_bd (k := c 5) b5.1 (by omega)
  have f4 : (σ.1 g 4).toInt = c 5 := (w.rd (id := 0) (by decide) 4 rfl).trans Rg.2.1.1
  have f0 : (σ.1 (q_rf X g 2) 0).toInt = c 9 := (w.rd (id := 2) (by decide) 0 rfl).trans Rg.2.2.2.2.1.1
  have g5 : (τ.1 (q_rf X a 20) (5 : Int32).toNatClampNeg).toInt = c 5 := gm_cell (A := 5) hc rfl
  have g9 : (τ.1 (q_rf X a 20) (9 : Int32).toNatClampNeg).toInt = c 9 := gm_cell (A := 9) hc rfl
  have kn1 := (rg.know (X := X) (τ := τ) Y G w Rg hG hc (v1 := v) (v2 := σ.1 g 4) hv f4 hq ⟨b5.1, by omega⟩).1
  have kn2 := (rg.know (X := X) (τ := τ) Y G w Rg hG hc (v1 := v') (v2 := τ.1 (q_rf X a 20) (5 : Int32).toNatClampNeg) hv' g5 hq ⟨b5.1, by omega⟩).2.2.2
  have top := (Rg.2.2.2.2.1.2.2 (c 9 - 1) (by omega) (by omega)).2.2.1
  have ts : (F_X2_topSize X σ (q_rf X g 2)).toInt = c (94 + 7 * (c 9 - 1) + 2) := by
    unfold F_X2_topSize
    rw [q_letE (σ.1 (q_rf X g 2) 0), q_letE (σ.1 (q_rf X g 2) 0 - 1), q_letE, y_getI Y G w (id := 16) (r := q_rf X (q_rf X g 2) 4) ⟨by decide, by decide⟩ rfl (i := c 9 - 1) (by rw [ar_sub, f0, one, ar_wr (by omega) (by omega)]) (by omega) (by rw [n16]; omega)]
    exact top
  have de : (F_X5_get X σ (q_rf X (q_rf X g 0) 5) (σ.1 g 4)).toInt = m_I c (c 5) := (y_getI Y G w (id := 4) (r := q_rf X (q_rf X g 0) 5) ⟨by decide, by decide⟩ rfl f4 b5.1 (by rw [n4]; omega)).trans (Rg.2.2.2.2.2.2 _ b5.1 (by omega))
  have ud : m_U c q (c 5) = m_I c (c 5) - (c (34 + 10 * q + c 5) + m_A c q (c 5) (c 9).toNat) := rfl
  have df : (F_X5_get X σ (q_rf X (q_rf X g 0) 5) (σ.1 g 4) - F_X1_knownTo X σ (q_rf X g 1) v (σ.1 g 4)).toInt = m_U c q (c 5) := by
    rw [ar_sub, de, kn1, ← ud, ar_wr (by omega) (by omega)]
  have cls : (F_X0_isImpossibleFor X σ g v).toInt = if m_U c q (c 5) < c (94 + 7 * (c 9 - 1) + 2) then 1 else 0 := by
    unfold F_X0_isImpossibleFor
    rw [q_letE (σ.1 g 4), q_letE (F_X5_get X σ (q_rf X (q_rf X g 0) 5) (σ.1 g 4)), q_letE (σ.1 g 4), q_letE (F_X1_knownTo X σ (q_rf X g 1) v (σ.1 g 4)), q_letE (F_X5_get X σ (q_rf X (q_rf X g 0) 5) (σ.1 g 4) - F_X1_knownTo X σ (q_rf X g 1) v (σ.1 g 4)), q_letE (F_X2_topSize X σ (q_rf X g 2)), df, ts]
    split <;> rfl
  have ref : (F_X12_isImpossible X τ a v').toInt = if m_U c q (c 5) < c (94 + 7 * (c 9 - 1) + 2) then 1 else 0 := by
    have l1 : (τ.1 (q_rf X a 20) (9 : Int32).toNatClampNeg - 1).toInt = c 9 - 1 := by rw [ar_sub, g9, one, ar_wr (by omega) (by omega)]
    have l2 := gm_laid (X := X) (τ := τ) l1 ⟨by omega, by omega⟩
    have l3 : (τ.1 (q_rf X a 20) (F_X12_laid X τ (τ.1 (q_rf X a 20) (9 : Int32).toNatClampNeg - 1) + 2).toNatClampNeg).toInt = c (94 + 7 * (c 9 - 1) + 2) := gm_cell hc (by rw [ar_add, l2, e2, ar_wr (by omega) (by omega)])
    unfold F_X12_isImpossible
    rw [q_letE (τ.1 (q_rf X a 20) (5 : Int32).toNatClampNeg), q_letE (F_X12_unknownOf X τ a v' (τ.1 (q_rf X a 20) (5 : Int32).toNatClampNeg)), q_letE (τ.1 (q_rf X a 20) (9 : Int32).toNatClampNeg), q_letE (τ.1 (q_rf X a 20) (9 : Int32).toNatClampNeg - 1), q_letE (F_X12_laid X τ (τ.1 (q_rf X a 20) (9 : Int32).toNatClampNeg - 1)), q_letE (F_X12_laid X τ (τ.1 (q_rf X a 20) (9 : Int32).toNatClampNeg - 1) + 2), q_letE, kn2, l3]
    split <;> rfl
  rw [cls, ref]
  refine ⟨rfl, ?_⟩
  split
  · exact Or.inr rfl
  · exact Or.inl rfl
theorem pl_after (Y : y_S X lb) (G : y_G X lb g o) (hV : y_v X g σ = V) (Rg : rg V c) (hG : m_G c) (h2 : 1 ≤ c 2) {x y : Int32} {p k : Int} (hx : x.toInt = p) (hy : y.toInt = k) (hp : 0 ≤ p ∧ p < c 2) (hk : 0 ≤ k ∧ k ≤ 400) : (F_X6_playerAfter X σ (q_rf X g 0) x y).toInt = (p + k) % c 2 := by
  have b2 := hG.1.2.1
  have w := pl_W (lb := lb) (o := o) hV
  have e4 : (σ.1 (q_rf X g 0) 4).toInt = c 2 := (w.rd (id := 1) (by decide) 4 rfl).trans Rg.1.2.2.2.2.1
  unfold F_X6_playerAfter
  rw [q_letE (σ.1 (q_rf X g 0) 4), e4, if_pos (by omega), q_letE, q_letE, q_letE]
  exact gm_fm (by rw [ar_add, hx, hy, ar_wr (by omega) (by omega)]) e4 ⟨by omega, by omega⟩ ⟨by omega, by omega⟩
/-- how far the reference has to go yet -/
def pl_mq (p q : Int) : Nat := (p - q + 20 * min 1 (max 0 (q - p))).toNat
theorem pl_mqE (p q : Int) : pl_mq p q = (if p < q then p - q + 20 else p - q).toNat := by
  unfold pl_mq
  split
  · congr 1; omega
  · congr 1; omega
theorem pl_mqS {p q m : Int} (hp : 0 ≤ p ∧ p < m) (hq : 0 ≤ q ∧ q < m) (hm : m ≤ 6) (h : q ≠ p) : pl_mq p ((q + 1) % m) < pl_mq p q := by
  have e : (q + 1) % m = if q + 1 < m then q + 1 else 0 := by
    split
    · exact Int.emod_eq_of_lt (by omega) (by omega)
    · have e1 : q + 1 = m := by omega
      rw [e1]
      exact Int.emod_self
  rw [e, pl_mqE, pl_mqE]
  split <;> split <;> split <;> omega
/-- what is the same behind the draws -/
def pl_drawn (X : XW) (a R : Nat) (σ σ' τ τ' : ST) : Prop := tkl (fun b f => b = R ∧ f = 6) (fun _ _ => False) σ σ' ∧ tkl (fun b f => b = a ∧ f = 39) (fun _ _ => False) τ τ' ∧ σ'.1 R 6 = τ'.1 a 39
theorem pl_firstL (Y : y_S X lb) (G : y_G X lb g o) (ha : q_kd X a = 12) (hR : lb R / 8192 ≠ o) (Rg : rg V c) (hG : m_G c) (h9 : 1 ≤ c 9) (h2 : 2 ≤ c 2) {v1 : Int32} (hv : v1.toInt = c 6) (fu : Nat) : ∀ (fv : Nat) (x q : Int32) (σ τ : ST), (2147483647 - x.toInt).toNat < fu → pl_mq (c 6) q.toInt < fv → 1 ≤ x.toInt → x.toInt ≤ c 2 → q.toInt = (c 6 + x.toInt) % c 2 → y_v X g σ = V → m_c X τ a = c → σ.1 R 6 = τ.1 a 39 →
    ∃ (z : Int32) (σ' τ' : ST), F_X7_firstDoubter_L2_1 X g R fu x σ = (z, σ') ∧ pl_drawn X a R σ σ' τ τ' ∧
      ((z.toInt = -1 ∧ F_X12_turns_L189_5 X v1 a fv q τ = F_X12_turns_E271_6 X τ' a) ∨ ((0 ≤ z.toInt ∧ z.toInt < c 2) ∧ z.toInt ≠ c 6 ∧ ∃ z' : Int32, z'.toInt = z.toInt ∧ F_X12_turns_L189_5 X v1 a fv q τ = F_X12_turns_E224_7 X τ' a z' v1)) := by
  obtain ⟨b0, b2, b4, b5, b6, b7, b9, b79⟩ := id hG.1
  obtain ⟨n80, n8a, n0a⟩ := pl_k28 Y.1 ha
  have hp : 0 ≤ c 6 ∧ c 6 < c 2 := by omega
  have n11 : ((y_gn 11 : Nat) : Int) = 6 := rfl
  have e16 : (16 : Int32).toInt = 16 := rfl
  have v5 : V 0 5 = c 6 := by
    have z := Rg.2.1.2.1
    rw [if_neg (by omega)] at z
    exact z
  induction fu with
  | zero => intro fv x q σ τ h; exact absurd h (Nat.not_lt_zero _)
  | succ fu ih =>
    intro fv x q σ τ hf hfv x1 x2 hq hV hc hd
    obtain ⟨fv', efv⟩ : ∃ k, fv = k + 1 := ⟨fv - 1, by omega⟩
    subst efv
    have w := pl_W (lb := lb) (o := o) hV
    have pr := pl_round (x := x.toInt) hp ⟨x1, x2⟩
    rw [← hq] at pr
    have f4 : (σ.1 (q_rf X g 0) 4).toInt = c 2 := (w.rd (id := 1) (by decide) 4 rfl).trans Rg.1.2.2.2.2.1
    have f5 : (σ.1 g 5).toInt = c 6 := (w.rd (id := 0) (by decide) 5 rfl).trans v5
    rw [F_X7_firstDoubter_L2_1_s, F_X12_turns_L189_5_s]
    unfold F_X7_firstDoubter_B2_1 F_X12_turns_B189_5
    rw [q_letE (σ.1 (q_rf X g 0) 4), f4, hv]
    by_cases qe : x.toInt = c 2
    · rw [if_neg (by omega : ¬ x.toInt < c 2), if_pos (pr.1.mpr qe)]
      exact ⟨-1, σ, τ, rfl, ⟨tkl.rf, tkl.rf, hd⟩, Or.inl ⟨rfl, rfl⟩⟩
    · have xl : x.toInt < c 2 := by omega
      have qn : q.toInt ≠ c 6 := fun e => qe (pr.1.mp e)
      have pa : (F_X6_playerAfter X σ (q_rf X g 0) (σ.1 g 5) x).toInt = q.toInt := (pl_after Y G hV Rg hG (by omega) f5 rfl hp ⟨by omega, by omega⟩).trans hq.symm
      rw [if_pos xl, if_neg qn, q_letE (σ.1 g 5), q_letE (F_X6_playerAfter X σ (q_rf X g 0) (σ.1 g 5) x)]
      obtain ⟨y, ey⟩ : ∃ y, y = F_X6_playerAfter X σ (q_rf X g 0) (σ.1 g 5) x := ⟨_, rfl⟩
      rw [← ey] at pa ⊢
      obtain ⟨im, im01⟩ := pl_imp (X := X) (τ := τ) (a := a) Y G hV Rg hG hc h9 pa (rfl : q.toInt = q.toInt) pr.2
      rw [q_letE (F_X0_isImpossibleFor X σ g y), im, q_letE (F_X12_isImpossible X τ a q)]
      by_cases qi : (F_X12_isImpossible X τ a q).toInt = 0
      · obtain ⟨d, s, d1, d2⟩ := pl_draw (X := X) (a := a) (R := R) hd
        have vs : y_v X g (q_si σ R 6 s) = V := (pl_vR Y G hR 6 s).trans hV
        have ms : m_c X (q_si τ a 39 s) a = c := (mv_cell Y.1 ha 39 s).trans hc
        have f14 : (F_X5_get X (q_si σ R 6 s) (q_rf X (q_rf X g 1) 4) y).toInt = c (16 + q.toInt) := by
          rw [y_getI Y G (pl_W (lb := lb) (o := o) vs) (id := 11) (r := q_rf X (q_rf X g 1) 4) ⟨by decide, by decide⟩ rfl pa pr.2.1 (by rw [n11]; omega)]
          exact (Rg.2.2.1 q.toInt pr.2.1 (by omega)).2.1
        have g58 : ((q_si τ a 39 s).1 (q_rf X a 20) ((16 : Int32) + q).toNatClampNeg).toInt = c (16 + q.toInt) := gm_cell (A := 16 + q.toInt) ms (by rw [ar_add, e16, ar_wr (by omega) (by omega)])
        have t1 : tkl (fun b f => b = R ∧ f = 6) (fun _ _ => False) σ (q_si σ R 6 s) := tkl.rf.si _ ⟨rfl, rfl⟩
        have t2 : tkl (fun b f => b = a ∧ f = 39) (fun _ _ => False) τ (q_si τ a 39 s) := tkl.rf.si _ ⟨rfl, rfl⟩
        have hd' : (q_si σ R 6 s).1 R 6 = (q_si τ a 39 s).1 a 39 := by rw [si_eq, si_eq]
        rw [if_pos qi, if_pos qi, d1, q_biP d (q_si σ R 6 s), d2, q_biP d (q_si τ a 39 s)]
        obtain ⟨σs, es⟩ : ∃ t, t = q_si σ R 6 s := ⟨_, rfl⟩
        obtain ⟨τs, us⟩ : ∃ t, t = q_si τ a 39 s := ⟨_, rfl⟩
        rw [← es] at vs f14 t1 hd' ⊢
        rw [← us] at ms g58 t2 hd' ⊢
        rw [q_letE (F_X5_get X σs (q_rf X (q_rf X g 1) 4) y), f14, q_letE ((16 : Int32) + q), q_letE (τs.1 (q_rf X a 20) ((16 : Int32) + q).toNatClampNeg), g58]
        by_cases qd : d.toInt < c (16 + q.toInt)
        · rw [if_pos qd, if_pos qd]
          exact ⟨y, σs, τs, rfl, ⟨t1, t2, hd'⟩, Or.inr ⟨by rw [pa]; exact pr.2, by rw [pa]; exact qn, q, pa.symm, rfl⟩⟩
        · have x1' : (x + 1).toInt = x.toInt + 1 := y_inc (by omega)
          have bq := gm_behindOf (X := X) ms b2 (rfl : q.toInt = q.toInt) pr.2
          rw [if_neg qd, if_neg qd, q_letE (x + 1), q_letE (F_X12_behindOf X τs a q)]
          obtain ⟨z, σ', τ', i1, ⟨i2, i3, i4⟩, i5⟩ := ih fv' (x + 1) (F_X12_behindOf X τs a q) σs τs (by omega) (by
            rw [bq]
            have := pl_mqS hp pr.2 b2.2 qn
            omega) (by omega) (by omega) (by rw [bq, hq, x1']; exact pl_add1 (by omega) hp (by omega)) vs ms hd'
          exact ⟨z, σ', τ', i1, ⟨t1.tr i2, t2.tr i3, i4⟩, i5⟩
      · rw [if_neg qi, if_neg qi]
        exact ⟨y, σ, τ, rfl, ⟨tkl.rf, tkl.rf, hd⟩, Or.inr ⟨by rw [pa]; exact pr.2, by rw [pa]; exact qn, q, pa.symm, rfl⟩⟩
end PC
