/-! THE TWO READERS, STEP BY STEP -/
/-- the reader's cells: token, fault, place -/
def tc_S2 (R : Nat) : Nat → Nat → Prop := fun b f => b = R ∧ 2 ≤ f ∧ f ≤ 7
def tn_S2 (a : Nat) : Nat → Nat → Prop := fun b f => b = a ∧ 12 ≤ f ∧ f ≤ 18
/-- both stand at the same token -/
def tl_K (σ : ST) (R : Nat) (τ : ST) (a : Nat) (B : Int → Int) (n : Int) : Prop :=
  (σ.1 R 2).toInt = (τ.1 a 15).toInt ∧ (σ.1 R 3).toInt = (τ.1 a 16).toInt ∧ (σ.1 R 4).toInt = (τ.1 a 14).toInt ∧ ((τ.1 a 14).toInt = 2 → (σ.1 R 5).toInt = (τ.1 a 17).toInt) ∧
  tx_cls B n (τ.1 a 15).toInt (τ.1 a 16).toInt (τ.1 a 14).toInt (τ.1 a 17).toInt ∧ tm_ext B (τ.1 a 15).toInt (τ.1 a 16).toInt (τ.1 a 14).toInt (τ.1 a 17).toInt (τ.1 a 18).toInt (τ.2.1 a 19).toInt ∧ 0 ≤ (τ.1 a 15).toInt ∧ (τ.1 a 15).toInt ≤ n ∧ (σ.1 R 6).toInt = 0 ∧ (σ.1 R 7).toInt = -1
/-- both have the same fault -/
def tl_F (σ : ST) (R : Nat) (τ : ST) (a : Nat) : Prop := (σ.1 R 6).toInt = (τ.1 a 12).toInt ∧ 0 < (τ.1 a 12).toInt ∧ (σ.1 R 7).toInt = (τ.1 a 13).toInt
theorem tx_cls_b {B : Int → Int} {n b e ty val : Int} (h : tx_cls B n b e ty val) (hb : b ≤ n) : b ≤ e ∧ e ≤ n ∧ 0 ≤ ty ∧ ty ≤ 4 ∧ (ty ≠ 0 → b < e) ∧ (ty = 0 ↔ b = n) := by
  rcases h with ⟨q1, q2, q3⟩ | ⟨q1, q2, q3, q4⟩ | ⟨q1, q2, q3, q4⟩ | ⟨q1, q2, q3, q4, q5⟩
  · omega
  · have b1 := tx_run_le q4 (by omega)
    have b2 := tx_run_ne q4 ⟨q1, q2⟩
    omega
  · have b1 := tx_run_le q3 (by omega)
    have b2 := tx_run_ne q3 ⟨q1, q2⟩
    omega
  · omega
section TL
variable {X : XW} {σ τ : ST} {R T a : Nat} {n : Int} {B : Int → Int}
theorem tc_E.k2 {σ' : ST} (E : tc_E X σ R T n B) (h : tk (tc_S2 R) σ σ') : tc_E X σ' R T n B := E.k h (fun b f q => ⟨fun e => E.2.2.2.1 (e.symm.trans q.1), fun e => absurd q.2.1 (by rw [e.2]; decide)⟩)
theorem tm_E.k2 {τ' : ST} (E : tm_E X τ a n B) (h : tkl (tn_S2 a) (tn_L a) τ τ') : tm_E X τ' a n B := E.k h (fun b f q => ⟨fun e => E.2.2.1 (e.symm.trans q.1), fun e => absurd q.2.1 (by rw [e.2]; decide)⟩)
theorem tc_S_S2 {R : Nat} : ∀ b f, tc_S R b f → tc_S2 R b f := fun _ _ h => ⟨h.1, h.2.1, by have := h.2.2; omega⟩
theorem tn_S_S2 {a : Nat} : ∀ b f, tn_S a b f → tn_S2 a b f := fun _ _ h => ⟨h.1, by have := h.2.1; omega, h.2.2⟩
/-- where both ends are the same, both go on to the same token -/
theorem tl_adv (E : tc_E X σ R T n B) (M : tm_E X τ a n B) {p : Int} (hc : (σ.1 R 3).toInt = p) (hm : (τ.1 a 16).toInt = p) (h0 : 0 ≤ p ∧ p ≤ n) (h6 : (σ.1 R 6).toInt = 0) (h7 : (σ.1 R 7).toInt = -1) :
    tk (tc_S R) σ (F_X3_advance X σ R) ∧ tkl (tn_S a) (tn_L a) τ (F_X12_next X τ a) ∧ tl_K (F_X3_advance X σ R) R (F_X12_next X τ a) a B n ∧ p ≤ ((F_X12_next X τ a).1 a 15).toInt := by
  obtain ⟨c1, c2⟩ := tc_adv E hc h0
  obtain ⟨m1, m2, m3⟩ := tm_next M hm h0
  obtain ⟨u1, u2, u3, u4⟩ := tx_tok_u m2 c2
  have bb := tx_tok_b m2 h0
  have c6 : ((F_X3_advance X σ R).1 R 6).toInt = 0 := by rw [c1.1 R 6 (fun q => absurd q.2.2 (by decide))]; exact h6
  have c7 : ((F_X3_advance X σ R).1 R 7).toInt = -1 := by rw [c1.1 R 7 (fun q => absurd q.2.2 (by decide))]; exact h7
  exact ⟨c1, m1, ⟨u1, u2, u3, fun h => u4 h, m2.2, m3, by omega, by omega, c6, c7⟩, bb.1⟩
theorem tl_K.b (K : tl_K σ R τ a B n) : (τ.1 a 15).toInt ≤ (τ.1 a 16).toInt ∧ (τ.1 a 16).toInt ≤ n ∧ 0 ≤ (τ.1 a 14).toInt ∧ (τ.1 a 14).toInt ≤ 4 ∧ ((τ.1 a 14).toInt ≠ 0 → (τ.1 a 15).toInt < (τ.1 a 16).toInt) ∧ ((τ.1 a 14).toInt = 0 ↔ (τ.1 a 15).toInt = n) := by
  obtain ⟨k1, k2, k3, k4, k5, k6, k7, k8⟩ := K
  exact tx_cls_b k5 k8.1
theorem tl_adv2 (E : tc_E X σ R T n B) (M : tm_E X τ a n B) (K : tl_K σ R τ a B n) : tk (tc_S R) σ (F_X3_advance X σ R) ∧ tkl (tn_S a) (tn_L a) τ (F_X12_next X τ a) ∧ tl_K (F_X3_advance X σ R) R (F_X12_next X τ a) a B n ∧ (τ.1 a 16).toInt ≤ ((F_X12_next X τ a).1 a 15).toInt := by
  have b := K.b
  have k7 := K.2.2.2.2.2.2
  exact tl_adv E M K.2.1 rfl ⟨by omega, by omega⟩ k7.2.2.1 k7.2.2.2
theorem tl_le (K : tl_K σ R τ a B n) (h : (τ.1 a 14).toInt = 1) : (∀ j, (τ.1 a 15).toInt ≤ j → j < (τ.1 a 16).toInt → tx_le (B j)) := by
  rcases K.2.2.2.2.1 with ⟨q1, q2, q3⟩ | ⟨q1, q2, q3, q4⟩ | ⟨q1, q2, q3, q4⟩ | ⟨q1, q2, q3, q4, q5⟩
  · omega
  · exact fun j a c => (q4.2.1 j a c).2
  · rcases q4 with ⟨_, z⟩ | ⟨_, z, _⟩ <;> omega
  · rcases q5 with ⟨_, z⟩ | ⟨_, z⟩ <;> omega
/-- a word of the text -/
theorem tl_isWord (E : tc_E X σ R T n B) (K : tl_K σ R τ a B n) {r : Nat} (hr : y_isw r) : (F_X3_isWord X σ R r).toInt = if (τ.1 a 14).toInt = 1 ∧ (τ.2.1 a 19).toInt = y_cw r then 1 else 0 := by
  have b := K.b
  obtain ⟨k1, k2, k3, k4, k5, k6, k7, k8⟩ := id K
  obtain ⟨w1, w2⟩ := tc_isWord E k1 k2 k7 b.1 b.2.1 hr.1
  rw [k3] at w2
  by_cases q : (τ.1 a 14).toInt = 1
  · have x := k6.2 q
    have y := y_wd_iff hr b.1 (tl_le K q) x.2.1 x.2.2
    by_cases q2 : (τ.2.1 a 19).toInt = y_cw r
    · rw [if_pos ⟨q, q2⟩]
      exact w2.mpr ⟨q, y.mpr q2⟩
    · rw [if_neg (fun h => q2 h.2)]
      rcases w1 with w1 | w1
      · exact absurd (y.mp (w2.mp w1).2) q2
      · exact w1
  · rw [if_neg (fun h => q h.1)]
    rcases w1 with w1 | w1
    · exact absurd (w2.mp w1).1 q
    · exact w1
/-- the class's fault -/
theorem tc_fails (k : Int32) : ∃ σ' : ST, F_X3_fails X σ R k = (0, σ') ∧ tk (tc_S2 R) σ σ' ∧ (σ'.1 R 6).toInt = (if (σ.1 R 4).toInt = 4 then 1 else k.toInt) ∧ σ'.1 R 7 = σ.1 R 2 := by
  simp only [F_X3_fails, ↓q_letE]
  by_cases q : (σ.1 R 4).toInt = 4
  · rw [if_pos q, if_pos q]
    exact ⟨_, rfl, (tk.rf.si _ ⟨rfl, by decide, by decide⟩).si _ ⟨rfl, by decide, by decide⟩, by rw [si_f (by decide), si_eq]; rfl, by rw [si_eq, si_f (by decide)]⟩
  · rw [if_neg q, if_neg q]
    exact ⟨_, rfl, (tk.rf.si _ ⟨rfl, by decide, by decide⟩).si _ ⟨rfl, by decide, by decide⟩, by rw [si_f (by decide), si_eq], by rw [si_eq, si_f (by decide)]⟩
/-- the reference's fault -/
theorem tm_fail (h : (τ.1 a 12).toInt = 0) (k w : Int32) : tkl (tn_S2 a) (tn_L a) τ (F_X12_fail X τ a k w) ∧ ((F_X12_fail X τ a k w).1 a 12).toInt = k.toInt ∧ ((F_X12_fail X τ a k w).1 a 13).toInt = w.toInt := by
  simp only [F_X12_fail, ↓q_letE]
  rw [if_neg (by omega)]
  exact ⟨(tkl.rf.si _ ⟨rfl, by decide, by decide⟩).si _ ⟨rfl, by decide, by decide⟩, by rw [si_f (by decide), si_eq], by rw [si_eq]⟩
theorem tm_wrong (h : (τ.1 a 12).toInt = 0) : tkl (tn_S2 a) (tn_L a) τ (F_X12_wrong X τ a) ∧ ((F_X12_wrong X τ a).1 a 12).toInt = (if (τ.1 a 14).toInt = 4 then 1 else 2) ∧ ((F_X12_wrong X τ a).1 a 13).toInt = (τ.1 a 15).toInt := by
  simp only [F_X12_wrong, ↓q_letE]
  by_cases q : (τ.1 a 14).toInt = 4
  · rw [if_pos q, if_pos q]
    exact tm_fail h 1 _
  · rw [if_neg q, if_neg q]
    exact tm_fail h 2 _
theorem tm_must2 (h : 0 < (τ.1 a 12).toInt) (v : Int32) : F_X12_must X τ a v = τ := by
  simp only [F_X12_must, ↓q_letE]
  rw [if_pos h]
theorem tm_count2 (h : 0 < (τ.1 a 12).toInt) (v w : Int32) : F_X12_count X τ a v w = (0, τ) := by
  simp only [F_X12_count, F_X12_count_J19_1, ↓q_letE]
  have h0 : ¬ (τ.1 a 12).toInt = 0 := by omega
  rw [if_neg h0, if_neg h0, if_pos h]
/-- both fail at the same token -/
theorem tl_wrong (K : tl_K σ R τ a B n) (h : (τ.1 a 12).toInt = 0) : ∃ σ' : ST, F_X3_fails X σ R 2 = (0, σ') ∧ tk (tc_S2 R) σ σ' ∧ tkl (tn_S2 a) (tn_L a) τ (F_X12_wrong X τ a) ∧ tl_F σ' R (F_X12_wrong X τ a) a := by
  obtain ⟨k1, k2, k3, -⟩ := id K
  obtain ⟨σ', a1, a2, a3, a4⟩ := tc_fails (X := X) (σ := σ) (R := R) 2
  obtain ⟨m1, m2, m3⟩ := tm_wrong (X := X) h
  have e2 : (2 : Int32).toInt = 2 := rfl
  refine ⟨σ', a1, a2, m1, ?_, ?_, ?_⟩
  · rw [a3, m2, k3, e2]
  · rw [m2]; split <;> decide
  · rw [a4, m3, k1]
/-- both fail with a fault of their own, at a token that is one -/
theorem tl_fail (K : tl_K σ R τ a B n) (h : (τ.1 a 12).toInt = 0) (h4 : (τ.1 a 14).toInt ≠ 4) {k : Int32} (hk : 0 < k.toInt) {w : Int32} (hw : w.toInt = (τ.1 a 15).toInt) : ∃ σ' : ST, F_X3_fails X σ R k = (0, σ') ∧ tk (tc_S2 R) σ σ' ∧ tkl (tn_S2 a) (tn_L a) τ (F_X12_fail X τ a k w) ∧ tl_F σ' R (F_X12_fail X τ a k w) a := by
  obtain ⟨k1, k2, k3, -⟩ := id K
  obtain ⟨σ', a1, a2, a3, a4⟩ := tc_fails (X := X) (σ := σ) (R := R) k
  obtain ⟨m1, m2, m3⟩ := tm_fail (X := X) h k w
  refine ⟨σ', a1, a2, m1, ?_, ?_, ?_⟩
  · rw [a3, m2, k3, if_neg h4]
  · rw [m2]; exact hk
  · rw [a4, m3, k1, hw]
/-- what comes of a step: both went on, or both failed -/
def tl_O (X : XW) (σ : ST) (R : Nat) (τ : ST) (a : Nat) (B : Int → Int) (n : Int) (ok : Prop) (σ' τ' : ST) : Prop :=
  tk (tc_S2 R) σ σ' ∧ tkl (tn_S2 a) (tn_L a) τ τ' ∧ (ok ∧ tl_K σ' R τ' a B n ∧ (τ'.1 a 12).toInt = 0 ∧ (τ.1 a 16).toInt ≤ (τ'.1 a 15).toInt ∨ ¬ ok ∧ tl_F σ' R τ' a)
theorem tk.S2 {σ σ' : ST} {R : Nat} (h : tk (tc_S R) σ σ') : tk (tc_S2 R) σ σ' := h.mono tc_S_S2
theorem tkl.S2 {τ τ' : ST} {a : Nat} (h : tkl (tn_S a) (tn_L a) τ τ') : tkl (tn_S2 a) (tn_L a) τ τ' := h.mono tn_S_S2 (fun _ _ h => h)
theorem tn_12 {τ τ' : ST} (h : tkl (tn_S a) (tn_L a) τ τ') : τ'.1 a 12 = τ.1 a 12 := h.1 a 12 (fun q => absurd q.2.1 (by decide))
/-- a word that must stand there -/
theorem tl_passWord (E : tc_E X σ R T n B) (M : tm_E X τ a n B) (K : tl_K σ R τ a B n) (h : (τ.1 a 12).toInt = 0) {r : Nat} (hr : y_isw r) {v : Int32} (hv : v.toInt = if (τ.1 a 14).toInt = 1 ∧ (τ.2.1 a 19).toInt = y_cw r then 1 else 0) :
    ∃ (z : Int32) (σ' : ST), F_X3_passWord X σ R r = (z, σ') ∧ (z.toInt = 0 ∨ z.toInt = 1) ∧ tl_O X σ R τ a B n (z.toInt = 1) σ' (F_X12_must X τ a v) := by
  have w := tl_isWord E K hr
  simp only [F_X3_passWord, F_X12_must, ↓q_letE, ↓q_biE]
  rw [w, hv, h, if_neg (by decide : ¬ (0 : Int) < 0)]
  by_cases q : (τ.1 a 14).toInt = 1 ∧ (τ.2.1 a 19).toInt = y_cw r
  · rw [if_pos q, if_neg (by decide), if_neg (by decide)]
    obtain ⟨c1, c2, c3, c4⟩ := tl_adv2 E M K
    exact ⟨1, _, rfl, Or.inr rfl, c1.S2, c2.S2, Or.inl ⟨rfl, c3, by rw [tn_12 c2]; exact h, c4⟩⟩
  · rw [if_neg q, if_pos rfl, if_pos rfl]
    obtain ⟨σ', a1, a2, a3, a4⟩ := tl_wrong (X := X) K h
    rw [a1]
    exact ⟨0, σ', rfl, Or.inl rfl, a2, a3, Or.inr ⟨by decide, a4⟩⟩
/-- a semicolon that must stand there -/
theorem tl_passSemi (E : tc_E X σ R T n B) (M : tm_E X τ a n B) (K : tl_K σ R τ a B n) (h : (τ.1 a 12).toInt = 0) :
    ∃ (z : Int32) (σ' : ST), F_X3_passSemicolon X σ R = (z, σ') ∧ (z.toInt = 0 ∨ z.toInt = 1) ∧ tl_O X σ R τ a B n (z.toInt = 1) σ' (F_X12_must X τ a (F_X12_isSign X τ a 59)) := by
  have b := K.b
  obtain ⟨k1, k2, k3, k4, k5, k6, k7, k8⟩ := id K
  have e59 : (59 : Int32).toInt = 59 := rfl
  have E3 := E.2.2.1
  simp only [F_X3_passSemicolon, F_X12_must, F_X12_isSign, ↓q_letE, ↓q_biE]
  rw [k3, h, if_neg (by decide : ¬ (0 : Int) < 0), e59]
  obtain ⟨σ', a1, a2, a3, a4⟩ := tl_wrong (X := X) K h
  by_cases q : (τ.1 a 14).toInt = 3
  · rw [if_pos q, if_pos q]
    have sg := tc_sig E k1 ⟨k7, by omega⟩ (v := 0) (i := 0) rfl ⟨by decide, by decide⟩
    rw [Int.add_zero, tx_D_in k7 (by omega)] at sg
    rw [sg, k6.1 q]
    by_cases q2 : B (τ.1 a 15).toInt = 59
    · rw [if_pos q2, if_pos q2, if_neg (by decide)]
      obtain ⟨c1, c2, c3, c4⟩ := tl_adv2 E M K
      exact ⟨1, _, rfl, Or.inr rfl, c1.S2, c2.S2, Or.inl ⟨rfl, c3, by rw [tn_12 c2]; exact h, c4⟩⟩
    · rw [if_neg q2, if_neg q2, if_pos (by decide), a1]
      exact ⟨0, σ', rfl, Or.inl rfl, a2, a3, Or.inr ⟨by decide, a4⟩⟩
  · rw [if_neg q, if_neg q, if_pos (by decide), a1]
    exact ⟨0, σ', rfl, Or.inl rfl, a2, a3, Or.inr ⟨by decide, a4⟩⟩
/-- a number that must stand there -/
theorem tm_isIn (x y z : Int64) : (F_X12_isIn X τ x y z).toInt = if y.toInt ≤ x.toInt ∧ x.toInt ≤ z.toInt then 1 else 0 := by
  have h1 := lg_cmp_lt x y
  have h2 := lg_cmp_gt x z
  rw [Int32.lt_iff_toInt_lt, Int64.lt_iff_toInt_lt] at h1 h2
  have z0 : (0 : Int32).toInt = 0 := rfl
  rw [z0] at h1 h2
  simp only [F_X12_isIn, ↓q_letE]
  by_cases q1 : x.toInt < y.toInt
  · rw [if_pos (h1.mpr q1), if_neg (by omega)]
    rfl
  · rw [if_neg (fun h => q1 (h1.mp h))]
    by_cases q2 : z.toInt < x.toInt
    · rw [if_pos (h2.mpr q2), if_neg (by omega)]
      rfl
    · rw [if_neg (fun h => q2 (h2.mp h)), if_pos (by omega)]
      rfl
/-- what the class does with a number: it stands there and is passed or not -/
theorem tl_mustNum (E : tc_E X σ R T n B) (M : tm_E X τ a n B) (K : tl_K σ R τ a B n) (h : (τ.1 a 12).toInt = 0) (lo hi : Int32) :
    ((τ.1 a 14).toInt = 2 ∧ lo.toInt ≤ (τ.1 a 17).toInt ∧ (τ.1 a 17).toInt ≤ hi.toInt ∧ F_X3_mustBeNumber X σ R lo hi = (1, σ) ∧ F_X12_count X τ a lo hi = (τ.1 a 17, F_X12_next X τ a)) ∨
    (∃ (σ' : ST) (v : Int32) (τ' : ST), F_X3_mustBeNumber X σ R lo hi = (0, σ') ∧ F_X12_count X τ a lo hi = (0, τ') ∧ tk (tc_S2 R) σ σ' ∧ tkl (tn_S2 a) (tn_L a) τ τ' ∧ tl_F σ' R τ' a) := by
  obtain ⟨k1, k2, k3, k4, k5, k6, k7, k8⟩ := id K
  simp only [F_X3_mustBeNumber, F_X12_count, F_X12_count_J19_1, ↓q_letE, ↓q_biE]
  by_cases q : (τ.1 a 14).toInt = 2
  · rw [k3, if_pos q, h, if_pos rfl, if_pos q, k4 q]
    simp only [h, if_true]
    rw [tm_isIn, ar_i2l, ar_i2l, ar_i2l]
    obtain ⟨σ', a1, a2, a3, a4⟩ := tl_fail (X := X) K h (by omega) (k := 4) (by decide) (w := τ.1 a 15) rfl
    have p4 : 0 < ((F_X12_fail X τ a 4 (τ.1 a 15)).1 a 12).toInt := a4.2.1
    have z0 : (0 : Int32).toInt = 0 := rfl
    by_cases q1 : (τ.1 a 17).toInt < lo.toInt
    · rw [if_pos q1, a1, if_neg (by omega : ¬ (lo.toInt ≤ (τ.1 a 17).toInt ∧ (τ.1 a 17).toInt ≤ hi.toInt)), if_pos rfl, if_pos p4]
      exact Or.inr ⟨σ', 0, _, by rw [z0, if_pos rfl], rfl, a2, a3, a4⟩
    · rw [if_neg q1]
      by_cases q2 : hi.toInt < (τ.1 a 17).toInt
      · rw [if_pos q2, a1, if_neg (by omega : ¬ (lo.toInt ≤ (τ.1 a 17).toInt ∧ (τ.1 a 17).toInt ≤ hi.toInt)), if_pos rfl, if_pos p4]
        exact Or.inr ⟨σ', 0, _, by rw [z0, if_pos rfl], rfl, a2, a3, a4⟩
      · rw [if_neg q2, if_pos (by omega : lo.toInt ≤ (τ.1 a 17).toInt ∧ (τ.1 a 17).toInt ≤ hi.toInt), if_neg (by decide), if_neg (by decide)]
        exact Or.inl ⟨q, by omega, by omega, rfl, rfl⟩
  · obtain ⟨σ', a1, a2, a3, a4⟩ := tl_wrong (X := X) K h
    have p4 : 0 < ((F_X12_wrong X τ a).1 a 12).toInt := a4.2.1
    rw [k3, if_neg q, h, if_pos rfl, if_neg q, a1, if_neg (by omega), if_pos p4]
    exact Or.inr ⟨σ', 0, _, rfl, rfl, a2, a3, a4⟩
theorem tl_passNum (E : tc_E X σ R T n B) (M : tm_E X τ a n B) (K : tl_K σ R τ a B n) (h : (τ.1 a 12).toInt = 0) (lo hi : Int32) (hlo : 0 ≤ lo.toInt) :
    ∃ (z w : Int32) (σ' τ' : ST), F_X3_passNumber X σ R lo hi = (z, σ') ∧ F_X12_count X τ a lo hi = (w, τ') ∧ tl_O X σ R τ a B n (z.toInt ≠ -1) σ' τ' ∧ (z.toInt ≠ -1 → z.toInt = w.toInt ∧ lo.toInt ≤ w.toInt ∧ w.toInt ≤ hi.toInt) ∧ (z.toInt = -1 → w.toInt = 0) := by
  obtain ⟨k1, k2, k3, k4, k5, k6, k7, k8⟩ := id K
  rcases tl_mustNum E M K h lo hi with ⟨m1, m2, m3, m4, m5⟩ | ⟨σ', v, τ', m1, m2, m3, m4, m5⟩
  · obtain ⟨c1, c2, c3, c4⟩ := tl_adv2 E M K
    have e : F_X3_passNumber X σ R lo hi = (σ.1 R 5, F_X3_advance X σ R) := by
      simp only [F_X3_passNumber, ↓q_letE, ↓q_biE]
      rw [m4]
      rfl
    have e5 := k4 m1
    exact ⟨_, _, _, _, e, m5, ⟨c1.S2, c2.S2, Or.inl ⟨by omega, c3, by rw [tn_12 c2]; exact h, c4⟩⟩, fun _ => ⟨e5, m2, m3⟩, fun q => by omega⟩
  · have e : F_X3_passNumber X σ R lo hi = (-1, σ') := by
      simp only [F_X3_passNumber, ↓q_letE, ↓q_biE]
      rw [m1]
      rfl
    exact ⟨_, _, _, _, e, m2, ⟨m3, m4, Or.inr ⟨by decide, m5⟩⟩, fun q => absurd rfl q, fun _ => rfl⟩
end TL
