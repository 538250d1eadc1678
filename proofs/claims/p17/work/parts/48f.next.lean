/-! THE REFERENCE'S SCANNER -/
def tkl (S L : Nat → Nat → Prop) (σ τ : ST) : Prop := (∀ b f, ¬ S b f → τ.1 b f = σ.1 b f) ∧ (∀ b f, ¬ L b f → τ.2.1 b f = σ.2.1 b f) ∧ τ.2.2 = σ.2.2
theorem tkl.rf {S L : Nat → Nat → Prop} {σ : ST} : tkl S L σ σ := ⟨fun _ _ _ => rfl, fun _ _ _ => rfl, rfl⟩
theorem tkl.tr {S L : Nat → Nat → Prop} {σ τ τ' : ST} (h : tkl S L σ τ) (h' : tkl S L τ τ') : tkl S L σ τ' := ⟨fun b f q => (h'.1 b f q).trans (h.1 b f q), fun b f q => (h'.2.1 b f q).trans (h.2.1 b f q), h'.2.2.trans h.2.2⟩
theorem tkl.mono {S L S' L' : Nat → Nat → Prop} {σ τ : ST} (h : tkl S L σ τ) (hs : ∀ b f, S b f → S' b f) (hl : ∀ b f, L b f → L' b f) : tkl S' L' σ τ := ⟨fun b f q => h.1 b f (fun z => q (hs b f z)), fun b f q => h.2.1 b f (fun z => q (hl b f z)), h.2.2⟩
theorem tkl.si {S L : Nat → Nat → Prop} {σ τ : ST} (h : tkl S L σ τ) {a f : Nat} (v : Int32) (hs : S a f) : tkl S L σ (q_si τ a f v) := by
  refine ⟨fun b g q => ?_, fun b g q => h.2.1 b g q, h.2.2⟩
  show (if b = a ∧ g = f then v else τ.1 b g) = _
  rw [if_neg]
  · exact h.1 b g q
  · rintro ⟨rfl, rfl⟩
    exact q hs
theorem tkl.sl {S L : Nat → Nat → Prop} {σ τ : ST} (h : tkl S L σ τ) {a f : Nat} (v : Int64) (hs : L a f) : tkl S L σ (q_sl τ a f v) := by
  refine ⟨fun b g q => h.1 b g q, fun b g q => ?_, h.2.2⟩
  show (if b = a ∧ g = f then v else τ.2.1 b g) = _
  rw [if_neg]
  · exact h.2.1 b g q
  · rintro ⟨rfl, rfl⟩
    exact q hs
theorem sl_eq (τ : ST) (a f : Nat) (v : Int64) : (q_sl τ a f v).2.1 a f = v := by
  show (if a = a ∧ f = f then v else _) = v
  rw [if_pos ⟨rfl, rfl⟩]
theorem sl_i (τ : ST) (a f : Nat) (v : Int64) (b g : Nat) : (q_sl τ a f v).1 b g = τ.1 b g := rfl
theorem si_l (τ : ST) (a f : Nat) (v : Int32) (b g : Nat) : (q_si τ a f v).2.1 b g = τ.2.1 b g := rfl
/-- a token's cells of the reference -/
def tn_S (a : Nat) : Nat → Nat → Prop := fun b f => b = a ∧ 14 ≤ f ∧ f ≤ 18
def tn_L (a : Nat) : Nat → Nat → Prop := fun b f => b = a ∧ f = 19
/-- the reference reads the first n bytes B of its tape -/
def tm_E (X : XW) (σ : ST) (a : Nat) (n : Int) (B : Int → Int) : Prop := (σ.1 a 9).toInt = n ∧ (0 ≤ n ∧ n ≤ 900) ∧ q_rf X a 7 ≠ a ∧ ∀ p : Int, 0 ≤ p → p < n → (σ.1 (q_rf X a 7) p.toNat).toInt = B p ∧ -128 ≤ B p ∧ B p ≤ 127
/-- what the token at b, to e, is: sign or word -/
def tm_ext (B : Int → Int) (b e ty num let_ word : Int) : Prop := (ty = 3 → num = B b) ∧ (ty = 1 → let_ = e - b ∧ (e - b ≤ 8 → word = tx_wv B b (e - b).toNat) ∧ (8 < e - b → word = -1))
section TM
variable {X : XW} {σ τ : ST} {a : Nat} {n : Int} {B : Int → Int}
theorem tm_E.k {S L : Nat → Nat → Prop} (E : tm_E X σ a n B) (h : tkl S L σ τ) (hs : ∀ b f, S b f → b ≠ q_rf X a 7 ∧ ¬ (b = a ∧ f = 9)) : tm_E X τ a n B := by
  obtain ⟨E1, E2, E3, E4⟩ := E
  refine ⟨?_, E2, E3, fun p p0 p1 => ?_⟩
  · rw [h.1 a 9 (fun q => (hs _ _ q).2 ⟨rfl, rfl⟩)]; exact E1
  · rw [h.1 (q_rf X a 7) p.toNat (fun q => (hs _ _ q).1 rfl)]; exact E4 p p0 p1
theorem tm_E.kS (E : tm_E X σ a n B) (h : tkl (tn_S a) (tn_L a) σ τ) : tm_E X τ a n B := E.k h (fun b f q => ⟨fun e => E.2.2.1 (e.symm.trans q.1), fun e => absurd q.2.1 (by rw [e.2]; decide)⟩)
theorem tm_look (E : tm_E X σ a n B) {v : Int32} {p : Int} (hv : v.toInt = p) (h0 : 0 ≤ p) : (F_X12_look2 X σ a v).toInt = if p < n then B p % 256 else 0 := by
  obtain ⟨E1, E2, E3, E4⟩ := E
  subst hv
  simp only [F_X12_look2, ↓q_letE]
  rw [E1]
  by_cases q : v.toInt < n
  · rw [if_pos q, if_pos q, Jvm.Kit.i32_mask (k := 8) _ 255 (by decide) (by decide), ar_cl, (E4 _ h0 q).1]
    rfl
  · rw [if_neg q, if_neg q]
    rfl
theorem tm_le {r : Int32} {x : Int} (hr : r.toInt = x % 256) (hb : -128 ≤ x ∧ x ≤ 127) : (F_X12_isLetter X σ r).toInt = if 97 ≤ x ∧ x ≤ 122 then 1 else 0 := by
  simp only [F_X12_isLetter]
  rw [hr]
  by_cases q : 97 ≤ x ∧ x ≤ 122
  · rw [if_pos q, if_neg (by omega), if_neg (by omega)]
    rfl
  · rw [if_neg q]
    by_cases q1 : x % 256 < 97
    · rw [if_pos q1]; rfl
    · rw [if_neg q1, if_pos (by omega)]; rfl
theorem tm_di {r : Int32} {x : Int} (hr : r.toInt = x % 256) (hb : -128 ≤ x ∧ x ≤ 127) : (F_X12_isDigit X σ r).toInt = if 48 ≤ x ∧ x ≤ 57 then 1 else 0 := by
  simp only [F_X12_isDigit]
  rw [hr]
  by_cases q : 48 ≤ x ∧ x ≤ 57
  · rw [if_pos q, if_neg (by omega), if_neg (by omega)]
    rfl
  · rw [if_neg q]
    by_cases q1 : x % 256 < 48
    · rw [if_pos q1]; rfl
    · rw [if_neg q1, if_pos (by omega)]; rfl
theorem tm_adv8 (E : tm_E X σ a n B) (k : Nat) : ∀ τ : ST, tkl (tn_S a) (tn_L a) σ τ → (n - (τ.1 a 15).toInt).toNat < k → 0 ≤ (τ.1 a 15).toInt → (τ.1 a 15).toInt ≤ n → ∃ τ' : ST, F_X12_next_L8_1 X a k τ = F_X12_next_J58_2 X τ' a ∧ tkl (tn_S a) (tn_L a) σ τ' ∧ tx_run (fun j => tx_bl (B j)) n (τ.1 a 15).toInt (τ'.1 a 15).toInt := by
  have E3 := E.2.1
  induction k with
  | zero => intro τ _ hm; exact absurd hm (Nat.not_lt_zero _)
  | succ k ih =>
    intro τ ht hm h0 h1
    have Eτ := E.kS ht
    obtain ⟨b, hb⟩ : ∃ b, (τ.1 a 15).toInt = b := ⟨_, rfl⟩
    rw [hb] at hm h0 h1 ⊢
    have lk := tm_look Eτ hb h0
    rw [F_X12_next_L8_1_s]
    simp only [F_X12_next_B8_1, ↓q_letE]
    rw [Eτ.1, hb, lk]
    by_cases q : b < n
    · rw [if_pos q, if_pos q]
      have hB := (Eτ.2.2.2 b h0 q).2
      have e1 : ((q_si τ a 15 (τ.1 a 15 + 1)).1 a 15).toInt = b + 1 := by rw [si_eq, y_inc (by omega), hb]
      have st : tx_bl (B b) → ∃ τ' : ST, F_X12_next_L8_1 X a k (q_si τ a 15 (τ.1 a 15 + 1)) = F_X12_next_J58_2 X τ' a ∧ tkl (tn_S a) (tn_L a) σ τ' ∧ tx_run (fun j => tx_bl (B j)) n b (τ'.1 a 15).toInt := by
        intro hbl
        have zz := ih (q_si τ a 15 (τ.1 a 15 + 1)) (ht.si _ ⟨rfl, by decide, by decide⟩) (by rw [e1]; omega) (by rw [e1]; omega) (by rw [e1]; omega)
        obtain ⟨τ', a1, a2, a3⟩ := zz
        rw [e1] at a3
        exact ⟨τ', a1, a2, tx_run_cons a3 q hbl⟩
      by_cases q1 : B b % 256 = 10
      · rw [if_pos q1]
        exact st (Or.inl (by omega))
      · rw [if_neg q1]
        by_cases q2 : B b % 256 = 32
        · rw [if_pos q2]
          exact st (Or.inr (by omega))
        · rw [if_neg q2]
          exact ⟨τ, rfl, ht, by rw [hb]; exact tx_run_nil (fun h => by have z := h.2; unfold tx_bl at z; omega)⟩
    · rw [if_neg q]
      exact ⟨τ, rfl, ht, by rw [hb]; exact tx_run_nil (fun h => q h.1)⟩
theorem tx_wv_b {b : Int} {m : Nat} (h : ∀ j : Int, b ≤ j → j < b + (m : Int) → tx_le (B j)) : 0 ≤ tx_wv B b m ∧ tx_wv B b m < 32 ^ m := by
  induction m with
  | zero => exact ⟨Int.le_refl 0, (by decide : (0 : Int) < 32 ^ 0)⟩
  | succ m ih =>
    have a1 := ih (fun j a c => h j a (by omega))
    have a2 := h (b + (m : Int)) (by omega) (by omega)
    unfold tx_le at a2
    have p : (32 : Int) ^ (m + 1) = 32 ^ m * 32 := Int.pow_succ 32 m
    show 0 ≤ tx_wv B b m * 32 + B (b + (m : Int)) - 96 ∧ tx_wv B b m * 32 + B (b + (m : Int)) - 96 < 32 ^ (m + 1)
    omega
theorem tm_109 (E : tm_E X σ a n B) {b : Int} (hb0 : 0 ≤ b) (k : Nat) : ∀ (τ : ST) (x : Int), (τ.1 a 16).toInt = x → (n - x).toNat < k → b ≤ x → x ≤ n → tkl (tn_S a) (tn_L a) σ τ → (τ.1 a 15).toInt = b → (∀ j, b ≤ j → j < x → tx_le (B j)) → (x - b ≤ 8 → (τ.2.1 a 19).toInt = tx_wv B b (x - b).toNat) → (8 < x - b → (τ.2.1 a 19).toInt = -1) →
    ∃ τ' : ST, F_X12_next_L109_5 X a k τ = τ' ∧ tkl (tn_S a) (tn_L a) σ τ' ∧ (τ'.1 a 15).toInt = b ∧ tx_run (fun j => tx_le (B j)) n x (τ'.1 a 16).toInt ∧ τ'.1 a 14 = τ.1 a 14 ∧ (τ'.1 a 18).toInt = (τ'.1 a 16).toInt - b ∧ ((τ'.1 a 16).toInt - b ≤ 8 → (τ'.2.1 a 19).toInt = tx_wv B b ((τ'.1 a 16).toInt - b).toNat) ∧ (8 < (τ'.1 a 16).toInt - b → (τ'.2.1 a 19).toInt = -1) := by
  have E3 := E.2.1
  induction k with
  | zero => intro τ x _ hm; exact absurd hm (Nat.not_lt_zero _)
  | succ k ih =>
    intro τ x hx hm h0 h1 ht hb hl hw1 hw2
    have Eτ := E.kS ht
    have lk := tm_look Eτ hx (by omega)
    rw [F_X12_next_L109_5_s]
    simp only [F_X12_next_B109_5, ↓q_letE]
    have fin : ¬ (x < n ∧ tx_le (B x)) → ∃ τ' : ST, F_X12_next_E182_6 X τ a = τ' ∧ tkl (tn_S a) (tn_L a) σ τ' ∧ (τ'.1 a 15).toInt = b ∧ tx_run (fun j => tx_le (B j)) n x (τ'.1 a 16).toInt ∧ τ'.1 a 14 = τ.1 a 14 ∧ (τ'.1 a 18).toInt = (τ'.1 a 16).toInt - b ∧ ((τ'.1 a 16).toInt - b ≤ 8 → (τ'.2.1 a 19).toInt = tx_wv B b ((τ'.1 a 16).toInt - b).toNat) ∧ (8 < (τ'.1 a 16).toInt - b → (τ'.2.1 a 19).toInt = -1) := by
      intro hn
      simp only [F_X12_next_E182_6, ↓q_letE]
      have e16 : ((q_si τ a 18 (τ.1 a 16 - τ.1 a 15)).1 a 16).toInt = x := by rw [si_f (by decide)]; exact hx
      refine ⟨_, rfl, ht.si _ ⟨rfl, by decide, by decide⟩, by rw [si_f (by decide)]; exact hb, ?_, si_f (by decide) a, ?_, ?_, ?_⟩
      · rw [e16]; exact tx_run_nil hn
      · rw [e16, si_eq, ar_sub, hx, hb, ar_wr (by omega) (by omega)]
      · rw [e16]; exact hw1
      · rw [e16]; exact hw2
    by_cases q : x < n
    · rw [if_pos q] at lk
      have hB := (Eτ.2.2.2 x (by omega) q).2
      have il := tm_le (X := X) (σ := τ) lk hB
      by_cases ql : tx_le (B x)
      · rw [if_pos (show 97 ≤ B x ∧ B x ≤ 122 from ql)] at il
        rw [il, if_neg (by decide)]
        clear fin
        have sz : (τ.1 a 16 - τ.1 a 15).toInt = x - b := by rw [ar_sub, hx, hb, ar_wr (by omega) (by omega)]
        rw [sz]
        have hl2 : ∀ j, b ≤ j → j < x + 1 → tx_le (B j) := fun j j0 j1 => by
          by_cases hj : j = x
          · subst hj; exact ql
          · exact hl j j0 (by omega)
        have e1 : (τ.1 a 16 + 1).toInt = x + 1 := by rw [y_inc (by omega), hx]
        have en : (x + 1 - b).toNat = (x - b).toNat + 1 := by omega
        have ec : (((x - b).toNat : Nat) : Int) = x - b := by omega
        have ep : b + (x - b) = x := by omega
        by_cases q8 : x - b < 8
        · rw [if_pos q8]
          have w1 := hw1 (by omega)
          have wb := tx_wv_b (B := B) (b := b) (m := (x - b).toNat) (fun j j0 j1 => hl j j0 (by omega))
          have pb : (32 : Int) ^ (x - b).toNat ≤ 32 ^ 7 := by
            have : (x - b).toNat = 0 ∨ (x - b).toNat = 1 ∨ (x - b).toNat = 2 ∨ (x - b).toNat = 3 ∨ (x - b).toNat = 4 ∨ (x - b).toNat = 5 ∨ (x - b).toNat = 6 ∨ (x - b).toNat = 7 := by omega
            rcases this with q | q | q | q | q | q | q | q <;> rw [q] <;> decide
          have p7 : (32 : Int) ^ 7 = 34359738368 := by decide
          have ql2 := ql
          unfold tx_le at ql2
          have r32 : (32 : Int64).toInt = 32 := rfl
          have r96 : (96 : Int64).toInt = 96 := rfl
          have nv : tx_wv B b (x + 1 - b).toNat = tx_wv B b (x - b).toNat * 32 + B x - 96 := by
            rw [en]
            show tx_wv B b (x - b).toNat * 32 + B (b + (((x - b).toNat : Nat) : Int)) - 96 = _
            rw [ec, ep]
          have ev : (τ.2.1 a 19 * 32 + (F_X12_look2 X τ a (τ.1 a 16)).toInt64 - 96).toInt = tx_wv B b (x + 1 - b).toNat := by
            rw [nv, ar_subl, ar_addl, ar_mull, w1, ar_i2l, lk, r32, r96, ar_vr (n := tx_wv B b (x - b).toNat * 32) (by omega) (by omega), ar_vr (n := tx_wv B b (x - b).toNat * 32 + B x % 256) (by omega) (by omega), ar_vr (by omega) (by omega)]
            omega
          have zz := ih (q_si (q_sl τ a 19 (τ.2.1 a 19 * 32 + (F_X12_look2 X τ a (τ.1 a 16)).toInt64 - 96)) a 16 (τ.1 a 16 + 1)) (x + 1) (by rw [si_eq]; exact e1) (by omega) (by omega) (by omega) ((ht.sl _ ⟨rfl, rfl⟩).si _ ⟨rfl, by decide, by decide⟩) (by rw [si_f (by decide)]; exact hb) hl2 (fun _ => by rw [si_l, sl_eq]; exact ev) (fun h => absurd h (by omega))
          obtain ⟨τ', a1, a2, a3, a4, a5, a6, a7, a8⟩ := zz
          exact ⟨τ', a1, a2, a3, tx_run_cons a4 q ql, by rw [a5, si_f (by decide)]; rfl, a6, a7, a8⟩
        · rw [if_neg q8]
          have zz := ih (q_si (q_sl τ a 19 (-1)) a 16 (τ.1 a 16 + 1)) (x + 1) (by rw [si_eq]; exact e1) (by omega) (by omega) (by omega) ((ht.sl _ ⟨rfl, rfl⟩).si _ ⟨rfl, by decide, by decide⟩) (by rw [si_f (by decide)]; exact hb) hl2 (fun h => absurd h (by omega)) (fun _ => by rw [si_l, sl_eq]; rfl)
          obtain ⟨τ', a1, a2, a3, a4, a5, a6, a7, a8⟩ := zz
          exact ⟨τ', a1, a2, a3, tx_run_cons a4 q ql, by rw [a5, si_f (by decide)]; rfl, a6, a7, a8⟩
      · rw [if_neg (show ¬ (97 ≤ B x ∧ B x ≤ 122) from ql)] at il
        rw [il, if_pos rfl]
        exact fin (fun h => ql h.2)
    · rw [if_neg q] at lk
      have il : (F_X12_isLetter X τ (F_X12_look2 X τ a (τ.1 a 16))).toInt = 0 := by
        simp only [F_X12_isLetter]
        rw [lk]
        rfl
      rw [il, if_pos rfl]
      exact fin (fun h => q h.1)
theorem tm_210 (E : tm_E X σ a n B) {b : Int} (hb0 : 0 ≤ b) (hbn : b < n) (hbd : tx_di (B b)) (k : Nat) : ∀ (τ : ST) (x : Int), (τ.1 a 16).toInt = x → (n - x).toNat < k → b ≤ x → x ≤ n → tkl (tn_S a) (tn_L a) σ τ → (τ.1 a 15).toInt = b → (∀ j, b ≤ j → j < x → tx_di (B j)) → (x - b ≤ 4 → (τ.1 a 17).toInt = tx_nv B b (x - b).toNat) → (0 ≤ tx_nv B b (x - b).toNat ∧ (x - b ≤ 4 → tx_nv B b (x - b).toNat < 10 ^ (x - b).toNat)) →
    ∃ τ' : ST, F_X12_next_L210_3 X a k τ = τ' ∧ tkl (tn_S a) (tn_L a) σ τ' ∧ (τ'.1 a 15).toInt = b ∧ tx_run (fun j => tx_di (B j)) n x (τ'.1 a 16).toInt ∧ (4 < (τ'.1 a 16).toInt - b ∧ (τ'.1 a 14).toInt = 4 ∨ (τ'.1 a 16).toInt - b ≤ 4 ∧ (τ'.1 a 14).toInt = 2 ∧ (τ'.1 a 17).toInt = tx_nv B b ((τ'.1 a 16).toInt - b).toNat) := by
  have E3 := E.2.1
  induction k with
  | zero => intro τ x _ hm; exact absurd hm (Nat.not_lt_zero _)
  | succ k ih =>
    intro τ x hx hm h0 h1 ht hb hl hw1 hwb
    have Eτ := E.kS ht
    have lk := tm_look Eτ hx (by omega)
    have sz : (τ.1 a 16 - τ.1 a 15).toInt = x - b := by rw [ar_sub, hx, hb, ar_wr (by omega) (by omega)]
    rw [F_X12_next_L210_3_s]
    simp only [F_X12_next_B210_3, ↓q_letE]
    rw [sz]
    have fin : ¬ (x < n ∧ tx_di (B x)) → ∃ τ' : ST, F_X12_next_E273_4 X τ a = τ' ∧ tkl (tn_S a) (tn_L a) σ τ' ∧ (τ'.1 a 15).toInt = b ∧ tx_run (fun j => tx_di (B j)) n x (τ'.1 a 16).toInt ∧ (4 < (τ'.1 a 16).toInt - b ∧ (τ'.1 a 14).toInt = 4 ∨ (τ'.1 a 16).toInt - b ≤ 4 ∧ (τ'.1 a 14).toInt = 2 ∧ (τ'.1 a 17).toInt = tx_nv B b ((τ'.1 a 16).toInt - b).toNat) := by
      intro hn
      simp only [F_X12_next_E273_4, ↓q_letE]
      rw [sz]
      have e16 : ∀ v : Int32, ((q_si τ a 14 v).1 a 16).toInt = x := fun v => by rw [si_f (by decide)]; exact hx
      by_cases q4 : 4 < x - b
      · rw [if_pos q4]
        refine ⟨_, rfl, ht.si _ ⟨rfl, by decide, by decide⟩, by rw [si_f (by decide)]; exact hb, ?_, Or.inl ?_⟩
        · rw [e16]; exact tx_run_nil hn
        · rw [e16, si_eq]; exact ⟨q4, rfl⟩
      · rw [if_neg q4]
        refine ⟨_, rfl, ht.si _ ⟨rfl, by decide, by decide⟩, by rw [si_f (by decide)]; exact hb, ?_, Or.inr ?_⟩
        · rw [e16]; exact tx_run_nil hn
        · rw [e16, si_eq, si_f (by decide)]; exact ⟨by omega, rfl, hw1 (by omega)⟩
    by_cases q : x < n
    · rw [if_pos q] at lk
      have hB := (Eτ.2.2.2 x (by omega) q).2
      have il := tm_di (X := X) (σ := τ) lk hB
      by_cases ql : tx_di (B x)
      · rw [if_pos (show 48 ≤ B x ∧ B x ≤ 57 from ql)] at il
        rw [il, if_neg (by decide)]
        clear fin
        have hl2 : ∀ j, b ≤ j → j < x + 1 → tx_di (B j) := fun j j0 j1 => by
          by_cases hj : j = x
          · subst hj; exact ql
          · exact hl j j0 (by omega)
        have e1 : (τ.1 a 16 + 1).toInt = x + 1 := by rw [y_inc (by omega), hx]
        have en : (x + 1 - b).toNat = (x - b).toNat + 1 := by omega
        have ec : (((x - b).toNat : Nat) : Int) = x - b := by omega
        have ep : b + (x - b) = x := by omega
        have nv : tx_nv B b (x + 1 - b).toNat = tx_nv B b (x - b).toNat * 10 + B x - 48 := by
          rw [en]
          show tx_nv B b (x - b).toNat * 10 + B (b + (((x - b).toNat : Nat) : Int)) - 48 = _
          rw [ec, ep]
        have ql2 := ql
        unfold tx_di at ql2
        by_cases q8 : x - b < 4
        · rw [if_pos q8]
          have w1 := hw1 (by omega)
          have wb := hwb.2 (by omega)
          have w0 := hwb.1
          have pb : (10 : Int) ^ (x - b).toNat ≤ 1000 := by
            have : (x - b).toNat = 0 ∨ (x - b).toNat = 1 ∨ (x - b).toNat = 2 ∨ (x - b).toNat = 3 := by omega
            rcases this with q | q | q | q <;> rw [q] <;> decide
          have pw : (10 : Int) ^ (x + 1 - b).toNat = 10 ^ (x - b).toNat * 10 := by rw [en, Int.pow_succ]
          have r10 : (10 : Int32).toInt = 10 := rfl
          have r48 : (48 : Int32).toInt = 48 := rfl
          have ev : (10 * τ.1 a 17 + F_X12_look2 X τ a (τ.1 a 16) - 48).toInt = tx_nv B b (x + 1 - b).toNat := by
            rw [nv, ar_sub, ar_add, ar_mul, w1, lk, r10, r48, ar_wr (n := 10 * tx_nv B b (x - b).toNat) (by omega) (by omega), ar_wr (n := 10 * tx_nv B b (x - b).toNat + B x % 256) (by omega) (by omega), ar_wr (by omega) (by omega)]
            omega
          have zz := ih (q_si (q_si τ a 17 (10 * τ.1 a 17 + F_X12_look2 X τ a (τ.1 a 16) - 48)) a 16 ((q_si τ a 17 (10 * τ.1 a 17 + F_X12_look2 X τ a (τ.1 a 16) - 48)).1 a 16 + 1)) (x + 1) (by rw [si_eq, si_f (by decide)]; exact e1) (by omega) (by omega) (by omega) ((ht.si _ ⟨rfl, by decide, by decide⟩).si _ ⟨rfl, by decide, by decide⟩) (by rw [si_f (by decide), si_f (by decide)]; exact hb) hl2 (fun _ => by rw [si_f (by decide), si_eq]; exact ev) ⟨by rw [nv]; omega, fun _ => by rw [nv, pw]; omega⟩
          obtain ⟨τ', a1, a2, a3, a4, a5⟩ := zz
          exact ⟨τ', a1, a2, a3, tx_run_cons a4 q ql, a5⟩
        · rw [if_neg q8]
          have zz := ih (q_si τ a 16 (τ.1 a 16 + 1)) (x + 1) (by rw [si_eq]; exact e1) (by omega) (by omega) (by omega) (ht.si _ ⟨rfl, by decide, by decide⟩) (by rw [si_f (by decide)]; exact hb) hl2 (fun h => absurd h (by omega)) ⟨by rw [nv]; have := hwb.1; omega, fun h => absurd h (by omega)⟩
          obtain ⟨τ', a1, a2, a3, a4, a5⟩ := zz
          exact ⟨τ', a1, a2, a3, tx_run_cons a4 q ql, a5⟩
      · rw [if_neg (show ¬ (48 ≤ B x ∧ B x ≤ 57) from ql)] at il
        rw [il, if_pos rfl]
        exact fin (fun h => ql h.2)
    · rw [if_neg q] at lk
      have il : (F_X12_isDigit X τ (F_X12_look2 X τ a (τ.1 a 16))).toInt = 0 := by
        simp only [F_X12_isDigit]
        rw [lk]
        rfl
      rw [il, if_pos rfl]
      exact fin (fun h => q h.1)
theorem tm_J58 (E : tm_E X σ a n B) {τ : ST} (ht : tkl (tn_S a) (tn_L a) σ τ) {b : Int} (hb : (τ.1 a 15).toInt = b) (h0 : 0 ≤ b) (h1 : b ≤ n) : tkl (tn_S a) (tn_L a) σ (F_X12_next_J58_2 X τ a) ∧ ((F_X12_next_J58_2 X τ a).1 a 15).toInt = b ∧ tx_cls B n b ((F_X12_next_J58_2 X τ a).1 a 16).toInt ((F_X12_next_J58_2 X τ a).1 a 14).toInt ((F_X12_next_J58_2 X τ a).1 a 17).toInt ∧ tm_ext B b ((F_X12_next_J58_2 X τ a).1 a 16).toInt ((F_X12_next_J58_2 X τ a).1 a 14).toInt ((F_X12_next_J58_2 X τ a).1 a 17).toInt ((F_X12_next_J58_2 X τ a).1 a 18).toInt ((F_X12_next_J58_2 X τ a).2.1 a 19).toInt := by
  have E3 := E.2.1
  simp only [F_X12_next_J58_2, ↓q_letE]
  obtain ⟨ρ, hρ⟩ : ∃ ρ, ρ = q_si τ a 16 (τ.1 a 15) := ⟨_, rfl⟩
  rw [← hρ]
  have ht2 : tkl (tn_S a) (tn_L a) σ ρ := by rw [hρ]; exact ht.si _ ⟨rfl, by decide, by decide⟩
  have hb2 : (ρ.1 a 15).toInt = b := by rw [hρ, si_f (by decide)]; exact hb
  have he2 : (ρ.1 a 16).toInt = b := by rw [hρ, si_eq]; exact hb
  have Eρ := E.kS ht2
  have lk := tm_look Eρ hb2 h0
  rw [Eρ.1, hb2]
  by_cases q : b < n
  · rw [if_pos q]
    rw [if_pos q] at lk
    have hB := (Eρ.2.2.2 b h0 q).2
    have il := tm_le (X := X) (σ := ρ) lk hB
    have id_ := tm_di (X := X) (σ := ρ) lk hB
    by_cases ql : tx_le (B b)
    · rw [if_pos (show 97 ≤ B b ∧ B b ≤ 122 from ql)] at il
      rw [il, if_neg (by decide)]
      obtain ⟨τ', a1, a2, a3, a4, a5, a6, a7, a8⟩ := tm_109 E h0 ((((q_sl (q_si ρ a 14 1) a 19 0).1 a 9).toInt - ((q_sl (q_si ρ a 14 1) a 19 0).1 a 16).toInt).toNat + 1) (q_sl (q_si ρ a 14 1) a 19 0) b (by rw [sl_i, si_f (by decide)]; exact he2) (by rw [sl_i, sl_i, si_f (by decide), si_f (by decide), Eρ.1, he2]; omega) (Int.le_refl _) h1 ((ht2.si _ ⟨rfl, by decide, by decide⟩).sl _ ⟨rfl, rfl⟩) (by rw [sl_i, si_f (by decide)]; exact hb2) (fun j j0 j1 => by omega) (fun _ => by rw [sl_eq, Int.sub_self]; rfl) (fun h => absurd h (by omega))
      rw [a1]
      have ty : (τ'.1 a 14).toInt = 1 := by rw [a5, sl_i, si_eq]; rfl
      exact ⟨a2, a3, Or.inr (Or.inl ⟨q, ql, ty, a4⟩), ⟨fun h => absurd h (by omega), fun _ => ⟨a6, a7, a8⟩⟩⟩
    · rw [if_neg (show ¬ (97 ≤ B b ∧ B b ≤ 122) from ql)] at il
      rw [il, if_pos rfl]
      by_cases qd : tx_di (B b)
      · rw [if_pos (show 48 ≤ B b ∧ B b ≤ 57 from qd)] at id_
        rw [id_, if_neg (by decide)]
        obtain ⟨τ', a1, a2, a3, a4, a5⟩ := tm_210 E h0 q qd ((((q_si ρ a 17 0).1 a 9).toInt - ((q_si ρ a 17 0).1 a 16).toInt).toNat + 1) (q_si ρ a 17 0) b (by rw [si_f (by decide)]; exact he2) (by rw [si_f (by decide), si_f (by decide), Eρ.1, he2]; omega) (Int.le_refl _) h1 (ht2.si _ ⟨rfl, by decide, by decide⟩) (by rw [si_f (by decide)]; exact hb2) (fun j j0 j1 => by omega) (fun _ => by rw [si_eq, Int.sub_self]; rfl) (by rw [Int.sub_self]; exact ⟨Int.le_refl 0, fun _ => (by decide : (0 : Int) < 10 ^ 0)⟩)
        rw [a1]
        refine ⟨a2, a3, Or.inr (Or.inr (Or.inl ⟨q, qd, a4, a5⟩)), ⟨fun h => ?_, fun h => ?_⟩⟩
        · rcases a5 with ⟨_, z⟩ | ⟨_, z, _⟩ <;> omega
        · rcases a5 with ⟨_, z⟩ | ⟨_, z, _⟩ <;> omega
      · rw [if_neg (show ¬ (48 ≤ B b ∧ B b ≤ 57) from qd)] at id_
        rw [id_, if_pos rfl]
        obtain ⟨r, hr⟩ : ∃ r, r = F_X12_look2 X ρ a (ρ.1 a 15) := ⟨_, rfl⟩
        rw [← hr] at lk ⊢
        have e1 : (ρ.1 a 15 + 1).toInt = b + 1 := by rw [y_inc (by omega), hb2]
        have fin : ∀ ty : Int32, (tx_sg (B b) ∧ ty.toInt = 3 ∨ ¬ tx_sg (B b) ∧ ty.toInt = 4) → tkl (tn_S a) (tn_L a) σ (q_si (q_si (q_si ρ a 16 (ρ.1 a 15 + 1)) a 17 r) a 14 ty) ∧ ((q_si (q_si (q_si ρ a 16 (ρ.1 a 15 + 1)) a 17 r) a 14 ty).1 a 15).toInt = b ∧ tx_cls B n b ((q_si (q_si (q_si ρ a 16 (ρ.1 a 15 + 1)) a 17 r) a 14 ty).1 a 16).toInt ((q_si (q_si (q_si ρ a 16 (ρ.1 a 15 + 1)) a 17 r) a 14 ty).1 a 14).toInt ((q_si (q_si (q_si ρ a 16 (ρ.1 a 15 + 1)) a 17 r) a 14 ty).1 a 17).toInt ∧ tm_ext B b ((q_si (q_si (q_si ρ a 16 (ρ.1 a 15 + 1)) a 17 r) a 14 ty).1 a 16).toInt ((q_si (q_si (q_si ρ a 16 (ρ.1 a 15 + 1)) a 17 r) a 14 ty).1 a 14).toInt ((q_si (q_si (q_si ρ a 16 (ρ.1 a 15 + 1)) a 17 r) a 14 ty).1 a 17).toInt ((q_si (q_si (q_si ρ a 16 (ρ.1 a 15 + 1)) a 17 r) a 14 ty).1 a 18).toInt ((q_si (q_si (q_si ρ a 16 (ρ.1 a 15 + 1)) a 17 r) a 14 ty).2.1 a 19).toInt := by
          intro ty hs
          have f16 : (q_si (q_si (q_si ρ a 16 (ρ.1 a 15 + 1)) a 17 r) a 14 ty).1 a 16 = ρ.1 a 15 + 1 := by rw [si_f (by decide), si_f (by decide), si_eq]
          have f17 : (q_si (q_si (q_si ρ a 16 (ρ.1 a 15 + 1)) a 17 r) a 14 ty).1 a 17 = r := by rw [si_f (by decide), si_eq]
          have f14 : (q_si (q_si (q_si ρ a 16 (ρ.1 a 15 + 1)) a 17 r) a 14 ty).1 a 14 = ty := si_eq _ _ _ _
          have f15 : (q_si (q_si (q_si ρ a 16 (ρ.1 a 15 + 1)) a 17 r) a 14 ty).1 a 15 = ρ.1 a 15 := by rw [si_f (by decide), si_f (by decide), si_f (by decide)]
          rw [f16, f17, f14, f15, e1]
          refine ⟨((ht2.si _ ⟨rfl, by decide, by decide⟩).si _ ⟨rfl, by decide, by decide⟩).si _ ⟨rfl, by decide, by decide⟩, hb2, Or.inr (Or.inr (Or.inr ⟨q, ql, qd, rfl, hs⟩)), fun h => ?_, fun h => ?_⟩
          · rcases hs with ⟨h1, _⟩ | ⟨_, h2⟩
            · unfold tx_sg at h1; omega
            · omega
          · rcases hs with ⟨_, h2⟩ | ⟨_, h2⟩ <;> omega
        have sb : (F_X12_isSignByte X (q_si (q_si ρ a 16 (ρ.1 a 15 + 1)) a 17 r) a r).toInt = if B b = 59 ∨ B b = 60 ∨ B b = 62 ∨ B b = 61 then 1 else 0 := by
          simp only [F_X12_isSignByte]
          rw [lk]
          repeat' split
          all_goals first | rfl | omega
        rw [sb]
        by_cases qs : tx_sg (B b)
        · rw [if_pos (show B b = 59 ∨ B b = 60 ∨ B b = 62 ∨ B b = 61 from qs), if_neg (by decide)]
          exact fin 3 (Or.inl ⟨qs, rfl⟩)
        · rw [if_neg (show ¬ (B b = 59 ∨ B b = 60 ∨ B b = 62 ∨ B b = 61) from qs), if_pos rfl]
          exact fin 4 (Or.inr ⟨qs, rfl⟩)
  · rw [if_neg q]
    refine ⟨ht2.si _ ⟨rfl, by decide, by decide⟩, by rw [si_f (by decide)]; exact hb2, Or.inl ⟨by omega, by rw [si_eq]; rfl, by rw [si_f (by decide)]; exact he2⟩, fun h => ?_, fun h => ?_⟩
    · rw [si_eq] at h; exact absurd h (by decide)
    · rw [si_eq] at h; exact absurd h (by decide)
/-- the reference's next -/
theorem tm_next (E : tm_E X σ a n B) {p : Int} (hp : (σ.1 a 16).toInt = p) (h0 : 0 ≤ p ∧ p ≤ n) : tkl (tn_S a) (tn_L a) σ (F_X12_next X σ a) ∧ tx_tok B n p ((F_X12_next X σ a).1 a 15).toInt ((F_X12_next X σ a).1 a 16).toInt ((F_X12_next X σ a).1 a 14).toInt ((F_X12_next X σ a).1 a 17).toInt ∧ tm_ext B ((F_X12_next X σ a).1 a 15).toInt ((F_X12_next X σ a).1 a 16).toInt ((F_X12_next X σ a).1 a 14).toInt ((F_X12_next X σ a).1 a 17).toInt ((F_X12_next X σ a).1 a 18).toInt ((F_X12_next X σ a).2.1 a 19).toInt := by
  have E3 := E.2.1
  simp only [F_X12_next, ↓q_letE]
  obtain ⟨τ, hτ⟩ : ∃ τ, τ = q_si σ a 15 (σ.1 a 16) := ⟨_, rfl⟩
  rw [← hτ]
  have ht : tkl (tn_S a) (tn_L a) σ τ := by rw [hτ]; exact tkl.rf.si _ ⟨rfl, by decide, by decide⟩
  have hb : (τ.1 a 15).toInt = p := by rw [hτ, si_eq]; exact hp
  have h9 := (E.kS ht).1
  obtain ⟨k, hk⟩ : ∃ k, k = ((τ.1 a 9).toInt - (τ.1 a 15).toInt).toNat + 1 := ⟨_, rfl⟩
  rw [← hk]
  obtain ⟨τ', a1, a2, a3⟩ := tm_adv8 E k τ ht (by rw [hk, h9]; omega) (by omega) (by omega)
  rw [a1]
  rw [hb] at a3
  have hb2 : p ≤ (τ'.1 a 15).toInt := a3.1
  have hb3 : (τ'.1 a 15).toInt ≤ n := tx_run_le a3 h0.2
  obtain ⟨c1, c2, c3, c4⟩ := tm_J58 E a2 rfl (by omega) hb3
  refine ⟨c1, ?_⟩
  rw [c2]
  exact ⟨⟨a3, c3⟩, c4⟩
end TM
