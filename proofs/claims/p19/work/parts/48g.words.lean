/-! FROM 48g.words.lean.txt -/
section
/-! WORDS -/
/-- the letters of the String constant r -/
def y_ch (r : Nat) (i : Int) : Int := ((q_sbyt.getD r []).getD i.toNat 0).toInt
/-- the number of the String constant r -/
def y_cw (r : Nat) : Int := match r with | 0 => 11843731 | 1 => 164968 | 2 => 12343 | 3 => 688 | 4 => 147182 | 5 => 624037 | 6 => 441972 | 7 => 549512370 | 9 => 402611 | 10 => 150637203 | 11 => 263620 | 12 => 486 | 13 => 5572 | 14 => 677454 | 15 => 643568 | 16 => 409072 | 17 => 762030 | 18 => 3197075 | 19 => 267312 | 20 => 20201198 | 21 => 24046 | _ => -2
theorem tj_asc : ∀ l ∈ q_sbyt, ∀ c ∈ l, 32 ≤ c.toInt ∧ c.toInt ≤ 122 := by decide +kernel
theorem tj_ch_b (r : Nat) (i : Int) : 0 ≤ y_ch r i ∧ y_ch r i ≤ 122 := by
  unfold y_ch
  by_cases h : r < q_sbyt.length
  · have e : q_sbyt.getD r [] = q_sbyt[r] := by simp [List.getD, h]
    rw [e]
    by_cases h2 : i.toNat < (q_sbyt[r]).length
    · have e2 : (q_sbyt[r]).getD i.toNat 0 = (q_sbyt[r])[i.toNat] := by simp [List.getD, h2]
      rw [e2]
      have := tj_asc _ (List.getElem_mem h) _ (List.getElem_mem h2)
      omega
    · have e2 : (q_sbyt[r]).getD i.toNat 0 = 0 := by simp [List.getD, List.getElem?_eq_none (Nat.le_of_not_lt h2)]
      rw [e2]
      decide
  · have e : q_sbyt.getD r [] = [] := by simp [List.getD, List.getElem?_eq_none (Nat.le_of_not_lt h)]
    rw [e]
    show 0 ≤ (0 : Int32).toInt ∧ (0 : Int32).toInt ≤ 122
    decide
theorem tj_len {X : XW} {σ : ST} (r : Nat) : (F_J0_length_8abf5 X σ r).toInt = ((q_slen.getD r 0 : Nat) : Int) := by
  simp only [F_J0_length_8abf5, F_J0_coder_7d493, ↓q_letE]
  rw [if_neg (by decide)]
  have e : (Int32.ofNat (q_slen.getD r 0)) >>> ((0 : Int32) &&& 31) = Int32.ofNat (q_slen.getD r 0) := sb_shr0 _
  rw [e]
  exact nI_toInt (q_slen_lt r)
theorem tj_chr {X : XW} {σ : ST} (r : Nat) {v : Int32} {i : Int} (hv : v.toInt = i) : (F_J0_charAt_5068e X σ r v).toInt = y_ch r i := by
  subst hv
  have hb := tj_ch_b r v.toInt
  have il : (F_J0_isLatin1_aae02 X σ r).toInt = 1 := by
    simp only [F_J0_isLatin1_aae02]
    rw [if_neg (by decide), if_pos (by decide)]
    rfl
  simp only [F_J0_charAt_5068e, F_J1_charAt_3b067, ↓q_letE]
  rw [il, if_neg (by decide), ar_cl]
  have e0 : ((q_sbyt.getD r []).getD v.toInt.toNat 0).toInt = y_ch r v.toInt := rfl
  have e1 : ((q_sbyt.getD r []).getD v.toInt.toNat 0 &&& 255).toInt = y_ch r v.toInt := by
    rw [Jvm.Kit.i32_mask (k := 8) _ 255 (by decide) (by decide), e0]
    have p : (2 : Int) ^ 8 = 256 := by decide
    rw [p]
    omega
  rw [lg_i2c_word (by rw [e1]; omega) (by rw [e1]; omega)]
  exact e1
theorem tx_wv_inj {B B' : Int → Int} {b b' : Int} {k : Nat} : ∀ {k' : Nat}, (∀ j : Int, b ≤ j → j < b + (k : Int) → tx_le (B j)) → (∀ j : Int, b' ≤ j → j < b' + (k' : Int) → tx_le (B' j)) → tx_wv B b k = tx_wv B' b' k' → k = k' ∧ ∀ i : Nat, i < k → B (b + (i : Int)) = B' (b' + (i : Int)) := by
  induction k with
  | zero =>
    intro k' h h' e
    cases k' with
    | zero => exact ⟨rfl, fun i hi => absurd hi (Nat.not_lt_zero _)⟩
    | succ m =>
      have a1 := (tx_wv_b (B := B') (b := b') (m := m) (fun j a c => h' j a (by omega))).1
      have a2 := h' (b' + (m : Int)) (by omega) (by omega)
      unfold tx_le at a2
      have e2 : (0 : Int) = tx_wv B' b' m * 32 + B' (b' + (m : Int)) - 96 := e
      omega
  | succ k ih =>
    intro k' h h' e
    have c2 := h (b + (k : Int)) (by omega) (by omega)
    unfold tx_le at c2
    have c1 := (tx_wv_b (B := B) (b := b) (m := k) (fun j a c => h j a (by omega))).1
    cases k' with
    | zero =>
      have e2 : tx_wv B b k * 32 + B (b + (k : Int)) - 96 = (0 : Int) := e
      omega
    | succ m =>
      have a1 := (tx_wv_b (B := B') (b := b') (m := m) (fun j a c => h' j a (by omega))).1
      have a2 := h' (b' + (m : Int)) (by omega) (by omega)
      unfold tx_le at a2
      have e2 : tx_wv B b k * 32 + B (b + (k : Int)) - 96 = tx_wv B' b' m * 32 + B' (b' + (m : Int)) - 96 := e
      have e3 : tx_wv B b k = tx_wv B' b' m := by omega
      have e4 : B (b + (k : Int)) = B' (b' + (m : Int)) := by omega
      obtain ⟨i1, i2⟩ := ih (fun j a c => h j a (by omega)) (fun j a c => h' j a (by omega)) e3
      subst i1
      refine ⟨rfl, fun i hi => ?_⟩
      by_cases q : i = k
      · subst q; exact e4
      · exact i2 i (by omega)
theorem tx_wv_ext {B B' : Int → Int} {b b' : Int} {k : Nat} (h : ∀ i : Nat, i < k → B (b + (i : Int)) = B' (b' + (i : Int))) : tx_wv B b k = tx_wv B' b' k := by
  induction k with
  | zero => rfl
  | succ k ih =>
    show tx_wv B b k * 32 + B (b + (k : Int)) - 96 = tx_wv B' b' k * 32 + B' (b' + (k : Int)) - 96
    rw [ih (fun i hi => h i (by omega)), h k (by omega)]
/-- the token from b to e is the word r -/
def y_wd (B : Int → Int) (b e : Int) (r : Nat) : Prop := e - b = ((q_slen.getD r 0 : Nat) : Int) ∧ ∀ i : Nat, i < q_slen.getD r 0 → B (b + (i : Int)) = y_ch r (i : Int)
/-- r is a word of letters, eight at the most, and its number is y_cw r -/
def y_isw (r : Nat) : Prop := r < 22 ∧ r ≠ 8
theorem y_isw_le : ∀ r, y_isw r → q_slen.getD r 0 ≤ 6 ∧ (∀ i, i < q_slen.getD r 0 → 97 ≤ ((q_sbyt.getD r []).getD i 0).toInt ∧ ((q_sbyt.getD r []).getD i 0).toInt ≤ 122) := by
  have h : ∀ r, r < 22 → r ≠ 8 → q_slen.getD r 0 ≤ 6 ∧ (∀ i, i < q_slen.getD r 0 → 97 ≤ ((q_sbyt.getD r []).getD i 0).toInt ∧ ((q_sbyt.getD r []).getD i 0).toInt ≤ 122) := by decide +kernel
  exact fun r hr => h r hr.1 hr.2
theorem y_cw_wv : ∀ r, r < 22 → r ≠ 8 → tx_wv (y_ch r) 0 (q_slen.getD r 0) = y_cw r := by decide +kernel
theorem y_ch_le {r : Nat} (hr : y_isw r) (j : Int) (h0 : 0 ≤ j) (h1 : j < ((q_slen.getD r 0 : Nat) : Int)) : tx_le (y_ch r j) := (y_isw_le r hr).2 j.toNat (by omega)
/-- by its number -/
theorem y_wd_iff {B : Int → Int} {b e : Int} {r : Nat} (hr : y_isw r) (hbe : b ≤ e) (hl : ∀ j, b ≤ j → j < e → tx_le (B j)) {word : Int} (h8 : e - b ≤ 8 → word = tx_wv B b (e - b).toNat) (h9 : 8 < e - b → word = -1) : y_wd B b e r ↔ word = y_cw r := by
  have ln := (y_isw_le r hr).1
  have cw := y_cw_wv r hr.1 hr.2
  constructor
  · rintro ⟨h1, h2⟩
    rw [h8 (by omega), ← cw, h1, Int.toNat_natCast]
    exact tx_wv_ext (fun i hi => by rw [Int.zero_add]; exact h2 i hi)
  · intro h
    by_cases q : e - b ≤ 8
    · rw [h8 q, ← cw] at h
      have z := tx_wv_inj (B := B) (B' := y_ch r) (b := b) (b' := 0) (k := (e - b).toNat) (k' := q_slen.getD r 0) (fun j a c => hl j a (by omega)) (fun j a c => y_ch_le hr j a (by omega)) h
      refine ⟨by omega, fun i hi => ?_⟩
      have := z.2 i (by omega)
      rw [Int.zero_add] at this
      exact this
    · rw [h9 (by omega)] at h
      have p : 0 ≤ y_cw r := by rw [← cw]; exact (tx_wv_b (fun j a c => y_ch_le hr j a (by omega))).1
      omega

section WD
variable {X : XW} {σ τ : ST} {R T a : Nat} {n : Int} {B : Int → Int}
theorem tc_isWordL (E : tc_E X σ R T n B) {b e : Int} (hb : (σ.1 R 2).toInt = b) (h0 : 0 ≤ b) (hen : e ≤ n) {r : Nat} (hr : r < 22) (hlen : e - b = ((q_slen.getD r 0 : Nat) : Int)) (k : Nat) : ∀ x : Int32, (2147483647 - x.toInt).toNat < k → 0 ≤ x.toInt → x.toInt ≤ e - b → ((F_X3_isWord_L23_1 X σ r R k x).toInt = 1 ∨ (F_X3_isWord_L23_1 X σ r R k x).toInt = 0) ∧ ((F_X3_isWord_L23_1 X σ r R k x).toInt = 1 ↔ ∀ i : Nat, x.toInt ≤ (i : Int) → i < q_slen.getD r 0 → B (b + (i : Int)) = y_ch r (i : Int)) := by
  have E3 := E.2.2.1
  induction k with
  | zero => intro x hm; exact absurd hm (Nat.not_lt_zero _)
  | succ k ih =>
    intro x hm x0 x1
    rw [F_X3_isWord_L23_1_s]
    simp only [F_X3_isWord_B23_1, ↓q_letE]
    rw [tj_len, tj_chr r (v := x) rfl]
    by_cases q : x.toInt < ((q_slen.getD r 0 : Nat) : Int)
    · rw [if_pos q, tc_sig E hb ⟨h0, by omega⟩ (v := x) rfl ⟨x0, by omega⟩, tx_D_in (by omega) (by omega)]
      have ex : ((x.toInt.toNat : Nat) : Int) = x.toInt := by omega
      by_cases q1 : y_ch r x.toInt = B (b + x.toInt)
      · rw [if_pos q1]
        have e1 : (x + 1).toInt = x.toInt + 1 := y_inc (by omega)
        obtain ⟨i1, i2⟩ := ih (x + 1) (by omega) (by omega) (by omega)
        refine ⟨i1, ?_⟩
        rw [i2, e1]
        constructor
        · intro h i a c
          by_cases hi : (i : Int) = x.toInt
          · rw [hi]; exact q1.symm
          · exact h i (by omega) c
        · intro h i a c
          exact h i (by omega) c
      · rw [if_neg q1]
        refine ⟨Or.inr rfl, ⟨fun h => absurd h (by decide), fun h => absurd ?_ q1⟩⟩
        have := h x.toInt.toNat (by omega) (by omega)
        rw [ex] at this
        exact this.symm
    · rw [if_neg q]
      exact ⟨Or.inl rfl, ⟨fun _ i a c => by omega, fun _ => rfl⟩⟩
theorem tc_isWord (E : tc_E X σ R T n B) {b e : Int} (hb : (σ.1 R 2).toInt = b) (he : (σ.1 R 3).toInt = e) (h0 : 0 ≤ b) (hbe : b ≤ e) (hen : e ≤ n) {r : Nat} (hr : r < 22) : ((F_X3_isWord X σ R r).toInt = 1 ∨ (F_X3_isWord X σ R r).toInt = 0) ∧ ((F_X3_isWord X σ R r).toInt = 1 ↔ ((σ.1 R 4).toInt = 1 ∧ y_wd B b e r)) := by
  have E3 := E.2.2.1
  have sz : (F_X3_size X σ R).toInt = e - b := by
    simp only [F_X3_size, ↓q_letE]
    rw [ar_sub, he, hb, ar_wr (by omega) (by omega)]
  simp only [F_X3_isWord, ↓q_letE]
  rw [sz, tj_len]
  by_cases q : (σ.1 R 4).toInt = 1
  · rw [if_pos q]
    by_cases q1 : e - b = ((q_slen.getD r 0 : Nat) : Int)
    · rw [if_pos q1]
      obtain ⟨z1, z2⟩ := tc_isWordL E hb h0 hen hr q1 ((2147483647 - (0 : Int32).toInt).toNat + 1) 0 (by decide) (by decide) (by show (0 : Int) ≤ _; omega)
      refine ⟨z1, ?_⟩
      rw [z2]
      constructor
      · intro h
        exact ⟨q, q1, fun i hi => h i (Int.natCast_nonneg i) hi⟩
      · rintro ⟨_, _, h⟩ i _ hi
        exact h i hi
    · rw [if_neg q1]
      exact ⟨Or.inr rfl, ⟨fun h => absurd h (by decide), fun h => absurd h.2.1 q1⟩⟩
  · rw [if_neg q]
    exact ⟨Or.inr rfl, ⟨fun h => absurd h (by decide), fun h => absurd h.1 q⟩⟩
theorem tm_isWord (w : Int64) : (F_X12_isWord X σ a w).toInt = if (σ.1 a 14).toInt = 1 ∧ (σ.2.1 a 19).toInt = w.toInt then 1 else 0 := by
  simp only [F_X12_isWord, ↓q_letE]
  by_cases q : (σ.1 a 14).toInt = 1
  · rw [if_pos q]
    have hc := lg_cmp_eq (σ.2.1 a 19) w
    by_cases q1 : (σ.2.1 a 19).toInt = w.toInt
    · have e : σ.2.1 a 19 = w := Int64.toInt_inj.mp q1
      rw [hc.mpr e, if_pos (by decide), if_pos ⟨q, q1⟩]
      rfl
    · have e : ¬ (lg_cmp (σ.2.1 a 19) w).toInt = 0 := fun h => q1 (congrArg Int64.toInt (hc.mp (q_eqI.mpr h)))
      rw [if_neg e, if_neg (fun h => q1 h.2)]
      rfl
  · rw [if_neg q, if_neg (fun h => q h.1)]
    rfl

theorem sp_kinds : (F_X12_spelled X σ (107 : Int32) (105 : Int32) (110 : Int32) (100 : Int32) (115 : Int32) (0 : Int32)).toInt = 11843731 := by
  simp only [F_X12_spelled, ↓q_letE]
  decide +kernel
theorem sp_each : (F_X12_spelled X σ (101 : Int32) (97 : Int32) (99 : Int32) (104 : Int32) (0 : Int32) (0 : Int32)).toInt = 164968 := by
  simp only [F_X12_spelled, ↓q_letE]
  decide +kernel
theorem sp_law : (F_X12_spelled X σ (108 : Int32) (97 : Int32) (119 : Int32) (0 : Int32) (0 : Int32) (0 : Int32)).toInt = 12343 := by
  simp only [F_X12_spelled, ↓q_letE]
  decide +kernel
theorem sp_up : (F_X12_spelled X σ (117 : Int32) (112 : Int32) (0 : Int32) (0 : Int32) (0 : Int32) (0 : Int32)).toInt = 688 := by
  simp only [F_X12_spelled, ↓q_letE]
  decide +kernel
theorem sp_down : (F_X12_spelled X σ (100 : Int32) (111 : Int32) (119 : Int32) (110 : Int32) (0 : Int32) (0 : Int32)).toInt = 147182 := by
  simp only [F_X12_spelled, ↓q_letE]
  decide +kernel
theorem sp_same : (F_X12_spelled X σ (115 : Int32) (97 : Int32) (109 : Int32) (101 : Int32) (0 : Int32) (0 : Int32)).toInt = 624037 := by
  simp only [F_X12_spelled, ↓q_letE]
  decide +kernel
theorem sp_most : (F_X12_spelled X σ (109 : Int32) (111 : Int32) (115 : Int32) (116 : Int32) (0 : Int32) (0 : Int32)).toInt = 441972 := by
  simp only [F_X12_spelled, ↓q_letE]
  decide +kernel
theorem sp_player : (F_X12_spelled X σ (112 : Int32) (108 : Int32) (97 : Int32) (121 : Int32) (101 : Int32) (114 : Int32)).toInt = 549512370 := by
  simp only [F_X12_spelled, ↓q_letE]
  decide +kernel
theorem sp_lies : (F_X12_spelled X σ (108 : Int32) (105 : Int32) (101 : Int32) (115 : Int32) (0 : Int32) (0 : Int32)).toInt = 402611 := by
  simp only [F_X12_spelled, ↓q_letE]
  decide +kernel
theorem sp_doubts : (F_X12_spelled X σ (100 : Int32) (111 : Int32) (117 : Int32) (98 : Int32) (116 : Int32) (115 : Int32)).toInt = 150637203 := by
  simp only [F_X12_spelled, ↓q_letE]
  decide +kernel
theorem sp_hand : (F_X12_spelled X σ (104 : Int32) (97 : Int32) (110 : Int32) (100 : Int32) (0 : Int32) (0 : Int32)).toInt = 263620 := by
  simp only [F_X12_spelled, ↓q_letE]
  decide +kernel
theorem sp_of : (F_X12_spelled X σ (111 : Int32) (102 : Int32) (0 : Int32) (0 : Int32) (0 : Int32) (0 : Int32)).toInt = 486 := by
  simp only [F_X12_spelled, ↓q_letE]
  decide +kernel
theorem sp_end : (F_X12_spelled X σ (101 : Int32) (110 : Int32) (100 : Int32) (0 : Int32) (0 : Int32) (0 : Int32)).toInt = 5572 := by
  simp only [F_X12_spelled, ↓q_letE]
  decide +kernel
theorem sp_turn : (F_X12_spelled X σ (116 : Int32) (117 : Int32) (114 : Int32) (110 : Int32) (0 : Int32) (0 : Int32)).toInt = 677454 := by
  simp only [F_X12_spelled, ↓q_letE]
  decide +kernel
theorem sp_stop : (F_X12_spelled X σ (115 : Int32) (116 : Int32) (111 : Int32) (112 : Int32) (0 : Int32) (0 : Int32)).toInt = 643568 := by
  simp only [F_X12_spelled, ↓q_letE]
  decide +kernel
theorem sp_loop : (F_X12_spelled X σ (108 : Int32) (111 : Int32) (111 : Int32) (112 : Int32) (0 : Int32) (0 : Int32)).toInt = 409072 := by
  simp only [F_X12_spelled, ↓q_letE]
  decide +kernel
theorem sp_when : (F_X12_spelled X σ (119 : Int32) (104 : Int32) (101 : Int32) (110 : Int32) (0 : Int32) (0 : Int32)).toInt = 762030 := by
  simp only [F_X12_spelled, ↓q_letE]
  decide +kernel
theorem sp_cards : (F_X12_spelled X σ (99 : Int32) (97 : Int32) (114 : Int32) (100 : Int32) (115 : Int32) (0 : Int32)).toInt = 3197075 := by
  simp only [F_X12_spelled, ↓q_letE]
  decide +kernel
theorem sp_heap : (F_X12_spelled X σ (104 : Int32) (101 : Int32) (97 : Int32) (112 : Int32) (0 : Int32) (0 : Int32)).toInt = 267312 := by
  simp only [F_X12_spelled, ↓q_letE]
  decide +kernel
theorem sp_shown : (F_X12_spelled X σ (115 : Int32) (104 : Int32) (111 : Int32) (119 : Int32) (110 : Int32) (0 : Int32)).toInt = 20201198 := by
  simp only [F_X12_spelled, ↓q_letE]
  decide +kernel
theorem sp_won : (F_X12_spelled X σ (119 : Int32) (111 : Int32) (110 : Int32) (0 : Int32) (0 : Int32) (0 : Int32)).toInt = 24046 := by
  simp only [F_X12_spelled, ↓q_letE]
  decide +kernel
theorem tm_isKinds : (F_X12_isKinds X σ a).toInt = if (σ.1 a 14).toInt = 1 ∧ (σ.2.1 a 19).toInt = 11843731 then 1 else 0 := by
  simp only [F_X12_isKinds, ↓q_letE]
  rw [tm_isWord, sp_kinds]
theorem tm_isEach : (F_X12_isEach X σ a).toInt = if (σ.1 a 14).toInt = 1 ∧ (σ.2.1 a 19).toInt = 164968 then 1 else 0 := by
  simp only [F_X12_isEach, ↓q_letE]
  rw [tm_isWord, sp_each]
theorem tm_isLaw : (F_X12_isLaw X σ a).toInt = if (σ.1 a 14).toInt = 1 ∧ (σ.2.1 a 19).toInt = 12343 then 1 else 0 := by
  simp only [F_X12_isLaw, ↓q_letE]
  rw [tm_isWord, sp_law]
theorem tm_isMost : (F_X12_isMost X σ a).toInt = if (σ.1 a 14).toInt = 1 ∧ (σ.2.1 a 19).toInt = 441972 then 1 else 0 := by
  simp only [F_X12_isMost, ↓q_letE]
  rw [tm_isWord, sp_most]
theorem tm_isPlayer : (F_X12_isPlayer X σ a).toInt = if (σ.1 a 14).toInt = 1 ∧ (σ.2.1 a 19).toInt = 549512370 then 1 else 0 := by
  simp only [F_X12_isPlayer, ↓q_letE]
  rw [tm_isWord, sp_player]
theorem tm_isLies : (F_X12_isLies X σ a).toInt = if (σ.1 a 14).toInt = 1 ∧ (σ.2.1 a 19).toInt = 402611 then 1 else 0 := by
  simp only [F_X12_isLies, ↓q_letE]
  rw [tm_isWord, sp_lies]
theorem tm_isDoubts : (F_X12_isDoubts X σ a).toInt = if (σ.1 a 14).toInt = 1 ∧ (σ.2.1 a 19).toInt = 150637203 then 1 else 0 := by
  simp only [F_X12_isDoubts, ↓q_letE]
  rw [tm_isWord, sp_doubts]
theorem tm_isHand : (F_X12_isHand X σ a).toInt = if (σ.1 a 14).toInt = 1 ∧ (σ.2.1 a 19).toInt = 263620 then 1 else 0 := by
  simp only [F_X12_isHand, ↓q_letE]
  rw [tm_isWord, sp_hand]
theorem tm_isOf : (F_X12_isOf X σ a).toInt = if (σ.1 a 14).toInt = 1 ∧ (σ.2.1 a 19).toInt = 486 then 1 else 0 := by
  simp only [F_X12_isOf, ↓q_letE]
  rw [tm_isWord, sp_of]
theorem tm_isEnd : (F_X12_isEnd X σ a).toInt = if (σ.1 a 14).toInt = 1 ∧ (σ.2.1 a 19).toInt = 5572 then 1 else 0 := by
  simp only [F_X12_isEnd, ↓q_letE]
  rw [tm_isWord, sp_end]
theorem tm_if1 {P : Prop} {i : Decidable P} : ((if P then (1 : Int) else 0) = 0) ↔ ¬ P := by
  constructor
  · intro h q; rw [if_pos q] at h; exact absurd h (by decide)
  · intro q; rw [if_neg q]
theorem tm_lawWord : (F_X12_lawWord X σ a).toInt = if (σ.1 a 14).toInt = 1 ∧ (σ.2.1 a 19).toInt = 688 then 0 else if (σ.1 a 14).toInt = 1 ∧ (σ.2.1 a 19).toInt = 147182 then 1 else if (σ.1 a 14).toInt = 1 ∧ (σ.2.1 a 19).toInt = 624037 then 2 else -1 := by
  simp only [F_X12_lawWord, ↓q_letE]
  rw [tm_isWord, tm_isWord, tm_isWord, sp_up, sp_down, sp_same]
  simp only [tm_if1]
  repeat' split
  all_goals first | rfl | (exfalso; omega)
theorem tm_stepWord : (F_X12_stepWord X σ a).toInt = if (σ.1 a 14).toInt = 1 ∧ (σ.2.1 a 19).toInt = 677454 then 0 else if (σ.1 a 14).toInt = 1 ∧ (σ.2.1 a 19).toInt = 402611 then 1 else if (σ.1 a 14).toInt = 1 ∧ (σ.2.1 a 19).toInt = 150637203 then 2 else if (σ.1 a 14).toInt = 1 ∧ (σ.2.1 a 19).toInt = 762030 then 3 else if (σ.1 a 14).toInt = 1 ∧ (σ.2.1 a 19).toInt = 409072 then 4 else if (σ.1 a 14).toInt = 1 ∧ (σ.2.1 a 19).toInt = 643568 then 5 else -1 := by
  simp only [F_X12_stepWord, ↓q_letE]
  rw [tm_isWord, tm_isLies, tm_isDoubts, tm_isWord, tm_isWord, tm_isWord, sp_turn, sp_when, sp_loop, sp_stop]
  simp only [tm_if1]
  repeat' split
  all_goals first | rfl | (exfalso; omega)
theorem tm_testWord : (F_X12_testWord X σ a).toInt = if (σ.1 a 14).toInt = 1 ∧ (σ.2.1 a 19).toInt = 3197075 then 0 else if (σ.1 a 14).toInt = 1 ∧ (σ.2.1 a 19).toInt = 267312 then 1 else if (σ.1 a 14).toInt = 1 ∧ (σ.2.1 a 19).toInt = 20201198 then 2 else if (σ.1 a 14).toInt = 1 ∧ (σ.2.1 a 19).toInt = 24046 then 3 else -1 := by
  simp only [F_X12_testWord, ↓q_letE]
  rw [tm_isWord, tm_isWord, tm_isWord, tm_isWord, sp_cards, sp_heap, sp_shown, sp_won]
  simp only [tm_if1]
  repeat' split
  all_goals first | rfl | (exfalso; omega)
/-- the numbers of the words that are no names -/
def y_res : List Int := [11843731, 164968, 12343, 441972, 549512370, 402611, 150637203, 263620, 486, 688, 147182, 624037, 677454, 762030, 3197075, 267312, 24046, 20201198, 409072, 5572, 643568]
theorem tm_isKept (h1 : (σ.1 a 14).toInt = 1) : (F_X12_isKept X σ a).toInt = if (σ.2.1 a 19).toInt ∈ y_res then 1 else 0 := by
  obtain ⟨w, hw⟩ : ∃ w, (σ.2.1 a 19).toInt = w := ⟨_, rfl⟩
  simp only [F_X12_isKept, ↓q_letE]
  rw [tm_isKinds, tm_isEach, tm_isLaw, tm_isMost, tm_isPlayer, tm_isHand, tm_isOf, tm_lawWord, tm_stepWord, tm_testWord, tm_isEnd]
  simp only [tm_if1, hw, h1, true_and]
  by_cases m : w ∈ y_res
  · rw [if_pos m]
    simp only [y_res, List.mem_cons, List.not_mem_nil, or_false] at m
    rcases m with rfl | rfl | rfl | rfl | rfl | rfl | rfl | rfl | rfl | rfl | rfl | rfl | rfl | rfl | rfl | rfl | rfl | rfl | rfl | rfl | rfl <;> rfl
  · rw [if_neg m]
    simp only [y_res, List.mem_cons, List.not_mem_nil, or_false, not_or] at m
    obtain ⟨m0, m1, m2, m3, m4, m5, m6, m7, m8, m9, m10, m11, m12, m13, m14, m15, m16, m17, m18, m19, m20⟩ := m
    simp only [*, if_false, not_false_eq_true, if_true]
    rfl
end WD
end
/-! FROM 48h.lock.lean.txt -/
section
/-! THE TWO READERS, STEP BY STEP -/
/-- the reader's cells: token, fault, place -/
def tc_S2 (R : Nat) : Nat → Nat → Prop := fun b f => b = R ∧ 2 ≤ f ∧ f ≤ 7
def tn_S2 (a : Nat) : Nat → Nat → Prop := fun b f => b = a ∧ 12 ≤ f ∧ f ≤ 18
/-- both stand at the same token -/
def tl_K (σ : ST) (R : Nat) (τ : ST) (a : Nat) (B : Int → Int) (n : Int) : Prop :=
  (σ.1 R 2).toInt = (τ.1 a 15).toInt ∧ (σ.1 R 3).toInt = (τ.1 a 16).toInt ∧ (σ.1 R 4).toInt = (τ.1 a 14).toInt ∧ ((τ.1 a 14).toInt = 2 → (σ.1 R 5).toInt = (τ.1 a 17).toInt) ∧
  tx_cls B n (τ.1 a 15).toInt (τ.1 a 16).toInt (τ.1 a 14).toInt (τ.1 a 17).toInt ∧ tm_ext B (τ.1 a 15).toInt (τ.1 a 16).toInt (τ.1 a 14).toInt (τ.1 a 17).toInt (τ.1 a 18).toInt (τ.2.1 a 19).toInt ∧ 0 ≤ (τ.1 a 15).toInt ∧ (τ.1 a 15).toInt ≤ n ∧ (σ.1 R 6).toInt = 0 ∧ (σ.1 R 7).toInt = -1
/-- both have the same fault -/
def tl_F (σ : ST) (R : Nat) (τ : ST) (a : Nat) : Prop := (σ.1 R 6).toInt = (τ.1 a 12).toInt ∧ 0 < (τ.1 a 12).toInt ∧ (σ.1 R 7).toInt = (τ.1 a 13).toInt
theorem tx_cls_b {B : Int → Int} {n b e ty val : Int} (h : tx_cls B n b e ty val) (hb : b ≤ n) : b ≤ e ∧ e ≤ n ∧ 0 ≤ ty ∧ ty ≤ 4 ∧ (ty ≠ 0 → b < e) ∧ (ty = 0 ↔ b = n) := by
  rcases h with ⟨q1, q2, q3⟩ | ⟨q1, q2, q3, q4⟩ | ⟨q1, q2, q3, q4⟩ | ⟨q1, q2, q3, q4, q5⟩
  · omega
  · have b1 := tx_run_le q4 (by omega)
    have b2 := tx_run_ne q4 ⟨q1, q2⟩
    omega
  · have b1 := tx_run_le q3 (by omega)
    have b2 := tx_run_ne q3 ⟨q1, q2⟩
    omega
  · omega
section TL
variable {X : XW} {σ τ : ST} {R T a : Nat} {n : Int} {B : Int → Int}
theorem tc_E.k2 {σ' : ST} (E : tc_E X σ R T n B) (h : tk (tc_S2 R) σ σ') : tc_E X σ' R T n B := E.k h (fun b f q => ⟨fun e => E.2.2.2.1 (e.symm.trans q.1), fun e => absurd q.2.1 (by rw [e.2]; decide)⟩)
theorem tm_E.k2 {τ' : ST} (E : tm_E X τ a n B) (h : tkl (tn_S2 a) (tn_L a) τ τ') : tm_E X τ' a n B := E.k h (fun b f q => ⟨fun e => E.2.2.1 (e.symm.trans q.1), fun e => absurd q.2.1 (by rw [e.2]; decide)⟩)
theorem tc_S_S2 {R : Nat} : ∀ b f, tc_S R b f → tc_S2 R b f := fun _ _ h => ⟨h.1, h.2.1, by have := h.2.2; omega⟩
theorem tn_S_S2 {a : Nat} : ∀ b f, tn_S a b f → tn_S2 a b f := fun _ _ h => ⟨h.1, by have := h.2.1; omega, h.2.2⟩
/-- where both ends are the same, both go on to the same token -/
theorem tl_adv (E : tc_E X σ R T n B) (M : tm_E X τ a n B) {p : Int} (hc : (σ.1 R 3).toInt = p) (hm : (τ.1 a 16).toInt = p) (h0 : 0 ≤ p ∧ p ≤ n) (h6 : (σ.1 R 6).toInt = 0) (h7 : (σ.1 R 7).toInt = -1) :
    tk (tc_S R) σ (F_X3_advance X σ R) ∧ tkl (tn_S a) (tn_L a) τ (F_X12_next X τ a) ∧ tl_K (F_X3_advance X σ R) R (F_X12_next X τ a) a B n ∧ p ≤ ((F_X12_next X τ a).1 a 15).toInt := by
  obtain ⟨c1, c2⟩ := tc_adv E hc h0
  obtain ⟨m1, m2, m3⟩ := tm_next M hm h0
  obtain ⟨u1, u2, u3, u4⟩ := tx_tok_u m2 c2
  have bb := tx_tok_b m2 h0
  have c6 : ((F_X3_advance X σ R).1 R 6).toInt = 0 := by rw [c1.1 R 6 (fun q => absurd q.2.2 (by decide))]; exact h6
  have c7 : ((F_X3_advance X σ R).1 R 7).toInt = -1 := by rw [c1.1 R 7 (fun q => absurd q.2.2 (by decide))]; exact h7
  exact ⟨c1, m1, ⟨u1, u2, u3, fun h => u4 h, m2.2, m3, by omega, by omega, c6, c7⟩, bb.1⟩
theorem tl_K.b (K : tl_K σ R τ a B n) : (τ.1 a 15).toInt ≤ (τ.1 a 16).toInt ∧ (τ.1 a 16).toInt ≤ n ∧ 0 ≤ (τ.1 a 14).toInt ∧ (τ.1 a 14).toInt ≤ 4 ∧ ((τ.1 a 14).toInt ≠ 0 → (τ.1 a 15).toInt < (τ.1 a 16).toInt) ∧ ((τ.1 a 14).toInt = 0 ↔ (τ.1 a 15).toInt = n) := by
  obtain ⟨k1, k2, k3, k4, k5, k6, k7, k8⟩ := K
  exact tx_cls_b k5 k8.1
theorem tl_adv2 (E : tc_E X σ R T n B) (M : tm_E X τ a n B) (K : tl_K σ R τ a B n) : tk (tc_S R) σ (F_X3_advance X σ R) ∧ tkl (tn_S a) (tn_L a) τ (F_X12_next X τ a) ∧ tl_K (F_X3_advance X σ R) R (F_X12_next X τ a) a B n ∧ (τ.1 a 16).toInt ≤ ((F_X12_next X τ a).1 a 15).toInt := by
  have b := K.b
  have k7 := K.2.2.2.2.2.2
  exact tl_adv E M K.2.1 rfl ⟨by omega, by omega⟩ k7.2.2.1 k7.2.2.2
theorem tl_le (K : tl_K σ R τ a B n) (h : (τ.1 a 14).toInt = 1) : (∀ j, (τ.1 a 15).toInt ≤ j → j < (τ.1 a 16).toInt → tx_le (B j)) := by
  rcases K.2.2.2.2.1 with ⟨q1, q2, q3⟩ | ⟨q1, q2, q3, q4⟩ | ⟨q1, q2, q3, q4⟩ | ⟨q1, q2, q3, q4, q5⟩
  · omega
  · exact fun j a c => (q4.2.1 j a c).2
  · rcases q4 with ⟨_, z⟩ | ⟨_, z, _⟩ <;> omega
  · rcases q5 with ⟨_, z⟩ | ⟨_, z⟩ <;> omega
/-- a word of the text -/
theorem tl_isWord (E : tc_E X σ R T n B) (K : tl_K σ R τ a B n) {r : Nat} (hr : y_isw r) : (F_X3_isWord X σ R r).toInt = if (τ.1 a 14).toInt = 1 ∧ (τ.2.1 a 19).toInt = y_cw r then 1 else 0 := by
  have b := K.b
  obtain ⟨k1, k2, k3, k4, k5, k6, k7, k8⟩ := id K
  obtain ⟨w1, w2⟩ := tc_isWord E k1 k2 k7 b.1 b.2.1 hr.1
  rw [k3] at w2
  by_cases q : (τ.1 a 14).toInt = 1
  · have x := k6.2 q
    have y := y_wd_iff hr b.1 (tl_le K q) x.2.1 x.2.2
    by_cases q2 : (τ.2.1 a 19).toInt = y_cw r
    · rw [if_pos ⟨q, q2⟩]
      exact w2.mpr ⟨q, y.mpr q2⟩
    · rw [if_neg (fun h => q2 h.2)]
      rcases w1 with w1 | w1
      · exact absurd (y.mp (w2.mp w1).2) q2
      · exact w1
  · rw [if_neg (fun h => q h.1)]
    rcases w1 with w1 | w1
    · exact absurd (w2.mp w1).1 q
    · exact w1
/-- the class's fault -/
theorem tc_fails (k : Int32) : ∃ σ' : ST, F_X3_fails X σ R k = (0, σ') ∧ tk (tc_S2 R) σ σ' ∧ (σ'.1 R 6).toInt = (if (σ.1 R 4).toInt = 4 then 1 else k.toInt) ∧ σ'.1 R 7 = σ.1 R 2 := by
  simp only [F_X3_fails, ↓q_letE]
  by_cases q : (σ.1 R 4).toInt = 4
  · rw [if_pos q, if_pos q]
    exact ⟨_, rfl, (tk.rf.si _ ⟨rfl, by decide, by decide⟩).si _ ⟨rfl, by decide, by decide⟩, by rw [si_f (by decide), si_eq]; rfl, by rw [si_eq, si_f (by decide)]⟩
  · rw [if_neg q, if_neg q]
    exact ⟨_, rfl, (tk.rf.si _ ⟨rfl, by decide, by decide⟩).si _ ⟨rfl, by decide, by decide⟩, by rw [si_f (by decide), si_eq], by rw [si_eq, si_f (by decide)]⟩
/-- the reference's fault -/
theorem tm_fail (h : (τ.1 a 12).toInt = 0) (k w : Int32) : tkl (tn_S2 a) (tn_L a) τ (F_X12_fail X τ a k w) ∧ ((F_X12_fail X τ a k w).1 a 12).toInt = k.toInt ∧ ((F_X12_fail X τ a k w).1 a 13).toInt = w.toInt := by
  simp only [F_X12_fail, ↓q_letE]
  rw [if_neg (by omega)]
  exact ⟨(tkl.rf.si _ ⟨rfl, by decide, by decide⟩).si _ ⟨rfl, by decide, by decide⟩, by rw [si_f (by decide), si_eq], by rw [si_eq]⟩
theorem tm_wrong (h : (τ.1 a 12).toInt = 0) : tkl (tn_S2 a) (tn_L a) τ (F_X12_wrong X τ a) ∧ ((F_X12_wrong X τ a).1 a 12).toInt = (if (τ.1 a 14).toInt = 4 then 1 else 2) ∧ ((F_X12_wrong X τ a).1 a 13).toInt = (τ.1 a 15).toInt := by
  simp only [F_X12_wrong, ↓q_letE]
  by_cases q : (τ.1 a 14).toInt = 4
  · rw [if_pos q, if_pos q]
    exact tm_fail h 1 _
  · rw [if_neg q, if_neg q]
    exact tm_fail h 2 _
theorem tm_must2 (h : 0 < (τ.1 a 12).toInt) (v : Int32) : F_X12_must X τ a v = τ := by
  simp only [F_X12_must, ↓q_letE]
  rw [if_pos h]
theorem tm_count2 (h : 0 < (τ.1 a 12).toInt) (v w : Int32) : F_X12_count X τ a v w = (0, τ) := by
  simp only [F_X12_count, F_X12_count_J19_1, ↓q_letE]
  have h0 : ¬ (τ.1 a 12).toInt = 0 := by omega
  rw [if_neg h0, if_neg h0, if_pos h]
/-- both fail at the same token -/
theorem tl_wrong (K : tl_K σ R τ a B n) (h : (τ.1 a 12).toInt = 0) : ∃ σ' : ST, F_X3_fails X σ R 2 = (0, σ') ∧ tk (tc_S2 R) σ σ' ∧ tkl (tn_S2 a) (tn_L a) τ (F_X12_wrong X τ a) ∧ tl_F σ' R (F_X12_wrong X τ a) a := by
  obtain ⟨k1, k2, k3, -⟩ := id K
  obtain ⟨σ', a1, a2, a3, a4⟩ := tc_fails (X := X) (σ := σ) (R := R) 2
  obtain ⟨m1, m2, m3⟩ := tm_wrong (X := X) h
  have e2 : (2 : Int32).toInt = 2 := rfl
  refine ⟨σ', a1, a2, m1, ?_, ?_, ?_⟩
  · rw [a3, m2, k3, e2]
  · rw [m2]; split <;> decide
  · rw [a4, m3, k1]
/-- both fail with a fault of their own, at a token that is one -/
theorem tl_fail (K : tl_K σ R τ a B n) (h : (τ.1 a 12).toInt = 0) (h4 : (τ.1 a 14).toInt ≠ 4) {k : Int32} (hk : 0 < k.toInt) {w : Int32} (hw : w.toInt = (τ.1 a 15).toInt) : ∃ σ' : ST, F_X3_fails X σ R k = (0, σ') ∧ tk (tc_S2 R) σ σ' ∧ tkl (tn_S2 a) (tn_L a) τ (F_X12_fail X τ a k w) ∧ tl_F σ' R (F_X12_fail X τ a k w) a := by
  obtain ⟨k1, k2, k3, -⟩ := id K
  obtain ⟨σ', a1, a2, a3, a4⟩ := tc_fails (X := X) (σ := σ) (R := R) k
  obtain ⟨m1, m2, m3⟩ := tm_fail (X := X) h k w
  refine ⟨σ', a1, a2, m1, ?_, ?_, ?_⟩
  · rw [a3, m2, k3, if_neg h4]
  · rw [m2]; exact hk
  · rw [a4, m3, k1, hw]
/-- what comes of a step: both went on, or both failed -/
def tl_O (X : XW) (σ : ST) (R : Nat) (τ : ST) (a : Nat) (B : Int → Int) (n : Int) (ok : Prop) (σ' τ' : ST) : Prop :=
  tk (tc_S2 R) σ σ' ∧ tkl (tn_S2 a) (tn_L a) τ τ' ∧ (ok ∧ tl_K σ' R τ' a B n ∧ (τ'.1 a 12).toInt = 0 ∧ (τ.1 a 16).toInt ≤ (τ'.1 a 15).toInt ∨ ¬ ok ∧ tl_F σ' R τ' a)
theorem tk.S2 {σ σ' : ST} {R : Nat} (h : tk (tc_S R) σ σ') : tk (tc_S2 R) σ σ' := h.mono tc_S_S2
theorem tkl.S2 {τ τ' : ST} {a : Nat} (h : tkl (tn_S a) (tn_L a) τ τ') : tkl (tn_S2 a) (tn_L a) τ τ' := h.mono tn_S_S2 (fun _ _ h => h)
theorem tn_12 {τ τ' : ST} (h : tkl (tn_S a) (tn_L a) τ τ') : τ'.1 a 12 = τ.1 a 12 := h.1 a 12 (fun q => absurd q.2.1 (by decide))
/-- a word that must stand there -/
theorem tl_passWord (E : tc_E X σ R T n B) (M : tm_E X τ a n B) (K : tl_K σ R τ a B n) (h : (τ.1 a 12).toInt = 0) {r : Nat} (hr : y_isw r) {v : Int32} (hv : v.toInt = if (τ.1 a 14).toInt = 1 ∧ (τ.2.1 a 19).toInt = y_cw r then 1 else 0) :
    ∃ (z : Int32) (σ' : ST), F_X3_passWord X σ R r = (z, σ') ∧ (z.toInt = 0 ∨ z.toInt = 1) ∧ tl_O X σ R τ a B n (z.toInt = 1) σ' (F_X12_must X τ a v) := by
  have w := tl_isWord E K hr
  simp only [F_X3_passWord, F_X12_must, ↓q_letE, ↓q_biE]
  rw [w, hv, h, if_neg (by decide : ¬ (0 : Int) < 0)]
  by_cases q : (τ.1 a 14).toInt = 1 ∧ (τ.2.1 a 19).toInt = y_cw r
  · rw [if_pos q, if_neg (by decide), if_neg (by decide)]
    obtain ⟨c1, c2, c3, c4⟩ := tl_adv2 E M K
    exact ⟨1, _, rfl, Or.inr rfl, c1.S2, c2.S2, Or.inl ⟨rfl, c3, by rw [tn_12 c2]; exact h, c4⟩⟩
  · rw [if_neg q, if_pos rfl, if_pos rfl]
    obtain ⟨σ', a1, a2, a3, a4⟩ := tl_wrong (X := X) K h
    rw [a1]
    exact ⟨0, σ', rfl, Or.inl rfl, a2, a3, Or.inr ⟨by decide, a4⟩⟩
/-- a semicolon that must stand there -/
theorem tl_passSemi (E : tc_E X σ R T n B) (M : tm_E X τ a n B) (K : tl_K σ R τ a B n) (h : (τ.1 a 12).toInt = 0) :
    ∃ (z : Int32) (σ' : ST), F_X3_passSemicolon X σ R = (z, σ') ∧ (z.toInt = 0 ∨ z.toInt = 1) ∧ tl_O X σ R τ a B n (z.toInt = 1) σ' (F_X12_must X τ a (F_X12_isSign X τ a 59)) := by
  have b := K.b
  obtain ⟨k1, k2, k3, k4, k5, k6, k7, k8⟩ := id K
  have e59 : (59 : Int32).toInt = 59 := rfl
  have E3 := E.2.2.1
  simp only [F_X3_passSemicolon, F_X12_must, F_X12_isSign, ↓q_letE, ↓q_biE]
  rw [k3, h, if_neg (by decide : ¬ (0 : Int) < 0), e59]
  obtain ⟨σ', a1, a2, a3, a4⟩ := tl_wrong (X := X) K h
  by_cases q : (τ.1 a 14).toInt = 3
  · rw [if_pos q, if_pos q]
    have sg := tc_sig E k1 ⟨k7, by omega⟩ (v := 0) (i := 0) rfl ⟨by decide, by decide⟩
    rw [Int.add_zero, tx_D_in k7 (by omega)] at sg
    rw [sg, k6.1 q]
    by_cases q2 : B (τ.1 a 15).toInt = 59
    · rw [if_pos q2, if_pos q2, if_neg (by decide)]
      obtain ⟨c1, c2, c3, c4⟩ := tl_adv2 E M K
      exact ⟨1, _, rfl, Or.inr rfl, c1.S2, c2.S2, Or.inl ⟨rfl, c3, by rw [tn_12 c2]; exact h, c4⟩⟩
    · rw [if_neg q2, if_neg q2, if_pos (by decide), a1]
      exact ⟨0, σ', rfl, Or.inl rfl, a2, a3, Or.inr ⟨by decide, a4⟩⟩
  · rw [if_neg q, if_neg q, if_pos (by decide), a1]
    exact ⟨0, σ', rfl, Or.inl rfl, a2, a3, Or.inr ⟨by decide, a4⟩⟩
/-- a number that must stand there -/
theorem tm_isIn (x y z : Int64) : (F_X12_isIn X τ x y z).toInt = if y.toInt ≤ x.toInt ∧ x.toInt ≤ z.toInt then 1 else 0 := by
  have h1 := lg_cmp_lt x y
  have h2 := lg_cmp_gt x z
  rw [Int32.lt_iff_toInt_lt, Int64.lt_iff_toInt_lt] at h1 h2
  have z0 : (0 : Int32).toInt = 0 := rfl
  rw [z0] at h1 h2
  simp only [F_X12_isIn, ↓q_letE]
  by_cases q1 : x.toInt < y.toInt
  · rw [if_pos (h1.mpr q1), if_neg (by omega)]
    rfl
  · rw [if_neg (fun h => q1 (h1.mp h))]
    by_cases q2 : z.toInt < x.toInt
    · rw [if_pos (h2.mpr q2), if_neg (by omega)]
      rfl
    · rw [if_neg (fun h => q2 (h2.mp h)), if_pos (by omega)]
      rfl
/-- what the class does with a number: it stands there and is passed or not -/
theorem tl_mustNum (E : tc_E X σ R T n B) (M : tm_E X τ a n B) (K : tl_K σ R τ a B n) (h : (τ.1 a 12).toInt = 0) (lo hi : Int32) :
    ((τ.1 a 14).toInt = 2 ∧ lo.toInt ≤ (τ.1 a 17).toInt ∧ (τ.1 a 17).toInt ≤ hi.toInt ∧ F_X3_mustBeNumber X σ R lo hi = (1, σ) ∧ F_X12_count X τ a lo hi = (τ.1 a 17, F_X12_next X τ a)) ∨
    (∃ (σ' : ST) (v : Int32) (τ' : ST), F_X3_mustBeNumber X σ R lo hi = (0, σ') ∧ F_X12_count X τ a lo hi = (0, τ') ∧ tk (tc_S2 R) σ σ' ∧ tkl (tn_S2 a) (tn_L a) τ τ' ∧ tl_F σ' R τ' a) := by
  obtain ⟨k1, k2, k3, k4, k5, k6, k7, k8⟩ := id K
  simp only [F_X3_mustBeNumber, F_X12_count, F_X12_count_J19_1, ↓q_letE, ↓q_biE]
  by_cases q : (τ.1 a 14).toInt = 2
  · rw [k3, if_pos q, h, if_pos rfl, if_pos q, k4 q]
    simp only [h, if_true]
    rw [tm_isIn, ar_i2l, ar_i2l, ar_i2l]
    obtain ⟨σ', a1, a2, a3, a4⟩ := tl_fail (X := X) K h (by omega) (k := 4) (by decide) (w := τ.1 a 15) rfl
    have p4 : 0 < ((F_X12_fail X τ a 4 (τ.1 a 15)).1 a 12).toInt := a4.2.1
    have z0 : (0 : Int32).toInt = 0 := rfl
    by_cases q1 : (τ.1 a 17).toInt < lo.toInt
    · rw [if_pos q1, a1, if_neg (by omega : ¬ (lo.toInt ≤ (τ.1 a 17).toInt ∧ (τ.1 a 17).toInt ≤ hi.toInt)), if_pos rfl, if_pos p4]
      exact Or.inr ⟨σ', 0, _, by rw [z0, if_pos rfl], rfl, a2, a3, a4⟩
    · rw [if_neg q1]
      by_cases q2 : hi.toInt < (τ.1 a 17).toInt
      · rw [if_pos q2, a1, if_neg (by omega : ¬ (lo.toInt ≤ (τ.1 a 17).toInt ∧ (τ.1 a 17).toInt ≤ hi.toInt)), if_pos rfl, if_pos p4]
        exact Or.inr ⟨σ', 0, _, by rw [z0, if_pos rfl], rfl, a2, a3, a4⟩
      · rw [if_neg q2, if_pos (by omega : lo.toInt ≤ (τ.1 a 17).toInt ∧ (τ.1 a 17).toInt ≤ hi.toInt), if_neg (by decide), if_neg (by decide)]
        exact Or.inl ⟨q, by omega, by omega, rfl, rfl⟩
  · obtain ⟨σ', a1, a2, a3, a4⟩ := tl_wrong (X := X) K h
    have p4 : 0 < ((F_X12_wrong X τ a).1 a 12).toInt := a4.2.1
    rw [k3, if_neg q, h, if_pos rfl, if_neg q, a1, if_neg (by omega), if_pos p4]
    exact Or.inr ⟨σ', 0, _, rfl, rfl, a2, a3, a4⟩
theorem tl_passNum (E : tc_E X σ R T n B) (M : tm_E X τ a n B) (K : tl_K σ R τ a B n) (h : (τ.1 a 12).toInt = 0) (lo hi : Int32) (hlo : 0 ≤ lo.toInt) :
    ∃ (z w : Int32) (σ' τ' : ST), F_X3_passNumber X σ R lo hi = (z, σ') ∧ F_X12_count X τ a lo hi = (w, τ') ∧ tl_O X σ R τ a B n (z.toInt ≠ -1) σ' τ' ∧ (z.toInt ≠ -1 → z.toInt = w.toInt ∧ lo.toInt ≤ w.toInt ∧ w.toInt ≤ hi.toInt) ∧ (z.toInt = -1 → w.toInt = 0) := by
  obtain ⟨k1, k2, k3, k4, k5, k6, k7, k8⟩ := id K
  rcases tl_mustNum E M K h lo hi with ⟨m1, m2, m3, m4, m5⟩ | ⟨σ', v, τ', m1, m2, m3, m4, m5⟩
  · obtain ⟨c1, c2, c3, c4⟩ := tl_adv2 E M K
    have e : F_X3_passNumber X σ R lo hi = (σ.1 R 5, F_X3_advance X σ R) := by
      simp only [F_X3_passNumber, ↓q_letE, ↓q_biE]
      rw [m4]
      rfl
    have e5 := k4 m1
    exact ⟨_, _, _, _, e, m5, ⟨c1.S2, c2.S2, Or.inl ⟨by omega, c3, by rw [tn_12 c2]; exact h, c4⟩⟩, fun _ => ⟨e5, m2, m3⟩, fun q => by omega⟩
  · have e : F_X3_passNumber X σ R lo hi = (-1, σ') := by
      simp only [F_X3_passNumber, ↓q_letE, ↓q_biE]
      rw [m1]
      rfl
    exact ⟨_, _, _, _, e, m2, ⟨m3, m4, Or.inr ⟨by decide, m5⟩⟩, fun q => absurd rfl q, fun _ => rfl⟩
end TL
end
/-! FROM 48i.names.lean.txt -/
section
/-! NAMES: what is reserved, who is named -/
def y_chs (r : Nat) : List Int := (q_sbyt.getD r []).map Int32.toInt
def y_wl : List Nat := [0, 1, 2, 6, 7, 9, 10, 11, 12, 3, 4, 5, 14, 17, 18, 19, 21, 20, 16, 13, 15]
def y_flat : List Nat → List Int
  | [] => []
  | r :: rs => y_chs r ++ 32 :: y_flat rs
theorem y_rs : y_chs 8 = y_flat y_wl := by decide +kernel
theorem y_wl_w : ∀ r ∈ y_wl, r < 22 ∧ r ≠ 8 := by decide
theorem y_wl_res : y_res = y_wl.map y_cw := by decide +kernel
theorem y_chs_ne : ∀ r ∈ y_wl, ∀ c ∈ y_chs r, c ≠ 32 := by decide +kernel
theorem y_chs_len : ∀ r ∈ y_wl, (y_chs r).length = q_slen.getD r 0 := by decide +kernel
theorem y_chs8 : (y_chs 8).length = 105 := by decide +kernel
theorem y_slen8 : q_slen.getD 8 0 = 105 := by decide +kernel
/-- the class's automaton -/
def y_au (s : Int → Int) (sz : Int) : List Int → Int → Bool
  | [], _ => false
  | c :: cs, al => if c = 32 then (if al = sz then true else y_au s sz cs 0) else if al < 0 then y_au s sz cs al else if c = s al then y_au s sz cs (al + 1) else y_au s sz cs (-1)
def y_mt (s : Int → Int) (sz : Int) : List Int → Int → Bool
  | [], al => decide (al = sz)
  | c :: cs, al => decide (c = s al) && y_mt s sz cs (al + 1)
theorem y_au_neg {s : Int → Int} {sz : Int} (hz : 0 ≤ sz) (w rest : List Int) (hw : ∀ c ∈ w, c ≠ 32) (al : Int) (h : al < 0) : y_au s sz (w ++ 32 :: rest) al = y_au s sz rest 0 := by
  induction w with
  | nil =>
    show (if (32 : Int) = 32 then (if al = sz then true else y_au s sz rest 0) else _) = _
    rw [if_pos rfl, if_neg (by omega)]
  | cons c cs ih =>
    show (if c = 32 then _ else if al < 0 then y_au s sz (cs ++ 32 :: rest) al else _) = _
    rw [if_neg (hw c List.mem_cons_self), if_pos h]
    exact ih (fun d hd => hw d (List.mem_cons_of_mem _ hd))
theorem y_au_word {s : Int → Int} {sz : Int} (hz : 0 ≤ sz) (w rest : List Int) (hw : ∀ c ∈ w, c ≠ 32) : ∀ al : Int, 0 ≤ al → y_au s sz (w ++ 32 :: rest) al = (y_mt s sz w al || y_au s sz rest 0) := by
  induction w with
  | nil =>
    intro al h
    show (if (32 : Int) = 32 then (if al = sz then true else y_au s sz rest 0) else _) = (decide (al = sz) || y_au s sz rest 0)
    rw [if_pos rfl]
    by_cases q : al = sz
    · rw [if_pos q, decide_eq_true q]; rfl
    · rw [if_neg q, decide_eq_false q]; rfl
  | cons c cs ih =>
    intro al h
    show (if c = 32 then _ else if al < 0 then _ else if c = s al then y_au s sz (cs ++ 32 :: rest) (al + 1) else y_au s sz (cs ++ 32 :: rest) (-1)) = (decide (c = s al) && y_mt s sz cs (al + 1) || y_au s sz rest 0)
    have hcs : ∀ d ∈ cs, d ≠ 32 := fun d hd => hw d (List.mem_cons_of_mem _ hd)
    rw [if_neg (hw c List.mem_cons_self), if_neg (by omega)]
    by_cases q : c = s al
    · rw [if_pos q, decide_eq_true q, ih hcs (al + 1) (by omega)]; rfl
    · rw [if_neg q, decide_eq_false q, y_au_neg hz cs rest hcs (-1) (by decide)]; rfl
theorem y_au_all {s : Int → Int} {sz : Int} (hz : 0 ≤ sz) (ws : List Nat) (h : ∀ r ∈ ws, ∀ c ∈ y_chs r, c ≠ 32) : y_au s sz (y_flat ws) 0 = ws.any (fun r => y_mt s sz (y_chs r) 0) := by
  induction ws with
  | nil => rfl
  | cons r rs ih =>
    show y_au s sz (y_chs r ++ 32 :: y_flat rs) 0 = (y_mt s sz (y_chs r) 0 || rs.any (fun r => y_mt s sz (y_chs r) 0))
    rw [y_au_word hz (y_chs r) (y_flat rs) (h r List.mem_cons_self) 0 (Int.le_refl 0), ih (fun q hq => h q (List.mem_cons_of_mem _ hq))]
theorem y_mt_iff {s : Int → Int} {sz : Int} (w : List Int) : ∀ al : Int, y_mt s sz w al = true ↔ (al + (w.length : Int) = sz ∧ ∀ i : Nat, i < w.length → s (al + (i : Int)) = w.getD i 0) := by
  induction w with
  | nil =>
    intro al
    show decide (al = sz) = true ↔ _
    rw [decide_eq_true_iff]
    constructor
    · intro h
      exact ⟨by show al + ((0 : Nat) : Int) = sz; omega, fun i hi => absurd hi (Nat.not_lt_zero _)⟩
    · rintro ⟨h, _⟩
      have h2 : al + ((0 : Nat) : Int) = sz := h
      omega
  | cons c cs ih =>
    intro al
    show (decide (c = s al) && y_mt s sz cs (al + 1)) = true ↔ _
    rw [Bool.and_eq_true, decide_eq_true_iff, ih]
    have hl : ((c :: cs).length : Int) = (cs.length : Int) + 1 := by
      show ((cs.length + 1 : Nat) : Int) = _
      omega
    rw [hl]
    constructor
    · rintro ⟨h1, h2, h3⟩
      refine ⟨by omega, fun i hi => ?_⟩
      cases i with
      | zero => show s (al + ((0 : Nat) : Int)) = c; rw [h1]; congr 1; omega
      | succ i =>
        have := h3 i (Nat.lt_of_succ_lt_succ hi)
        show s (al + ((i + 1 : Nat) : Int)) = cs.getD i 0
        rw [← this]
        congr 1
        omega
    · rintro ⟨h1, h2⟩
      refine ⟨?_, by omega, fun i hi => ?_⟩
      · have := h2 0 (Nat.succ_pos _)
        have e : s (al + ((0 : Nat) : Int)) = c := this
        rw [← e]
        congr 1
        omega
      · have := h2 (i + 1) (Nat.succ_lt_succ hi)
        have e : s (al + ((i + 1 : Nat) : Int)) = cs.getD i 0 := this
        rw [← e]
        congr 1
        omega
theorem y_chs_get (r i : Nat) : (y_chs r).getD i 0 = y_ch r (i : Int) := by
  unfold y_chs y_ch
  generalize q_sbyt.getD r [] = l
  rw [Int.toNat_natCast, List.getD_eq_getElem?_getD, List.getD_eq_getElem?_getD, List.getElem?_map]
  cases l[i]? with
  | none => rfl
  | some c => rfl
section NM
variable {X : XW} {σ τ : ST} {R T a : Nat} {n : Int} {B : Int → Int}
theorem tc_resL (E : tc_E X σ R T n B) {b sz : Int} (hb : (σ.1 R 2).toInt = b) (h0 : 0 ≤ b ∧ b ≤ 900) (hsz : (F_X3_size X σ R).toInt = sz) (k : Nat) : ∀ (x1 x2 : Int32) (i : Nat), x2.toInt = (i : Int) → (2147483647 - x2.toInt).toNat < k → i ≤ 105 → -1 ≤ x1.toInt → x1.toInt ≤ (i : Int) → (F_X3_isReserved_L4_1 X σ R k x1 x2).toInt = if y_au (fun j => tx_D B n (b + j)) sz ((y_chs 8).drop i) x1.toInt = true then 1 else 0 := by
  induction k with
  | zero => intro x1 x2 i _ hm; exact absurd hm (Nat.not_lt_zero _)
  | succ k ih =>
    intro x1 x2 i hi hm hi2 h1 h2
    rw [F_X3_isReserved_L4_1_s]
    simp only [F_X3_isReserved_B4_1, ↓q_letE]
    rw [tj_len, y_slen8, tj_chr 8 hi, hsz, hi]
    by_cases q : (i : Int) < ((105 : Nat) : Int)
    · have hil : i < (y_chs 8).length := by rw [y_chs8]; omega
      have e1 : (x2 + 1).toInt = ((i + 1 : Nat) : Int) := by rw [y_inc (by omega), hi]; omega
      have dr : (y_chs 8).drop i = y_ch 8 (i : Int) :: (y_chs 8).drop (i + 1) := by
        rw [List.drop_eq_getElem_cons hil]
        congr 1
        rw [← y_chs_get]
        simp [List.getD, hil]
      rw [if_pos q, dr]
      have au : ∀ c cs al, y_au (fun j => tx_D B n (b + j)) sz (c :: cs) al = if c = 32 then (if al = sz then true else y_au (fun j => tx_D B n (b + j)) sz cs 0) else if al < 0 then y_au (fun j => tx_D B n (b + j)) sz cs al else if c = tx_D B n (b + al) then y_au (fun j => tx_D B n (b + j)) sz cs (al + 1) else y_au (fun j => tx_D B n (b + j)) sz cs (-1) := fun _ _ _ => rfl
      rw [au]
      by_cases q1 : y_ch 8 (i : Int) = 32
      · rw [if_pos q1, if_pos q1]
        by_cases q2 : x1.toInt = sz
        · rw [if_pos q2, if_pos q2, if_pos rfl]; rfl
        · rw [if_neg q2, if_neg q2]
          exact ih 0 (x2 + 1) (i + 1) e1 (by omega) (by omega) (by decide) (by show (0 : Int) ≤ _; omega)
      · rw [if_neg q1, if_neg q1]
        by_cases q2 : x1.toInt < 0
        · rw [if_pos q2, if_pos q2]
          exact ih x1 (x2 + 1) (i + 1) e1 (by omega) (by omega) h1 (by omega)
        · rw [if_neg q2, if_neg q2, tc_sig E hb h0 (v := x1) rfl ⟨by omega, by omega⟩]
          by_cases q3 : y_ch 8 (i : Int) = tx_D B n (b + x1.toInt)
          · rw [if_pos q3, if_pos q3]
            have e2 : (x1 + 1).toInt = x1.toInt + 1 := y_inc (by omega)
            have z := ih (x1 + 1) (x2 + 1) (i + 1) e1 (by omega) (by omega) (by omega) (by omega)
            rw [e2] at z
            exact z
          · rw [if_neg q3, if_neg q3]
            exact ih (-1) (x2 + 1) (i + 1) e1 (by omega) (by omega) (by decide) (by show (-1 : Int) ≤ _; omega)
    · rw [if_neg q]
      have e : i = 105 := by omega
      rw [e, List.drop_eq_nil_of_le (by rw [y_chs8]; exact Nat.le_refl _)]
      rfl
/-- the class's reserved words are the reference's -/
theorem tl_reserved (E : tc_E X σ R T n B) (K : tl_K σ R τ a B n) (h1 : (τ.1 a 14).toInt = 1) : (F_X3_isReserved X σ R).toInt = if (τ.2.1 a 19).toInt ∈ y_res then 1 else 0 := by
  have b := K.b
  obtain ⟨k1, k2, k3, k4, k5, k6, k7, k8⟩ := id K
  have E3 := E.2.2.1
  have x := k6.2 h1
  obtain ⟨sz, hsz0⟩ : ∃ sz, sz = (τ.1 a 16).toInt - (τ.1 a 15).toInt := ⟨_, rfl⟩
  have hsz : (F_X3_size X σ R).toInt = sz := by
    simp only [F_X3_size, ↓q_letE]
    rw [ar_sub, k2, k1, hsz0, ar_wr (by omega) (by omega)]
  have z := tc_resL E k1 ⟨k7, by omega⟩ hsz ((2147483647 - (0 : Int32).toInt).toNat + 1) 0 0 0 rfl (by decide) (by decide) (by decide) (by decide)
  unfold F_X3_isReserved
  rw [z]
  have ez : (0 : Int32).toInt = 0 := rfl
  rw [List.drop_zero, ez, y_rs, y_au_all (by omega) y_wl y_chs_ne]
  have key : (y_wl.any (fun r => y_mt (fun j => tx_D B n ((τ.1 a 15).toInt + j)) sz (y_chs r) 0) = true) ↔ (τ.2.1 a 19).toInt ∈ y_res := by
    rw [y_wl_res, List.any_eq_true, List.mem_map]
    constructor
    · rintro ⟨r, hr, hm⟩
      refine ⟨r, hr, ?_⟩
      obtain ⟨m1, m2⟩ := (y_mt_iff (y_chs r) 0).mp hm
      rw [y_chs_len r hr] at m1 m2
      refine ((y_wd_iff (y_wl_w r hr) b.1 (tl_le K h1) x.2.1 x.2.2).mp ⟨by omega, fun i hi => ?_⟩).symm
      have y := m2 i hi
      rw [Int.zero_add, y_chs_get, tx_D_in (by omega) (by omega)] at y
      exact y
    · rintro ⟨r, hr, hm⟩
      refine ⟨r, hr, ?_⟩
      obtain ⟨m1, m2⟩ := (y_wd_iff (y_wl_w r hr) b.1 (tl_le K h1) x.2.1 x.2.2).mpr hm.symm
      refine (y_mt_iff (y_chs r) 0).mpr ?_
      rw [y_chs_len r hr]
      refine ⟨by omega, fun i hi => ?_⟩
      have y := m2 i hi
      show tx_D B n ((τ.1 a 15).toInt + (0 + (i : Int))) = _
      rw [Int.zero_add, y_chs_get, tx_D_in (by omega) (by omega)]
      exact y
  by_cases q : (τ.2.1 a 19).toInt ∈ y_res
  · rw [if_pos q, if_pos (key.mpr q)]
  · rw [if_neg q, if_neg (fun h => q (key.mp h))]
/-- a name that must stand there -/
theorem tl_mustBeName (E : tc_E X σ R T n B) (M : tm_E X τ a n B) (K : tl_K σ R τ a B n) (h : (τ.1 a 12).toInt = 0) :
    ((F_X12_isName X τ a).toInt = 1 ∧ (τ.1 a 14).toInt = 1 ∧ (τ.1 a 16).toInt - (τ.1 a 15).toInt ≤ 8 ∧ F_X3_mustBeName X σ R = (1, σ)) ∨
    ((F_X12_isName X τ a).toInt = 0 ∧ ∃ σ' : ST, F_X3_mustBeName X σ R = (0, σ') ∧ tk (tc_S2 R) σ σ' ∧ tkl (tn_S2 a) (tn_L a) τ (F_X12_wrong X τ a) ∧ tl_F σ' R (F_X12_wrong X τ a) a) := by
  have b := K.b
  obtain ⟨k1, k2, k3, k4, k5, k6, k7, k8⟩ := id K
  have E3 := E.2.2.1
  obtain ⟨σ', a1, a2, a3, a4⟩ := tl_wrong (X := X) K h
  have hsz : (F_X3_size X σ R).toInt = (τ.1 a 16).toInt - (τ.1 a 15).toInt := by
    simp only [F_X3_size, ↓q_letE]
    rw [ar_sub, k2, k1, ar_wr (by omega) (by omega)]
  have z0 : (0 : Int32).toInt = 0 := rfl
  have z1 : (1 : Int32).toInt = 1 := rfl
  simp only [F_X12_isName, F_X3_mustBeName, ↓q_letE, ↓q_biE]
  rw [k3, hsz, a1]
  by_cases q : (τ.1 a 14).toInt = 1
  · have x := k6.2 q
    rw [if_pos q, if_pos q, x.1, tl_reserved E K q, tm_isKept q]
    by_cases q8 : 8 < (τ.1 a 16).toInt - (τ.1 a 15).toInt
    · rw [if_pos q8, if_pos q8, z0, if_pos rfl]
      exact Or.inr ⟨rfl, σ', rfl, a2, a3, a4⟩
    · rw [if_neg q8, if_neg q8]
      by_cases qr : (τ.2.1 a 19).toInt ∈ y_res
      · rw [if_pos qr, if_neg (by decide), if_neg (by decide), z0, if_pos rfl]
        exact Or.inr ⟨rfl, σ', rfl, a2, a3, a4⟩
      · rw [if_neg qr, if_pos rfl, if_pos rfl]
        exact Or.inl ⟨z1, q, by omega, rfl⟩
  · rw [if_neg q, if_neg q, z0, if_pos rfl]
    exact Or.inr ⟨rfl, σ', rfl, a2, a3, a4⟩
end NM
end
/-! FROM 48j.told.lean.txt -/
section
/-! WHO IS NAMED -/
theorem q_biP {α β : Type} (r : α) (s : ST) (k : α → ST → β) : q_bi (r, s) k = k r s := Eq.trans (Eq.refl (q_bi (r, s) k)) (Eq.refl (k r s))
/-- the names of the first P players of a game (its view V) and their numbers w from place q on -/
def y_nm (V : Nat → Int → Int) (w : Int → Int) (q P : Int) : Prop := ∀ p : Int, 0 ≤ p → p < P → (1 ≤ V 6 p ∧ V 6 p ≤ 8) ∧ (∀ i : Int, 0 ≤ i → i < V 6 p → tx_le (V 5 (8 * p + i))) ∧ w (q + p) = tx_wv (fun i => V 5 (8 * p + i)) 0 (V 6 p).toNat
/-- the first from x on, below P, of which Q -/
def y_fst (Q : Int → Prop) (P x r : Int) : Prop := (r = -1 ∧ ∀ j, x ≤ j → j < P → ¬ Q j) ∨ (x ≤ r ∧ r < P ∧ Q r ∧ ∀ j, x ≤ j → j < r → ¬ Q j)
theorem y_fst_u {Q : Int → Prop} {P x r r' : Int} (hx : 0 ≤ x) (h : y_fst Q P x r) (h' : y_fst Q P x r') : r = r' := by
  rcases h with ⟨h1, h2⟩ | ⟨h1, h2, h3, h4⟩
  · rcases h' with ⟨k1, k2⟩ | ⟨k1, k2, k3, k4⟩
    · omega
    · exact absurd k3 (h2 r' k1 k2)
  · rcases h' with ⟨k1, k2⟩ | ⟨k1, k2, k3, k4⟩
    · exact absurd h3 (k2 r h1 h2)
    · rcases Int.lt_trichotomy r r' with q | q | q
      · exact absurd h3 (k4 r h1 q)
      · exact q
      · exact absurd k3 (h4 r' k1 q)
def m_wd (X : XW) (σ : ST) (a : Nat) (j : Int) : Int := (σ.2.1 (q_rf X a 23) j.toNat).toInt
section NT
variable {X : XW} {lb : Nat → Nat} {g o : Nat} {σ τ σ0 : ST} {V : Nat → Int → Int} {R T a : Nat} {n : Int} {B : Int → Int}
theorem tc_namedL (S : y_S X lb) (G : y_G X lb g o) (w : y_W X lb g o σ0 σ V) (E : tc_E X σ R T n B) {b e : Int} (hb : (σ.1 R 2).toInt = b) (h0 : 0 ≤ b) (hbe : b ≤ e) (hen : e ≤ n) {u : Nat} (hu : u = q_rf X g 0) {x : Int32} {p : Int} (hx : x.toInt = p) (hp : 0 ≤ p ∧ p < 6) {r1 : Int32} (hr1 : r1.toInt = e - b) (he8 : e - b ≤ 8) (k : Nat) : ∀ y : Int32, (2147483647 - y.toInt).toNat < k → 0 ≤ y.toInt → y.toInt ≤ e - b → ((F_X6_isNamed_L22_1 X r1 x σ u R k y).toInt = 1 ∨ (F_X6_isNamed_L22_1 X r1 x σ u R k y).toInt = 0) ∧ ((F_X6_isNamed_L22_1 X r1 x σ u R k y).toInt = 1 ↔ ∀ i : Int, y.toInt ≤ i → i < e - b → V 5 (8 * p + i) = B (b + i)) := by
  have E3 := E.2.2.1
  subst hu
  induction k with
  | zero => intro y hm; exact absurd hm (Nat.not_lt_zero _)
  | succ k ih =>
    intro y hm y0 y1
    have e8 : (8 : Int32).toInt = 8 := rfl
    rw [F_X6_isNamed_L22_1_s]
    simp only [F_X6_isNamed_B22_1, ↓q_letE]
    rw [hr1]
    by_cases q : y.toInt < e - b
    · have ei : (x * 8 + y).toInt = 8 * p + y.toInt := by rw [ar_add, ar_mul, hx, e8, ar_wr (n := p * 8) (by omega) (by omega), ar_wr (by omega) (by omega)]; omega
      have gn : ((y_gn 5 : Nat) : Int) = 48 := rfl
      rw [if_pos q, y_getI S G w (id := 5) ⟨by decide, by decide⟩ rfl ei (by omega) (by rw [gn]; omega), tc_sig E hb ⟨h0, by omega⟩ (v := y) rfl ⟨y0, by omega⟩, tx_D_in (by omega) (by omega)]
      by_cases q1 : V 5 (8 * p + y.toInt) = B (b + y.toInt)
      · rw [if_pos q1]
        have e1 : (y + 1).toInt = y.toInt + 1 := y_inc (by omega)
        obtain ⟨i1, i2⟩ := ih (y + 1) (by omega) (by omega) (by omega)
        refine ⟨i1, ?_⟩
        rw [i2, e1]
        constructor
        · intro h i a1 a2
          by_cases hi : i = y.toInt
          · rw [hi]; exact q1
          · exact h i (by omega) a2
        · intro h i a1 a2
          exact h i (by omega) a2
      · rw [if_neg q1]
        exact ⟨Or.inr rfl, ⟨fun h => absurd h (by decide), fun h => absurd (h y.toInt (Int.le_refl _) q) q1⟩⟩
    · rw [if_neg q]
      exact ⟨Or.inl rfl, ⟨fun _ i a1 a2 => by omega, fun _ => rfl⟩⟩
/-- the player at p has the token's name: the class by its letters, the reference by its number -/
theorem tl_isNamed (S : y_S X lb) (G : y_G X lb g o) (w : y_W X lb g o σ0 σ V) (E : tc_E X σ R T n B) (K : tl_K σ R τ a B n) (h1 : (τ.1 a 14).toInt = 1) (h8 : (τ.1 a 16).toInt - (τ.1 a 15).toInt ≤ 8) {wd : Int → Int} {bs P : Int} (N : y_nm V wd bs P) {x : Int32} {p : Int} (hx : x.toInt = p) (hp : 0 ≤ p ∧ p < P) (hP : P ≤ 6) : (F_X6_isNamed X σ (q_rf X g 0) x R).toInt = if wd (bs + p) = (τ.2.1 a 19).toInt then 1 else 0 := by
  have b := K.b
  obtain ⟨k1, k2, k3, k4, k5, k6, k7, k8⟩ := id K
  have E3 := E.2.2.1
  obtain ⟨N1, N2, N3⟩ := N p hp.1 hp.2
  have xx := k6.2 h1
  have hsz : (F_X3_size X σ R).toInt = (τ.1 a 16).toInt - (τ.1 a 15).toInt := by
    simp only [F_X3_size, ↓q_letE]
    rw [ar_sub, k2, k1, ar_wr (by omega) (by omega)]
  have gl : (F_X5_get X σ (q_rf X (q_rf X g 0) 7) x).toInt = V 6 p := y_getI S G w (id := 6) ⟨by decide, by decide⟩ rfl hx hp.1 (by show p < ((6 : Nat) : Int); omega)
  have inj : V 6 p = (τ.1 a 16).toInt - (τ.1 a 15).toInt → ((∀ i : Int, (0 : Int32).toInt ≤ i → i < (τ.1 a 16).toInt - (τ.1 a 15).toInt → V 5 (8 * p + i) = B ((τ.1 a 15).toInt + i)) ↔ wd (bs + p) = (τ.2.1 a 19).toInt) := by
    intro hl
    have z0 : (0 : Int32).toInt = 0 := rfl
    rw [N3, xx.2.1 h8, ← hl, z0]
    constructor
    · intro h
      refine tx_wv_ext (fun i hi => ?_)
      show V 5 (8 * p + (0 + (i : Int))) = _
      rw [Int.zero_add]
      exact h (i : Int) (Int.natCast_nonneg i) (by omega)
    · intro h i a1 a2
      have z := tx_wv_inj (B := fun i => V 5 (8 * p + i)) (B' := B) (b := 0) (b' := (τ.1 a 15).toInt) (k := (V 6 p).toNat) (k' := (V 6 p).toNat) (fun j c1 c2 => N2 j c1 (by omega)) (fun j c1 c2 => tl_le K h1 j c1 (by omega)) h
      have y := z.2 i.toNat (by omega)
      have ec : ((i.toNat : Nat) : Int) = i := by omega
      rw [ec] at y
      have y2 : V 5 (8 * p + (0 + i)) = B ((τ.1 a 15).toInt + i) := y
      rw [Int.zero_add] at y2
      exact y2
  simp only [F_X6_isNamed, ↓q_letE]
  rw [gl, hsz]
  by_cases q : V 6 p = (τ.1 a 16).toInt - (τ.1 a 15).toInt
  · rw [if_pos q]
    obtain ⟨z1, z2⟩ := tc_namedL S G w E k1 k7 b.1 b.2.1 (u := q_rf X g 0) rfl hx ⟨hp.1, by omega⟩ (r1 := F_X5_get X σ (q_rf X (q_rf X g 0) 7) x) (gl.trans q) h8 ((2147483647 - (0 : Int32).toInt).toNat + 1) 0 (by decide) (by decide) (by show (0 : Int) ≤ _; omega)
    rw [inj q] at z2
    by_cases q2 : wd (bs + p) = (τ.2.1 a 19).toInt
    · rw [if_pos q2]; exact z2.mpr q2
    · rw [if_neg q2]
      rcases z1 with z1 | z1
      · exact absurd (z2.mp z1) q2
      · exact z1
  · rw [if_neg q, if_neg]
    · rfl
    · intro h
      rw [N3, xx.2.1 h8] at h
      have z := tx_wv_inj (B := fun i => V 5 (8 * p + i)) (B' := B) (b := 0) (b' := (τ.1 a 15).toInt) (k := (V 6 p).toNat) (k' := ((τ.1 a 16).toInt - (τ.1 a 15).toInt).toNat) (fun j c1 c2 => N2 j c1 (by omega)) (fun j c1 c2 => tl_le K h1 j c1 (by omega)) h
      have := z.1
      exact q (by omega)
theorem tc_playerNamedL {u : Nat} {P : Int} (hP : (σ.1 u 4).toInt = P) (hP6 : P ≤ 6) {Q : Int → Prop} (hQ : ∀ (x : Int32) (p : Int), x.toInt = p → 0 ≤ p → p < P → ((F_X6_isNamed X σ u x R).toInt = 0 ↔ ¬ Q p)) (k : Nat) : ∀ x : Int32, (2147483647 - x.toInt).toNat < k → 0 ≤ x.toInt → x.toInt ≤ 6 → y_fst Q P x.toInt (F_X6_playerNamed_L2_1 X σ u R k x).toInt := by
  induction k with
  | zero => intro x hm; exact absurd hm (Nat.not_lt_zero _)
  | succ k ih =>
    intro x hm x0 x6
    rw [F_X6_playerNamed_L2_1_s]
    simp only [F_X6_playerNamed_B2_1, ↓q_letE]
    rw [hP]
    by_cases q : x.toInt < P
    · rw [if_pos q]
      by_cases q1 : (F_X6_isNamed X σ u x R).toInt = 0
      · rw [if_pos q1]
        have e1 : (x + 1).toInt = x.toInt + 1 := y_inc (by omega)
        have z := ih (x + 1) (by omega) (by omega) (by omega)
        have nq := (hQ x x.toInt rfl x0 q).mp q1
        rw [e1] at z
        rcases z with ⟨z1, z2⟩ | ⟨z1, z2, z3, z4⟩
        · refine Or.inl ⟨z1, fun j a1 a2 => ?_⟩
          by_cases hj : j = x.toInt
          · rw [hj]; exact nq
          · exact z2 j (by omega) a2
        · refine Or.inr ⟨by omega, z2, z3, fun j a1 a2 => ?_⟩
          by_cases hj : j = x.toInt
          · rw [hj]; exact nq
          · exact z4 j (by omega) a2
      · rw [if_neg q1]
        refine Or.inr ⟨Int.le_refl _, q, ?_, fun j a1 a2 => by omega⟩
        by_cases hq : Q x.toInt
        · exact hq
        · exact absurd ((hQ x x.toInt rfl x0 q).mpr hq) q1
    · rw [if_neg q]
      exact Or.inl ⟨rfl, fun j a1 a2 => by omega⟩
theorem tm_namedL {v : Int32} {bl P : Int} (hv : v.toInt = bl) (hbl : 0 ≤ bl ∧ bl ≤ 4) (hP : m_c X τ a (930 * bl + 2) = P) (hP6 : P ≤ 6) (k : Nat) : ∀ x : Int32, (2147483647 - x.toInt).toNat < k → 0 ≤ x.toInt → x.toInt ≤ 6 → y_fst (fun p => m_wd X τ a (6 * bl + p) = (τ.2.1 a 19).toInt) P x.toInt (F_X12_named_L2_1 X v τ a k x).toInt := by
  induction k with
  | zero => intro x hm; exact absurd hm (Nat.not_lt_zero _)
  | succ k ih =>
    intro x hm x0 x6
    have e930 : (930 : Int32).toInt = 930 := rfl
    have e2 : (2 : Int32).toInt = 2 := rfl
    have e6 : (6 : Int32).toInt = 6 := rfl
    have ei : ((930 : Int32) * v + 2).toInt = 930 * bl + 2 := by rw [ar_add, ar_mul, hv, e930, e2, ar_wr (n := 930 * bl) (by omega) (by omega), ar_wr (by omega) (by omega)]
    rw [F_X12_named_L2_1_s]
    simp only [F_X12_named_B2_1, ↓q_letE]
    have rc : (τ.1 (q_rf X a 20) ((930 : Int32) * v + 2).toNatClampNeg).toInt = P := (m_rd (X := X) rfl ei).trans hP
    rw [rc]
    by_cases q : x.toInt < P
    · rw [if_pos q]
      have ej : ((6 : Int32) * v + x).toInt = 6 * bl + x.toInt := by rw [ar_add, ar_mul, hv, e6, ar_wr (n := 6 * bl) (by omega) (by omega), ar_wr (by omega) (by omega)]
      have rw_ : (τ.2.1 (q_rf X a 23) ((6 : Int32) * v + x).toNatClampNeg).toInt = m_wd X τ a (6 * bl + x.toInt) := by
        unfold m_wd
        rw [ar_cl, ej]
      have hc := lg_cmp_eq (τ.2.1 (q_rf X a 23) ((6 : Int32) * v + x).toNatClampNeg) (τ.2.1 a 19)
      by_cases q1 : m_wd X τ a (6 * bl + x.toInt) = (τ.2.1 a 19).toInt
      · have e : τ.2.1 (q_rf X a 23) ((6 : Int32) * v + x).toNatClampNeg = τ.2.1 a 19 := Int64.toInt_inj.mp (rw_.trans q1)
        rw [hc.mpr e, if_pos (by decide)]
        exact Or.inr ⟨Int.le_refl _, q, q1, fun j a1 a2 => by omega⟩
      · have e : ¬ (lg_cmp (τ.2.1 (q_rf X a 23) ((6 : Int32) * v + x).toNatClampNeg) (τ.2.1 a 19)).toInt = 0 := fun h => q1 (rw_.symm.trans (congrArg Int64.toInt (hc.mp (q_eqI.mpr h))))
        rw [if_neg e]
        have e1 : (x + 1).toInt = x.toInt + 1 := y_inc (by omega)
        have z := ih (x + 1) (by omega) (by omega) (by omega)
        rw [e1] at z
        rcases z with ⟨z1, z2⟩ | ⟨z1, z2, z3, z4⟩
        · refine Or.inl ⟨z1, fun j a1 a2 => ?_⟩
          by_cases hj : j = x.toInt
          · rw [hj]; exact q1
          · exact z2 j (by omega) a2
        · refine Or.inr ⟨by omega, z2, z3, fun j a1 a2 => ?_⟩
          by_cases hj : j = x.toInt
          · rw [hj]; exact q1
          · exact z4 j (by omega) a2
    · rw [if_neg q]
      exact Or.inl ⟨rfl, fun j a1 a2 => by omega⟩
/-- both find the same player -/
theorem tl_named (S : y_S X lb) (G : y_G X lb g o) (w : y_W X lb g o σ0 σ V) (E : tc_E X σ R T n B) (K : tl_K σ R τ a B n) (h1 : (τ.1 a 14).toInt = 1) (h8 : (τ.1 a 16).toInt - (τ.1 a 15).toInt ≤ 8) {v : Int32} {bl P : Int} (hv : v.toInt = bl) (hbl : 0 ≤ bl ∧ bl ≤ 4) (hP : m_c X τ a (930 * bl + 2) = P) (hP6 : 0 ≤ P ∧ P ≤ 6) (hV : V 1 4 = P) (N : y_nm V (m_wd X τ a) (6 * bl) P) :
    (F_X6_playerNamed X σ (q_rf X g 0) R).toInt = (F_X12_named X τ a v).toInt ∧ (((F_X12_named X τ a v).toInt = -1 ∧ ∀ p, 0 ≤ p → p < P → m_wd X τ a (6 * bl + p) ≠ (τ.2.1 a 19).toInt) ∨ (0 ≤ (F_X12_named X τ a v).toInt ∧ (F_X12_named X τ a v).toInt < P)) := by
  have z0 : (0 : Int32).toInt = 0 := rfl
  have m := tm_namedL (X := X) (τ := τ) (a := a) hv hbl hP hP6.2 ((2147483647 - (0 : Int32).toInt).toNat + 1) 0 (by decide) (by decide) (by decide)
  have hp : (σ.1 (q_rf X g 0) 4).toInt = P := by
    have := y_v_rdn (X := X) (g := g) (σ := σ) (id := 1) (by decide) 4
    rw [w.2.2] at this
    exact this.trans hV
  have c := tc_playerNamedL (X := X) (σ := σ) (R := R) (u := q_rf X g 0) hp hP6.2 (Q := fun p => m_wd X τ a (6 * bl + p) = (τ.2.1 a 19).toInt) (fun x p hx p0 p1 => by
    rw [tl_isNamed S G w E K h1 h8 N hx ⟨p0, p1⟩ hP6.2]
    by_cases q : m_wd X τ a (6 * bl + p) = (τ.2.1 a 19).toInt
    · rw [if_pos q]; exact ⟨fun h => absurd h (by decide), fun h => absurd q h⟩
    · rw [if_neg q]; exact ⟨fun _ => q, fun _ => rfl⟩) ((2147483647 - (0 : Int32).toInt).toNat + 1) 0 (by decide) (by decide) (by decide)
  unfold F_X6_playerNamed F_X12_named
  rw [z0] at m c
  refine ⟨y_fst_u (Int.le_refl 0) c m, ?_⟩
  rcases m with ⟨m1, m2⟩ | ⟨m1, m2, m3, m4⟩
  · exact Or.inl ⟨m1, m2⟩
  · exact Or.inr ⟨m1, m2⟩
/-- a player told ahead that must stand there -/
theorem tl_passPlayer (S : y_S X lb) (G : y_G X lb g o) (w : y_W X lb g o σ0 σ V) (E : tc_E X σ R T n B) (M : tm_E X τ a n B) (K : tl_K σ R τ a B n) (h : (τ.1 a 12).toInt = 0) {v : Int32} {bl P : Int} (hv : v.toInt = bl) (hbl : 0 ≤ bl ∧ bl ≤ 4) (hP : m_c X τ a (930 * bl + 2) = P) (hP6 : 0 ≤ P ∧ P ≤ 6) (hV : V 1 4 = P) (N : y_nm V (m_wd X τ a) (6 * bl) P) :
    ∃ (z y : Int32) (σ' τ' : ST), F_X3_passPlayer X σ R (q_rf X g 0) = (z, σ') ∧ F_X12_readTold X τ a v = (y, τ') ∧ tl_O X σ R τ a B n (z.toInt ≠ -1) σ' τ' ∧ (z.toInt ≠ -1 → z.toInt = y.toInt ∧ 0 ≤ y.toInt ∧ y.toInt < P) ∧ (z.toInt = -1 → 0 ≤ y.toInt ∧ y.toInt ≤ 5) := by
  have z0 : (0 : Int32).toInt = 0 := rfl
  have z1 : (1 : Int32).toInt = 1 := rfl
  have zm : ((-1) : Int32).toInt = -1 := rfl
  rcases tl_mustBeName E M K h with ⟨m1, m2, m3, m4⟩ | ⟨m1, σ', m2, m3, m4, m5⟩
  · obtain ⟨nm1, nm2⟩ := tl_named S G w E K m2 m3 hv hbl hP hP6 hV N
    simp only [F_X3_passPlayer, F_X12_readTold, F_X12_readTold_J18_1, ↓q_letE, ↓q_biE]
    have nz : ¬ ((1 : Int32), σ).1.toInt = 0 := fun q => absurd (show (1 : Int32).toInt = 0 from q) (by decide)
    rw [m4, m1, h, if_neg nz, if_pos rfl, if_pos rfl, if_pos rfl, if_neg (by decide : ¬ (1 : Int) = 0)]
    show ∃ (z y : Int32) (σ' τ' : ST), (if (F_X6_playerNamed X σ (q_rf X g 0) R).toInt = -1 then ((-1 : Int32), (F_X3_fails X σ R 3).2) else (F_X6_playerNamed X σ (q_rf X g 0) R, F_X3_advance X σ R)) = (z, σ') ∧ _
    rw [nm1]
    rcases nm2 with ⟨q1, q2⟩ | ⟨q1, q2⟩
    · rw [if_pos q1, if_pos (by omega : (F_X12_named X τ a v).toInt < 0)]
      obtain ⟨σ', a1, a2, a3, a4⟩ := tl_fail (X := X) K h (by omega) (k := 3) (by decide) (w := τ.1 a 15) rfl
      rw [a1, tm_must2 a4.2.1]
      refine ⟨-1, _, σ', _, rfl, rfl, ⟨a2, a3, Or.inr ⟨fun q => q rfl, a4⟩⟩, fun q => absurd rfl q, fun _ => ?_⟩
      unfold F_J9_max_7cf53
      rw [q1, z0, if_neg (by decide)]
      decide
    · rw [if_neg (by omega : ¬ (F_X12_named X τ a v).toInt = -1), if_neg (by omega : ¬ (F_X12_named X τ a v).toInt < 0)]
      obtain ⟨c1, c2, c3, c4⟩ := tl_adv2 E M K
      have e : F_X12_must X τ a 1 = F_X12_next X τ a := by
        simp only [F_X12_must, ↓q_letE]
        rw [h, if_neg (by decide), z1, if_neg (by decide)]
      have mx : (F_J9_max_7cf53 X (F_X12_next X τ a) 0 (F_X12_named X τ a v)).toInt = (F_X12_named X τ a v).toInt := by
        unfold F_J9_max_7cf53
        rw [z0]
        by_cases q : 0 < (F_X12_named X τ a v).toInt
        · rw [if_pos q]
        · rw [if_neg q, z0]; omega
      rw [e]
      refine ⟨_, _, _, _, rfl, rfl, ⟨c1.S2, c2.S2, Or.inl ⟨by omega, c3, by rw [tn_12 c2]; exact h, c4⟩⟩, fun _ => ?_, fun q => by omega⟩
      rw [mx]
      exact ⟨nm1, q1, q2⟩
  · have p := m5.2.1
    have np : ¬ ((F_X12_wrong X τ a).1 a 12).toInt = 0 := by omega
    simp only [F_X3_passPlayer, F_X12_readTold, F_X12_readTold_J18_1, ↓q_letE, ↓q_biE]
    rw [m2, m1, h, if_pos rfl, if_pos rfl, if_neg np, if_neg np, tm_must2 p, if_pos z0]
    refine ⟨-1, _, σ', _, rfl, rfl, ⟨m3, m4, Or.inr ⟨fun q => q rfl, m5⟩⟩, fun q => absurd rfl q, fun _ => ?_⟩
    unfold F_J9_max_7cf53
    decide
end NT
end
/-! FROM 48k.tab.lean.txt -/
section
/-! A TABLE BEING READ: the class's reader D with its game g, the reference's fifth block -/
def tb_T (X : XW) (D : Nat) : Nat := q_rf X (q_rf X D 11) 0
/-- where the reader and its parts lie -/
def tb_D (X : XW) (lb : Nat → Nat) (D T g : Nat) : Prop := q_kd X D = 9 ∧ g = q_rf X D 8 ∧ y_G X lb g 6 ∧ lb D / 8192 = 0 ∧ lb T / 8192 = 0 ∧ lb (tb_T X D) / 8192 = 0 ∧ q_kd X (tb_T X D) = 20 ∧ q_ln X (tb_T X D) = 6 ∧ q_kd X T = 22
/-- the class's side: text, game, hands told, law told, most told -/
def tb_S (X : XW) (D T g : Nat) (σ : ST) (n : Int) (B : Int → Int) (V : Nat → Int → Int) (r : Int → Int) (f9 f10 : Int) : Prop := tc_E X σ D T n B ∧ y_v X g σ = V ∧ (∀ p : Int, 0 ≤ p → p < 6 → (σ.1 (tb_T X D) p.toNat).toInt = r p) ∧ (σ.1 D 9).toInt = f9 ∧ (σ.1 D 10).toInt = f10
/-- the reference's side -/
def tb_M (X : XW) (a : Nat) (τ : ST) (n : Int) (B : Int → Int) (c w t : Int → Int) (f9 f10 : Int) : Prop := tm_E X τ a n B ∧ m_c X τ a = c ∧ m_wd X τ a = w ∧ (∀ j : Int, 0 ≤ j → j < 60 → (τ.1 (q_rf X a 22) j.toNat).toInt = t j) ∧ (τ.1 a 25).toInt = f9 ∧ (τ.1 a 26).toInt = f10 ∧ (τ.1 a 0).toInt = 0 ∧ (τ.1 a 8).toInt = 0
/-- what the class's reading leaves alone -/
def tb_F (X : XW) (lb : Nat → Nat) (D : Nat) (σ σ' : ST) : Prop := (∀ b, lb b / 8192 ≠ 6 → b ≠ D → b ≠ tb_T X D → ∀ f, σ'.1 b f = σ.1 b f) ∧ (∀ f, ¬ (2 ≤ f ∧ f ≤ 7) → f ≠ 9 → f ≠ 10 → σ'.1 D f = σ.1 D f) ∧ σ'.2 = σ.2
theorem tb_F.rf {X : XW} {lb : Nat → Nat} {D : Nat} {σ : ST} : tb_F X lb D σ σ := ⟨fun _ _ _ _ _ => rfl, fun _ _ _ _ => rfl, rfl⟩
theorem tb_F.tr {X : XW} {lb : Nat → Nat} {D : Nat} {σ σ1 σ2 : ST} (h : tb_F X lb D σ σ1) (k : tb_F X lb D σ1 σ2) : tb_F X lb D σ σ2 := ⟨fun b b1 b2 b3 f => (k.1 b b1 b2 b3 f).trans (h.1 b b1 b2 b3 f), fun f f1 f2 f3 => (k.2.1 f f1 f2 f3).trans (h.2.1 f f1 f2 f3), k.2.2.trans h.2.2⟩
/-- the relation of both -/
def tb_N (V : Nat → Int → Int) (c : Int → Int) : Prop :=
  (V 1 0 = c 3720 ∧ V 1 1 = c 3721 ∧ V 1 2 = c 3723 ∧ V 1 3 = c 3724 ∧ V 1 4 = c 3722) ∧
  (∀ k : Int, 0 ≤ k → k < 10 → V 4 k = m_sum c 3720 k) ∧
  (∀ j : Int, 0 ≤ j → j < 60 → V 7 j = c (3754 + j)) ∧
  (∀ p : Int, 0 ≤ p → p < 6 → V 9 p = m_S c (3754 + 10 * p) 10) ∧
  (∀ p : Int, 0 ≤ p → p < 6 → V 10 p = c (3730 + p) ∧ V 11 p = c (3736 + p))
/-- a new game's cells that stay as they are -/
def tb_Z (V : Nat → Int → Int) : Prop := (∀ i : Int, 0 ≤ i → i < 60 → V 8 i = 0) ∧ (∀ i : Int, 0 ≤ i → i < 6 → V 12 i = 0 ∧ V 13 i = 0) ∧ V 0 4 = 0 ∧ V 0 5 = 0 ∧ V 0 6 = -1 ∧ V 0 7 = 0 ∧ V 2 0 = 0 ∧ V 2 1 = 0 ∧ V 3 0 = 0 ∧ V 3 1 = 0 ∧ V 3 2 = 0
def tb_bits (t : Int → Int) (p : Int) : Int := t (10 * p) + 2 * t (10 * p + 1) + 4 * t (10 * p + 2) + 8 * t (10 * p + 3) + 16 * t (10 * p + 4) + 32 * t (10 * p + 5) + 64 * t (10 * p + 6) + 128 * t (10 * p + 7) + 256 * t (10 * p + 8) + 512 * t (10 * p + 9)
def tb_H (c r t : Int → Int) : Prop :=
  (∀ j : Int, 0 ≤ j → j < 60 → (t j = 0 ∨ t j = 1) ∧ (t j = 0 → c (3754 + j) = 0)) ∧ (∀ p : Int, 0 ≤ p → p < 6 → r p = tb_bits t p) ∧ (∀ j : Int, 0 ≤ j → j < 60 → 10 * c 3722 ≤ j → t j = 0)
def tb_R (V : Nat → Int → Int) (r c w t : Int → Int) : Prop := tb_N V c ∧ tb_Z V ∧ y_nm V w 24 (c 3722) ∧ tb_H c r t ∧ m_N c ∧ 2 ≤ c 3720 ∧ 1 ≤ c 3721 ∧ 1 ≤ c 3724
section TB
variable {X : XW} {lb : Nat → Nat} {D T g a : Nat} {σ τ σ' τ' : ST} {n : Int} {B : Int → Int} {V : Nat → Int → Int} {r c w t : Int → Int} {f9 f10 : Int}
theorem tb_D.o (Y : y_S X lb) (H : tb_D X lb D T g) {id : Nat} (h : id < 25) : D ≠ y_gA X g id ∧ tb_T X D ≠ y_gA X g id ∧ T ≠ y_gA X g id := by
  obtain ⟨h1, h2, h3, h4, h5, h6, h7, h8, h9⟩ := H
  exact ⟨y_gA_ne Y h3 h (by omega), y_gA_ne Y h3 h (by omega), y_gA_ne Y h3 h (by omega)⟩
theorem tb_v (Y : y_S X lb) (H : tb_D X lb D T g) (h : ∀ b, b ≠ D → b ≠ tb_T X D → ∀ f, σ'.1 b f = σ.1 b f) : y_v X g σ' = y_v X g σ := by
  funext id i
  unfold y_v
  by_cases q : id < 25 ∧ 0 ≤ i
  · have o := H.o Y q.1
    rw [if_pos q, if_pos q, h _ (Ne.symm o.1) (Ne.symm o.2.1)]
  · rw [if_neg q, if_neg q]
theorem tb_TD (H : tb_D X lb D T g) : tb_T X D ≠ D := by
  intro e
  have h1 := H.1
  have h7 := H.2.2.2.2.2.2.1
  rw [e, h1] at h7
  exact absurd h7 (by decide)
/-- a step of the reader -/
theorem tb_S.rd (Y : y_S X lb) (H : tb_D X lb D T g) (S : tb_S X D T g σ n B V r f9 f10) (h : tk (tc_S2 D) σ σ') : tb_S X D T g σ' n B V r f9 f10 ∧ tb_F X lb D σ σ' := by
  obtain ⟨s1, s2, s3, s4, s5⟩ := S
  have hD : ∀ b, b ≠ D → ∀ f, σ'.1 b f = σ.1 b f := fun b hb f => h.1 b f (fun q => hb q.1)
  refine ⟨⟨s1.k2 h, ?_, fun p p0 p1 => ?_, ?_, ?_⟩, fun b _ b2 _ f => hD b b2 f, fun f f1 _ _ => h.1 D f (fun q => f1 q.2), h.2⟩
  · rw [tb_v Y H (fun b b1 _ f => hD b b1 f)]; exact s2
  · rw [hD _ (tb_TD H)]; exact s3 p p0 p1
  · rw [h.1 D 9 (fun q => absurd q.2.2 (by decide))]; exact s4
  · rw [h.1 D 10 (fun q => absurd q.2.2 (by decide))]; exact s5
/-- a step of its game -/
theorem tb_S.gm (Y : y_S X lb) (H : tb_D X lb D T g) (S : tb_S X D T g σ n B V r f9 f10) {V' : Nat → Int → Int} (h : y_W X lb g 6 σ σ' V') : tb_S X D T g σ' n B V' r f9 f10 ∧ tb_F X lb D σ σ' := by
  obtain ⟨s1, s2, s3, s4, s5⟩ := S
  obtain ⟨h1, h2, h3, h4, h5, h6, h7, h8, h9⟩ := H
  have eD : ∀ f, σ'.1 D f = σ.1 D f := h.1 D (by omega)
  have eT : ∀ f, σ'.1 T f = σ.1 T f := h.1 T (by omega)
  have eA : ∀ f, σ'.1 (tb_T X D) f = σ.1 (tb_T X D) f := h.1 _ (by omega)
  obtain ⟨e1, e2, e3, e4, e5, e6⟩ := s1
  refine ⟨⟨⟨by rw [h.2.1]; exact e1, by rw [eD]; exact e2, e3, e4, e5, fun p p0 p1 => by rw [eT]; exact e6 p p0 p1⟩, h.2.2, fun p p0 p1 => by rw [eA]; exact s3 p p0 p1, by rw [eD]; exact s4, by rw [eD]; exact s5⟩, fun b b1 _ _ f => h.1 b b1 f, fun f _ _ _ => eD f, h.2.1⟩
/-- a flag -/
theorem tb_S.s9 (Y : y_S X lb) (H : tb_D X lb D T g) (S : tb_S X D T g σ n B V r f9 f10) (v : Int32) : tb_S X D T g (q_si σ D 9 v) n B V r v.toInt f10 ∧ tb_F X lb D σ (q_si σ D 9 v) := by
  obtain ⟨s1, s2, s3, s4, s5⟩ := S
  have k : tk (fun b f => b = D ∧ f = 9) σ (q_si σ D 9 v) := tk.rf.si _ ⟨rfl, rfl⟩
  have hD : ∀ b, b ≠ D → ∀ f, (q_si σ D 9 v).1 b f = σ.1 b f := fun b hb f => k.1 b f (fun q => hb q.1)
  refine ⟨⟨s1.k k (fun b f q => ⟨fun e => s1.2.2.2.1 (e.symm.trans q.1), fun e => absurd q.2 (by rw [e.2]; decide)⟩), ?_, fun p p0 p1 => ?_, ?_, ?_⟩, fun b _ b2 _ f => hD b b2 f, fun f _ f2 _ => k.1 D f (fun q => f2 q.2), k.2⟩
  · rw [tb_v Y H (fun b b1 _ f => hD b b1 f)]; exact s2
  · rw [hD _ (tb_TD H)]; exact s3 p p0 p1
  · rw [si_eq]
  · rw [si_f (by decide)]; exact s5
theorem tb_S.s10 (Y : y_S X lb) (H : tb_D X lb D T g) (S : tb_S X D T g σ n B V r f9 f10) (v : Int32) : tb_S X D T g (q_si σ D 10 v) n B V r f9 v.toInt ∧ tb_F X lb D σ (q_si σ D 10 v) := by
  obtain ⟨s1, s2, s3, s4, s5⟩ := S
  have k : tk (fun b f => b = D ∧ f = 10) σ (q_si σ D 10 v) := tk.rf.si _ ⟨rfl, rfl⟩
  have hD : ∀ b, b ≠ D → ∀ f, (q_si σ D 10 v).1 b f = σ.1 b f := fun b hb f => k.1 b f (fun q => hb q.1)
  refine ⟨⟨s1.k k (fun b f q => ⟨fun e => s1.2.2.2.1 (e.symm.trans q.1), fun e => absurd q.2 (by rw [e.2]; decide)⟩), ?_, fun p p0 p1 => ?_, ?_, ?_⟩, fun b _ b2 _ f => hD b b2 f, fun f _ _ f3 => k.1 D f (fun q => f3 q.2), k.2⟩
  · rw [tb_v Y H (fun b b1 _ f => hD b b1 f)]; exact s2
  · rw [hD _ (tb_TD H)]; exact s3 p p0 p1
  · rw [si_f (by decide)]; exact s4
  · rw [si_eq]
/-- a hand told -/
theorem tb_S.told (Y : y_S X lb) (H : tb_D X lb D T g) (S : tb_S X D T g σ n B V r f9 f10) {x v : Int32} {p : Int} (hx : x.toInt = p) (hp : 0 ≤ p ∧ p < 6) {s : Int} (hs : ar_w (r p + v.toInt) = s) : tb_S X D T g (F_X5_add X σ (q_rf X D 11) x v) n B V (fun j => if j = p then s else r j) f9 f10 ∧ tb_F X lb D σ (F_X5_add X σ (q_rf X D 11) x v) := by
  obtain ⟨s1, s2, s3, s4, s5⟩ := S
  have e : F_X5_add X σ (q_rf X D 11) x v = q_si σ (tb_T X D) x.toNatClampNeg (σ.1 (tb_T X D) x.toNatClampNeg + v) := by
    simp only [F_X5_add, ↓q_letE]
    have hl : (q_len X (q_rf X (q_rf X D 11) 0)).toInt = 6 := by
      unfold q_len
      have : q_ln X (q_rf X (q_rf X D 11) 0) = 6 := H.2.2.2.2.2.2.2.1
      rw [this]
      rfl
    rw [hl, hx, if_neg (by omega), if_pos (by omega)]
    rfl
  have hv : (σ.1 (tb_T X D) x.toNatClampNeg + v).toInt = s := by
    rw [ar_add, ar_cl, hx, s3 p hp.1 hp.2]
    exact hs
  rw [e]
  obtain ⟨y, hy⟩ : ∃ y, y = σ.1 (tb_T X D) x.toNatClampNeg + v := ⟨_, rfl⟩
  rw [← hy] at hv ⊢
  have k : tk (fun b f => b = tb_T X D ∧ f = x.toNatClampNeg) σ (q_si σ (tb_T X D) x.toNatClampNeg y) := tk.rf.si _ ⟨rfl, rfl⟩
  have hA : ∀ b, b ≠ tb_T X D → ∀ f, (q_si σ (tb_T X D) x.toNatClampNeg y).1 b f = σ.1 b f := fun b hb f => k.1 b f (fun q => hb q.1)
  have hTT : T ≠ tb_T X D := by
    intro e
    have h7 := H.2.2.2.2.2.2.1
    have h9 := H.2.2.2.2.2.2.2.2
    rw [← e, h9] at h7
    exact absurd h7 (by decide)
  have hDA : D ≠ tb_T X D := Ne.symm (tb_TD H)
  refine ⟨⟨s1.k k (fun b f q => ⟨fun e => hTT (e.symm.trans q.1), fun e => hDA (e.1.symm.trans q.1)⟩), ?_, fun j j0 j1 => ?_, ?_, ?_⟩, fun b _ _ b3 f => hA b b3 f, fun f _ _ _ => hA D hDA f, k.2⟩
  · rw [tb_v Y H (fun b _ b2 f => hA b b2 f)]; exact s2
  · show (if tb_T X D = tb_T X D ∧ j.toNat = x.toNatClampNeg then y else σ.1 (tb_T X D) j.toNat).toInt = if j = p then s else r j
    by_cases q : j = p
    · rw [if_pos q, if_pos ⟨rfl, by rw [ar_cl, hx, q]⟩]; exact hv
    · rw [if_neg q, if_neg (fun z => q (by have := z.2; rw [ar_cl, hx] at this; omega))]; exact s3 j j0 j1
  · rw [hA D hDA]; exact s4
  · rw [hA D hDA]; exact s5
/-! the reference's steps -/
theorem tb_k (hT : q_T X) (ha : q_kd X a = 12) : q_kd X (q_rf X a 20) = 34 ∧ q_kd X (q_rf X a 22) = 36 ∧ q_kd X (q_rf X a 23) = 37 ∧ q_kd X (q_rf X a 7) = 33 :=
  ⟨(hT.1 a 20 (by rw [ha]; decide)).trans (by rw [ha]; rfl), (hT.1 a 22 (by rw [ha]; decide)).trans (by rw [ha]; rfl), (hT.1 a 23 (by rw [ha]; decide)).trans (by rw [ha]; rfl), (hT.1 a 7 (by rw [ha]; decide)).trans (by rw [ha]; rfl)⟩
theorem tb_M.rd (hT : q_T X) (ha : q_kd X a = 12) (M : tb_M X a τ n B c w t f9 f10) (h : tkl (tn_S2 a) (tn_L a) τ τ') : tb_M X a τ' n B c w t f9 f10 := by
  obtain ⟨m1, m2, m3, m4, m5, m6⟩ := M
  obtain ⟨k1, k2, k3, k4⟩ := tb_k hT ha
  refine ⟨m1.k2 h, ?_, ?_, fun j j0 j1 => ?_, ?_, ?_⟩
  · rw [← m2]; funext j
    exact congrArg Int32.toInt (h.1 _ _ (fun q => m_ne k1 ha (by decide) q.1))
  · rw [← m3]; funext j
    exact congrArg Int64.toInt (h.2.1 _ _ (fun q => m_ne k3 ha (by decide) q.1))
  · rw [h.1 _ _ (fun q => m_ne k2 ha (by decide) q.1)]; exact m4 j j0 j1
  · rw [h.1 a 25 (fun q => absurd q.2.2 (by decide))]; exact m5
  · rw [h.1 a 26 (fun q => absurd q.2.2 (by decide)), h.1 a 0 (fun q => absurd q.2.1 (by decide)), h.1 a 8 (fun q => absurd q.2.1 (by decide))]; exact m6
/-- the token's cells are the same -/
def tl_same (a : Nat) (τ τ' : ST) : Prop := (∀ f, 12 ≤ f → f ≤ 18 → τ'.1 a f = τ.1 a f) ∧ τ'.2.1 a 19 = τ.2.1 a 19
def tl_sameC (R : Nat) (σ σ' : ST) : Prop := ∀ f, 2 ≤ f → f ≤ 7 → σ'.1 R f = σ.1 R f
theorem tl_K.same {R : Nat} (K : tl_K σ R τ a B n) (hc : tl_sameC R σ σ') (hm : tl_same a τ τ') : tl_K σ' R τ' a B n := by
  unfold tl_K at K ⊢
  rw [hc 2 (by decide) (by decide), hc 3 (by decide) (by decide), hc 4 (by decide) (by decide), hc 5 (by decide) (by decide), hc 6 (by decide) (by decide), hc 7 (by decide) (by decide), hm.1 14 (by decide) (by decide), hm.1 15 (by decide) (by decide), hm.1 16 (by decide) (by decide), hm.1 17 (by decide) (by decide), hm.1 18 (by decide) (by decide), hm.2]
  exact K
theorem tl_same.rf : tl_same a τ τ := ⟨fun _ _ _ => rfl, rfl⟩
theorem tl_sameC.rf {R : Nat} : tl_sameC R σ σ := fun _ _ _ => rfl
theorem tl_sameC.W {o : Nat} {V' : Nat → Int → Int} {R : Nat} (h : y_W X lb g o σ σ' V') (hR : lb R / 8192 ≠ o) : tl_sameC R σ σ' := fun f _ _ => h.1 R hR f
/-- the table's cell at A becomes v -/
def m_up (c : Int → Int) (A v : Int) : Int → Int := fun j => if j = A then v else c j
theorem m_c_neg (X : XW) (σ : ST) (a : Nat) {j : Int} (h : j < 0) : m_c X σ a j = m_c X σ a 0 := by
  unfold m_c
  have e : j.toNat = (0 : Int).toNat := by show j.toNat = 0; omega
  rw [e]
theorem m_c_up (A : Int) (hA : 1 ≤ A) {i v : Int32} (h : i.toInt = A) : m_c X (q_si τ (q_rf X a 20) i.toNatClampNeg v) a = m_up (m_c X τ a) A v.toInt := by
  funext j
  by_cases q : 0 ≤ j
  · exact m_wr (X := X) (a := a) rfl h (by omega) j q
  · rw [m_c_neg _ _ _ (by omega), m_wr (X := X) (a := a) rfl h (by omega) 0 (Int.le_refl 0), if_neg (by omega)]
    unfold m_up
    rw [if_neg (by omega)]
    exact (m_c_neg X τ a (by omega)).symm
theorem tb_M.cw (hT : q_T X) (ha : q_kd X a = 12) (M : tb_M X a τ n B c w t f9 f10) {i v : Int32} {A : Int} (hi : i.toInt = A) (hA : 1 ≤ A) : tb_M X a (q_si τ (q_rf X a 20) i.toNatClampNeg v) n B (m_up c A v.toInt) w t f9 f10 ∧ tl_same a τ (q_si τ (q_rf X a 20) i.toNatClampNeg v) := by
  obtain ⟨m1, m2, m3, m4, m5, m6⟩ := M
  obtain ⟨k1, k2, k3, k4⟩ := tb_k hT ha
  have na : a ≠ q_rf X a 20 := Ne.symm (m_ne k1 ha (by decide))
  have k : tkl (fun b f => b = q_rf X a 20) (fun _ _ => False) τ (q_si τ (q_rf X a 20) i.toNatClampNeg v) := tkl.rf.si _ rfl
  refine ⟨⟨m1.k k (fun b f q => ⟨fun e => m_ne k1 k4 (by decide) (q.symm.trans e), fun e => na (e.1.symm.trans q)⟩), ?_, m3, fun j j0 j1 => ?_, ?_, ?_⟩, fun f _ _ => k.1 a f na, rfl⟩
  · rw [m_c_up A hA hi, m2]
  · rw [k.1 _ _ (m_ne k2 k1 (by decide))]; exact m4 j j0 j1
  · rw [k.1 a 25 na]; exact m5
  · rw [k.1 a 26 na, k.1 a 0 na, k.1 a 8 na]; exact m6
theorem tb_M.s9 (hT : q_T X) (ha : q_kd X a = 12) (M : tb_M X a τ n B c w t f9 f10) (v : Int32) : tb_M X a (q_si τ a 25 v) n B c w t v.toInt f10 ∧ tl_same a τ (q_si τ a 25 v) := by
  obtain ⟨m1, m2, m3, m4, m5, m6⟩ := M
  obtain ⟨k1, k2, k3, k4⟩ := tb_k hT ha
  have k : tkl (fun b f => b = a ∧ f = 25) (fun _ _ => False) τ (q_si τ a 25 v) := tkl.rf.si _ ⟨rfl, rfl⟩
  refine ⟨⟨m1.k k (fun b f q => ⟨fun e => m_ne k4 ha (by decide) (e.symm.trans q.1), fun e => absurd q.2 (by rw [e.2]; decide)⟩), ?_, m3, fun j j0 j1 => ?_, ?_, ?_⟩, fun f _ f2 => k.1 a f (fun q => by have := q.2; omega), rfl⟩
  · rw [← m2]; funext j
    exact congrArg Int32.toInt (k.1 _ _ (fun q => m_ne k1 ha (by decide) q.1))
  · rw [k.1 _ _ (fun q => m_ne k2 ha (by decide) q.1)]; exact m4 j j0 j1
  · rw [si_eq]
  · rw [si_f (by decide), si_f (by decide), si_f (by decide)]; exact m6
theorem tb_M.s10 (hT : q_T X) (ha : q_kd X a = 12) (M : tb_M X a τ n B c w t f9 f10) (v : Int32) : tb_M X a (q_si τ a 26 v) n B c w t f9 v.toInt ∧ tl_same a τ (q_si τ a 26 v) := by
  obtain ⟨m1, m2, m3, m4, m5, m6⟩ := M
  obtain ⟨k1, k2, k3, k4⟩ := tb_k hT ha
  have k : tkl (fun b f => b = a ∧ f = 26) (fun _ _ => False) τ (q_si τ a 26 v) := tkl.rf.si _ ⟨rfl, rfl⟩
  refine ⟨⟨m1.k k (fun b f q => ⟨fun e => m_ne k4 ha (by decide) (e.symm.trans q.1), fun e => absurd q.2 (by rw [e.2]; decide)⟩), ?_, m3, fun j j0 j1 => ?_, ?_, ?_⟩, fun f _ f2 => k.1 a f (fun q => by have := q.2; omega), rfl⟩
  · rw [← m2]; funext j
    exact congrArg Int32.toInt (k.1 _ _ (fun q => m_ne k1 ha (by decide) q.1))
  · rw [k.1 _ _ (fun q => m_ne k2 ha (by decide) q.1)]; exact m4 j j0 j1
  · rw [si_f (by decide)]; exact m5
  · exact ⟨by rw [si_eq], by rw [si_f (by decide)]; exact m6.2.1, by rw [si_f (by decide)]; exact m6.2.2⟩
theorem tb_M.told (hT : q_T X) (ha : q_kd X a = 12) (M : tb_M X a τ n B c w t f9 f10) {i v : Int32} {A : Int} (hi : i.toInt = A) (hA : 0 ≤ A ∧ A < 60) : tb_M X a (q_si τ (q_rf X a 22) i.toNatClampNeg v) n B c w (m_up t A v.toInt) f9 f10 ∧ tl_same a τ (q_si τ (q_rf X a 22) i.toNatClampNeg v) := by
  obtain ⟨m1, m2, m3, m4, m5, m6⟩ := M
  obtain ⟨k1, k2, k3, k4⟩ := tb_k hT ha
  have na : a ≠ q_rf X a 22 := Ne.symm (m_ne k2 ha (by decide))
  have k : tkl (fun b f => b = q_rf X a 22) (fun _ _ => False) τ (q_si τ (q_rf X a 22) i.toNatClampNeg v) := tkl.rf.si _ rfl
  refine ⟨⟨m1.k k (fun b f q => ⟨fun e => m_ne k2 k4 (by decide) (q.symm.trans e), fun e => na (e.1.symm.trans q)⟩), ?_, m3, fun j j0 j1 => ?_, ?_, ?_⟩, fun f _ _ => k.1 a f na, rfl⟩
  · rw [← m2]; funext j
    exact congrArg Int32.toInt (k.1 _ _ (m_ne k1 k2 (by decide)))
  · show (if q_rf X a 22 = q_rf X a 22 ∧ j.toNat = i.toNatClampNeg then v else τ.1 (q_rf X a 22) j.toNat).toInt = if j = A then v.toInt else t j
    by_cases q : j = A
    · rw [if_pos q, if_pos ⟨rfl, by rw [ar_cl, hi, q]⟩]
    · rw [if_neg q, if_neg (fun z => q (by have := z.2; rw [ar_cl, hi] at this; omega))]; exact m4 j j0 j1
  · rw [k.1 a 25 na]; exact m5
  · rw [k.1 a 26 na, k.1 a 0 na, k.1 a 8 na]; exact m6
theorem tb_M.word (hT : q_T X) (ha : q_kd X a = 12) (M : tb_M X a τ n B c w t f9 f10) {i : Int32} {v : Int64} {A : Int} (hi : i.toInt = A) (hA : 1 ≤ A) : tb_M X a (q_sl τ (q_rf X a 23) i.toNatClampNeg v) n B c (m_up w A v.toInt) t f9 f10 ∧ tl_same a τ (q_sl τ (q_rf X a 23) i.toNatClampNeg v) := by
  obtain ⟨m1, m2, m3, m4, m5, m6⟩ := M
  obtain ⟨k1, k2, k3, k4⟩ := tb_k hT ha
  have na : a ≠ q_rf X a 23 := Ne.symm (m_ne k3 ha (by decide))
  refine ⟨⟨m1, m2, ?_, m4, m5, m6⟩, fun f _ _ => rfl, q_sl_ne na 19⟩
  rw [← m3]
  funext j
  show (if q_rf X a 23 = q_rf X a 23 ∧ j.toNat = i.toNatClampNeg then v else τ.2.1 (q_rf X a 23) j.toNat).toInt = if j = A then v.toInt else (τ.2.1 (q_rf X a 23) j.toNat).toInt
  by_cases q : j = A
  · rw [if_pos q, if_pos ⟨rfl, by rw [ar_cl, hi, q]⟩]
  · rw [if_neg q]
    by_cases q2 : j.toNat = i.toNatClampNeg
    · rw [ar_cl, hi] at q2
      exact absurd (by omega : j = A) q
    · rw [if_neg (fun z => q2 z.2)]
end TB
end
/-! FROM 48l.parts.lean.txt -/
section
/-! THE PARTS OF A TABLE -/
theorem m_up_eq (c : Int → Int) (A v : Int) : m_up c A v A = v := if_pos rfl
theorem m_up_ne {c : Int → Int} {A v j : Int} (h : j ≠ A) : m_up c A v j = c j := if_neg h
theorem y_up_eq (V : Nat → Int → Int) (id : Nat) (i v : Int) : y_up V id i v id i = v := if_pos ⟨rfl, rfl⟩
theorem y_up_ne {V : Nat → Int → Int} {id id' : Nat} {i i' v : Int} (h : id' ≠ id ∨ i' ≠ i) : y_up V id i v id' i' = V id' i' := by
  refine if_neg ?_
  rintro ⟨h1, h2⟩
  rcases h with h | h
  · exact h h1
  · exact h h2
theorem m_up_e {c : Int → Int} {A v : Int} : ∀ j : Int, 0 ≤ j → m_up c A v j = if j = A then v else c j := fun _ _ => rfl
theorem m_sum_up {c : Int → Int} {A v k : Int} (hk : 0 ≤ k) (h : A < 3754) : m_sum (m_up c A v) 3720 k = m_sum c 3720 k := by
  unfold m_sum
  rw [m_up_ne (by omega), m_up_ne (by omega), m_up_ne (by omega), m_up_ne (by omega), m_up_ne (by omega), m_up_ne (by omega)]
theorem m_S_up {c : Int → Int} {A v b : Int} {n : Nat} (h : A < b) : m_S (m_up c A v) b n = m_S c b n := m_S_ext (fun j a _ => m_up_ne (by omega))
/-- a law, a most, a number of players: nothing else is changed -/
theorem tb_H.up {c r t : Int → Int} {A v : Int} (h : tb_H c r t) (hA : A < 3754) (hA2 : A = 3722 → c 3722 ≤ v) : tb_H (m_up c A v) r t := by
  obtain ⟨h1, h2, h3⟩ := h
  refine ⟨fun j a b => ⟨(h1 j a b).1, fun q => by rw [m_up_ne (by omega)]; exact (h1 j a b).2 q⟩, h2, fun j a b q => h3 j a b ?_⟩
  by_cases e : A = 3722
  · subst e
    rw [m_up_eq] at q
    have := hA2 rfl
    omega
  · rw [m_up_ne (fun z => e z.symm)] at q
    exact q
theorem tb_Z.up {V : Nat → Int → Int} {id : Nat} {i v : Int} (h : tb_Z V) (hid : id = 1 ∨ id = 4 ∨ id = 5 ∨ id = 6 ∨ id = 7 ∨ id = 9 ∨ id = 10 ∨ id = 11) : tb_Z (y_up V id i v) := by
  obtain ⟨h1, h2, h3⟩ := h
  refine ⟨fun j a b => by rw [y_up_ne (Or.inl (by omega))]; exact h1 j a b, fun j a b => by rw [y_up_ne (Or.inl (by omega)), y_up_ne (Or.inl (by omega))]; exact h2 j a b, ?_⟩
  rw [y_up_ne (Or.inl (by omega)), y_up_ne (Or.inl (by omega)), y_up_ne (Or.inl (by omega)), y_up_ne (Or.inl (by omega)), y_up_ne (Or.inl (by omega)), y_up_ne (Or.inl (by omega)), y_up_ne (Or.inl (by omega)), y_up_ne (Or.inl (by omega)), y_up_ne (Or.inl (by omega))]
  exact h3
theorem y_nm.up {V : Nat → Int → Int} {w : Int → Int} {q P : Int} {id : Nat} {i v : Int} (h : y_nm V w q P) (h5 : id ≠ 5) (h6 : id ≠ 6) : y_nm (y_up V id i v) w q P := by
  intro p p0 p1
  obtain ⟨a1, a2, a3⟩ := h p p0 p1
  have e6 : y_up V id i v 6 p = V 6 p := y_up_ne (Or.inl (Ne.symm h6))
  have e5 : (fun j => y_up V id i v 5 (8 * p + j)) = fun j => V 5 (8 * p + j) := by funext j; exact y_up_ne (Or.inl (Ne.symm h5))
  rw [e6]
  refine ⟨a1, fun j j0 j1 => ?_, ?_⟩
  · rw [y_up_ne (Or.inl (Ne.symm h5))]; exact a2 j j0 j1
  · rw [e5]; exact a3
theorem tb_R.law {V : Nat → Int → Int} {r c w t : Int → Int} {v : Int} (h : tb_R V r c w t) (hv : 0 ≤ v ∧ v ≤ 2) : tb_R (y_up V 1 2 v) r (m_up c 3723 v) w t := by
  obtain ⟨⟨⟨n1, n2, n3, n4, n5⟩, n6, n7, n8, n9⟩, z, nm, hh, mn, k1, k2, k3⟩ := h
  refine ⟨⟨⟨?_, ?_, ?_, ?_, ?_⟩, ?_, ?_, ?_, ?_⟩, z.up (Or.inl rfl), ?_, hh.up (by omega) (by omega), mn.wr m_up_e (by omega), ?_, ?_, ?_⟩
  · rw [y_up_ne (Or.inr (by decide)), m_up_ne (by decide)]; exact n1
  · rw [y_up_ne (Or.inr (by decide)), m_up_ne (by decide)]; exact n2
  · rw [y_up_eq, m_up_eq]
  · rw [y_up_ne (Or.inr (by decide)), m_up_ne (by decide)]; exact n4
  · rw [y_up_ne (Or.inr (by decide)), m_up_ne (by decide)]; exact n5
  · intro k a b; rw [y_up_ne (Or.inl (by decide)), m_sum_up a (by decide)]; exact n6 k a b
  · intro j a b; rw [y_up_ne (Or.inl (by decide)), m_up_ne (by omega)]; exact n7 j a b
  · intro p a b; rw [y_up_ne (Or.inl (by decide)), m_S_up (by omega)]; exact n8 p a b
  · intro p a b; rw [y_up_ne (Or.inl (by decide)), y_up_ne (Or.inl (by decide)), m_up_ne (by omega), m_up_ne (by omega)]; exact n9 p a b
  · rw [m_up_ne (by decide)]; exact nm.up (by decide) (by decide)
  · rw [m_up_ne (by decide)]; exact k1
  · rw [m_up_ne (by decide)]; exact k2
  · rw [m_up_ne (by decide)]; exact k3
theorem tb_R.most {V : Nat → Int → Int} {r c w t : Int → Int} {v : Int} (h : tb_R V r c w t) (hv : 1 ≤ v ∧ v ≤ 4) : tb_R (y_up V 1 3 v) r (m_up c 3724 v) w t := by
  obtain ⟨⟨⟨n1, n2, n3, n4, n5⟩, n6, n7, n8, n9⟩, z, nm, hh, mn, k1, k2, k3⟩ := h
  refine ⟨⟨⟨?_, ?_, ?_, ?_, ?_⟩, ?_, ?_, ?_, ?_⟩, z.up (Or.inl rfl), ?_, hh.up (by omega) (by omega), mn.wr m_up_e (by omega), ?_, ?_, ?_⟩
  · rw [y_up_ne (Or.inr (by decide)), m_up_ne (by decide)]; exact n1
  · rw [y_up_ne (Or.inr (by decide)), m_up_ne (by decide)]; exact n2
  · rw [y_up_ne (Or.inr (by decide)), m_up_ne (by decide)]; exact n3
  · rw [y_up_eq, m_up_eq]
  · rw [y_up_ne (Or.inr (by decide)), m_up_ne (by decide)]; exact n5
  · intro k a b; rw [y_up_ne (Or.inl (by decide)), m_sum_up a (by decide)]; exact n6 k a b
  · intro j a b; rw [y_up_ne (Or.inl (by decide)), m_up_ne (by omega)]; exact n7 j a b
  · intro p a b; rw [y_up_ne (Or.inl (by decide)), m_S_up (by omega)]; exact n8 p a b
  · intro p a b; rw [y_up_ne (Or.inl (by decide)), y_up_ne (Or.inl (by decide)), m_up_ne (by omega), m_up_ne (by omega)]; exact n9 p a b
  · rw [m_up_ne (by decide)]; exact nm.up (by decide) (by decide)
  · rw [m_up_ne (by decide)]; exact k1
  · rw [m_up_ne (by decide)]; exact k2
  · rw [m_up_eq]; exact hv.1
/-- both in the middle of a table -/
def tb_I (X : XW) (D T g a : Nat) (n : Int) (B : Int → Int) (σ τ : ST) (V : Nat → Int → Int) (r c w t : Int → Int) (f9 f10 : Int) : Prop := tb_S X D T g σ n B V r f9 f10 ∧ tb_M X a τ n B c w t f9 f10 ∧ tl_K σ D τ a B n ∧ (τ.1 a 12).toInt = 0 ∧ tb_R V r c w t
/-- what the reference's reading leaves alone -/
def tb_P (X : XW) (a : Nat) (τ τ' : ST) : Prop := (∀ j : Int, 0 ≤ j → j < 3720 → m_c X τ' a j = m_c X τ a j) ∧ (∀ j : Int, 0 ≤ j → j < 24 → m_wd X τ' a j = m_wd X τ a j) ∧ (τ'.1 a 0).toInt = (τ.1 a 0).toInt ∧ (τ'.1 a 8).toInt = (τ.1 a 8).toInt
/-- what comes of a part -/
def tb_O (X : XW) (lb : Nat → Nat) (D T g a : Nat) (n : Int) (B : Int → Int) (σ τ σ' τ' : ST) (z : Int32) : Prop :=
  tb_F X lb D σ σ' ∧ tb_P X a τ τ' ∧
  ((z.toInt = 1 ∧ ∃ (V : Nat → Int → Int) (r c w t : Int → Int) (f9 f10 : Int), tb_I X D T g a n B σ' τ' V r c w t f9 f10 ∧ (τ.1 a 15).toInt < (τ'.1 a 15).toInt) ∨ (z.toInt = 0 ∧ tl_F σ' D τ' a))
section TP
variable {X : XW} {lb : Nat → Nat} {D T g a : Nat} {σ τ σ' τ' σ1 τ1 : ST} {n : Int} {B : Int → Int} {V : Nat → Int → Int} {r c w t : Int → Int} {f9 f10 : Int}
theorem tb_P.rf : tb_P X a τ τ := ⟨fun _ _ _ => rfl, fun _ _ _ => rfl, rfl, rfl⟩
theorem tb_P.tr (h : tb_P X a τ τ1) (k : tb_P X a τ1 τ') : tb_P X a τ τ' := ⟨fun j a b => (k.1 j a b).trans (h.1 j a b), fun j a b => (k.2.1 j a b).trans (h.2.1 j a b), k.2.2.1.trans h.2.2.1, k.2.2.2.trans h.2.2.2⟩
theorem tb_P.mk {c' w' t' : Int → Int} {h9 h10 k9 k10 : Int} (M : tb_M X a τ n B c w t h9 h10) (M' : tb_M X a τ' n B c' w' t' k9 k10) (hc : ∀ j : Int, 0 ≤ j → j < 3720 → c' j = c j) (hw : ∀ j : Int, 0 ≤ j → j < 24 → w' j = w j) : tb_P X a τ τ' := ⟨fun j a b => by rw [M.2.1, M'.2.1]; exact hc j a b, fun j a b => by rw [M.2.2.1, M'.2.2.1]; exact hw j a b, M'.2.2.2.2.2.2.1.trans M.2.2.2.2.2.2.1.symm, M'.2.2.2.2.2.2.2.trans M.2.2.2.2.2.2.2.symm⟩
theorem tb_P.rd (hT : q_T X) (ha : q_kd X a = 12) (h : tkl (tn_S2 a) (tn_L a) τ τ') : tb_P X a τ τ' := by
  obtain ⟨k1, k2, k3, k4⟩ := tb_k hT ha
  exact ⟨fun j _ _ => congrArg Int32.toInt (h.1 _ _ (fun q => m_ne k1 ha (by decide) q.1)), fun j _ _ => congrArg Int64.toInt (h.2.1 _ _ (fun q => m_ne k3 ha (by decide) q.1)), congrArg Int32.toInt (h.1 a 0 (fun q => absurd q.2.1 (by decide))), congrArg Int32.toInt (h.1 a 8 (fun q => absurd q.2.1 (by decide)))⟩
theorem tm_must0 (h : (τ.1 a 12).toInt = 0) {v : Int32} (hv : v.toInt = 0) : F_X12_must X τ a v = F_X12_wrong X τ a := by
  simp only [F_X12_must, ↓q_letE]
  rw [h, if_neg (by decide), if_pos hv]
theorem tm_must1 (h : (τ.1 a 12).toInt = 0) {v : Int32} (hv : v.toInt ≠ 0) : F_X12_must X τ a v = F_X12_next X τ a := by
  simp only [F_X12_must, ↓q_letE]
  rw [h, if_neg (by decide), if_neg hv]
/-- a fault, and the reference goes no further -/
theorem tb_O.bad {z : Int32} (hf : tb_F X lb D σ σ') (hp : tb_P X a τ τ') (hz : z.toInt = 0) (h : tl_F σ' D τ' a) (v : Int32) : tb_O X lb D T g a n B σ τ σ' (F_X12_must X τ' a v) z := by
  rw [tm_must2 h.2.1]
  exact ⟨hf, hp, Or.inr ⟨hz, h⟩⟩
/-- the semicolon at a part's end -/
theorem tb_semi (Y : y_S X lb) (H : tb_D X lb D T g) (ha : q_kd X a = 12) (I : tb_I X D T g a n B σ' τ' V r c w t f9 f10) (hf : tb_F X lb D σ σ') (hp : tb_P X a τ τ') (hlt : (τ.1 a 15).toInt ≤ (τ'.1 a 15).toInt) (hlt2 : (τ.1 a 15).toInt < (τ'.1 a 16).toInt) :
    ∃ (z : Int32) (σ2 : ST), F_X3_passSemicolon X σ' D = (z, σ2) ∧ tb_O X lb D T g a n B σ τ σ2 (F_X12_must X τ' a (F_X12_isSign X τ' a 59)) z := by
  obtain ⟨S, M, K, h0, Rr⟩ := I
  obtain ⟨z, σ2, e, hz, o1, o2, o3⟩ := tl_passSemi S.1 M.1 K h0
  obtain ⟨S2, f2⟩ := S.rd Y H o1
  have M2 := M.rd Y.1 ha o2
  refine ⟨z, σ2, e, hf.tr f2, hp.tr (tb_P.rd Y.1 ha o2), ?_⟩
  rcases o3 with ⟨q1, q2, q3, q4⟩ | ⟨q1, q2⟩
  · exact Or.inl ⟨q1, V, r, c, w, t, f9, f10, ⟨S2, M2, q2, q3, Rr⟩, by omega⟩
  · refine Or.inr ⟨?_, q2⟩
    rcases hz with hz | hz
    · exact hz
    · exact absurd hz q1
theorem tl_sameC.s9 (v : Int32) : tl_sameC D σ (q_si σ D 9 v) := fun f _ h => si_f (by omega) D
theorem tl_sameC.s10 (v : Int32) : tl_sameC D σ (q_si σ D 10 v) := fun f _ h => si_f (by omega) D
theorem tb_readLaw (Y : y_S X lb) (H : tb_D X lb D T g) (ha : q_kd X a = 12) (I : tb_I X D T g a n B σ τ V r c w t f9 f10) (h1 : (τ.1 a 14).toInt = 1) :
    ∃ (z : Int32) (σ' : ST), F_X9_readLaw X σ D = (z, σ') ∧ tb_O X lb D T g a n B σ τ σ' (F_X12_must X (F_X12_readLaw X τ a) a (F_X12_isSign X (F_X12_readLaw X τ a) a 59)) z := by
  obtain ⟨S, M, K, h0, Rr⟩ := I
  have kb := K.b
  unfold F_X9_readLaw F_X12_readLaw
  rw [q_letE (σ.1 D 9), q_letE (τ.1 a 25), S.2.2.2.1, M.2.2.2.2.1]
  by_cases q9 : f9 = 0
  · rw [if_pos q9, if_pos q9, q_letE (τ.1 a 12), h0, if_neg (by decide : ¬ (0 : Int) < 0), q_letE (q_si σ D 9 1), q_letE (q_si τ a 25 1)]
    obtain ⟨S1, f1⟩ := S.s9 Y H 1
    obtain ⟨M1, sm1⟩ := M.s9 Y.1 ha 1
    have K1 := K.same (tl_sameC.s9 1) sm1
    have h01 : ((q_si τ a 25 1).1 a 12).toInt = 0 := by rw [sm1.1 12 (by decide) (by decide)]; exact h0
    have p1 : tb_P X a τ (q_si τ a 25 1) := tb_P.mk M M1 (fun _ _ _ => rfl) (fun _ _ _ => rfl)
    have e16 : (q_si τ a 25 1).1 a 16 = τ.1 a 16 := sm1.1 16 (by decide) (by decide)
    obtain ⟨σa, hσa⟩ : ∃ s, s = q_si σ D 9 1 := ⟨_, rfl⟩
    obtain ⟨τa, hτa⟩ : ∃ s, s = q_si τ a 25 1 := ⟨_, rfl⟩
    rw [← hσa] at S1 f1 K1 ⊢
    rw [← hτa] at M1 K1 h01 p1 e16 ⊢
    rw [q_letE (F_X3_advance X σa D), q_letE (F_X12_next X τa a)]
    obtain ⟨c1, m1, K2, g2⟩ := tl_adv2 S1.1 M1.1 K1
    obtain ⟨S2, f2⟩ := S1.rd Y H c1.S2
    have M2 := M1.rd Y.1 ha m1.S2
    have p2 := p1.tr (tb_P.rd Y.1 ha m1.S2)
    have h02 : ((F_X12_next X τa a).1 a 12).toInt = 0 := by rw [tn_12 m1]; exact h01
    obtain ⟨σb, hσb⟩ : ∃ s, s = F_X3_advance X σa D := ⟨_, rfl⟩
    obtain ⟨τb, hτb⟩ : ∃ s, s = F_X12_next X τa a := ⟨_, rfl⟩
    rw [← hσb] at S2 f2 K2 ⊢
    rw [← hτb] at M2 K2 g2 h02 p2 ⊢
    have lw := tm_lawWord (X := X) (σ := τb) (a := a)
    have c3 : y_cw 3 = 688 := rfl
    have c4 : y_cw 4 = 147182 := rfl
    have c5 : y_cw 5 = 624037 := rfl
    rw [← c3, ← c4, ← c5] at lw
    rw [q_letE (F_X3_isWord X σb D 3), q_letE (F_X12_lawWord X τb a), q_letE (F_J9_max_7cf53 X τb 0 (F_X12_lawWord X τb a))]
    -- what the reference has for the law
    have mk : ∀ v : Int, -1 ≤ v → v ≤ 2 → (F_X12_lawWord X τb a).toInt = v → ∃ τc : ST, q_let (q_si τb (q_rf X a 20) (3723 : Int32).toNatClampNeg (F_J9_max_7cf53 X τb 0 (F_X12_lawWord X τb a)) : ST) (fun σ_13 => q_let (F_X12_lawWord X σ_13 a : Int32) (fun r_14 => if r_14.toInt < 0 then q_let (F_X12_must X σ_13 a (0 : Int32) : ST) (fun σ_19 => σ_19) else q_let (F_X12_must X σ_13 a (1 : Int32) : ST) (fun σ_22 => σ_22))) = (if v < 0 then F_X12_wrong X τc a else F_X12_next X τc a) ∧ tb_M X a τc n B (m_up c 3723 (max 0 v)) w t 1 f10 ∧ tl_same a τb τc := by
      intro v v0 v1 hv
      have mx : (F_J9_max_7cf53 X τb 0 (F_X12_lawWord X τb a)).toInt = max 0 v := by
        unfold F_J9_max_7cf53
        have z0 : (0 : Int32).toInt = 0 := rfl
        rw [z0, hv]
        by_cases q : 0 < v
        · rw [if_pos q, hv]; omega
        · rw [if_neg q, z0]; omega
      obtain ⟨M3, sm3⟩ := M2.cw Y.1 ha (i := 3723) (v := F_J9_max_7cf53 X τb 0 (F_X12_lawWord X τb a)) (A := 3723) rfl (by decide)
      rw [mx] at M3
      refine ⟨_, ?_, M3, sm3⟩
      obtain ⟨τc, hτc⟩ : ∃ s, s = q_si τb (q_rf X a 20) (3723 : Int32).toNatClampNeg (F_J9_max_7cf53 X τb 0 (F_X12_lawWord X τb a)) := ⟨_, rfl⟩
      rw [← hτc] at sm3 ⊢
      rw [q_letE, q_letE, q_letE, q_letE]
      have e : (F_X12_lawWord X τc a).toInt = v := by
        rw [tm_lawWord, sm3.1 14 (by decide) (by decide), sm3.2, ← tm_lawWord (X := X)]
        exact hv
      have h03 : (τc.1 a 12).toInt = 0 := by rw [sm3.1 12 (by decide) (by decide)]; exact h02
      rw [e]
      by_cases q : v < 0
      · rw [if_pos q, if_pos q, tm_must0 h03 rfl]
      · rw [if_neg q, if_neg q, tm_must1 h03 (by decide)]
    have iw : ∀ rr : Nat, y_isw rr → (F_X3_isWord X σb D rr).toInt = if (τb.1 a 14).toInt = 1 ∧ (τb.2.1 a 19).toInt = y_cw rr then 1 else 0 := fun rr hr => tl_isWord S2.1 K2 hr
    -- the class goes on with the law v
    have go : ∀ (v : Int32) (vv : Int), v.toInt = vv → 0 ≤ vv → vv ≤ 2 → (F_X12_lawWord X τb a).toInt = vv →
        ∃ (z : Int32) (σ' : ST), q_let (q_si σb (q_rf X (q_rf X D 8) 0) 2 v : ST) (fun σ_18 => q_let (F_X3_advance X σ_18 D : ST) (fun σ_20 => q_bi (F_X3_passSemicolon X σ_20 D) (fun r_21 σ_22 => (r_21, σ_22)))) = (z, σ') ∧ ∃ τ' : ST, q_let (q_si τb (q_rf X a 20) (3723 : Int32).toNatClampNeg (F_J9_max_7cf53 X τb 0 (F_X12_lawWord X τb a)) : ST) (fun σ_13 => q_let (F_X12_lawWord X σ_13 a : Int32) (fun r_14 => if r_14.toInt < 0 then q_let (F_X12_must X σ_13 a (0 : Int32) : ST) (fun σ_19 => σ_19) else q_let (F_X12_must X σ_13 a (1 : Int32) : ST) (fun σ_22 => σ_22))) = τ' ∧ tb_O X lb D T g a n B σ τ σ' (F_X12_must X τ' a (F_X12_isSign X τ' a 59)) z := by
      intro v vv hv v0 v1 hl
      obtain ⟨τc, e1, M3, sm3⟩ := mk vv (by omega) v1 hl
      have em : max 0 vv = vv := by omega
      rw [em] at M3
      rw [if_neg (by omega)] at e1
      have W := (y_W.rf (X := X) (lb := lb) (g := g) (o := 6) (σ := σb)).si Y H.2.2.1 (id := 1) (by decide) 2 v
      rw [S2.2.1, hv] at W
      have hg : q_si σb (y_gA X g 1) 2 v = q_si σb (q_rf X (q_rf X D 8) 0) 2 v := by rw [H.2.1]; rfl
      rw [hg] at W
      obtain ⟨S3, f3⟩ := S2.gm Y H W
      have K3 := K2.same (tl_sameC.W W (by have := H.2.2.2.1; omega)) sm3
      have h03 : (τc.1 a 12).toInt = 0 := by rw [sm3.1 12 (by decide) (by decide)]; exact h02
      obtain ⟨c4, m4, K4, g4⟩ := tl_adv2 S3.1 M3.1 K3
      obtain ⟨S4, f4⟩ := S3.rd Y H c4.S2
      have M4 := M3.rd Y.1 ha m4.S2
      have h04 : ((F_X12_next X τc a).1 a 12).toInt = 0 := by rw [tn_12 m4]; exact h03
      have R4 : tb_R (y_up V 1 2 vv) r (m_up c 3723 vv) w t := Rr.law ⟨v0, v1⟩
      have pP : tb_P X a τ (F_X12_next X τc a) := p2.tr ((tb_P.mk M2 M3 (fun j a b => m_up_ne (by omega)) (fun _ _ _ => rfl)).tr (tb_P.rd Y.1 ha m4.S2))
      have k3b := K3.b
      have k4b := K4.b
      have s15 : τc.1 a 15 = τb.1 a 15 := sm3.1 15 (by decide) (by decide)
      obtain ⟨z, σ2, e2, o⟩ := tb_semi Y H ha (σ := σ) (τ := τ) ⟨S4, M4, K4, h04, R4⟩ (((f1.tr f2).tr f3).tr f4) pP (by rw [e16] at g2; rw [s15] at k3b; omega) (by rw [e16] at g2; rw [s15] at k3b; omega)
      refine ⟨z, σ2, ?_, _, e1, o⟩
      rw [q_letE, q_letE, q_biE, e2]
    rw [iw 3 ⟨by decide, by decide⟩]
    by_cases w3 : (τb.1 a 14).toInt = 1 ∧ (τb.2.1 a 19).toInt = y_cw 3
    · rw [if_pos w3, if_neg (by decide)]
      have l3 : (F_X12_lawWord X τb a).toInt = 0 := by rw [lw, if_pos w3]
      obtain ⟨z, σ', e1, τ', e2, o⟩ := go 0 0 rfl (by decide) (by decide) l3
      rw [e2]
      exact ⟨z, σ', e1, o⟩
    · rw [if_neg w3, if_pos rfl, q_letE (F_X3_isWord X σb D 4), iw 4 ⟨by decide, by decide⟩]
      by_cases w4 : (τb.1 a 14).toInt = 1 ∧ (τb.2.1 a 19).toInt = y_cw 4
      · rw [if_pos w4, if_neg (by decide)]
        have l3 : (F_X12_lawWord X τb a).toInt = 1 := by rw [lw, if_neg w3, if_pos w4]
        obtain ⟨z, σ', e1, τ', e2, o⟩ := go 1 1 rfl (by decide) (by decide) l3
        rw [e2]
        exact ⟨z, σ', e1, o⟩
      · rw [if_neg w4, if_pos rfl, q_letE (F_X3_isWord X σb D 5), iw 5 ⟨by decide, by decide⟩]
        by_cases w5 : (τb.1 a 14).toInt = 1 ∧ (τb.2.1 a 19).toInt = y_cw 5
        · rw [if_pos w5, if_neg (by decide)]
          have l3 : (F_X12_lawWord X τb a).toInt = 2 := by rw [lw, if_neg w3, if_neg w4, if_pos w5]
          obtain ⟨z, σ', e1, τ', e2, o⟩ := go 2 2 rfl (by decide) (by decide) l3
          rw [e2]
          exact ⟨z, σ', e1, o⟩
        · rw [if_neg w5, if_pos rfl]
          have l3 : (F_X12_lawWord X τb a).toInt = -1 := by rw [lw, if_neg w3, if_neg w4, if_neg w5]
          obtain ⟨τc, e1, M3, sm3⟩ := mk (-1) (by decide) (by decide) l3
          rw [if_pos (by decide)] at e1
          have K3 := K2.same tl_sameC.rf sm3
          have h03 : (τc.1 a 12).toInt = 0 := by rw [sm3.1 12 (by decide) (by decide)]; exact h02
          obtain ⟨σ', a1, a2, a3, a4⟩ := tl_wrong (X := X) K3 h03
          rw [e1, q_biE, a1]
          exact ⟨0, σ', rfl, tb_O.bad ((f1.tr f2).tr (S2.rd Y H a2).2) (p2.tr ((tb_P.mk M2 M3 (fun j a b => m_up_ne (by omega)) (fun _ _ _ => rfl)).tr (tb_P.rd Y.1 ha a3))) rfl a4 _⟩
  · rw [if_neg q9, if_neg q9, q_letE, q_letE, q_letE]
    obtain ⟨σ', a1, a2, a3, a4⟩ := tl_fail (X := X) K h0 (by omega) (k := 5) (by decide) (w := τ.1 a 15) rfl
    rw [if_pos a4.2.1, q_biE, a1]
    exact ⟨0, σ', rfl, tb_O.bad (S.rd Y H a2).2 (tb_P.rd Y.1 ha a3) rfl a4 _⟩
theorem tb_readMost (Y : y_S X lb) (H : tb_D X lb D T g) (ha : q_kd X a = 12) (I : tb_I X D T g a n B σ τ V r c w t f9 f10) (h1 : (τ.1 a 14).toInt = 1) :
    ∃ (z : Int32) (σ' : ST), F_X9_readMost X σ D = (z, σ') ∧ tb_O X lb D T g a n B σ τ σ' (F_X12_must X (F_X12_readMost X τ a) a (F_X12_isSign X (F_X12_readMost X τ a) a 59)) z := by
  obtain ⟨S, M, K, h0, Rr⟩ := I
  have kb := K.b
  unfold F_X9_readMost F_X12_readMost
  rw [q_letE (σ.1 D 10), q_letE (τ.1 a 26), S.2.2.2.2, M.2.2.2.2.2.1]
  by_cases q9 : f10 = 0
  · rw [if_pos q9, if_pos q9, q_letE (τ.1 a 12), h0, if_neg (by decide : ¬ (0 : Int) < 0), q_letE (q_si σ D 10 1), q_letE (q_si τ a 26 1)]
    obtain ⟨S1, f1⟩ := S.s10 Y H 1
    obtain ⟨M1, sm1⟩ := M.s10 Y.1 ha 1
    have K1 := K.same (tl_sameC.s10 1) sm1
    have h01 : ((q_si τ a 26 1).1 a 12).toInt = 0 := by rw [sm1.1 12 (by decide) (by decide)]; exact h0
    have p1 : tb_P X a τ (q_si τ a 26 1) := tb_P.mk M M1 (fun _ _ _ => rfl) (fun _ _ _ => rfl)
    have e16 : (q_si τ a 26 1).1 a 16 = τ.1 a 16 := sm1.1 16 (by decide) (by decide)
    obtain ⟨σa, hσa⟩ : ∃ s, s = q_si σ D 10 1 := ⟨_, rfl⟩
    obtain ⟨τa, hτa⟩ : ∃ s, s = q_si τ a 26 1 := ⟨_, rfl⟩
    rw [← hσa] at S1 f1 K1 ⊢
    rw [← hτa] at M1 K1 h01 p1 e16 ⊢
    rw [q_letE (F_X3_advance X σa D), q_letE (F_X12_next X τa a)]
    obtain ⟨c1, m1, K2, g2⟩ := tl_adv2 S1.1 M1.1 K1
    obtain ⟨S2, f2⟩ := S1.rd Y H c1.S2
    have M2 := M1.rd Y.1 ha m1.S2
    have p2 := p1.tr (tb_P.rd Y.1 ha m1.S2)
    have h02 : ((F_X12_next X τa a).1 a 12).toInt = 0 := by rw [tn_12 m1]; exact h01
    obtain ⟨σb, hσb⟩ : ∃ s, s = F_X3_advance X σa D := ⟨_, rfl⟩
    obtain ⟨τb, hτb⟩ : ∃ s, s = F_X12_next X τa a := ⟨_, rfl⟩
    rw [← hσb] at S2 f2 K2 ⊢
    rw [← hτb] at M2 K2 g2 h02 p2 ⊢
    obtain ⟨z, y, σc, τc, e1, e2, ⟨o1, o2, o3⟩, v1, v2⟩ := tl_passNum S2.1 M2.1 K2 h02 1 4 (by decide)
    obtain ⟨S3, f3⟩ := S2.rd Y H o1
    have M3 := M2.rd Y.1 ha o2
    have p3 := p2.tr (tb_P.rd Y.1 ha o2)
    rw [e1, e2, q_biP, q_biP, q_letE (q_si τc (q_rf X a 20) (3724 : Int32).toNatClampNeg y)]
    obtain ⟨M4, sm4⟩ := M3.cw Y.1 ha (i := 3724) (v := y) (A := 3724) rfl (by decide)
    have p4 : tb_P X a τ (q_si τc (q_rf X a 20) (3724 : Int32).toNatClampNeg y) := p3.tr (tb_P.mk M3 M4 (fun j a b => m_up_ne (by omega)) (fun _ _ _ => rfl))
    obtain ⟨τd, hτd⟩ : ∃ s, s = q_si τc (q_rf X a 20) (3724 : Int32).toNatClampNeg y := ⟨_, rfl⟩
    show ∃ (z' : Int32) (σ' : ST), (if z.toInt = -1 then ((0 : Int32), σc) else q_let (q_si σc (q_rf X (q_rf X D 8) 0) 3 z : ST) (fun σ_11 => q_bi (F_X3_passSemicolon X σ_11 D) (fun r_12 σ_13 => (r_12, σ_13)))) = (z', σ') ∧ tb_O X lb D T g a n B σ τ σ' (F_X12_must X (q_si τc (q_rf X a 20) (3724 : Int32).toNatClampNeg y) a (F_X12_isSign X (q_si τc (q_rf X a 20) (3724 : Int32).toNatClampNeg y) a 59)) z'
    rw [← hτd] at M4 sm4 p4 ⊢
    rcases o3 with ⟨q1, q2, q3, q4⟩ | ⟨q1, q2⟩
    · rw [if_neg q1, q_letE, q_biE]
      obtain ⟨w1, w2, w3⟩ := v1 q1
      have W := (y_W.rf (X := X) (lb := lb) (g := g) (o := 6) (σ := σc)).si Y H.2.2.1 (id := 1) (by decide) 3 z
      rw [S3.2.1] at W
      have hg : q_si σc (y_gA X g 1) 3 z = q_si σc (q_rf X (q_rf X D 8) 0) 3 z := by rw [H.2.1]; rfl
      rw [hg] at W
      obtain ⟨S4, f4⟩ := S3.gm Y H W
      have K4 := q2.same (tl_sameC.W W (by have := H.2.2.2.1; omega)) sm4
      have h04 : (τd.1 a 12).toInt = 0 := by rw [sm4.1 12 (by decide) (by decide)]; exact q3
      have e1_ : (1 : Int32).toInt = 1 := rfl
      have e4_ : (4 : Int32).toInt = 4 := rfl
      rw [e1_] at w2
      rw [e4_] at w3
      have R4 : tb_R (y_up V 1 ((3 : Nat) : Int) z.toInt) r (m_up c 3724 y.toInt) w t := by
        rw [w1]
        exact Rr.most ⟨w2, w3⟩
      have k2b := K2.b
      have k4b := K4.b
      have s15 : τd.1 a 15 = τc.1 a 15 := sm4.1 15 (by decide) (by decide)
      obtain ⟨z', σ2, e3, o⟩ := tb_semi Y H ha (σ := σ) (τ := τ) ⟨S4, M4, K4, h04, R4⟩ (((f1.tr f2).tr f3).tr f4) p4 (by rw [e16] at g2; rw [s15]; omega) (by rw [e16] at g2; rw [s15] at k4b; omega)
      rw [e3]
      exact ⟨z', σ2, rfl, o⟩
    · have qz : z.toInt = -1 := Classical.not_not.mp q1
      rw [if_pos qz]
      have F4 : tl_F σc D τd a := by
        obtain ⟨t1, t2, t3⟩ := q2
        refine ⟨?_, ?_, ?_⟩
        · rw [sm4.1 12 (by decide) (by decide)]; exact t1
        · rw [sm4.1 12 (by decide) (by decide)]; exact t2
        · rw [sm4.1 13 (by decide) (by decide)]; exact t3
      exact ⟨0, σc, rfl, tb_O.bad ((f1.tr f2).tr f3) p4 rfl F4 _⟩
  · rw [if_neg q9, if_neg q9, q_letE, q_letE, q_letE]
    obtain ⟨σ', a1, a2, a3, a4⟩ := tl_fail (X := X) K h0 (by omega) (k := 5) (by decide) (w := τ.1 a 15) rfl
    rw [if_pos a4.2.1, q_biE, a1]
    exact ⟨0, σ', rfl, tb_O.bad (S.rd Y H a2).2 (tb_P.rd Y.1 ha a3) rfl a4 _⟩
end TP
end
/-! FROM 48m.player.lean.txt -/
section
/-! A PLAYER TOLD -/
/-- letters f put from place b on, s of them -/
def y_ad (V : Nat → Int → Int) (id : Nat) (b s : Int) (f : Int → Int) : Nat → Int → Int := fun id' i => if id' = id ∧ b ≤ i ∧ i < b + s then f (i - b) else V id' i
theorem y_ad0 {V : Nat → Int → Int} {id : Nat} {b : Int} {f : Int → Int} : y_ad V id b 0 f = V := by
  funext j i
  show (if j = id ∧ b ≤ i ∧ i < b + 0 then f (i - b) else V j i) = V j i
  rw [if_neg (by omega)]
theorem y_ad_s {V : Nat → Int → Int} {id : Nat} {b s v : Int} {f : Int → Int} (h : 0 ≤ s) (hv : v = f s) : y_up (y_ad V id b s f) id (b + s) v = y_ad V id b (s + 1) f := by
  subst hv
  funext j i
  show (if j = id ∧ i = b + s then f s else if j = id ∧ b ≤ i ∧ i < b + s then f (i - b) else V j i) = if j = id ∧ b ≤ i ∧ i < b + (s + 1) then f (i - b) else V j i
  by_cases q : j = id ∧ i = b + s
  · obtain ⟨rfl, rfl⟩ := q
    rw [if_pos ⟨rfl, rfl⟩, if_pos ⟨rfl, by omega, by omega⟩]
    congr 1
    omega
  · rw [if_neg q]
    by_cases q2 : j = id ∧ b ≤ i ∧ i < b + s
    · rw [if_pos q2, if_pos ⟨q2.1, q2.2.1, by omega⟩]
    · rw [if_neg q2, if_neg]
      rintro ⟨e1, e2, e3⟩
      exact q2 ⟨e1, e2, by have : i ≠ b + s := fun e => q ⟨e1, e⟩; omega⟩
theorem y_ad_ne {V : Nat → Int → Int} {id id' : Nat} {b s i : Int} {f : Int → Int} (h : id' ≠ id) : y_ad V id b s f id' i = V id' i := by
  refine if_neg ?_
  rintro ⟨h1, _⟩
  exact h h1
theorem y_up_id (V : Nat → Int → Int) (id : Nat) (i : Int) : y_up V id i (V id i) = V := by
  funext j k
  show (if j = id ∧ k = i then V id i else V j k) = V j k
  by_cases q : j = id ∧ k = i
  · rw [if_pos q, q.1, q.2]
  · rw [if_neg q]
theorem m_up_id (c : Int → Int) (A : Int) : m_up c A (c A) = c := by
  funext j
  show (if j = A then c A else c j) = c j
  by_cases q : j = A
  · rw [if_pos q, q]
  · rw [if_neg q]
section TQ
variable {X : XW} {lb : Nat → Nat} {D T g a : Nat} {σ τ σ' τ' σ1 τ1 : ST} {n : Int} {B : Int → Int} {V : Nat → Int → Int} {r c w t : Int → Int} {f9 f10 : Int}
theorem tc_E.W {o : Nat} {V' : Nat → Int → Int} (E : tc_E X σ D T n B) (h : y_W X lb g o σ σ' V') (hD : lb D / 8192 ≠ o) (hT : lb T / 8192 ≠ o) : tc_E X σ' D T n B := by
  obtain ⟨e1, e2, e3, e4, e5, e6⟩ := E
  exact ⟨by rw [h.2.1]; exact e1, by rw [h.1 D hD]; exact e2, e3, e4, e5, fun p p0 p1 => by rw [h.1 T hT]; exact e6 p p0 p1⟩
theorem tc_addL (Y : y_S X lb) (H : tb_D X lb D T g) (E : tc_E X σ D T n B) {b e : Int} (hb : (σ.1 D 2).toInt = b) (he : (σ.1 D 3).toInt = e) (h0 : 0 ≤ b) (hbe : b ≤ e) (hen : e ≤ n) (h8 : e - b ≤ 8) {P : Int} (hP : 0 ≤ P ∧ P < 6) (k : Nat) : ∀ (x : Int32) (ρ : ST), (2147483647 - x.toInt).toNat < k → 0 ≤ x.toInt → x.toInt ≤ e - b → y_W X lb g 6 σ ρ (y_ad V 5 (8 * P) x.toInt (fun j => B (b + j))) → V 1 4 = P →
    ∃ ρ' : ST, F_X6_addPlayer_L21_1 X D (q_rf X g 0) k x ρ = F_X6_addPlayer_E56_2 X ρ' (q_rf X g 0) D ∧ y_W X lb g 6 σ ρ' (y_ad V 5 (8 * P) (e - b) (fun j => B (b + j))) := by
  have E3 := E.2.2.1
  have hD : lb D / 8192 ≠ 6 := by have := H.2.2.2.1; omega
  have hT : lb T / 8192 ≠ 6 := by have := H.2.2.2.2.1; omega
  induction k with
  | zero => intro x ρ hm; exact absurd hm (Nat.not_lt_zero _)
  | succ k ih =>
    intro x ρ hm x0 x1 W hV
    have Eρ := E.W W hD hT
    have b2 : (ρ.1 D 2).toInt = b := by rw [W.1 D hD]; exact hb
    have b3 : (ρ.1 D 3).toInt = e := by rw [W.1 D hD]; exact he
    have sz : (F_X3_size X ρ D).toInt = e - b := by
      simp only [F_X3_size, ↓q_letE]
      rw [ar_sub, b3, b2, ar_wr (by omega) (by omega)]
    have p4 : (ρ.1 (q_rf X g 0) 4).toInt = P := by
      have z := y_v_rdn (X := X) (g := g) (σ := ρ) (id := 1) (by decide) 4
      rw [W.2.2, y_ad_ne (by decide)] at z
      exact z.trans hV
    rw [F_X6_addPlayer_L21_1_s]
    simp only [F_X6_addPlayer_B21_1, ↓q_letE]
    rw [sz]
    by_cases q : x.toInt < e - b
    · rw [if_pos q]
      have e8 : (8 : Int32).toInt = 8 := rfl
      have ei : (ρ.1 (q_rf X g 0) 4 * 8 + x).toInt = 8 * P + x.toInt := by rw [ar_add, ar_mul, p4, e8, ar_wr (n := P * 8) (by omega) (by omega), ar_wr (by omega) (by omega)]; omega
      have sg := tc_sig Eρ b2 ⟨h0, by omega⟩ (v := x) rfl ⟨x0, by omega⟩
      rw [tx_D_in (by omega) (by omega)] at sg
      have gn : ((y_gn 5 : Nat) : Int) = 48 := rfl
      have W2 := W.set Y H.2.2.1 (id := 5) (r := q_rf X (q_rf X g 0) 6) ⟨by decide, by decide⟩ rfl (ρ.1 (q_rf X g 0) 4 * 8 + x) (F_X3_signAt X ρ D x) (by rw [ei]; omega) (by rw [ei, gn]; omega)
      rw [ei, sg] at W2
      have e1 : (x + 1).toInt = x.toInt + 1 := y_inc (by omega)
      have zz := ih (x + 1) _ (by omega) (by omega) (by omega) (by rw [e1]; exact W2.eq (y_ad_s x0 rfl)) hV
      exact zz
    · rw [if_neg q]
      have ex : x.toInt = e - b := by omega
      rw [ex] at W
      exact ⟨ρ, rfl, W⟩
theorem tc_addPlayer (Y : y_S X lb) (H : tb_D X lb D T g) (E : tc_E X σ D T n B) {b e : Int} (hb : (σ.1 D 2).toInt = b) (he : (σ.1 D 3).toInt = e) (h0 : 0 ≤ b) (hbe : b ≤ e) (hen : e ≤ n) (h8 : e - b ≤ 8) {P : Int} (hP : 0 ≤ P ∧ P < 6) (hv : y_v X g σ = V) (hV : V 1 4 = P) : y_W X lb g 6 σ (F_X6_addPlayer X σ (q_rf X g 0) D) (y_up (y_up (y_ad V 5 (8 * P) (e - b) (fun j => B (b + j))) 6 P (e - b)) 1 4 (P + 1)) := by
  have E3 := E.2.2.1
  have hD : lb D / 8192 ≠ 6 := by have := H.2.2.2.1; omega
  have hT : lb T / 8192 ≠ 6 := by have := H.2.2.2.2.1; omega
  have sz : (F_X3_size X σ D).toInt = e - b := by
    simp only [F_X3_size, ↓q_letE]
    rw [ar_sub, he, hb, ar_wr (by omega) (by omega)]
  have p4 : (σ.1 (q_rf X g 0) 4).toInt = P := by
    have z := y_v_rdn (X := X) (g := g) (σ := σ) (id := 1) (by decide) 4
    rw [hv] at z
    exact z.trans hV
  have W0 : y_W X lb g 6 σ σ (y_ad V 5 (8 * P) (0 : Int32).toInt (fun j => B (b + j))) := by
    have z0 : (0 : Int32).toInt = 0 := rfl
    rw [z0, y_ad0]
    exact y_W.rf.eq hv
  obtain ⟨ρ', a1, a2⟩ := tc_addL Y H E hb he h0 hbe hen h8 hP ((2147483647 - (0 : Int32).toInt).toNat + 1) 0 σ (by decide) (by decide) (by show (0 : Int) ≤ _; omega) W0 hV
  unfold F_X6_addPlayer
  rw [q_letE, p4, if_pos (by omega), q_letE, sz, if_neg (by omega), a1]
  have b2 : (ρ'.1 D 2).toInt = b := by rw [a2.1 D hD]; exact hb
  have b3 : (ρ'.1 D 3).toInt = e := by rw [a2.1 D hD]; exact he
  have sz2 : (F_X3_size X ρ' D).toInt = e - b := by
    simp only [F_X3_size, ↓q_letE]
    rw [ar_sub, b3, b2, ar_wr (by omega) (by omega)]
  have p5 : (ρ'.1 (q_rf X g 0) 4).toInt = P := by
    have z := y_v_rdn (X := X) (g := g) (σ := ρ') (id := 1) (by decide) 4
    rw [a2.2.2, y_ad_ne (by decide)] at z
    exact z.trans hV
  unfold F_X6_addPlayer_E56_2
  rw [q_letE, q_letE, q_letE, q_letE, q_letE, q_letE]
  have gn : ((y_gn 6 : Nat) : Int) = 6 := rfl
  have W3 := a2.set Y H.2.2.1 (id := 6) (r := q_rf X (q_rf X g 0) 7) ⟨by decide, by decide⟩ rfl (ρ'.1 (q_rf X g 0) 4) (F_X3_size X ρ' D) (by rw [p5]; omega) (by rw [p5, gn]; omega)
  rw [p5, sz2] at W3
  obtain ⟨ρ2, hρ2⟩ : ∃ s, s = F_X5_set X ρ' (q_rf X (q_rf X g 0) 7) (ρ'.1 (q_rf X g 0) 4) (F_X3_size X ρ' D) := ⟨_, rfl⟩
  rw [← hρ2] at W3 ⊢
  have p6 : (ρ2.1 (q_rf X g 0) 4).toInt = P := by
    have z := y_v_rdn (X := X) (g := g) (σ := ρ2) (id := 1) (by decide) 4
    rw [W3.2.2, y_up_ne (Or.inl (by decide)), y_ad_ne (by decide)] at z
    exact z.trans hV
  have W4 := W3.si Y H.2.2.1 (id := 1) (by decide) 4 (ρ2.1 (q_rf X g 0) 4 + 1)
  rw [y_inc (by omega), p6] at W4
  exact W4
/-- lies and doubts, if they are told -/
theorem tb_six (Y : y_S X lb) (H : tb_D X lb D T g) (ha : q_kd X a = 12) (S : tb_S X D T g σ n B V r f9 f10) (M : tb_M X a τ n B c w t f9 f10) (K : tl_K σ D τ a B n) (h0 : (τ.1 a 12).toInt = 0) {rr : Nat} (hrr : y_isw rr) {flag : Int32} (hfl : flag.toInt = if (τ.1 a 14).toInt = 1 ∧ (τ.2.1 a 19).toInt = y_cw rr then 1 else 0) {id row : Nat} (hid : id = 10 ∨ id = 11) (hrow : q_rf X row 0 = y_gA X g id) {pl : Int32} {P : Int} (hpl : pl.toInt = P) (hP : 0 ≤ P ∧ P < 6) {Ab : Int32} {A : Int} (hA : Ab.toInt = A) (hA2 : 3730 ≤ A ∧ A ≤ 3736) (hVc : V id P = c (A + P)) :
    ∃ (z : Int32) (σ' τ' : ST) (v u : Int), F_X9_readSixteenths X σ D rr row pl = (z, σ') ∧
      (∀ Kc : ST → ST, (if flag.toInt = 0 then Kc τ else q_let (F_X12_next X τ a : ST) (fun s1 => q_let (Ab + pl : Int32) (fun z1 => q_bi (F_X12_count X s1 a (0 : Int32) (16 : Int32)) (fun r1 s2 => q_let (q_si s2 (q_rf X a 20) z1.toNatClampNeg r1 : ST) (fun s3 => Kc s3))))) = Kc τ') ∧
      (z.toInt = 0 ∨ z.toInt = 1) ∧ tb_F X lb D σ σ' ∧ tb_S X D T g σ' n B (y_up V id P u) r f9 f10 ∧ tb_M X a τ' n B (m_up c (A + P) v) w t f9 f10 ∧
      ((z.toInt = 1 ∧ u = v ∧ tl_K σ' D τ' a B n ∧ (τ'.1 a 12).toInt = 0 ∧ (τ.1 a 15).toInt ≤ (τ'.1 a 15).toInt) ∨ (z.toInt = 0 ∧ tl_F σ' D τ' a)) := by
  have hDn : lb D / 8192 ≠ 6 := by have := H.2.2.2.1; omega
  unfold F_X9_readSixteenths
  rw [q_letE, tl_isWord S.1 K hrr, hfl]
  by_cases q : (τ.1 a 14).toInt = 1 ∧ (τ.2.1 a 19).toInt = y_cw rr
  · rw [if_pos q, if_neg (by decide), q_letE, q_biE]
    obtain ⟨c1, m1, K2, g2⟩ := tl_adv2 S.1 M.1 K
    obtain ⟨S2, f2⟩ := S.rd Y H c1.S2
    have M2 := M.rd Y.1 ha m1.S2
    have h02 : ((F_X12_next X τ a).1 a 12).toInt = 0 := by rw [tn_12 m1]; exact h0
    have kb := K.b
    obtain ⟨σb, hσb⟩ : ∃ s, s = F_X3_advance X σ D := ⟨_, rfl⟩
    obtain ⟨τb, hτb⟩ : ∃ s, s = F_X12_next X τ a := ⟨_, rfl⟩
    rw [← hσb] at S2 f2 K2 ⊢
    rw [← hτb] at M2 K2 g2 h02 ⊢
    obtain ⟨z, y, σc, τc, e1, e2, ⟨o1, o2, o3⟩, v1, v2⟩ := tl_passNum S2.1 M2.1 K2 h02 0 16 (by decide)
    obtain ⟨S3, f3⟩ := S2.rd Y H o1
    have M3 := M2.rd Y.1 ha o2
    have gn : ((y_gn id : Nat) : Int) = 6 := by rcases hid with h | h <;> rw [h] <;> rfl
    have W := (y_W.rf (X := X) (lb := lb) (g := g) (o := 6) (σ := σc)).set Y H.2.2.1 (id := id) (r := row) ⟨by omega, by omega⟩ hrow pl z (by omega) (by rw [gn]; omega)
    rw [S3.2.1, hpl] at W
    obtain ⟨S4, f4⟩ := S3.gm Y H W
    have ei : (Ab + pl).toInt = A + P := by rw [ar_add, hA, hpl, ar_wr (by omega) (by omega)]
    obtain ⟨M4, sm4⟩ := M3.cw Y.1 ha (i := Ab + pl) (v := y) ei (by omega)
    have e0_ : (0 : Int32).toInt = 0 := rfl
    have e16_ : (16 : Int32).toInt = 16 := rfl
    have sC : tl_sameC D σc (F_X5_set X σc row pl z) := tl_sameC.W W hDn
    rw [e1]
    refine ⟨(if z.toInt = -1 then 0 else 1), F_X5_set X σc row pl z, q_si τc (q_rf X a 20) (Ab + pl).toNatClampNeg y, y.toInt, z.toInt, ?_, fun Kc => ?_, ?_, (f2.tr f3).tr f4, S4, M4, ?_⟩
    · rw [q_letE]
      show (if z.toInt = -1 then ((0 : Int32), F_X5_set X σc row pl z) else ((1 : Int32), F_X5_set X σc row pl z)) = _
      split <;> rfl
    · rw [if_neg (by decide), q_letE, q_letE, e2, q_biP, q_letE]
    · split
      · exact Or.inl rfl
      · exact Or.inr rfl
    · rcases o3 with ⟨q1, q2, q3, q4⟩ | ⟨q1, q2⟩
      · rw [if_neg q1]
        refine Or.inl ⟨rfl, (v1 q1).1, q2.same sC sm4, ?_, ?_⟩
        · rw [sm4.1 12 (by decide) (by decide)]; exact q3
        · rw [sm4.1 15 (by decide) (by decide)]; have := K2.b; omega
      · have qz : z.toInt = -1 := Classical.not_not.mp q1
        rw [if_pos qz]
        obtain ⟨t1, t2, t3⟩ := q2
        refine Or.inr ⟨rfl, ?_, ?_, ?_⟩
        · rw [sm4.1 12 (by decide) (by decide), sC 6 (by decide) (by decide)]; exact t1
        · rw [sm4.1 12 (by decide) (by decide)]; exact t2
        · rw [sm4.1 13 (by decide) (by decide), sC 7 (by decide) (by decide)]; exact t3
  · rw [if_neg q, if_pos rfl]
    refine ⟨1, σ, τ, c (A + P), V id P, rfl, fun Kc => by rw [if_pos rfl], Or.inr rfl, tb_F.rf, by rw [y_up_id]; exact S, by rw [m_up_id]; exact M, Or.inl ⟨rfl, hVc, K, h0, Int.le_refl _⟩⟩
/-- a new player stands in the relation -/
theorem tb_R.player {b e P v1 v2 : Int} (h : tb_R V r c w t) (hP : c 3722 = P) (hP6 : 0 ≤ P ∧ P < 6) (hbe : b < e) (h8 : e - b ≤ 8) (hl : ∀ j, b ≤ j → j < e → tx_le (B j)) :
    tb_R (y_up (y_up (y_up (y_up (y_ad V 5 (8 * P) (e - b) (fun j => B (b + j))) 6 P (e - b)) 1 4 (P + 1)) 10 P v1) 11 P v2) r (m_up (m_up (m_up c (3730 + P) v1) (3736 + P) v2) 3722 (P + 1)) (m_up w (24 + P) (tx_wv B b (e - b).toNat)) t := by
  obtain ⟨⟨⟨n1, n2, n3, n4, n5⟩, n6, n7, n8, n9⟩, z, nm, hh, mn, k1, k2, k3⟩ := h
  have rd : ∀ (id : Nat) (i : Int), id ≠ 5 → (id = 6 → i ≠ P) → (id = 1 → i ≠ 4) → (id = 10 → i ≠ P) → (id = 11 → i ≠ P) → y_up (y_up (y_up (y_up (y_ad V 5 (8 * P) (e - b) (fun j => B (b + j))) 6 P (e - b)) 1 4 (P + 1)) 10 P v1) 11 P v2 id i = V id i := by
    intro id i h5 h6 h1 h10 h11
    rw [y_up_ne (by by_cases q : id = 11; exact Or.inr (h11 q); exact Or.inl q), y_up_ne (by by_cases q : id = 10; exact Or.inr (h10 q); exact Or.inl q), y_up_ne (by by_cases q : id = 1; exact Or.inr (h1 q); exact Or.inl q), y_up_ne (by by_cases q : id = 6; exact Or.inr (h6 q); exact Or.inl q), y_ad_ne h5]
  have rc : ∀ j : Int, j ≠ 3722 → j ≠ 3736 + P → j ≠ 3730 + P → m_up (m_up (m_up c (3730 + P) v1) (3736 + P) v2) 3722 (P + 1) j = c j := fun j a1 a2 a3 => by rw [m_up_ne a1, m_up_ne a2, m_up_ne a3]
  refine ⟨⟨⟨?_, ?_, ?_, ?_, ?_⟩, ?_, ?_, ?_, ?_⟩, ?_, ?_, ?_, ?_, ?_, ?_, ?_⟩
  · rw [rd 1 0 (by omega) (by omega) (by omega) (by omega) (by omega), rc _ (by decide) (by omega) (by omega)]; exact n1
  · rw [rd 1 1 (by omega) (by omega) (by omega) (by omega) (by omega), rc _ (by decide) (by omega) (by omega)]; exact n2
  · rw [rd 1 2 (by omega) (by omega) (by omega) (by omega) (by omega), rc _ (by decide) (by omega) (by omega)]; exact n3
  · rw [rd 1 3 (by omega) (by omega) (by omega) (by omega) (by omega), rc _ (by decide) (by omega) (by omega)]; exact n4
  · rw [y_up_ne (Or.inl (by decide)), y_up_ne (Or.inl (by decide)), y_up_eq, m_up_eq]
  · intro k a1 a2
    rw [rd 4 k (by omega) (by omega) (by omega) (by omega) (by omega), m_sum_up a1 (by decide), m_sum_up a1 (by omega), m_sum_up a1 (by omega)]
    exact n6 k a1 a2
  · intro j a1 a2
    rw [rd 7 j (by omega) (by omega) (by omega) (by omega) (by omega), rc _ (by omega) (by omega) (by omega)]
    exact n7 j a1 a2
  · intro p a1 a2
    rw [rd 9 p (by omega) (by omega) (by omega) (by omega) (by omega), m_S_up (by omega), m_S_up (by omega), m_S_up (by omega)]
    exact n8 p a1 a2
  · intro p a1 a2
    by_cases q : p = P
    · subst q
      rw [y_up_ne (Or.inl (by decide)), y_up_eq, y_up_eq, m_up_ne (by omega), m_up_ne (by omega), m_up_eq, m_up_ne (by omega), m_up_eq]
      exact ⟨rfl, rfl⟩
    · rw [rd 10 p (by omega) (by omega) (by omega) (fun _ => q) (by omega), rd 11 p (by omega) (by omega) (by omega) (by omega) (fun _ => q), rc _ (by omega) (by omega) (by omega), rc _ (by omega) (by omega) (by omega)]
      exact n9 p a1 a2
  · have ad : tb_Z (y_ad V 5 (8 * P) (e - b) (fun j => B (b + j))) := by
      obtain ⟨z1, z2, z3⟩ := z
      refine ⟨fun j a b => by rw [y_ad_ne (by decide)]; exact z1 j a b, fun j a b => by rw [y_ad_ne (by decide), y_ad_ne (by decide)]; exact z2 j a b, ?_⟩
      rw [y_ad_ne (by decide), y_ad_ne (by decide), y_ad_ne (by decide), y_ad_ne (by decide), y_ad_ne (by decide), y_ad_ne (by decide), y_ad_ne (by decide), y_ad_ne (by decide), y_ad_ne (by decide)]
      exact z3
    exact (((ad.up (by omega)).up (by omega)).up (by omega)).up (by omega)
  · rw [m_up_eq]
    intro p p0 p1
    have r5 : ∀ i : Int, y_up (y_up (y_up (y_up (y_ad V 5 (8 * P) (e - b) (fun j => B (b + j))) 6 P (e - b)) 1 4 (P + 1)) 10 P v1) 11 P v2 5 i = y_ad V 5 (8 * P) (e - b) (fun j => B (b + j)) 5 i := fun i => by rw [y_up_ne (Or.inl (by decide)), y_up_ne (Or.inl (by decide)), y_up_ne (Or.inl (by decide)), y_up_ne (Or.inl (by decide))]
    by_cases q : p = P
    · subst q
      have e6 : y_up (y_up (y_up (y_up (y_ad V 5 (8 * p) (e - b) (fun j => B (b + j))) 6 p (e - b)) 1 4 (p + 1)) 10 p v1) 11 p v2 6 p = e - b := by rw [y_up_ne (Or.inl (by decide)), y_up_ne (Or.inl (by decide)), y_up_ne (Or.inl (by decide)), y_up_eq]
      have e5 : ∀ i : Int, 0 ≤ i → i < e - b → y_up (y_up (y_up (y_up (y_ad V 5 (8 * p) (e - b) (fun j => B (b + j))) 6 p (e - b)) 1 4 (p + 1)) 10 p v1) 11 p v2 5 (8 * p + i) = B (b + i) := by
        intro i i0 i1
        rw [r5]
        show (if (5 : Nat) = 5 ∧ 8 * p ≤ 8 * p + i ∧ 8 * p + i < 8 * p + (e - b) then B (b + (8 * p + i - 8 * p)) else _) = _
        rw [if_pos ⟨rfl, by omega, by omega⟩]
        congr 1
        omega
      rw [e6, m_up_eq]
      refine ⟨⟨by omega, h8⟩, fun i i0 i1 => by rw [e5 i i0 i1]; exact hl _ (by omega) (by omega), ?_⟩
      refine tx_wv_ext (fun i hi => ?_)
      show B (b + (i : Int)) = _
      rw [Int.zero_add, e5 (i : Int) (Int.natCast_nonneg i) (by omega)]
    · obtain ⟨a1, a2, a3⟩ := nm p p0 (by omega)
      have e6 : y_up (y_up (y_up (y_up (y_ad V 5 (8 * P) (e - b) (fun j => B (b + j))) 6 P (e - b)) 1 4 (P + 1)) 10 P v1) 11 P v2 6 p = V 6 p := rd 6 p (by omega) (fun _ => q) (by omega) (by omega) (by omega)
      have e5 : ∀ i : Int, 0 ≤ i → i < V 6 p → y_up (y_up (y_up (y_up (y_ad V 5 (8 * P) (e - b) (fun j => B (b + j))) 6 P (e - b)) 1 4 (P + 1)) 10 P v1) 11 P v2 5 (8 * p + i) = V 5 (8 * p + i) := by
        intro i i0 i1
        rw [r5]
        show (if (5 : Nat) = 5 ∧ 8 * P ≤ 8 * p + i ∧ 8 * p + i < 8 * P + (e - b) then _ else V 5 (8 * p + i)) = _
        rw [if_neg (by omega)]
      rw [e6, m_up_ne (by omega)]
      refine ⟨a1, fun i i0 i1 => by rw [e5 i i0 i1]; exact a2 i i0 i1, ?_⟩
      rw [a3]
      refine tx_wv_ext (fun i hi => ?_)
      show V 5 (8 * p + (0 + (i : Int))) = _
      rw [Int.zero_add, e5 (i : Int) (Int.natCast_nonneg i) (by omega)]
  · exact ((hh.up (by omega) (fun q => by omega)).up (by omega) (fun q => by omega)).up (by decide) (fun _ => by rw [m_up_ne (by omega), m_up_ne (by omega)]; omega)
  · exact ((mn.wr m_up_e (by omega)).wr m_up_e (by omega)).wr m_up_e (by omega)
  · rw [rc _ (by decide) (by omega) (by omega)]; exact k1
  · rw [rc _ (by decide) (by omega) (by omega)]; exact k2
  · rw [rc _ (by decide) (by omega) (by omega)]; exact k3
end TQ
end
/-! FROM 48n.rdplayer.lean.txt -/
section
/-! A PLAYER READ -/
section TU
variable {X : XW} {lb : Nat → Nat} {D T g a : Nat} {σ τ σ' τ' σ1 τ1 : ST} {n : Int} {B : Int → Int} {V : Nat → Int → Int} {r c w t : Int → Int} {f9 f10 : Int}
theorem tb_R.b (h : tb_R V r c w t) : V 1 0 = c 3720 ∧ V 1 1 = c 3721 ∧ V 1 4 = c 3722 ∧ (2 ≤ c 3720 ∧ c 3720 ≤ 10) ∧ (1 ≤ c 3721 ∧ c 3721 ≤ 8) ∧ (0 ≤ c 3722 ∧ c 3722 ≤ 6) := by
  obtain ⟨⟨⟨n1, n2, n3, n4, n5⟩, n6⟩, z, nm, hh, mn, k1, k2, k3⟩ := h
  exact ⟨n1, n2, n5, ⟨k1, mn.1.2⟩, ⟨k2, mn.2.1.2⟩, mn.2.2.1⟩
/-- behind a fault the reference's player does nothing -/
theorem tm_J160a (h : 0 < (τ.1 a 12).toInt) : F_X12_readPlayer_J160_5 X a τ = τ := by
  unfold F_X12_readPlayer_J160_5
  rw [q_letE, if_neg (by omega)]
theorem tm_J125a (pl : Int32) (h : 0 < (τ.1 a 12).toInt) : F_X12_readPlayer_J125_4 X a pl τ = τ := by
  unfold F_X12_readPlayer_J125_4
  rw [q_letE, if_neg (by omega), tm_J160a h]
theorem tm_J72a (pl : Int32) (h : 0 < (τ.1 a 12).toInt) : F_X12_readPlayer_J72_3 X a pl τ = τ := by
  unfold F_X12_readPlayer_J72_3
  rw [q_letE, if_pos h]
theorem tm_J48a (pl : Int32) (h : 0 < (τ.1 a 12).toInt) : F_X12_readPlayer_J48_2 X a pl τ = τ := by
  unfold F_X12_readPlayer_J48_2
  rw [q_letE, if_neg (by omega), tm_J72a pl h]
theorem tm_J25a (pl : Int32) (h : 0 < (τ.1 a 12).toInt) : F_X12_readPlayer_J25_1 X a pl τ = τ := by
  unfold F_X12_readPlayer_J25_1
  rw [q_letE, if_pos h]
theorem tb_readPlayer (Y : y_S X lb) (H : tb_D X lb D T g) (ha : q_kd X a = 12) (I : tb_I X D T g a n B σ τ V r c w t f9 f10) (h1 : (τ.1 a 14).toInt = 1) :
    ∃ (z : Int32) (σ' : ST), F_X9_readPlayer X σ D = (z, σ') ∧ tb_O X lb D T g a n B σ τ σ' (F_X12_must X (F_X12_readPlayer X τ a) a (F_X12_isSign X (F_X12_readPlayer X τ a) a 59)) z := by
  obtain ⟨S, M, K, h0, Rr⟩ := I
  have kb := K.b
  have hDn : lb D / 8192 ≠ 6 := by have := H.2.2.2.1; omega
  obtain ⟨b0, b1, b4, b20, b21, b22⟩ := Rr.b
  obtain ⟨P, hP⟩ : ∃ P, P = c 3722 := ⟨_, rfl⟩
  rw [← hP] at b22
  have pc : (σ.1 (q_rf X g 0) 4).toInt = P := by
    have z := y_v_rdn (X := X) (g := g) (σ := σ) (id := 1) (by decide) 4
    rw [S.2.1] at z
    exact z.trans (b4.trans hP.symm)
  have pm : (τ.1 (q_rf X a 20) (3722 : Int32).toNatClampNeg).toInt = P := by
    have z := m_rd (X := X) (σ := τ) (a := a) (i := 3722) (A := 3722) rfl rfl
    rw [M.2.1] at z
    exact z.trans hP.symm
  have epl : τ.1 (q_rf X a 20) (3722 : Int32).toNatClampNeg = σ.1 (q_rf X g 0) 4 := Int32.toInt_inj.mp (pm.trans pc.symm)
  unfold F_X9_readPlayer F_X12_readPlayer
  rw [← H.2.1, q_letE (σ.1 (q_rf X g 0) 4), q_letE (τ.1 (q_rf X a 20) (3722 : Int32).toNatClampNeg), epl]
  obtain ⟨pl, hpl⟩ : ∃ s, s = σ.1 (q_rf X g 0) 4 := ⟨_, rfl⟩
  rw [← hpl] at pc ⊢
  by_cases q6 : P = 6
  · rw [q6] at pc
    rw [q_letE (τ.1 a 15)]
    have ng : ¬ pl.toInt < 6 := by omega
    rw [if_neg ng, if_pos pc, q_letE (F_X12_fail X τ a 6 (τ.1 a 15))]
    obtain ⟨σ', a1, a2, a3, a4⟩ := tl_fail (X := X) K h0 (by omega) (k := 6) (by decide) (w := τ.1 a 15) rfl
    rw [tm_J25a pl a4.2.1, a1]
    exact ⟨0, σ', rfl, tb_O.bad (S.rd Y H a2).2 (tb_P.rd Y.1 ha a3) rfl a4 _⟩
  · have lt : pl.toInt < 6 := by omega
    have ne : ¬ pl.toInt = 6 := by omega
    rw [if_pos lt, if_neg ne]
    unfold F_X12_readPlayer_J25_1
    rw [q_letE (τ.1 a 12), h0, if_neg (by decide : ¬ (0 : Int) < 0), q_letE (F_X3_advance X σ D), q_letE (F_X12_next X τ a), q_letE (F_X12_isName X (F_X12_next X τ a) a)]
    obtain ⟨c1, m1, K2, g2⟩ := tl_adv2 S.1 M.1 K
    obtain ⟨S2, f2⟩ := S.rd Y H c1.S2
    have M2 := M.rd Y.1 ha m1.S2
    have h02 : ((F_X12_next X τ a).1 a 12).toInt = 0 := by rw [tn_12 m1]; exact h0
    obtain ⟨σb, hσb⟩ : ∃ s, s = F_X3_advance X σ D := ⟨_, rfl⟩
    obtain ⟨τb, hτb⟩ : ∃ s, s = F_X12_next X τ a := ⟨_, rfl⟩
    rw [← hσb] at S2 f2 K2 ⊢
    rw [← hτb] at M2 K2 g2 h02 ⊢
    have k2b := K2.b
    rcases tl_mustBeName S2.1 M2.1 K2 h02 with ⟨m3, m4, m5, m6⟩ | ⟨m3, σ', m4, m5, m6, m7⟩
    · rw [m6, q_biP, if_neg (by decide : ¬ (1 : Int32).toInt = 0), m3, if_neg (by decide : ¬ (1 : Int) = 0)]
      unfold F_X12_readPlayer_J48_2
      rw [q_letE (τb.1 a 12), h02, if_pos (Eq.refl (0 : Int)), q_letE (F_X12_named X τb a 4), q_letE (F_X6_playerNamed X σb (q_rf X g 0) D)]
      have nmw : y_nm V (m_wd X τb a) (6 * 4) P := by
        rw [M2.2.2.1, hP]
        exact Rr.2.2.1
      obtain ⟨nm1, nm2⟩ := tl_named Y H.2.2.1 ((y_W.rf (lb := lb) (o := 6) (σ := σb)).eq S2.2.1) S2.1 K2 m4 m5 (v := 4) (bl := 4) rfl ⟨by decide, by decide⟩ (P := P) (by rw [M2.2.1, hP]; rfl) b22 (b4.trans hP.symm) nmw
      rw [nm1]
      rcases nm2 with ⟨q1, q2⟩ | ⟨q1, q2⟩
      · rw [if_pos q1, if_pos (by omega : (F_X12_named X τb a 4).toInt < 0)]
        unfold F_X12_readPlayer_J72_3
        rw [q_letE (τb.1 a 12), h02, if_neg (by decide : ¬ (0 : Int) < 0), q_letE (F_X6_addPlayer X σb (q_rf X g 0) D), q_letE ((24 : Int32) + pl), q_letE (τb.2.1 a 19), q_letE (q_sl τb (q_rf X a 23) ((24 : Int32) + pl).toNatClampNeg (τb.2.1 a 19))]
        have W := tc_addPlayer Y H S2.1 K2.1 K2.2.1 K2.2.2.2.2.2.2.1 k2b.1 k2b.2.1 m5 (P := P) ⟨b22.1, by omega⟩ S2.2.1 (b4.trans hP.symm)
        obtain ⟨S3, f3⟩ := S2.gm Y H W
        have i24 : ((24 : Int32) + pl).toInt = 24 + P := by
          have e24 : (24 : Int32).toInt = 24 := rfl
          rw [ar_add, e24, pc, ar_wr (by omega) (by omega)]
        obtain ⟨M3, sm3⟩ := M2.word Y.1 ha (i := (24 : Int32) + pl) (v := τb.2.1 a 19) (A := 24 + P) i24 (by omega)
        have K3 := K2.same (tl_sameC.W W hDn) sm3
        have wv : (τb.2.1 a 19).toInt = tx_wv B (τb.1 a 15).toInt ((τb.1 a 16).toInt - (τb.1 a 15).toInt).toNat := (K2.2.2.2.2.2.1.2 m4).2.1 m5
        have hl := tl_le K2 m4
        rw [wv] at M3
        have h03 : ((q_sl τb (q_rf X a 23) ((24 : Int32) + pl).toNatClampNeg (τb.2.1 a 19)).1 a 12).toInt = 0 := by rw [sm3.1 12 (by decide) (by decide)]; exact h02
        have e316 : (q_sl τb (q_rf X a 23) ((24 : Int32) + pl).toNatClampNeg (τb.2.1 a 19)).1 a 16 = τb.1 a 16 := sm3.1 16 (by decide) (by decide)
        obtain ⟨bb, hbb⟩ : ∃ s, s = (τb.1 a 15).toInt := ⟨_, rfl⟩
        obtain ⟨ee, hee⟩ : ∃ s, s = (τb.1 a 16).toInt := ⟨_, rfl⟩
        rw [← hbb, ← hee] at W S3 M3 hl k2b m5
        rw [← hbb] at g2
        obtain ⟨V1, hV1⟩ : ∃ v, v = y_up (y_up (y_ad V 5 (8 * P) (ee - bb) (fun j => B (bb + j))) 6 P (ee - bb)) 1 4 (P + 1) := ⟨_, rfl⟩
        have r1 : ∀ (id : Nat) (i : Int), id ≠ 5 → id ≠ 6 → id ≠ 1 → V1 id i = V id i := fun id i i5 i6 i1 => by
          rw [hV1, y_up_ne (Or.inl i1), y_up_ne (Or.inl i6), y_ad_ne i5]
        rw [← hV1] at W S3
        obtain ⟨σc, hσc⟩ : ∃ s, s = F_X6_addPlayer X σb (q_rf X g 0) D := ⟨_, rfl⟩
        obtain ⟨τc, hτc⟩ : ∃ s, s = q_sl τb (q_rf X a 23) ((24 : Int32) + pl).toNatClampNeg (τb.2.1 a 19) := ⟨_, rfl⟩
        rw [← hσc] at W S3 f3 K3 ⊢
        rw [← hτc] at M3 sm3 K3 h03 e316 ⊢
        have k3b := K3.b
        obtain ⟨c4, m4', K4, g4⟩ := tl_adv2 S3.1 M3.1 K3
        obtain ⟨S4, f4⟩ := S3.rd Y H c4.S2
        have M4 := M3.rd Y.1 ha m4'.S2
        have h04 : ((F_X12_next X τc a).1 a 12).toInt = 0 := by rw [tn_12 m4']; exact h03
        rw [q_letE (F_X3_advance X σc D), q_letE (F_X12_next X τc a)]
        obtain ⟨σd, hσd⟩ : ∃ s, s = F_X3_advance X σc D := ⟨_, rfl⟩
        obtain ⟨τd, hτd⟩ : ∃ s, s = F_X12_next X τc a := ⟨_, rfl⟩
        rw [← hσd] at S4 f4 K4 ⊢
        rw [← hτd] at M4 K4 g4 h04 ⊢
        rw [q_letE (F_X12_isLies X τd a)]
        have n9 := Rr.1.2.2.2.2 P b22.1 (by omega)
        have gP : 0 ≤ P ∧ P < 6 := ⟨b22.1, by omega⟩
        obtain ⟨z, σe, τe, v, u, e5, e6, hz, f5, S5, M5, o⟩ := tb_six Y H ha S4 M4 K4 h04 (rr := 9) ⟨by decide, by decide⟩ (flag := F_X12_isLies X τd a) tm_isLies (id := 10) (row := q_rf X (q_rf X g 1) 3) (Or.inl rfl) rfl (pl := pl) (P := P) pc gP (Ab := 3730) (A := 3730) rfl ⟨by decide, by decide⟩ (by rw [r1 10 P (by decide) (by decide) (by decide)]; exact n9.1)
        rw [e5, q_biP, e6 (F_X12_readPlayer_J125_4 X a pl)]
        rcases o with ⟨o1, o2, o3, o4, o5⟩ | ⟨o1, o2⟩
        · rw [if_neg (by omega : ¬ z.toInt = 0)]
          unfold F_X12_readPlayer_J125_4
          rw [q_letE (τe.1 a 12), o4, if_pos (Eq.refl (0 : Int)), q_letE (F_X12_isDoubts X τe a)]
          rw [o2] at S5
          obtain ⟨z2, σf, τf, v2, u2, e7, e8, hz2, f6, S6, M6, p⟩ := tb_six Y H ha S5 M5 o3 o4 (rr := 10) ⟨by decide, by decide⟩ (flag := F_X12_isDoubts X τe a) tm_isDoubts (id := 11) (row := q_rf X (q_rf X g 1) 4) (Or.inr rfl) rfl (pl := pl) (P := P) pc gP (Ab := 3736) (A := 3736) rfl ⟨by decide, by decide⟩ (by rw [y_up_ne (Or.inl (by decide)), m_up_ne (by omega), r1 11 P (by decide) (by decide) (by decide)]; exact n9.2)
          rw [e7, q_biP, e8 (F_X12_readPlayer_J160_5 X a)]
          rcases p with ⟨p1, p2, p3, p4, p5⟩ | ⟨p1, p2⟩
          · rw [if_neg (by omega : ¬ z2.toInt = 0)]
            unfold F_X12_readPlayer_J160_5
            rw [q_letE (τf.1 a 12), p4, if_pos (Eq.refl (0 : Int)), q_letE, q_letE, q_letE]
            rw [p2] at S6
            have hf : (τf.1 (q_rf X a 20) (3722 : Int32).toNatClampNeg).toInt = P := by
              have z := m_rd (X := X) (σ := τf) (a := a) (i := 3722) (A := 3722) rfl rfl
              rw [M6.2.1, m_up_ne (by omega), m_up_ne (by omega)] at z
              exact z.trans hP.symm
            have inc : (τf.1 (q_rf X a 20) (3722 : Int32).toNatClampNeg + 1).toInt = P + 1 := by
              rw [y_inc (by omega), hf]
            obtain ⟨M7, sm7⟩ := M6.cw Y.1 ha (i := 3722) (v := τf.1 (q_rf X a 20) (3722 : Int32).toNatClampNeg + 1) (A := 3722) rfl (by decide)
            rw [inc] at M7
            obtain ⟨τg, hτg⟩ : ∃ s, s = q_si τf (q_rf X a 20) (3722 : Int32).toNatClampNeg (τf.1 (q_rf X a 20) (3722 : Int32).toNatClampNeg + 1) := ⟨_, rfl⟩
            rw [← hτg] at M7 sm7 ⊢
            have K7 := p3.same tl_sameC.rf sm7
            have h07 : (τg.1 a 12).toInt = 0 := by rw [sm7.1 12 (by decide) (by decide)]; exact p4
            have R7 := Rr.player (b := bb) (e := ee) (v1 := v) (v2 := v2) hP.symm gP (by omega) m5 hl
            rw [← hV1] at R7
            have pP : tb_P X a τ τg := tb_P.mk M M7 (fun j a1 a2 => by rw [m_up_ne (by omega), m_up_ne (by omega), m_up_ne (by omega)]) (fun j a1 a2 => m_up_ne (by omega))
            have e715 : τg.1 a 15 = τf.1 a 15 := sm7.1 15 (by decide) (by decide)
            have k7b := K7.b
            obtain ⟨z3, σ2, e9, x1, x2, x3⟩ := tb_semi Y H ha (σ := σ) (τ := τ) ⟨S6, M7, K7, h07, R7⟩ ((((f2.tr f3).tr f4).tr f5).tr f6) pP (by rw [e715]; rw [e316] at g4; omega) (by rw [e715] at k7b; rw [e316] at g4; omega)
            rw [e9, q_biP]
            rcases x3 with ⟨y1, y2⟩ | ⟨y1, y2⟩
            · rw [if_neg (by omega)]
              exact ⟨1, σ2, rfl, x1, x2, Or.inl ⟨rfl, y2⟩⟩
            · rw [if_pos y1]
              exact ⟨0, σ2, rfl, x1, x2, Or.inr ⟨rfl, y2⟩⟩
          · rw [if_pos p1, tm_J160a p2.2.1]
            exact ⟨0, σf, rfl, tb_O.bad ((((f2.tr f3).tr f4).tr f5).tr f6) (tb_P.mk M M6 (fun j a1 a2 => by rw [m_up_ne (by omega), m_up_ne (by omega)]) (fun j a1 a2 => m_up_ne (by omega))) rfl p2 _⟩
        · rw [if_pos o1, tm_J125a pl o2.2.1]
          exact ⟨0, σe, rfl, tb_O.bad (((f2.tr f3).tr f4).tr f5) (tb_P.mk M M5 (fun j a1 a2 => m_up_ne (by omega)) (fun j a1 a2 => m_up_ne (by omega))) rfl o2 _⟩
      · rw [if_neg (by omega : ¬ (F_X12_named X τb a 4).toInt = -1), if_neg (by omega : ¬ (F_X12_named X τb a 4).toInt < 0), q_biE, q_letE, q_letE]
        obtain ⟨σ', a1, a2, a3, a4⟩ := tl_fail (X := X) K2 h02 (by omega) (k := 3) (by decide) (w := τb.1 a 15) rfl
        rw [tm_J72a pl a4.2.1, a1]
        exact ⟨0, σ', rfl, tb_O.bad (f2.tr (S2.rd Y H a2).2) ((tb_P.mk M M2 (fun _ _ _ => rfl) (fun _ _ _ => rfl)).tr (tb_P.rd Y.1 ha a3)) rfl a4 _⟩
    · rw [m4, q_biP, if_pos (by decide : (0 : Int32).toInt = 0), m3, if_pos (Eq.refl (0 : Int)), q_letE (F_X12_wrong X τb a), tm_J48a pl m7.2.1]
      exact ⟨0, σ', rfl, tb_O.bad (f2.tr (S2.rd Y H m5).2) ((tb_P.mk M M2 (fun _ _ _ => rfl) (fun _ _ _ => rfl)).tr (tb_P.rd Y.1 ha m6)) rfl m7 _⟩
end TU
end
/-! FROM 48o.hand.lean.txt -/
section
/-! A HAND TOLD: bits, sums, the relation -/
def tb_pw (k : Int) : Int := if k = 0 then 1 else if k = 1 then 2 else if k = 2 then 4 else if k = 3 then 8 else if k = 4 then 16 else if k = 5 then 32 else if k = 6 then 64 else if k = 7 then 128 else if k = 8 then 256 else 512
theorem tb_ten {k : Int} (hk : 0 ≤ k ∧ k < 10) : k = 0 ∨ k = 1 ∨ k = 2 ∨ k = 3 ∨ k = 4 ∨ k = 5 ∨ k = 6 ∨ k = 7 ∨ k = 8 ∨ k = 9 := by omega
theorem tb_pw_b {k : Int} (hk : 0 ≤ k ∧ k < 10) : 1 ≤ tb_pw k ∧ tb_pw k ≤ 512 := by
  rcases tb_ten hk with rfl | rfl | rfl | rfl | rfl | rfl | rfl | rfl | rfl | rfl <;> decide
theorem tb_shl {f : Int32} {k : Int} (hf : f.toInt = k) (hk : 0 ≤ k ∧ k < 10) : ((1 : Int32) <<< (f &&& 31)).toInt = tb_pw k := by
  rcases tb_ten hk with rfl | rfl | rfl | rfl | rfl | rfl | rfl | rfl | rfl | rfl
  · have e : f = 0 := Int32.toInt_inj.mp hf
    subst e
    rfl
  · have e : f = 1 := Int32.toInt_inj.mp hf
    subst e
    rfl
  · have e : f = 2 := Int32.toInt_inj.mp hf
    subst e
    rfl
  · have e : f = 3 := Int32.toInt_inj.mp hf
    subst e
    rfl
  · have e : f = 4 := Int32.toInt_inj.mp hf
    subst e
    rfl
  · have e : f = 5 := Int32.toInt_inj.mp hf
    subst e
    rfl
  · have e : f = 6 := Int32.toInt_inj.mp hf
    subst e
    rfl
  · have e : f = 7 := Int32.toInt_inj.mp hf
    subst e
    rfl
  · have e : f = 8 := Int32.toInt_inj.mp hf
    subst e
    rfl
  · have e : f = 9 := Int32.toInt_inj.mp hf
    subst e
    rfl
theorem tb_bit {x f : Int32} {t : Int → Int} {p k : Int} (hx : x.toInt = tb_bits t p) (hf : f.toInt = k) (hk : 0 ≤ k ∧ k < 10) (ht : ∀ i : Int, 0 ≤ i → i < 10 → t (10 * p + i) = 0 ∨ t (10 * p + i) = 1) : ((x >>> (f &&& 31)) &&& 1).toInt = t (10 * p + k) := by
  have b : ∀ i : Int, 0 ≤ i → i < 10 → 0 ≤ t (10 * p + i) ∧ t (10 * p + i) ≤ 1 := fun i i0 i1 => by rcases ht i i0 i1 with h | h <;> rw [h] <;> decide
  have b0 := b 0 (by decide) (by decide)
  rw [Int.add_zero] at b0
  have b1 := b 1 (by decide) (by decide)
  have b2 := b 2 (by decide) (by decide)
  have b3 := b 3 (by decide) (by decide)
  have b4 := b 4 (by decide) (by decide)
  have b5 := b 5 (by decide) (by decide)
  have b6 := b 6 (by decide) (by decide)
  have b7 := b 7 (by decide) (by decide)
  have b8 := b 8 (by decide) (by decide)
  have b9 := b 9 (by decide) (by decide)
  clear b ht
  unfold tb_bits at hx
  rcases tb_ten hk with rfl | rfl | rfl | rfl | rfl | rfl | rfl | rfl | rfl | rfl
  · have e : f = 0 := Int32.toInt_inj.mp hf
    subst e
    rw [Jvm.Kit.i32_mask (k := 1) _ 1 (by decide) (by decide), Jvm.Kit.i32_shr x _ (k := 0) (by decide), hx]
    have e1 : (2 : Int) ^ 1 = 2 := rfl
    have e2 : (2 : Int) ^ 0 = 1 := rfl
    rw [e1, e2]
    rw [Int.add_zero]
    omega
  · have e : f = 1 := Int32.toInt_inj.mp hf
    subst e
    rw [Jvm.Kit.i32_mask (k := 1) _ 1 (by decide) (by decide), Jvm.Kit.i32_shr x _ (k := 1) (by decide), hx]
    have e1 : (2 : Int) ^ 1 = 2 := rfl
    have e2 : (2 : Int) ^ 1 = 2 := rfl
    rw [e1]
    omega
  · have e : f = 2 := Int32.toInt_inj.mp hf
    subst e
    rw [Jvm.Kit.i32_mask (k := 1) _ 1 (by decide) (by decide), Jvm.Kit.i32_shr x _ (k := 2) (by decide), hx]
    have e1 : (2 : Int) ^ 1 = 2 := rfl
    have e2 : (2 : Int) ^ 2 = 4 := rfl
    rw [e1, e2]
    omega
  · have e : f = 3 := Int32.toInt_inj.mp hf
    subst e
    rw [Jvm.Kit.i32_mask (k := 1) _ 1 (by decide) (by decide), Jvm.Kit.i32_shr x _ (k := 3) (by decide), hx]
    have e1 : (2 : Int) ^ 1 = 2 := rfl
    have e2 : (2 : Int) ^ 3 = 8 := rfl
    rw [e1, e2]
    omega
  · have e : f = 4 := Int32.toInt_inj.mp hf
    subst e
    rw [Jvm.Kit.i32_mask (k := 1) _ 1 (by decide) (by decide), Jvm.Kit.i32_shr x _ (k := 4) (by decide), hx]
    have e1 : (2 : Int) ^ 1 = 2 := rfl
    have e2 : (2 : Int) ^ 4 = 16 := rfl
    rw [e1, e2]
    omega
  · have e : f = 5 := Int32.toInt_inj.mp hf
    subst e
    rw [Jvm.Kit.i32_mask (k := 1) _ 1 (by decide) (by decide), Jvm.Kit.i32_shr x _ (k := 5) (by decide), hx]
    have e1 : (2 : Int) ^ 1 = 2 := rfl
    have e2 : (2 : Int) ^ 5 = 32 := rfl
    rw [e1, e2]
    omega
  · have e : f = 6 := Int32.toInt_inj.mp hf
    subst e
    rw [Jvm.Kit.i32_mask (k := 1) _ 1 (by decide) (by decide), Jvm.Kit.i32_shr x _ (k := 6) (by decide), hx]
    have e1 : (2 : Int) ^ 1 = 2 := rfl
    have e2 : (2 : Int) ^ 6 = 64 := rfl
    rw [e1, e2]
    omega
  · have e : f = 7 := Int32.toInt_inj.mp hf
    subst e
    rw [Jvm.Kit.i32_mask (k := 1) _ 1 (by decide) (by decide), Jvm.Kit.i32_shr x _ (k := 7) (by decide), hx]
    have e1 : (2 : Int) ^ 1 = 2 := rfl
    have e2 : (2 : Int) ^ 7 = 128 := rfl
    rw [e1, e2]
    omega
  · have e : f = 8 := Int32.toInt_inj.mp hf
    subst e
    rw [Jvm.Kit.i32_mask (k := 1) _ 1 (by decide) (by decide), Jvm.Kit.i32_shr x _ (k := 8) (by decide), hx]
    have e1 : (2 : Int) ^ 1 = 2 := rfl
    have e2 : (2 : Int) ^ 8 = 256 := rfl
    rw [e1, e2]
    omega
  · have e : f = 9 := Int32.toInt_inj.mp hf
    subst e
    rw [Jvm.Kit.i32_mask (k := 1) _ 1 (by decide) (by decide), Jvm.Kit.i32_shr x _ (k := 9) (by decide), hx]
    have e1 : (2 : Int) ^ 1 = 2 := rfl
    have e2 : (2 : Int) ^ 9 = 512 := rfl
    rw [e1, e2]
    omega
theorem tb_bits_up {t : Int → Int} {p k : Int} (hk : 0 ≤ k ∧ k < 10) (ht : t (10 * p + k) = 0) : tb_bits (m_up t (10 * p + k) 1) p = tb_bits t p + tb_pw k := by
  have e : ∀ i : Int, m_up t (10 * p + k) 1 (10 * p + i) = if i = k then 1 else t (10 * p + i) := by
    intro i
    unfold m_up
    by_cases q : i = k
    · rw [if_pos q, if_pos (by omega)]
    · rw [if_neg q, if_neg (by omega)]
  have e0 := e 0
  rw [Int.add_zero] at e0
  unfold tb_bits tb_pw
  rw [e0, e 1, e 2, e 3, e 4, e 5, e 6, e 7, e 8, e 9]
  clear e e0
  rcases tb_ten hk with rfl | rfl | rfl | rfl | rfl | rfl | rfl | rfl | rfl | rfl
  · rw [Int.add_zero] at ht
    simp only [Int.reduceEq, ↓reduceIte]
    omega
  · simp only [Int.reduceEq, ↓reduceIte]
    omega
  · simp only [Int.reduceEq, ↓reduceIte]
    omega
  · simp only [Int.reduceEq, ↓reduceIte]
    omega
  · simp only [Int.reduceEq, ↓reduceIte]
    omega
  · simp only [Int.reduceEq, ↓reduceIte]
    omega
  · simp only [Int.reduceEq, ↓reduceIte]
    omega
  · simp only [Int.reduceEq, ↓reduceIte]
    omega
  · simp only [Int.reduceEq, ↓reduceIte]
    omega
  · simp only [Int.reduceEq, ↓reduceIte]
    omega
theorem tb_bits_ne {t : Int → Int} {p q k v : Int} (hk : 0 ≤ k ∧ k < 10) (h : q ≠ p) : tb_bits (m_up t (10 * p + k) v) q = tb_bits t q := by
  unfold tb_bits
  rw [m_up_ne (by omega), m_up_ne (by omega), m_up_ne (by omega), m_up_ne (by omega), m_up_ne (by omega), m_up_ne (by omega), m_up_ne (by omega), m_up_ne (by omega), m_up_ne (by omega), m_up_ne (by omega)]
theorem m_sum_e {c : Int → Int} {k : Int} : m_sum c 3720 k = c (3754 + 10 * 0 + k) + c (3754 + 10 * 1 + k) + c (3754 + 10 * 2 + k) + c (3754 + 10 * 3 + k) + c (3754 + 10 * 4 + k) + c (3754 + 10 * 5 + k) := rfl
theorem m_sum_ne {c : Int → Int} {p k k' v : Int} (hk : 0 ≤ k ∧ k < 10) (hk' : 0 ≤ k' ∧ k' < 10) (h : k' ≠ k) : m_sum (m_up c (3754 + (10 * p + k)) v) 3720 k' = m_sum c 3720 k' := by
  unfold m_sum
  rw [m_up_ne (by omega), m_up_ne (by omega), m_up_ne (by omega), m_up_ne (by omega), m_up_ne (by omega), m_up_ne (by omega)]
theorem m_sum_at {c : Int → Int} {p k v : Int} (hp : 0 ≤ p ∧ p < 6) (h0 : c (3754 + (10 * p + k)) = 0) : m_sum (m_up c (3754 + (10 * p + k)) v) 3720 k = m_sum c 3720 k + v := by
  have e : ∀ i : Int, m_up c (3754 + (10 * p + k)) v (3754 + 10 * i + k) = if i = p then v else c (3754 + 10 * i + k) := by
    intro i
    unfold m_up
    by_cases q : i = p
    · rw [if_pos q, if_pos (by omega)]
    · rw [if_neg q, if_neg (by omega)]
  rw [m_sum_e, m_sum_e, e 0, e 1, e 2, e 3, e 4, e 5]
  clear e
  have h0' : c (3754 + 10 * p + k) = 0 := by
    have z : 3754 + 10 * p + k = 3754 + (10 * p + k) := by omega
    rw [z]
    exact h0
  rcases (by omega : p = 0 ∨ p = 1 ∨ p = 2 ∨ p = 3 ∨ p = 4 ∨ p = 5) with rfl | rfl | rfl | rfl | rfl | rfl
  · simp only [Int.reduceEq, ↓reduceIte]
    omega
  · simp only [Int.reduceEq, ↓reduceIte]
    omega
  · simp only [Int.reduceEq, ↓reduceIte]
    omega
  · simp only [Int.reduceEq, ↓reduceIte]
    omega
  · simp only [Int.reduceEq, ↓reduceIte]
    omega
  · simp only [Int.reduceEq, ↓reduceIte]
    omega
theorem m_S_at {c : Int → Int} {b A v : Int} : ∀ N : Nat, b ≤ A → A < b + (N : Int) → m_S (m_up c A v) b N = m_S c b N + v - c A := by
  intro N
  induction N with
  | zero => intro h1 h2; omega
  | succ N ih =>
    intro h1 h2
    show m_S (m_up c A v) b N + m_up c A v (b + (N : Int)) = m_S c b N + c (b + (N : Int)) + v - c A
    by_cases q : A = b + (N : Int)
    · subst q
      rw [m_up_eq, m_S_ext (c := c) (fun j a1 a2 => m_up_ne (by omega))]
      omega
    · rw [m_up_ne (fun z => q z.symm), ih h1 (by omega)]
      omega
section TH
variable {X : XW} {lb : Nat → Nat} {D T g a : Nat} {σ τ σ' τ' σ1 τ1 : ST} {n : Int} {B : Int → Int} {V : Nat → Int → Int} {r c w t : Int → Int} {f9 f10 : Int}
theorem tb_R.hand {p k v s : Int} (h : tb_R V r c w t) (hp : 0 ≤ p ∧ p < c 3722) (hk : 0 ≤ k ∧ k < c 3720) (hv : 0 ≤ v) (ht : t (10 * p + k) = 0) (hs : m_sum c 3720 k + v ≤ c 3721) (es : s = r p + tb_pw k) :
    tb_R (y_up (y_up (y_up V 4 k (V 4 k + v)) 7 (10 * p + k) (V 7 (10 * p + k) + v)) 9 p (V 9 p + v)) (fun j => if j = p then s else r j) (m_up c (3754 + (10 * p + k)) v) w (m_up t (10 * p + k) 1) := by
  obtain ⟨⟨⟨n1, n2, n3, n4, n5⟩, n6, n7, n8, n9⟩, z, nm, ⟨h1, h2, h3⟩, mn, k1, k2, k3⟩ := h
  have hP : c 3722 ≤ 6 := mn.2.2.1.2
  have hK : c 3720 ≤ 10 := mn.1.2
  have hE : c 3721 ≤ 8 := mn.2.1.2
  have hk10 : 0 ≤ k ∧ k < 10 := by omega
  have c0 : c (3754 + (10 * p + k)) = 0 := (h1 (10 * p + k) (by omega) (by omega)).2 ht
  have rd : ∀ (id : Nat) (i : Int), id ≠ 4 → id ≠ 7 → id ≠ 9 → y_up (y_up (y_up V 4 k (V 4 k + v)) 7 (10 * p + k) (V 7 (10 * p + k) + v)) 9 p (V 9 p + v) id i = V id i := fun id i i4 i7 i9 => by
    rw [y_up_ne (Or.inl i9), y_up_ne (Or.inl i7), y_up_ne (Or.inl i4)]
  have rc : ∀ j : Int, j < 3754 → m_up c (3754 + (10 * p + k)) v j = c j := fun j hj => m_up_ne (by omega)
  refine ⟨⟨⟨?_, ?_, ?_, ?_, ?_⟩, ?_, ?_, ?_, ?_⟩, ?_, ?_, ⟨?_, ?_, ?_⟩, ?_, ?_, ?_, ?_⟩
  · rw [rd 1 0 (by decide) (by decide) (by decide), rc _ (by decide)]; exact n1
  · rw [rd 1 1 (by decide) (by decide) (by decide), rc _ (by decide)]; exact n2
  · rw [rd 1 2 (by decide) (by decide) (by decide), rc _ (by decide)]; exact n3
  · rw [rd 1 3 (by decide) (by decide) (by decide), rc _ (by decide)]; exact n4
  · rw [rd 1 4 (by decide) (by decide) (by decide), rc _ (by decide)]; exact n5
  · intro k' a1 a2
    rw [y_up_ne (Or.inl (by decide)), y_up_ne (Or.inl (by decide))]
    by_cases q : k' = k
    · subst q
      rw [y_up_eq, m_sum_at ⟨hp.1, by omega⟩ c0, n6 k' a1 a2]
    · rw [y_up_ne (Or.inr q), m_sum_ne hk10 ⟨a1, a2⟩ q]
      exact n6 k' a1 a2
  · intro j a1 a2
    rw [y_up_ne (Or.inl (by decide))]
    by_cases q : j = 10 * p + k
    · subst q
      rw [y_up_eq, m_up_eq, n7 _ a1 a2, c0, Int.zero_add]
    · rw [y_up_ne (Or.inr q), y_up_ne (Or.inl (by decide)), m_up_ne (by omega)]
      exact n7 j a1 a2
  · intro q a1 a2
    by_cases e : q = p
    · subst e
      rw [y_up_eq, n8 q a1 a2, m_S_at 10 (by omega) (by show _ < _ + ((10 : Nat) : Int); omega), c0, Int.sub_zero]
    · rw [y_up_ne (Or.inr e), y_up_ne (Or.inl (by decide)), y_up_ne (Or.inl (by decide)), m_S_ext (fun j b1 b2 => m_up_ne (by have : ((10 : Nat) : Int) = 10 := rfl; omega))]
      exact n8 q a1 a2
  · intro q a1 a2
    rw [rd 10 q (by decide) (by decide) (by decide), rd 11 q (by decide) (by decide) (by decide), rc _ (by omega), rc _ (by omega)]
    exact n9 q a1 a2
  · exact ((z.up (by omega)).up (by omega)).up (by omega)
  · rw [rc _ (by decide)]
    exact ((nm.up (by decide) (by decide)).up (by decide) (by decide)).up (by decide) (by decide)
  · intro j a1 a2
    by_cases q : j = 10 * p + k
    · subst q
      rw [m_up_eq]
      exact ⟨Or.inr rfl, fun e => absurd e (by decide)⟩
    · rw [m_up_ne q, m_up_ne (by omega)]
      exact h1 j a1 a2
  · intro q a1 a2
    show (if q = p then s else r q) = _
    by_cases e : q = p
    · subst e
      rw [if_pos rfl, tb_bits_up hk10 ht, es, h2 q a1 a2]
    · rw [if_neg e, tb_bits_ne hk10 e]
      exact h2 q a1 a2
  · intro j a1 a2 a3
    rw [rc _ (by decide)] at a3
    rw [m_up_ne (by omega)]
    exact h3 j a1 a2 a3
  · exact mn.hand ⟨hp.1, by omega⟩ hk10 hk.2 m_up_e hv (by omega)
  · rw [rc _ (by decide)]; exact k1
  · rw [rc _ (by decide)]; exact k2
  · rw [rc _ (by decide)]; exact k3
theorem tb_S.get (H : tb_D X lb D T g) (S : tb_S X D T g σ n B V r f9 f10) {x : Int32} {p : Int} (hx : x.toInt = p) (hp : 0 ≤ p ∧ p < 6) : (F_X5_get X σ (q_rf X D 11) x).toInt = r p := by
  have hl : (q_len X (q_rf X (q_rf X D 11) 0)).toInt = 6 := by
    unfold q_len
    have : q_ln X (q_rf X (q_rf X D 11) 0) = 6 := H.2.2.2.2.2.2.2.1
    rw [this]
    rfl
  simp only [F_X5_get, ↓q_letE]
  rw [hl, hx, if_neg (by omega), if_pos (by omega), ar_cl, hx]
  exact S.2.2.1 p hp.1 hp.2
/-- how many of a kind have been told -/
theorem tm_toldOf (e : m_c X τ a = c) (mn : m_N c) {v : Int32} {k : Int} (hv : v.toInt = k) (hk : 0 ≤ k ∧ k < 10) : (F_X12_toldOf X τ a v).toInt = m_sum c 3720 k := by
  have hs := mn.2.2.2.2.2.2.2.2.1 k hk.1 hk.2
  rw [m_sum_e] at hs ⊢
  have hc := mn.2.2.2.2.2.2.2.1
  have d0 := hc (3754 + 10 * 0 + k) (by omega) (by omega)
  have d1 := hc (3754 + 10 * 1 + k) (by omega) (by omega)
  have d2 := hc (3754 + 10 * 2 + k) (by omega) (by omega)
  have d3 := hc (3754 + 10 * 3 + k) (by omega) (by omega)
  have d4 := hc (3754 + 10 * 4 + k) (by omega) (by omega)
  have d5 := hc (3754 + 10 * 5 + k) (by omega) (by omega)
  have st : ∀ (f : Nat) (x y : Int32) (j s : Int), y.toInt = j → 0 ≤ j → j < 6 → x.toInt = s → 0 ≤ s → s ≤ 100 → 0 ≤ c (3754 + 10 * j + k) → c (3754 + 10 * j + k) ≤ 8 → ∃ x' y' : Int32, F_X12_toldOf_L4_1 X v τ a (f + 1) x y = F_X12_toldOf_L4_1 X v τ a f x' y' ∧ x'.toInt = s + c (3754 + 10 * j + k) ∧ y'.toInt = j + 1 := by
    intro f x y j s hy j0 j1 hx s0 s1 c0 c1
    have ei : ((3754 : Int32) + (10 : Int32) * y + v).toInt = 3754 + 10 * j + k := by
      have e1 : (3754 : Int32).toInt = 3754 := rfl
      have e10 : (10 : Int32).toInt = 10 := rfl
      rw [ar_add, ar_add, ar_mul, e1, e10, hy, hv, ar_wr (n := 10 * j) (by omega) (by omega), ar_wr (n := 3754 + 10 * j) (by omega) (by omega), ar_wr (by omega) (by omega)]
    have ec : (τ.1 (q_rf X a 20) ((3754 : Int32) + (10 : Int32) * y + v).toNatClampNeg).toInt = c (3754 + 10 * j + k) := by
      have z := m_rd (X := X) (σ := τ) (a := a) rfl ei
      rw [e] at z
      exact z
    refine ⟨x + τ.1 (q_rf X a 20) ((3754 : Int32) + (10 : Int32) * y + v).toNatClampNeg, y + 1, ?_, ?_, ?_⟩
    · rw [F_X12_toldOf_L4_1_s]
      unfold F_X12_toldOf_B4_1
      rw [hy, if_pos j1, q_letE, q_letE, q_letE, q_letE, q_letE, q_letE]
    · rw [ar_add, hx, ec, ar_wr (by omega) (by omega)]
    · rw [y_inc (by omega), hy]
  have z0 : (0 : Int32).toInt = 0 := rfl
  unfold F_X12_toldOf
  obtain ⟨f, hf⟩ : ∃ f, (2147483647 - (0 : Int32).toInt).toNat + 1 = f + 1 + 1 + 1 + 1 + 1 + 1 + 1 := ⟨(2147483647 - (0 : Int32).toInt).toNat + 1 - 7, by rw [z0]; omega⟩
  rw [hf]
  obtain ⟨x1, y1, e1, hx1, hy1⟩ := st (f + 1 + 1 + 1 + 1 + 1 + 1) 0 0 0 0 z0 (by decide) (by decide) z0 (by decide) (by decide) d0 (by omega)
  obtain ⟨x2, y2, e2, hx2, hy2⟩ := st (f + 1 + 1 + 1 + 1 + 1) x1 y1 1 _ hy1 (by decide) (by decide) hx1 (by omega) (by omega) d1 (by omega)
  obtain ⟨x3, y3, e3, hx3, hy3⟩ := st (f + 1 + 1 + 1 + 1) x2 y2 2 _ hy2 (by decide) (by decide) hx2 (by omega) (by omega) d2 (by omega)
  obtain ⟨x4, y4, e4, hx4, hy4⟩ := st (f + 1 + 1 + 1) x3 y3 3 _ hy3 (by decide) (by decide) hx3 (by omega) (by omega) d3 (by omega)
  obtain ⟨x5, y5, e5, hx5, hy5⟩ := st (f + 1 + 1) x4 y4 4 _ hy4 (by decide) (by decide) hx4 (by omega) (by omega) d4 (by omega)
  obtain ⟨x6, y6, e6, hx6, hy6⟩ := st (f + 1) x5 y5 5 _ hy5 (by decide) (by decide) hx5 (by omega) (by omega) d5 (by omega)
  rw [e1, e2, e3, e4, e5, e6, F_X12_toldOf_L4_1_s]
  unfold F_X12_toldOf_B4_1
  rw [hy6, if_neg (by decide), hx6]
  omega
end TH
end
/-! FROM 48p.rdhand.lean.txt -/
section
/-! A HAND READ -/
/-- the reference's hand, stretch by stretch -/
noncomputable def tm_h3 (X : XW) (a : Nat) (r_4 r_8 f_14 r_18 : Int32) (σ_19 : ST) : ST :=
  q_let ((10 : Int32) * r_4 : Int32) (fun z_20 => q_let (z_20 + r_18 : Int32) (fun z_21 => q_let (σ_19.1 a 12 : Int32) (fun f_22 => if f_22.toInt = 0 then q_let (σ_19.1 (q_rf X a 22) z_21.toNatClampNeg : Int32) (fun f_29 => if f_29.toInt = 1 then q_let (F_X12_fail X σ_19 a (5 : Int32) f_14 : ST) (fun σ_33 => q_let (σ_33.1 a 12 : Int32) (fun f_34 => if 0 < f_34.toInt then σ_33 else q_let (q_si σ_33 (q_rf X a 22) z_21.toNatClampNeg (1 : Int32) : ST) (fun σ_36 => q_let ((3754 : Int32) + z_21 : Int32) (fun z_37 => q_let (q_si σ_36 (q_rf X a 20) z_37.toNatClampNeg r_8 : ST) (fun σ_38 => σ_38))))) else q_let (F_X12_toldOf X σ_19 a r_18 : Int32) (fun r_39 => q_let (r_39 + r_8 : Int32) (fun z_41 => q_let (σ_19.1 (q_rf X a 20) (3721 : Int32).toNatClampNeg : Int32) (fun f_42 => if f_42.toInt < z_41.toInt then q_let (F_X12_fail X σ_19 a (5 : Int32) f_14 : ST) (fun σ_51 => q_let (σ_51.1 a 12 : Int32) (fun f_52 => if 0 < f_52.toInt then σ_51 else q_let (q_si σ_51 (q_rf X a 22) z_21.toNatClampNeg (1 : Int32) : ST) (fun σ_54 => q_let ((3754 : Int32) + z_21 : Int32) (fun z_55 => q_let (q_si σ_54 (q_rf X a 20) z_55.toNatClampNeg r_8 : ST) (fun σ_56 => σ_56))))) else q_let (σ_19.1 a 12 : Int32) (fun f_44 => if 0 < f_44.toInt then σ_19 else q_let (q_si σ_19 (q_rf X a 22) z_21.toNatClampNeg (1 : Int32) : ST) (fun σ_46 => q_let ((3754 : Int32) + z_21 : Int32) (fun z_47 => q_let (q_si σ_46 (q_rf X a 20) z_47.toNatClampNeg r_8 : ST) (fun σ_48 => σ_48)))))))) else q_let (σ_19.1 a 12 : Int32) (fun f_24 => if 0 < f_24.toInt then σ_19 else q_let (q_si σ_19 (q_rf X a 22) z_21.toNatClampNeg (1 : Int32) : ST) (fun σ_26 => q_let ((3754 : Int32) + z_21 : Int32) (fun z_27 => q_let (q_si σ_26 (q_rf X a 20) z_27.toNatClampNeg r_8 : ST) (fun σ_28 => σ_28)))))))
noncomputable def tm_h2 (X : XW) (a : Nat) (r_4 r_8 : Int32) (σ_9 : ST) : ST :=
  q_let (F_X12_isOf X σ_9 a : Int32) (fun r_10 => q_let (F_X12_must X σ_9 a r_10 : ST) (fun σ_13 => q_let (σ_13.1 a 15 : Int32) (fun f_14 => q_let (σ_13.1 (q_rf X a 20) (3720 : Int32).toNatClampNeg : Int32) (fun f_15 => q_let (f_15 - (1 : Int32) : Int32) (fun z_16 => q_bi (F_X12_count X σ_13 a (0 : Int32) z_16) (fun r_18 σ_19 => tm_h3 X a r_4 r_8 f_14 r_18 σ_19))))))
noncomputable def tm_h1 (X : XW) (a : Nat) (r_4 : Int32) (σ_5 : ST) : ST :=
  q_bi (F_X12_count X σ_5 a (0 : Int32) (8 : Int32)) (fun r_8 σ_9 => tm_h2 X a r_4 r_8 σ_9)
theorem tm_hE (X : XW) (τ : ST) (a : Nat) : F_X12_readHand X τ a = q_let (F_X12_next X τ a : ST) (fun σ_2 => q_bi (F_X12_readTold X σ_2 a (4 : Int32)) (fun r_4 σ_5 => tm_h1 X a r_4 σ_5)) := rfl
section TI
variable {X : XW} {lb : Nat → Nat} {D T g a : Nat} {σ τ σ' τ' σ1 τ1 : ST} {n : Int} {B : Int → Int} {V : Nat → Int → Int} {r c w t : Int → Int} {f9 f10 : Int}
theorem tm_h3a (h : 0 < (τ.1 a 12).toInt) (y r8 f14 k : Int32) : tm_h3 X a y r8 f14 k τ = τ := by
  unfold tm_h3
  rw [q_letE, q_letE, q_letE, if_neg (by omega), q_letE, if_pos h]
theorem tm_h2a (h : 0 < (τ.1 a 12).toInt) (y r8 : Int32) : tm_h2 X a y r8 τ = τ := by
  unfold tm_h2
  rw [q_letE, q_letE, tm_must2 h, q_letE, q_letE, q_letE, tm_count2 h, q_biP, tm_h3a h]
theorem tm_h1a (h : 0 < (τ.1 a 12).toInt) (y : Int32) : tm_h1 X a y τ = τ := by
  unfold tm_h1
  rw [tm_count2 h, q_biP, tm_h2a h]
/-- a fault at a token that the reference has passed already -/
theorem tl_fail3 {R : Nat} (K : tl_K σ R τ a B n) (h4 : (τ.1 a 14).toInt ≠ 4) (h : (τ'.1 a 12).toInt = 0) {k : Int32} (hk : 0 < k.toInt) {w : Int32} (hw : w.toInt = (τ.1 a 15).toInt) : ∃ σ' : ST, F_X3_fails X σ R k = (0, σ') ∧ tk (tc_S2 R) σ σ' ∧ tkl (tn_S2 a) (tn_L a) τ' (F_X12_fail X τ' a k w) ∧ tl_F σ' R (F_X12_fail X τ' a k w) a := by
  obtain ⟨k1, k2, k3, -⟩ := id K
  obtain ⟨σ', a1, a2, a3, a4⟩ := tc_fails (X := X) (σ := σ) (R := R) k
  obtain ⟨b1, b2, b3⟩ := tm_fail (X := X) h k w
  have q : ¬ (σ.1 R 4).toInt = 4 := by rw [k3]; exact h4
  rw [if_neg q] at a3
  exact ⟨σ', a1, a2, b1, by rw [a3, b2], by rw [b2]; exact hk, by rw [a4, b3, k1, hw]⟩
theorem tb_addE (H : tb_D X lb D T g) {x v : Int32} {p : Int} (hx : x.toInt = p) (hp : 0 ≤ p ∧ p < 6) : F_X5_add X σ (q_rf X D 11) x v = q_si σ (tb_T X D) x.toNatClampNeg (σ.1 (tb_T X D) x.toNatClampNeg + v) := by
  simp only [F_X5_add, ↓q_letE]
  have hl : (q_len X (q_rf X (q_rf X D 11) 0)).toInt = 6 := by
    unfold q_len
    have : q_ln X (q_rf X (q_rf X D 11) 0) = 6 := H.2.2.2.2.2.2.2.1
    rw [this]
    rfl
  rw [hl, hx, if_neg (by omega), if_pos (by omega)]
  rfl
theorem m_cell {k p : Int} (mn : m_N c) (hp : 0 ≤ p ∧ p < 6) (hk : 0 ≤ k ∧ k < 10) : 0 ≤ c (3754 + 10 * p + k) ∧ c (3754 + 10 * p + k) ≤ 8 := by
  have hs := mn.2.2.2.2.2.2.2.2.1 k hk.1 hk.2
  rw [m_sum_e] at hs
  have hc := mn.2.2.2.2.2.2.2.1
  have d0 := hc (3754 + 10 * 0 + k) (by omega) (by omega)
  have d1 := hc (3754 + 10 * 1 + k) (by omega) (by omega)
  have d2 := hc (3754 + 10 * 2 + k) (by omega) (by omega)
  have d3 := hc (3754 + 10 * 3 + k) (by omega) (by omega)
  have d4 := hc (3754 + 10 * 4 + k) (by omega) (by omega)
  have d5 := hc (3754 + 10 * 5 + k) (by omega) (by omega)
  clear hc mn
  rcases (by omega : p = 0 ∨ p = 1 ∨ p = 2 ∨ p = 3 ∨ p = 4 ∨ p = 5) with rfl | rfl | rfl | rfl | rfl | rfl <;> omega
theorem m_S_b {b : Int} : ∀ N : Nat, (∀ j : Int, b ≤ j → j < b + (N : Int) → 0 ≤ c j ∧ c j ≤ 8) → 0 ≤ m_S c b N ∧ m_S c b N ≤ 8 * (N : Int) := by
  intro N
  induction N with
  | zero => intro _; exact ⟨Int.le_refl _, Int.le_refl _⟩
  | succ N ih =>
    intro h
    have i := ih (fun j a1 a2 => h j a1 (by omega))
    have d := h (b + (N : Int)) (by omega) (by omega)
    show 0 ≤ m_S c b N + c (b + (N : Int)) ∧ m_S c b N + c (b + (N : Int)) ≤ _
    omega
theorem tb_bits_b {p : Int} (ht : ∀ i : Int, 0 ≤ i → i < 10 → t (10 * p + i) = 0 ∨ t (10 * p + i) = 1) : 0 ≤ tb_bits t p ∧ tb_bits t p ≤ 1023 := by
  have b : ∀ i : Int, 0 ≤ i → i < 10 → 0 ≤ t (10 * p + i) ∧ t (10 * p + i) ≤ 1 := fun i i0 i1 => by rcases ht i i0 i1 with h | h <;> rw [h] <;> decide
  have b0 := b 0 (by decide) (by decide)
  rw [Int.add_zero] at b0
  have b1 := b 1 (by decide) (by decide)
  have b2 := b 2 (by decide) (by decide)
  have b3 := b 3 (by decide) (by decide)
  have b4 := b 4 (by decide) (by decide)
  have b5 := b 5 (by decide) (by decide)
  have b6 := b 6 (by decide) (by decide)
  have b7 := b 7 (by decide) (by decide)
  have b8 := b 8 (by decide) (by decide)
  have b9 := b 9 (by decide) (by decide)
  clear b ht
  unfold tb_bits
  omega
/-- the class's table and hands take the cards told -/
theorem tb_deal (Y : y_S X lb) (G : y_G X lb g 6) (W : y_W X lb g 6 σ1 σ V) {z f v : Int32} {p k : Int} (hz : z.toInt = p) (hf : f.toInt = k) (hp : 0 ≤ p ∧ p < 6) (hk : 0 ≤ k ∧ k < 10) (hv : 0 ≤ v.toInt ∧ v.toInt ≤ 8) (b4 : 0 ≤ V 4 k ∧ V 4 k ≤ 100) (b7 : 0 ≤ V 7 (10 * p + k) ∧ V 7 (10 * p + k) ≤ 100) (b9 : 0 ≤ V 9 p ∧ V 9 p ≤ 100) :
    y_W X lb g 6 σ1 (F_X1_deal X (F_X5_add X σ (q_rf X (q_rf X g 0) 5) f v) (q_rf X g 1) z f v) (y_up (y_up (y_up V 4 k (V 4 k + v.toInt)) 7 (10 * p + k) (V 7 (10 * p + k) + v.toInt)) 9 p (V 9 p + v.toInt)) := by
  have e10 : (10 : Int32).toInt = 10 := rfl
  have gn4 : ((y_gn 4 : Nat) : Int) = 10 := rfl
  have gn7 : ((y_gn 7 : Nat) : Int) = 60 := rfl
  have gn9 : ((y_gn 9 : Nat) : Int) = 6 := rfl
  have W1 := W.add Y G (id := 4) (r := q_rf X (q_rf X g 0) 5) ⟨by decide, by decide⟩ rfl f v (by omega) (by rw [gn4]; omega)
  rw [hf, ar_wr (by omega) (by omega)] at W1
  obtain ⟨σ2, hσ2⟩ : ∃ s, s = F_X5_add X σ (q_rf X (q_rf X g 0) 5) f v := ⟨_, rfl⟩
  rw [← hσ2] at W1 ⊢
  have ei : (z * 10 + f).toInt = 10 * p + k := by
    rw [ar_add, ar_mul, hz, hf, e10, ar_wr (n := p * 10) (by omega) (by omega), ar_wr (by omega) (by omega)]
    omega
  have W2 := W1.add Y G (id := 7) (r := q_rf X (q_rf X g 1) 0) ⟨by decide, by decide⟩ rfl (z * 10 + f) v (by omega) (by rw [gn7]; omega)
  rw [ei, y_up_ne (Or.inl (by decide)), ar_wr (by omega) (by omega)] at W2
  unfold F_X1_deal
  rw [q_letE, q_letE, q_letE, q_letE]
  obtain ⟨σ3, hσ3⟩ : ∃ s, s = F_X5_add X σ2 (q_rf X (q_rf X g 1) 0) (z * 10 + f) v := ⟨_, rfl⟩
  rw [← hσ3] at W2 ⊢
  have W3 := W2.add Y G (id := 9) (r := q_rf X (q_rf X g 1) 2) ⟨by decide, by decide⟩ rfl z v (by omega) (by rw [gn9]; omega)
  rw [hz, y_up_ne (Or.inl (by decide)), y_up_ne (Or.inl (by decide)), ar_wr (by omega) (by omega)] at W3
  exact W3
set_option maxHeartbeats 1000000 in
theorem tb_readHand (Y : y_S X lb) (H : tb_D X lb D T g) (ha : q_kd X a = 12) (I : tb_I X D T g a n B σ τ V r c w t f9 f10) (h1 : (τ.1 a 14).toInt = 1) :
    ∃ (z : Int32) (σ' : ST), F_X9_readHand X σ D = (z, σ') ∧ tb_O X lb D T g a n B σ τ σ' (F_X12_must X (F_X12_readHand X τ a) a (F_X12_isSign X (F_X12_readHand X τ a) a 59)) z := by
  obtain ⟨S, M, K, h0, Rr⟩ := I
  have kb := K.b
  have hDn : lb D / 8192 ≠ 6 := by have := H.2.2.2.1; omega
  obtain ⟨b0, b1, b4, b20, b21, b22⟩ := Rr.b
  obtain ⟨t1, t2, t3⟩ := Rr.2.2.2.1
  have mn := Rr.2.2.2.2.1
  unfold F_X9_readHand
  rw [tm_hE, ← H.2.1, q_letE, q_letE]
  obtain ⟨c1, m1, K2, g2⟩ := tl_adv2 S.1 M.1 K
  obtain ⟨S2, f2⟩ := S.rd Y H c1.S2
  have M2 := M.rd Y.1 ha m1.S2
  have h02 : ((F_X12_next X τ a).1 a 12).toInt = 0 := by rw [tn_12 m1]; exact h0
  obtain ⟨σb, hσb⟩ : ∃ s, s = F_X3_advance X σ D := ⟨_, rfl⟩
  obtain ⟨τb, hτb⟩ : ∃ s, s = F_X12_next X τ a := ⟨_, rfl⟩
  rw [← hσb] at S2 f2 K2 ⊢
  rw [← hτb] at M2 K2 g2 h02 ⊢
  have k2b := K2.b
  have nmw : y_nm V (m_wd X τb a) (6 * 4) (c 3722) := by
    rw [M2.2.2.1]
    exact Rr.2.2.1
  obtain ⟨z, y, σc, τc, e1, e2, ⟨o1, o2, o3⟩, v1, v2⟩ := tl_passPlayer Y H.2.2.1 ((y_W.rf (lb := lb) (o := 6) (σ := σb)).eq S2.2.1) S2.1 M2.1 K2 h02 (v := 4) (bl := 4) rfl ⟨by decide, by decide⟩ (P := c 3722) (by rw [M2.2.1]; rfl) b22 b4 nmw
  obtain ⟨S3, f3⟩ := S2.rd Y H o1
  have M3 := M2.rd Y.1 ha o2
  rw [e1, q_biP z σc, e2, q_biP y τc]
  rcases o3 with ⟨q1, K3, h03, g3⟩ | ⟨q1, q2⟩
  · obtain ⟨ev, y0, yP⟩ := v1 q1
    have ezy : z = y := Int32.toInt_inj.mp ev
    rw [if_neg q1, ← ezy]
    rw [← ev] at y0 yP
    clear v1 v2
    have k3b := K3.b
    unfold tm_h1
    obtain ⟨z2, w2, σd, τd, e3, e4, ⟨o4, o5, o6⟩, v3, v4⟩ := tl_passNum S3.1 M3.1 K3 h03 0 8 (by decide)
    obtain ⟨S4, f4⟩ := S3.rd Y H o4
    have M4 := M3.rd Y.1 ha o5
    rw [e3, q_biP z2 σd, e4, q_biP w2 τd]
    rcases o6 with ⟨q3, K4, h04, g4⟩ | ⟨q3, q4⟩
    · obtain ⟨ev2, z20, z28⟩ := v3 q3
      have ez2 : z2 = w2 := Int32.toInt_inj.mp ev2
      rw [if_neg q3, ← ez2]
      have z20' : 0 ≤ z2.toInt := by rw [ev2]; exact z20
      have z28' : z2.toInt ≤ 8 := by rw [ev2]; exact z28
      clear v3 v4
      have k4b := K4.b
      unfold tm_h2
      rw [q_letE (F_X12_isOf X τd a)]
      obtain ⟨z3, σe, e5, hz3, ⟨o7, o8, o9⟩⟩ := tl_passWord S4.1 M4.1 K4 h04 (r := 12) ⟨by decide, by decide⟩ (v := F_X12_isOf X τd a) tm_isOf
      obtain ⟨S5, f5⟩ := S4.rd Y H o7
      have M5 := M4.rd Y.1 ha o8
      rw [e5, q_biP z3 σe, q_letE (F_X12_must X τd a (F_X12_isOf X τd a))]
      obtain ⟨τe, hτe⟩ : ∃ s, s = F_X12_must X τd a (F_X12_isOf X τd a) := ⟨_, rfl⟩
      rw [← hτe] at M5 o9 ⊢
      rcases o9 with ⟨q5, K5, h05, g5⟩ | ⟨q5, q6⟩
      · rw [if_neg (by omega : ¬ z3.toInt = 0)]
        have k5b := K5.b
        have pc : (σe.1 (q_rf X g 0) 0).toInt = c 3720 := by
          have zz := y_v_rdn (X := X) (g := g) (σ := σe) (id := 1) (by decide) 0
          rw [S5.2.1] at zz
          exact zz.trans b0
        have pm : (τe.1 (q_rf X a 20) (3720 : Int32).toNatClampNeg).toInt = c 3720 := by
          have zz := m_rd (X := X) (σ := τe) (a := a) (i := 3720) (A := 3720) rfl rfl
          rw [M5.2.1] at zz
          exact zz
        have epk : τe.1 (q_rf X a 20) (3720 : Int32).toNatClampNeg = σe.1 (q_rf X g 0) 0 := Int32.toInt_inj.mp (pm.trans pc.symm)
        rw [q_letE (τe.1 a 15), q_letE (τe.1 (q_rf X a 20) (3720 : Int32).toNatClampNeg), epk, q_letE (σe.1 (q_rf X g 0) 0), q_letE (σe.1 (q_rf X g 0) 0 - 1), q_letE (σe.1 (q_rf X g 0) 0 - 1)]
        have hhi : (σe.1 (q_rf X g 0) 0 - 1).toInt = c 3720 - 1 := by
          have one : (1 : Int32).toInt = 1 := rfl
          rw [ar_sub, pc, one, ar_wr (by omega) (by omega)]
        obtain ⟨hi, ehi⟩ : ∃ s, s = σe.1 (q_rf X g 0) 0 - 1 := ⟨_, rfl⟩
        rw [← ehi] at hhi ⊢
        rcases tl_mustNum S5.1 M5.1 K5 h05 0 hi with ⟨x1, x2, x3, e6, e7⟩ | ⟨σ', v, τ', e6, e7, x1, x2, x3⟩
        · rw [e6, q_biP 1 σe, e7, q_biP (τe.1 a 17) (F_X12_next X τe a), if_neg (by decide : ¬ (1 : Int32).toInt = 0)]
          have fk0 := K5.2.2.2.1 x1
          have efk : τe.1 a 17 = σe.1 D 5 := Int32.toInt_inj.mp fk0.symm
          obtain ⟨k, hk⟩ : ∃ s, s = (τe.1 a 17).toInt := ⟨_, rfl⟩
          rw [← hk] at fk0 x2 x3
          have kr : 0 ≤ k ∧ k < 10 := ⟨x2, by omega⟩
          rw [efk, q_letE (σe.1 D 5)]
          obtain ⟨f, hf⟩ : ∃ s, s = σe.1 D 5 := ⟨_, rfl⟩
          rw [← hf] at fk0 ⊢
          have pr : 0 ≤ z.toInt ∧ z.toInt < 6 := ⟨y0, by omega⟩
          have gz := tb_S.get H S5 (x := z) (p := z.toInt) rfl pr
          have tt : ∀ i : Int, 0 ≤ i → i < 10 → t (10 * z.toInt + i) = 0 ∨ t (10 * z.toInt + i) = 1 := fun i i0 i1 => (t1 (10 * z.toInt + i) (by omega) (by omega)).1
          have rb := tb_bits_b tt
          have rp := t2 z.toInt pr.1 pr.2
          have bit := tb_bit (f := f) (gz.trans rp) fk0 kr tt
          rw [q_letE (F_X5_get X σe (q_rf X D 11) z), q_letE, q_letE, bit]
          obtain ⟨c6, m6, K6, g6⟩ := tl_adv2 S5.1 M5.1 K5
          have M6 := M5.rd Y.1 ha m6.S2
          have h06 : ((F_X12_next X τe a).1 a 12).toInt = 0 := by rw [tn_12 m6]; exact h05
          obtain ⟨τf, hτf⟩ : ∃ s, s = F_X12_next X τe a := ⟨_, rfl⟩
          rw [← hτf] at M6 K6 g6 h06 m6 ⊢
          have i21 : ((10 : Int32) * z + f).toInt = 10 * z.toInt + k := by
            have e10 : (10 : Int32).toInt = 10 := rfl
            rw [ar_add, ar_mul, fk0, e10, ar_wr (n := 10 * z.toInt) (by omega) (by omega), ar_wr (by omega) (by omega)]
          have tv : (τf.1 (q_rf X a 22) ((10 : Int32) * z + f).toNatClampNeg).toInt = t (10 * z.toInt + k) := by
            rw [ar_cl, i21]
            exact M6.2.2.2.1 _ (by omega) (by omega)
          have h15 : (τe.1 a 14).toInt ≠ 4 := by omega
          have bad := tl_fail3 (X := X) (τ' := τf) K5 h15 h06 (k := 5) (by decide) (w := τe.1 a 15) rfl
          have pf : tb_P X a τ τf := tb_P.mk M M6 (fun _ _ _ => rfl) (fun _ _ _ => rfl)
          have ff := ((f2.tr f3).tr f4).tr f5
          unfold tm_h3
          rw [q_letE ((10 : Int32) * z), q_letE ((10 : Int32) * z + f), q_letE (τf.1 a 12), h06, if_pos (Eq.refl (0 : Int)), q_letE (τf.1 (q_rf X a 22) ((10 : Int32) * z + f).toNatClampNeg), tv]
          by_cases qt : t (10 * z.toInt + k) = 0
          · rw [if_pos qt, if_neg (by omega : ¬ t (10 * z.toInt + k) = 1)]
            unfold F_X9_readHand_J92_1
            rw [← H.2.1, if_pos (by decide : (0 : Int32).toInt = 0)]
            have n4 : V 4 k = m_sum c 3720 k := Rr.1.2.1 k kr.1 kr.2
            have ms := mn.2.2.2.2.2.2.2.2.1 k kr.1 kr.2
            have ms0 : 0 ≤ m_sum c 3720 k := by
              rw [m_sum_e]
              have d0 := (m_cell (p := 0) mn ⟨by decide, by decide⟩ kr).1
              have d1 := (m_cell (p := 1) mn ⟨by decide, by decide⟩ kr).1
              have d2 := (m_cell (p := 2) mn ⟨by decide, by decide⟩ kr).1
              have d3 := (m_cell (p := 3) mn ⟨by decide, by decide⟩ kr).1
              have d4 := (m_cell (p := 4) mn ⟨by decide, by decide⟩ kr).1
              have d5 := (m_cell (p := 5) mn ⟨by decide, by decide⟩ kr).1
              omega
            have gn4 : ((y_gn 4 : Nat) : Int) = 10 := rfl
            have gd : (F_X5_get X σe (q_rf X (q_rf X g 0) 5) f).toInt = m_sum c 3720 k := (y_getI Y H.2.2.1 ((y_W.rf (lb := lb) (o := 6) (σ := σe)).eq S5.2.1) (id := 4) ⟨by decide, by decide⟩ rfl fk0 kr.1 (by rw [gn4]; exact kr.2)).trans n4
            have gt := tm_toldOf (X := X) M6.2.1 mn (v := f) fk0 kr
            have sc : (F_X5_get X σe (q_rf X (q_rf X g 0) 5) f + z2).toInt = m_sum c 3720 k + z2.toInt := by rw [ar_add, gd, ar_wr (by omega) (by omega)]
            have sm : (F_X12_toldOf X τf a f + z2).toInt = m_sum c 3720 k + z2.toInt := by rw [ar_add, gt, ar_wr (by omega) (by omega)]
            have pe1 : (σe.1 (q_rf X g 0) 1).toInt = c 3721 := by
              have zz := y_v_rdn (X := X) (g := g) (σ := σe) (id := 1) (by decide) 1
              rw [S5.2.1] at zz
              exact zz.trans b1
            have pe2 : (τf.1 (q_rf X a 20) (3721 : Int32).toNatClampNeg).toInt = c 3721 := by
              have zz := m_rd (X := X) (σ := τf) (a := a) (i := 3721) (A := 3721) rfl rfl
              rw [M6.2.1] at zz
              exact zz
            rw [q_letE (F_X5_get X σe (q_rf X (q_rf X g 0) 5) f), q_letE (F_X5_get X σe (q_rf X (q_rf X g 0) 5) f + z2), q_letE (σe.1 (q_rf X g 0) 1), q_letE (F_X12_toldOf X τf a f), q_letE (F_X12_toldOf X τf a f + z2), q_letE (τf.1 (q_rf X a 20) (3721 : Int32).toNatClampNeg), sc, pe1, sm, pe2]
            by_cases qs : c 3721 < m_sum c 3720 k + z2.toInt
            · obtain ⟨σ', a1, a2, a3, a4⟩ := bad
              rw [if_pos qs, if_pos qs, a1, q_biP, q_letE (F_X12_fail X τf a 5 (τe.1 a 15)), q_letE ((F_X12_fail X τf a 5 (τe.1 a 15)).1 a 12), if_pos a4.2.1]
              exact ⟨0, σ', rfl, tb_O.bad (ff.tr (S5.rd Y H a2).2) (pf.tr (tb_P.rd Y.1 ha a3)) rfl a4 _⟩
            · clear bad
              have i37 : ((3754 : Int32) + ((10 : Int32) * z + f)).toInt = 3754 + (10 * z.toInt + k) := by
                have e3 : (3754 : Int32).toInt = 3754 := rfl
                rw [ar_add, i21, e3, ar_wr (by omega) (by omega)]
              rw [if_neg qs, if_neg qs, q_letE (τf.1 a 12), h06, if_neg (by decide : ¬ (0 : Int) < 0), q_letE (q_si τf (q_rf X a 22) ((10 : Int32) * z + f).toNatClampNeg 1), q_letE ((3754 : Int32) + ((10 : Int32) * z + f)), q_letE (q_si (q_si τf (q_rf X a 22) ((10 : Int32) * z + f).toNatClampNeg 1) (q_rf X a 20) ((3754 : Int32) + ((10 : Int32) * z + f)).toNatClampNeg z2)]
              obtain ⟨M7, sm7⟩ := M6.told Y.1 ha (i := (10 : Int32) * z + f) (v := 1) i21 ⟨by omega, by omega⟩
              have one : (1 : Int32).toInt = 1 := rfl
              rw [one] at M7
              obtain ⟨τg, hτg⟩ : ∃ s, s = q_si τf (q_rf X a 22) ((10 : Int32) * z + f).toNatClampNeg 1 := ⟨_, rfl⟩
              rw [← hτg] at M7 sm7 ⊢
              obtain ⟨M8, sm8⟩ := M7.cw Y.1 ha (i := (3754 : Int32) + ((10 : Int32) * z + f)) (v := z2) i37 (by omega)
              obtain ⟨τh, hτh⟩ : ∃ s, s = q_si τg (q_rf X a 20) ((3754 : Int32) + ((10 : Int32) * z + f)).toNatClampNeg z2 := ⟨_, rfl⟩
              rw [← hτh] at M8 sm8 ⊢
              -- the class
              have pw := tb_pw_b kr
              obtain ⟨S6, f6⟩ := S5.told Y H (x := z) (v := (1 : Int32) <<< (f &&& 31)) (p := z.toInt) rfl pr (s := r z.toInt + tb_pw k) (by rw [tb_shl fk0 kr, ar_wr (by omega) (by omega)])
              have sC6 : tl_sameC D σe (F_X5_add X σe (q_rf X D 11) z ((1 : Int32) <<< (f &&& 31))) := fun j _ _ => by
                rw [tb_addE H (p := z.toInt) rfl pr]
                exact q_si_ne (Ne.symm (tb_TD H)) j
              rw [q_letE ((1 : Int32) <<< (f &&& 31)), q_letE (F_X5_add X σe (q_rf X D 11) z ((1 : Int32) <<< (f &&& 31)))]
              obtain ⟨σg, hσg⟩ : ∃ s, s = F_X5_add X σe (q_rf X D 11) z ((1 : Int32) <<< (f &&& 31)) := ⟨_, rfl⟩
              rw [← hσg] at S6 f6 sC6 ⊢
              have n7 : V 7 (10 * z.toInt + k) = c (3754 + (10 * z.toInt + k)) := Rr.1.2.2.1 _ (by omega) (by omega)
              have c0 : c (3754 + (10 * z.toInt + k)) = 0 := (t1 _ (by omega) (by omega)).2 qt
              have n9 : V 9 z.toInt = m_S c (3754 + 10 * z.toInt) 10 := Rr.1.2.2.2.1 z.toInt pr.1 pr.2
              have ten : ((10 : Nat) : Int) = 10 := rfl
              have b9 := m_S_b (c := c) (b := 3754 + 10 * z.toInt) 10 (fun j a1 a2 => by
                rw [ten] at a2
                have := m_cell (p := z.toInt) (k := j - (3754 + 10 * z.toInt)) mn pr ⟨by omega, by omega⟩
                have ej : 3754 + 10 * z.toInt + (j - (3754 + 10 * z.toInt)) = j := by omega
                rw [ej] at this
                exact this)
              rw [ten, ← n9] at b9
              have W := tb_deal Y H.2.2.1 ((y_W.rf (lb := lb) (o := 6) (σ := σg)).eq S6.2.1) (z := z) (f := f) (v := z2) (p := z.toInt) (k := k) rfl fk0 pr kr ⟨z20', z28'⟩ ⟨by omega, by omega⟩ ⟨by omega, by omega⟩ ⟨by omega, by omega⟩
              obtain ⟨S7, f7⟩ := S6.gm Y H W
              rw [q_letE (F_X5_add X σg (q_rf X (q_rf X g 0) 5) f z2), q_letE (F_X1_deal X (F_X5_add X σg (q_rf X (q_rf X g 0) 5) f z2) (q_rf X g 1) z f z2)]
              have sC7 := tl_sameC.W W hDn
              obtain ⟨σh, hσh⟩ : ∃ s, s = F_X1_deal X (F_X5_add X σg (q_rf X (q_rf X g 0) 5) f z2) (q_rf X g 1) z f z2 := ⟨_, rfl⟩
              rw [← hσh] at S7 f7 sC7 ⊢
              have K7 : tl_K σh D τe a B n := (K5.same sC6 tl_same.rf).same sC7 tl_same.rf
              obtain ⟨c9, m9, K9, g9⟩ := tl_adv2 S7.1 M5.1 K7
              rw [← hτf] at K9 m9 g9
              obtain ⟨S9, f9'⟩ := S7.rd Y H c9.S2
              rw [q_letE (F_X3_advance X σh D)]
              obtain ⟨σi, hσi⟩ : ∃ s, s = F_X3_advance X σh D := ⟨_, rfl⟩
              rw [← hσi] at S9 f9' K9 ⊢
              have K10 : tl_K σi D τh a B n := (K9.same tl_sameC.rf sm7).same tl_sameC.rf sm8
              have h010 : (τh.1 a 12).toInt = 0 := by rw [sm8.1 12 (by decide) (by decide), sm7.1 12 (by decide) (by decide)]; exact h06
              have R10 := Rr.hand (p := z.toInt) (k := k) (v := z2.toInt) (s := r z.toInt + tb_pw k) ⟨pr.1, yP⟩ ⟨kr.1, by omega⟩ z20' qt (by omega) rfl
              have pP : tb_P X a τ τh := tb_P.mk M M8 (fun j a1 a2 => m_up_ne (by omega)) (fun _ _ _ => rfl)
              have e15 : τh.1 a 15 = τf.1 a 15 := (sm8.1 15 (by decide) (by decide)).trans (sm7.1 15 (by decide) (by decide))
              have k10b := K10.b
              have k6b := K6.b
              obtain ⟨z', σ2, e9, o⟩ := tb_semi Y H ha (σ := σ) (τ := τ) ⟨S9, M8, K10, h010, R10⟩ (((ff.tr f6).tr f7).tr f9') pP (by rw [e15]; omega) (by rw [e15] at k10b; omega)
              rw [e9, q_biP z' σ2]
              exact ⟨z', σ2, rfl, o⟩
          · have qt1 : t (10 * z.toInt + k) = 1 := (tt k kr.1 kr.2).resolve_left qt
            obtain ⟨σ', a1, a2, a3, a4⟩ := bad
            rw [if_neg qt, if_pos qt1]
            unfold F_X9_readHand_J92_1
            rw [if_neg (by decide : ¬ (1 : Int32).toInt = 0), a1, q_biP, q_letE (F_X12_fail X τf a 5 (τe.1 a 15)), q_letE ((F_X12_fail X τf a 5 (τe.1 a 15)).1 a 12), if_pos a4.2.1]
            exact ⟨0, σ', rfl, tb_O.bad (ff.tr (S5.rd Y H a2).2) (pf.tr (tb_P.rd Y.1 ha a3)) rfl a4 _⟩
        · rw [e6, q_biP 0 σ', e7, q_biP 0 τ', if_pos (by decide : (0 : Int32).toInt = 0), tm_h3a x3.2.1]
          exact ⟨0, σ', rfl, tb_O.bad ((((f2.tr f3).tr f4).tr f5).tr (S5.rd Y H x1).2) ((tb_P.mk M M5 (fun _ _ _ => rfl) (fun _ _ _ => rfl)).tr (tb_P.rd Y.1 ha x2)) rfl x3 _⟩
      · have hz30 : z3.toInt = 0 := by
          rcases hz3 with h | h
          · exact h
          · exact absurd h q5
        rw [if_pos hz30, q_letE, q_letE, q_letE, tm_count2 q6.2.1, q_biP, tm_h3a q6.2.1]
        exact ⟨0, σe, rfl, tb_O.bad (((f2.tr f3).tr f4).tr f5) (tb_P.mk M M5 (fun _ _ _ => rfl) (fun _ _ _ => rfl)) rfl q6 _⟩
    · have qz : z2.toInt = -1 := Classical.not_not.mp q3
      rw [if_pos qz, tm_h2a q4.2.1]
      exact ⟨0, σd, rfl, tb_O.bad ((f2.tr f3).tr f4) (tb_P.mk M M4 (fun _ _ _ => rfl) (fun _ _ _ => rfl)) rfl q4 _⟩
  · have qz : z.toInt = -1 := Classical.not_not.mp q1
    rw [if_pos qz, tm_h1a q2.2.1]
    exact ⟨0, σc, rfl, tb_O.bad (f2.tr f3) (tb_P.mk M M3 (fun _ _ _ => rfl) (fun _ _ _ => rfl)) rfl q2 _⟩
end TI
end
/-! FROM 48q.rdpart.lean.txt -/
section
/-! A PART READ, ALL PARTS, THE HEAD -/
noncomputable def tm_part (X : XW) (τ : ST) (a : Nat) : ST :=
  if (F_X12_isLaw X τ a).toInt = 0 then if (F_X12_isMost X τ a).toInt = 0 then if (F_X12_isPlayer X τ a).toInt = 0 then if (F_X12_isHand X τ a).toInt = 0 then F_X12_wrong X τ a else F_X12_readHand X τ a else F_X12_readPlayer X τ a else F_X12_readMost X τ a else F_X12_readLaw X τ a
theorem tm_E232 (X : XW) (τ : ST) (a : Nat) : F_X12_table_E232_7 X τ a = F_X12_table_E232_6 X τ a := rfl
section TJ
variable {X : XW} {lb : Nat → Nat} {D T g a : Nat} {σ τ σ' τ' σ1 τ1 : ST} {n : Int} {B : Int → Int} {V : Nat → Int → Int} {r c w t : Int → Int} {f9 f10 : Int}
theorem tm_B145 (Bf : ST → Int32 × ST) : F_X12_table_B145_5 X a Bf τ = if (τ.1 a 12).toInt = 0 then (if (τ.1 a 14).toInt = 0 then F_X12_table_E232_6 X τ a else Bf (F_X12_must X (tm_part X τ a) a (F_X12_isSign X (tm_part X τ a) a 59))) else F_X12_table_E232_6 X τ a := by
  unfold F_X12_table_B145_5
  rw [q_letE]
  by_cases h : (τ.1 a 12).toInt = 0
  · rw [if_pos h, if_pos h, q_letE]
    by_cases h2 : (τ.1 a 14).toInt = 0
    · rw [if_pos h2, if_pos h2, tm_E232]
    · rw [if_neg h2, if_neg h2, q_letE]
      unfold tm_part
      by_cases h3 : (F_X12_isLaw X τ a).toInt = 0
      · rw [if_pos h3, if_pos h3, q_letE]
        by_cases h4 : (F_X12_isMost X τ a).toInt = 0
        · rw [if_pos h4, if_pos h4, q_letE]
          by_cases h5 : (F_X12_isPlayer X τ a).toInt = 0
          · rw [if_pos h5, if_pos h5, q_letE]
            by_cases h6 : (F_X12_isHand X τ a).toInt = 0
            · rw [if_pos h6, if_pos h6, q_letE, q_letE, q_letE]
            · rw [if_neg h6, if_neg h6, q_letE, q_letE, q_letE]
          · rw [if_neg h5, if_neg h5, q_letE, q_letE, q_letE]
        · rw [if_neg h4, if_neg h4, q_letE, q_letE, q_letE]
      · rw [if_neg h3, if_neg h3, q_letE, q_letE, q_letE]
  · rw [if_neg h, if_neg h]
theorem tb_readPart (Y : y_S X lb) (H : tb_D X lb D T g) (ha : q_kd X a = 12) (I : tb_I X D T g a n B σ τ V r c w t f9 f10) :
    ∃ (z : Int32) (σ' : ST), F_X9_readPart X σ D = (z, σ') ∧ tb_O X lb D T g a n B σ τ σ' (F_X12_must X (tm_part X τ a) a (F_X12_isSign X (tm_part X τ a) a 59)) z := by
  obtain ⟨S, M, K, h0, Rr⟩ := id I
  have iw : ∀ rr : Nat, y_isw rr → (F_X3_isWord X σ D rr).toInt = if (τ.1 a 14).toInt = 1 ∧ (τ.2.1 a 19).toInt = y_cw rr then 1 else 0 := fun rr hr => tl_isWord S.1 K hr
  have cL : (F_X12_isLaw X τ a).toInt = if (τ.1 a 14).toInt = 1 ∧ (τ.2.1 a 19).toInt = y_cw 2 then 1 else 0 := tm_isLaw
  have cM : (F_X12_isMost X τ a).toInt = if (τ.1 a 14).toInt = 1 ∧ (τ.2.1 a 19).toInt = y_cw 6 then 1 else 0 := tm_isMost
  have cP : (F_X12_isPlayer X τ a).toInt = if (τ.1 a 14).toInt = 1 ∧ (τ.2.1 a 19).toInt = y_cw 7 then 1 else 0 := tm_isPlayer
  have cH : (F_X12_isHand X τ a).toInt = if (τ.1 a 14).toInt = 1 ∧ (τ.2.1 a 19).toInt = y_cw 11 then 1 else 0 := tm_isHand
  have z0 : (0 : Int) = 0 := rfl
  have z1 : ¬ (1 : Int) = 0 := by decide
  unfold F_X9_readPart tm_part
  rw [q_letE, iw 2 ⟨by decide, by decide⟩, cL]
  by_cases w2 : (τ.1 a 14).toInt = 1 ∧ (τ.2.1 a 19).toInt = y_cw 2
  · rw [if_pos w2, if_neg z1, if_neg z1]
    obtain ⟨z, σ', e, o⟩ := tb_readLaw Y H ha I w2.1
    rw [e, q_biP]
    exact ⟨z, σ', rfl, o⟩
  · rw [if_neg w2, if_pos z0, if_pos z0, q_letE, iw 6 ⟨by decide, by decide⟩, cM]
    by_cases w6 : (τ.1 a 14).toInt = 1 ∧ (τ.2.1 a 19).toInt = y_cw 6
    · rw [if_pos w6, if_neg z1, if_neg z1]
      obtain ⟨z, σ', e, o⟩ := tb_readMost Y H ha I w6.1
      rw [e, q_biP]
      exact ⟨z, σ', rfl, o⟩
    · rw [if_neg w6, if_pos z0, if_pos z0, q_letE, iw 7 ⟨by decide, by decide⟩, cP]
      by_cases w7 : (τ.1 a 14).toInt = 1 ∧ (τ.2.1 a 19).toInt = y_cw 7
      · rw [if_pos w7, if_neg z1, if_neg z1]
        obtain ⟨z, σ', e, o⟩ := tb_readPlayer Y H ha I w7.1
        rw [e, q_biP]
        exact ⟨z, σ', rfl, o⟩
      · rw [if_neg w7, if_pos z0, if_pos z0, q_letE, iw 11 ⟨by decide, by decide⟩, cH]
        by_cases w11 : (τ.1 a 14).toInt = 1 ∧ (τ.2.1 a 19).toInt = y_cw 11
        · rw [if_pos w11, if_neg z1, if_neg z1]
          obtain ⟨z, σ', e, o⟩ := tb_readHand Y H ha I w11.1
          rw [e, q_biP]
          exact ⟨z, σ', rfl, o⟩
        · rw [if_neg w11, if_pos z0, if_pos z0]
          obtain ⟨σ', a1, a2, a3, a4⟩ := tl_wrong (X := X) K h0
          rw [a1, q_biP]
          exact ⟨0, σ', rfl, tb_O.bad (S.rd Y H a2).2 (tb_P.rd Y.1 ha a3) rfl a4 _⟩
/-- what comes of all parts -/
def tb_U (X : XW) (lb : Nat → Nat) (D T g a : Nat) (n : Int) (B : Int → Int) (σ τ σ' τ' : ST) (z : Int32) : Prop :=
  tb_F X lb D σ σ' ∧ tb_P X a τ τ' ∧ ((z.toInt = 1 ∧ ∃ (V : Nat → Int → Int) (r c w t : Int → Int) (f9 f10 : Int), tb_I X D T g a n B σ' τ' V r c w t f9 f10) ∨ (z.toInt = 0 ∧ tl_F σ' D τ' a))
theorem tb_takesL (Y : y_S X lb) (H : tb_D X lb D T g) (ha : q_kd X a = 12) (k : Nat) : ∀ (m : Nat) (x : Int32) (σ τ : ST) (V : Nat → Int → Int) (r c w t : Int → Int) (f9 f10 : Int), (2147483647 - x.toInt).toNat < k → (902 - (τ.1 a 15).toInt).toNat ≤ m → 0 ≤ x.toInt → x.toInt ≤ (τ.1 a 15).toInt → tb_I X D T g a n B σ τ V r c w t f9 f10 →
    ∃ (z : Int32) (σ' τ' : ST), F_X9_takes_L41_1 X D k x σ = (z, σ') ∧ F_X12_table_L145_5 X a m τ = F_X12_table_E232_6 X τ' a ∧ tb_U X lb D T g a n B σ τ σ' τ' z := by
  induction k with
  | zero => intro m x σ τ V r c w t f9 f10 hm; exact absurd hm (Nat.not_lt_zero _)
  | succ k ih =>
    intro m x σ τ V r c w t f9 f10 hk hm x0 xb I
    obtain ⟨S, M, K, h0, Rr⟩ := id I
    have n9 : n ≤ 900 := S.1.2.2.1.2
    have kb := K.b
    have k8 := K.2.2.2.2.2.2.2
    obtain ⟨m', hm'⟩ : ∃ m', m = m' + 1 + 1 := ⟨m - 2, by omega⟩
    subst hm'
    rw [F_X9_takes_L41_1_s, F_X12_table_L145_5_s, tm_B145, h0, if_pos (Eq.refl (0 : Int))]
    unfold F_X9_takes_B41_1
    by_cases hx : x.toInt < 900
    · rw [if_pos hx, q_letE, K.2.2.1]
      by_cases hty : (τ.1 a 14).toInt = 0
      · rw [if_pos hty, if_pos hty]
        exact ⟨1, σ, τ, rfl, rfl, tb_F.rf, tb_P.rf, Or.inl ⟨rfl, V, r, c, w, t, f9, f10, I⟩⟩
      · rw [if_neg hty, if_neg hty]
        obtain ⟨z, σ1, e, o1, o2, o3⟩ := tb_readPart Y H ha I
        rw [e, q_biP]
        obtain ⟨τ1, hτ1⟩ : ∃ s, s = F_X12_must X (tm_part X τ a) a (F_X12_isSign X (tm_part X τ a) a 59) := ⟨_, rfl⟩
        rw [← hτ1] at o2 o3 ⊢
        rcases o3 with ⟨q1, V', r', c', w', t', f9', f10', I', lt⟩ | ⟨q1, q2⟩
        · rw [if_neg (by omega : ¬ z.toInt = 0), q_letE]
          have e1 : (x + 1).toInt = x.toInt + 1 := y_inc (by omega)
          obtain ⟨z', σ2, τ2, a1, a2, a3, a4, a5⟩ := ih (m' + 1) (x + 1) σ1 τ1 V' r' c' w' t' f9' f10' (by omega) (by omega) (by omega) (by omega) I'
          exact ⟨z', σ2, τ2, a1, a2, o1.tr a3, o2.tr a4, a5⟩
        · have q3 := q2.2.1
          rw [if_pos q1, F_X12_table_L145_5_s, tm_B145, if_neg (by omega : ¬ (τ1.1 a 12).toInt = 0)]
          exact ⟨0, σ1, τ1, rfl, rfl, o1, o2, Or.inr ⟨rfl, q2⟩⟩
    · have hty : (τ.1 a 14).toInt = 0 := by omega
      rw [if_neg hx, if_pos hty]
      exact ⟨1, σ, τ, rfl, rfl, tb_F.rf, tb_P.rf, Or.inl ⟨rfl, V, r, c, w, t, f9, f10, I⟩⟩
/-- before the head -/
def tb_R0 (V : Nat → Int → Int) (r c t : Int → Int) : Prop :=
  (V 1 2 = 0 ∧ V 1 3 = 4 ∧ V 1 4 = 0) ∧ (∀ k : Int, 0 ≤ k → k < 10 → V 4 k = 0) ∧ (∀ j : Int, 0 ≤ j → j < 60 → V 7 j = 0) ∧ (∀ p : Int, 0 ≤ p → p < 6 → V 9 p = 0 ∧ V 10 p = 0 ∧ V 11 p = 0) ∧ tb_Z V ∧
  (∀ p : Int, 0 ≤ p → p < 6 → r p = 0) ∧ (∀ j : Int, 3720 ≤ j → j < 4650 → c j = if j = 3724 then 4 else 0) ∧ ∀ j : Int, 0 ≤ j → j < 60 → t j = 0
theorem m_S_0 {b : Int} : ∀ N : Nat, (∀ j : Int, b ≤ j → j < b + (N : Int) → c j = 0) → m_S c b N = 0 := by
  intro N
  induction N with
  | zero => intro _; rfl
  | succ N ih =>
    intro h
    show m_S c b N + c (b + (N : Int)) = 0
    rw [ih (fun j a1 a2 => h j a1 (by omega)), h (b + (N : Int)) (by omega) (by omega)]
    rfl
theorem tb_R0.head {kk ee : Int} (h : tb_R0 V r c t) (hk : 2 ≤ kk ∧ kk ≤ 10) (he : 1 ≤ ee ∧ ee ≤ 8) : tb_R (y_up (y_up V 1 0 kk) 1 1 ee) r (m_up (m_up c 3720 kk) 3721 ee) w t := by
  obtain ⟨⟨h2, h3, h4⟩, hk4, h7, h9, hz, hr, hc, ht⟩ := h
  have rc : ∀ j : Int, 3722 ≤ j → j < 4650 → m_up (m_up c 3720 kk) 3721 ee j = if j = 3724 then 4 else 0 := fun j a1 a2 => by rw [m_up_ne (by omega), m_up_ne (by omega)]; exact hc j (by omega) a2
  have rz : ∀ j : Int, 3725 ≤ j → j < 4650 → m_up (m_up c 3720 kk) 3721 ee j = 0 := fun j a1 a2 => by rw [rc j (by omega) a2, if_neg (by omega)]
  have c20 : m_up (m_up c 3720 kk) 3721 ee 3720 = kk := by rw [m_up_ne (by decide), m_up_eq]
  have c21 : m_up (m_up c 3720 kk) 3721 ee 3721 = ee := m_up_eq _ _ _
  have c22 : m_up (m_up c 3720 kk) 3721 ee 3722 = 0 := by rw [rc _ (by decide) (by decide)]; rfl
  have c23 : m_up (m_up c 3720 kk) 3721 ee 3723 = 0 := by rw [rc _ (by decide) (by decide)]; rfl
  have c24 : m_up (m_up c 3720 kk) 3721 ee 3724 = 4 := by rw [rc _ (by decide) (by decide)]; rfl
  have sm : ∀ k : Int, 0 ≤ k → k < 10 → m_sum (m_up (m_up c 3720 kk) 3721 ee) 3720 k = 0 := fun k a1 a2 => by
    rw [m_sum_e, rz _ (by omega) (by omega), rz _ (by omega) (by omega), rz _ (by omega) (by omega), rz _ (by omega) (by omega), rz _ (by omega) (by omega), rz _ (by omega) (by omega)]
    rfl
  have rd : ∀ (id : Nat) (i : Int), id ≠ 1 ∨ 2 ≤ i → y_up (y_up V 1 0 kk) 1 1 ee id i = V id i := fun id i h => by
    rw [y_up_ne (by omega), y_up_ne (by omega)]
  have v0 : y_up (y_up V 1 0 kk) 1 1 ee 1 0 = kk := by rw [y_up_ne (Or.inr (by decide)), y_up_eq]
  have v1 : y_up (y_up V 1 0 kk) 1 1 ee 1 1 = ee := y_up_eq _ _ _ _
  have ten : ((10 : Nat) : Int) = 10 := rfl
  refine ⟨⟨⟨?_, ?_, ?_, ?_, ?_⟩, ?_, ?_, ?_, ?_⟩, ?_, ?_, ⟨?_, ?_, ?_⟩, ⟨?_, ?_, ?_, ?_, ?_, ?_, ?_, ?_, ?_, ?_, ?_⟩, ?_, ?_, ?_⟩
  · rw [v0, c20]
  · rw [v1, c21]
  · rw [rd 1 2 (Or.inr (by decide)), c23, h2]
  · rw [rd 1 3 (Or.inr (by decide)), c24, h3]
  · rw [rd 1 4 (Or.inr (by decide)), c22, h4]
  · intro k a1 a2
    rw [rd 4 k (Or.inl (by decide)), sm k a1 a2, hk4 k a1 a2]
  · intro j a1 a2
    rw [rd 7 j (Or.inl (by decide)), rz _ (by omega) (by omega), h7 j a1 a2]
  · intro p a1 a2
    rw [rd 9 p (Or.inl (by decide)), (h9 p a1 a2).1, m_S_0 10 (fun j b1 b2 => rz j (by omega) (by rw [ten] at b2; omega))]
  · intro p a1 a2
    rw [rd 10 p (Or.inl (by decide)), rd 11 p (Or.inl (by decide)), rz _ (by omega) (by omega), rz _ (by omega) (by omega)]
    exact (h9 p a1 a2).2
  · exact (hz.up (by omega)).up (by omega)
  · rw [c22]
    intro p p0 p1
    omega
  · intro j a1 a2
    exact ⟨Or.inl (ht j a1 a2), fun _ => rz _ (by omega) (by omega)⟩
  · intro p a1 a2
    rw [hr p a1 a2]
    unfold tb_bits
    rw [ht _ (by omega) (by omega), ht _ (by omega) (by omega), ht _ (by omega) (by omega), ht _ (by omega) (by omega), ht _ (by omega) (by omega), ht _ (by omega) (by omega), ht _ (by omega) (by omega), ht _ (by omega) (by omega), ht _ (by omega) (by omega), ht _ (by omega) (by omega)]
    rfl
  · intro j a1 a2 _
    exact ht j a1 a2
  · rw [c20]; omega
  · rw [c21]; omega
  · rw [c22]; decide
  · rw [c23]; decide
  · rw [c24]; decide
  · intro j a1 a2; exact rz j a1 (by omega)
  · intro j a1 a2; exact rz j (by omega) (by omega)
  · intro j a1 a2; rw [rz j (by omega) (by omega)]; decide
  · intro k a1 a2; rw [sm k a1 a2]; decide
  · intro j a1 a2; exact rz j (by omega) a2
  · intro p k a0 a1 a2 a3 _; exact rz _ (by omega) (by omega)
  · rw [c20]; omega
  · rw [c21]; omega
  · rw [c24]; decide
/-! the reference's head, stretch by stretch -/
noncomputable def tm_hd3 (X : XW) (a : Nat) (Kc : ST → Int32 × ST) (r_33 : Int32) (σ_34 : ST) : Int32 × ST :=
  q_let (q_si σ_34 (q_rf X a 20) (3721 : Int32).toNatClampNeg r_33 : ST) (fun σ_35 => q_let (F_X12_isSign X σ_35 a (59 : Int32) : Int32) (fun r_37 => q_let (F_X12_must X σ_35 a r_37 : ST) (fun σ_40 => Kc σ_40)))
noncomputable def tm_hd2 (X : XW) (a : Nat) (Kc : ST → Int32 × ST) (r_24 : Int32) (σ_25 : ST) : Int32 × ST :=
  q_let (q_si σ_25 (q_rf X a 20) (3720 : Int32).toNatClampNeg r_24 : ST) (fun σ_26 => q_let (F_X12_isEach X σ_26 a : Int32) (fun r_27 => q_let (F_X12_must X σ_26 a r_27 : ST) (fun σ_30 => q_bi (F_X12_count X σ_30 a (1 : Int32) (8 : Int32)) (fun r_33 σ_34 => tm_hd3 X a Kc r_33 σ_34))))
noncomputable def tm_hd1 (X : XW) (a : Nat) (Kc : ST → Int32 × ST) (σ_17 : ST) : Int32 × ST :=
  q_let (F_X12_isKinds X σ_17 a : Int32) (fun r_18 => q_let (F_X12_must X σ_17 a r_18 : ST) (fun σ_21 => q_bi (F_X12_count X σ_21 a (2 : Int32) (10 : Int32)) (fun r_24 σ_25 => tm_hd2 X a Kc r_24 σ_25)))
noncomputable def tm_Kc (X : XW) (a : Nat) (s : ST) : Int32 × ST := F_X12_table_L145_5 X a ((901 - (s.1 a 15).toInt).toNat + (1 - (s.1 a 12).toInt).toNat + 1) s
theorem tm_E70 (X : XW) (τ : ST) (a : Nat) : F_X12_table_E70_7 X τ a = q_let (q_si τ a 25 (0 : Int32) : ST) (fun σ_15 => q_let (q_si σ_15 a 26 (0 : Int32) : ST) (fun σ_16 => q_let (q_si σ_16 (q_rf X a 20) (3724 : Int32).toNatClampNeg (4 : Int32) : ST) (fun σ_17 => tm_hd1 X a (tm_Kc X a) σ_17))) := rfl
theorem tl_F.same {R : Nat} (h : tl_F σ R τ a) (k : tl_same a τ τ') : tl_F σ R τ' a := by
  unfold tl_F at h ⊢
  rw [k.1 12 (by decide) (by decide), k.1 13 (by decide) (by decide)]
  exact h
theorem tl_same.tr {τ2 : ST} (h : tl_same a τ τ') (k : tl_same a τ' τ2) : tl_same a τ τ2 := ⟨fun f f1 f2 => (k.1 f f1 f2).trans (h.1 f f1 f2), k.2.trans h.2⟩
theorem tm_hd3a (Y : y_S X lb) (ha : q_kd X a = 12) (M : tb_M X a τ n B c w t f9 f10) (h : 0 < (τ.1 a 12).toInt) (Kc : ST → Int32 × ST) (v : Int32) : ∃ (τ' : ST) (c' : Int → Int), tm_hd3 X a Kc v τ = Kc τ' ∧ tb_M X a τ' n B c' w t f9 f10 ∧ (∀ j : Int, 0 ≤ j → j < 3720 → c' j = c j) ∧ tl_same a τ τ' := by
  obtain ⟨M1, s1⟩ := M.cw Y.1 ha (i := 3721) (v := v) (A := 3721) rfl (by decide)
  have h1 : 0 < ((q_si τ (q_rf X a 20) (3721 : Int32).toNatClampNeg v).1 a 12).toInt := by rw [s1.1 12 (by decide) (by decide)]; exact h
  refine ⟨_, _, ?_, M1, fun j a1 a2 => m_up_ne (by omega), s1⟩
  unfold tm_hd3
  rw [q_letE, q_letE, tm_must2 h1, q_letE]
theorem tm_hd2a (Y : y_S X lb) (ha : q_kd X a = 12) (M : tb_M X a τ n B c w t f9 f10) (h : 0 < (τ.1 a 12).toInt) (Kc : ST → Int32 × ST) (v : Int32) : ∃ (τ' : ST) (c' : Int → Int), tm_hd2 X a Kc v τ = Kc τ' ∧ tb_M X a τ' n B c' w t f9 f10 ∧ (∀ j : Int, 0 ≤ j → j < 3720 → c' j = c j) ∧ tl_same a τ τ' := by
  obtain ⟨M1, s1⟩ := M.cw Y.1 ha (i := 3720) (v := v) (A := 3720) rfl (by decide)
  have h1 : 0 < ((q_si τ (q_rf X a 20) (3720 : Int32).toNatClampNeg v).1 a 12).toInt := by rw [s1.1 12 (by decide) (by decide)]; exact h
  obtain ⟨τ', c', e, M2, hc, s2⟩ := tm_hd3a Y ha M1 h1 Kc 0
  refine ⟨τ', c', ?_, M2, fun j a1 a2 => (hc j a1 a2).trans (m_up_ne (by omega)), s1.tr s2⟩
  unfold tm_hd2
  rw [q_letE, q_letE, tm_must2 h1, q_letE, tm_count2 h1, q_biP]
  exact e
theorem tb_head (Y : y_S X lb) (H : tb_D X lb D T g) (ha : q_kd X a = 12) (S : tb_S X D T g σ n B V r f9 f10) (M : tb_M X a τ n B c w t f9 f10) (K : tl_K σ D τ a B n) (h0 : (τ.1 a 12).toInt = 0) (R0 : tb_R0 V r c t) (Kc : ST → Int32 × ST) :
    ∃ (z : Int32) (σ' τ' : ST), F_X9_readHead X σ D = (z, σ') ∧ tm_hd1 X a Kc τ = Kc τ' ∧ tb_U X lb D T g a n B σ τ σ' τ' z := by
  have hDn : lb D / 8192 ≠ 6 := by have := H.2.2.2.1; omega
  unfold F_X9_readHead tm_hd1
  rw [q_letE (F_X12_isKinds X τ a), ← H.2.1]
  obtain ⟨z1, σ1, e1, hz1, ⟨o1, o2, o3⟩⟩ := tl_passWord S.1 M.1 K h0 (r := 0) ⟨by decide, by decide⟩ (v := F_X12_isKinds X τ a) tm_isKinds
  obtain ⟨S1, f1⟩ := S.rd Y H o1
  have M1 := M.rd Y.1 ha o2
  rw [e1, q_biP, q_letE (F_X12_must X τ a (F_X12_isKinds X τ a))]
  obtain ⟨τ1, hτ1⟩ : ∃ s, s = F_X12_must X τ a (F_X12_isKinds X τ a) := ⟨_, rfl⟩
  rw [← hτ1] at M1 o3 ⊢
  rcases o3 with ⟨q1, K1, h01, g1⟩ | ⟨q1, q2⟩
  · rw [if_neg (by omega : ¬ z1.toInt = 0)]
    obtain ⟨z2, w2, σ2, τ2, e3, e4, ⟨o4, o5, o6⟩, v3, v4⟩ := tl_passNum S1.1 M1.1 K1 h01 2 10 (by decide)
    obtain ⟨S2, f2⟩ := S1.rd Y H o4
    have M2 := M1.rd Y.1 ha o5
    rw [e3, q_biP z2 σ2, e4, q_biP w2 τ2]
    rcases o6 with ⟨q3, K2, h02, g2⟩ | ⟨q3, q4⟩
    · obtain ⟨ev2, z22, z210⟩ := v3 q3
      rw [if_neg q3]
      unfold tm_hd2
      obtain ⟨M3, s3⟩ := M2.cw Y.1 ha (i := 3720) (v := w2) (A := 3720) rfl (by decide)
      rw [q_letE (q_si τ2 (q_rf X a 20) (3720 : Int32).toNatClampNeg w2)]
      obtain ⟨τ3, hτ3⟩ : ∃ s, s = q_si τ2 (q_rf X a 20) (3720 : Int32).toNatClampNeg w2 := ⟨_, rfl⟩
      rw [← hτ3] at M3 s3 ⊢
      have K3 := K2.same (tl_sameC.rf (σ := σ2)) s3
      have h03 : (τ3.1 a 12).toInt = 0 := by rw [s3.1 12 (by decide) (by decide)]; exact h02
      rw [q_letE (F_X12_isEach X τ3 a)]
      obtain ⟨z4, σ4, e5, hz4, ⟨o7, o8, o9⟩⟩ := tl_passWord S2.1 M3.1 K3 h03 (r := 1) ⟨by decide, by decide⟩ (v := F_X12_isEach X τ3 a) tm_isEach
      obtain ⟨S4, f4⟩ := S2.rd Y H o7
      have M4 := M3.rd Y.1 ha o8
      rw [e5, q_biP z4 σ4, q_letE (F_X12_must X τ3 a (F_X12_isEach X τ3 a))]
      obtain ⟨τ4, hτ4⟩ : ∃ s, s = F_X12_must X τ3 a (F_X12_isEach X τ3 a) := ⟨_, rfl⟩
      rw [← hτ4] at M4 o9 ⊢
      rcases o9 with ⟨q5, K4, h04, g4⟩ | ⟨q5, q6⟩
      · rw [if_neg (by omega : ¬ z4.toInt = 0)]
        obtain ⟨z5, w5, σ5, τ5, e7, e8, ⟨o10, o11, o12⟩, v5, v6⟩ := tl_passNum S4.1 M4.1 K4 h04 1 8 (by decide)
        obtain ⟨S5, f5⟩ := S4.rd Y H o10
        have M5 := M4.rd Y.1 ha o11
        rw [e7, q_biP z5 σ5, e8, q_biP w5 τ5]
        rcases o12 with ⟨q7, K5, h05, g5⟩ | ⟨q7, q8⟩
        · obtain ⟨ev5, z51, z58⟩ := v5 q7
          rw [if_neg q7]
          unfold tm_hd3
          obtain ⟨M6, s6⟩ := M5.cw Y.1 ha (i := 3721) (v := w5) (A := 3721) rfl (by decide)
          rw [q_letE (q_si τ5 (q_rf X a 20) (3721 : Int32).toNatClampNeg w5)]
          obtain ⟨τ6, hτ6⟩ : ∃ s, s = q_si τ5 (q_rf X a 20) (3721 : Int32).toNatClampNeg w5 := ⟨_, rfl⟩
          rw [← hτ6] at M6 s6 ⊢
          have K6 := K5.same (tl_sameC.rf (σ := σ5)) s6
          have h06 : (τ6.1 a 12).toInt = 0 := by rw [s6.1 12 (by decide) (by decide)]; exact h05
          have W := (((y_W.rf (lb := lb) (g := g) (o := 6) (σ := σ5)).eq S5.2.1).si Y H.2.2.1 (id := 1) (by decide) 0 z2).si Y H.2.2.1 (id := 1) (by decide) 1 z5
          obtain ⟨S7, f7⟩ := S5.gm Y H W
          have K7 := K6.same (tl_sameC.W W hDn) (tl_same.rf (τ := τ6))
          have R7 : tb_R (y_up (y_up V 1 ((0 : Nat) : Int) z2.toInt) 1 ((1 : Nat) : Int) z5.toInt) r (m_up (m_up c 3720 w2.toInt) 3721 w5.toInt) w t := by
            rw [ev2, ev5]
            exact R0.head ⟨z22, z210⟩ ⟨z51, z58⟩
          have eg : y_gA X g 1 = q_rf X g 0 := rfl
          rw [eg] at S7 f7 K7
          rw [q_letE (q_si σ5 (q_rf X g 0) 0 z2), q_letE (q_si (q_si σ5 (q_rf X g 0) 0 z2) (q_rf X g 0) 1 z5), q_letE (F_X12_isSign X τ6 a 59)]
          obtain ⟨z8, σ8, e9, hz8, ⟨p1, p2, p3⟩⟩ := tl_passSemi S7.1 M6.1 K7 h06
          obtain ⟨S8, f8⟩ := S7.rd Y H p1
          have M8 := M6.rd Y.1 ha p2
          rw [e9, q_biP z8 σ8, q_letE]
          have pP : tb_P X a τ (F_X12_must X τ6 a (F_X12_isSign X τ6 a 59)) := tb_P.mk M M8 (fun j a1 a2 => by rw [m_up_ne (by omega), m_up_ne (by omega)]) (fun _ _ _ => rfl)
          refine ⟨z8, σ8, _, rfl, rfl, ((((f1.tr f2).tr f4).tr f5).tr f7).tr f8, pP, ?_⟩
          rcases p3 with ⟨y1, y2, y3, y4⟩ | ⟨y1, y2⟩
          · exact Or.inl ⟨y1, _, _, _, _, _, _, _, S8, M8, y2, y3, R7⟩
          · refine Or.inr ⟨?_, y2⟩
            rcases hz8 with h | h
            · exact h
            · exact absurd h y1
        · have qz : z5.toInt = -1 := Classical.not_not.mp q7
          obtain ⟨τ', c', e, M', hc', s'⟩ := tm_hd3a Y ha M5 q8.2.1 Kc w5
          rw [if_pos qz, e]
          exact ⟨0, σ5, τ', rfl, rfl, ((f1.tr f2).tr f4).tr f5, tb_P.mk M M' (fun j a1 a2 => (hc' j a1 a2).trans (m_up_ne (by omega))) (fun _ _ _ => rfl), Or.inr ⟨rfl, q8.same s'⟩⟩
      · have hz0 : z4.toInt = 0 := by
          rcases hz4 with h | h
          · exact h
          · exact absurd h q5
        obtain ⟨τ', c', e, M', hc', s'⟩ := tm_hd3a Y ha M4 q6.2.1 Kc 0
        rw [if_pos hz0, tm_count2 q6.2.1, q_biP, e]
        exact ⟨0, σ4, τ', rfl, rfl, (f1.tr f2).tr f4, tb_P.mk M M' (fun j a1 a2 => (hc' j a1 a2).trans (m_up_ne (by omega))) (fun _ _ _ => rfl), Or.inr ⟨rfl, q6.same s'⟩⟩
    · have qz : z2.toInt = -1 := Classical.not_not.mp q3
      obtain ⟨τ', c', e, M', hc', s'⟩ := tm_hd2a Y ha M2 q4.2.1 Kc w2
      rw [if_pos qz, e]
      exact ⟨0, σ2, τ', rfl, rfl, f1.tr f2, tb_P.mk M M' hc' (fun _ _ _ => rfl), Or.inr ⟨rfl, q4.same s'⟩⟩
  · have hz0 : z1.toInt = 0 := by
      rcases hz1 with h | h
      · exact h
      · exact absurd h q1
    obtain ⟨τ', c', e, M', hc', s'⟩ := tm_hd2a Y ha M1 q2.2.1 Kc 0
    rw [if_pos hz0, tm_count2 q2.2.1, q_biP, e]
    exact ⟨0, σ1, τ', rfl, rfl, f1, tb_P.mk M M' hc' (fun _ _ _ => rfl), Or.inr ⟨rfl, q2.same s'⟩⟩
end TJ
end
