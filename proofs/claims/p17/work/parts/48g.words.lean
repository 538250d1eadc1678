/-! WORDS -/
/-- the letters of the String constant r -/
def y_ch (r : Nat) (i : Int) : Int := ((q_sbyt.getD r []).getD i.toNat 0).toInt
/-- the number of the String constant r -/
def y_cw (r : Nat) : Int := match r with | 0 => 11843731 | 1 => 164968 | 2 => 12343 | 3 => 688 | 4 => 147182 | 5 => 624037 | 6 => 441972 | 7 => 549512370 | 9 => 402611 | 10 => 150637203 | 11 => 263620 | 12 => 486 | 13 => 5572 | 14 => 677454 | 15 => 643568 | 16 => 409072 | 17 => 762030 | 18 => 3197075 | 19 => 267312 | 20 => 20201198 | 21 => 24046 | _ => -2
theorem tj_asc : ∀ l ∈ q_sbyt, ∀ c ∈ l, 32 ≤ c.toInt ∧ c.toInt ≤ 122 := by decide +kernel
theorem tj_ch_b (r : Nat) (i : Int) : 0 ≤ y_ch r i ∧ y_ch r i ≤ 122 := by
  unfold y_ch
  by_cases h : r < q_sbyt.length
  · have e : q_sbyt.getD r [] = q_sbyt[r] := by simp [List.getD, h]
    rw [e]
    by_cases h2 : i.toNat < (q_sbyt[r]).length
    · have e2 : (q_sbyt[r]).getD i.toNat 0 = (q_sbyt[r])[i.toNat] := by simp [List.getD, h2]
      rw [e2]
      have := tj_asc _ (List.getElem_mem h) _ (List.getElem_mem h2)
      omega
    · have e2 : (q_sbyt[r]).getD i.toNat 0 = 0 := by simp [List.getD, List.getElem?_eq_none (Nat.le_of_not_lt h2)]
      rw [e2]
      decide
  · have e : q_sbyt.getD r [] = [] := by simp [List.getD, List.getElem?_eq_none (Nat.le_of_not_lt h)]
    rw [e]
    show 0 ≤ (0 : Int32).toInt ∧ (0 : Int32).toInt ≤ 122
    decide
theorem tj_len {X : XW} {σ : ST} (r : Nat) : (F_J0_length_8abf5 X σ r).toInt = ((q_slen.getD r 0 : Nat) : Int) := by
  simp only [F_J0_length_8abf5, F_J0_coder_7d493, ↓q_letE]
  rw [if_neg (by decide)]
  have e : (Int32.ofNat (q_slen.getD r 0)) >>> ((0 : Int32) &&& 31) = Int32.ofNat (q_slen.getD r 0) := sb_shr0 _
  rw [e]
  exact nI_toInt (q_slen_lt r)
theorem tj_chr {X : XW} {σ : ST} (r : Nat) {v : Int32} {i : Int} (hv : v.toInt = i) : (F_J0_charAt_5068e X σ r v).toInt = y_ch r i := by
  subst hv
  have hb := tj_ch_b r v.toInt
  have il : (F_J0_isLatin1_aae02 X σ r).toInt = 1 := by
    simp only [F_J0_isLatin1_aae02]
    rw [if_neg (by decide), if_pos (by decide)]
    rfl
  simp only [F_J0_charAt_5068e, F_J1_charAt_3b067, ↓q_letE]
  rw [il, if_neg (by decide), ar_cl]
  have e0 : ((q_sbyt.getD r []).getD v.toInt.toNat 0).toInt = y_ch r v.toInt := rfl
  have e1 : ((q_sbyt.getD r []).getD v.toInt.toNat 0 &&& 255).toInt = y_ch r v.toInt := by
    rw [Jvm.Kit.i32_mask (k := 8) _ 255 (by decide) (by decide), e0]
    have p : (2 : Int) ^ 8 = 256 := by decide
    rw [p]
    omega
  rw [lg_i2c_word (by rw [e1]; omega) (by rw [e1]; omega)]
  exact e1
theorem tx_wv_inj {B B' : Int → Int} {b b' : Int} {k : Nat} : ∀ {k' : Nat}, (∀ j : Int, b ≤ j → j < b + (k : Int) → tx_le (B j)) → (∀ j : Int, b' ≤ j → j < b' + (k' : Int) → tx_le (B' j)) → tx_wv B b k = tx_wv B' b' k' → k = k' ∧ ∀ i : Nat, i < k → B (b + (i : Int)) = B' (b' + (i : Int)) := by
  induction k with
  | zero =>
    intro k' h h' e
    cases k' with
    | zero => exact ⟨rfl, fun i hi => absurd hi (Nat.not_lt_zero _)⟩
    | succ m =>
      have a1 := (tx_wv_b (B := B') (b := b') (m := m) (fun j a c => h' j a (by omega))).1
      have a2 := h' (b' + (m : Int)) (by omega) (by omega)
      unfold tx_le at a2
      have e2 : (0 : Int) = tx_wv B' b' m * 32 + B' (b' + (m : Int)) - 96 := e
      omega
  | succ k ih =>
    intro k' h h' e
    have c2 := h (b + (k : Int)) (by omega) (by omega)
    unfold tx_le at c2
    have c1 := (tx_wv_b (B := B) (b := b) (m := k) (fun j a c => h j a (by omega))).1
    cases k' with
    | zero =>
      have e2 : tx_wv B b k * 32 + B (b + (k : Int)) - 96 = (0 : Int) := e
      omega
    | succ m =>
      have a1 := (tx_wv_b (B := B') (b := b') (m := m) (fun j a c => h' j a (by omega))).1
      have a2 := h' (b' + (m : Int)) (by omega) (by omega)
      unfold tx_le at a2
      have e2 : tx_wv B b k * 32 + B (b + (k : Int)) - 96 = tx_wv B' b' m * 32 + B' (b' + (m : Int)) - 96 := e
      have e3 : tx_wv B b k = tx_wv B' b' m := by omega
      have e4 : B (b + (k : Int)) = B' (b' + (m : Int)) := by omega
      obtain ⟨i1, i2⟩ := ih (fun j a c => h j a (by omega)) (fun j a c => h' j a (by omega)) e3
      subst i1
      refine ⟨rfl, fun i hi => ?_⟩
      by_cases q : i = k
      · subst q; exact e4
      · exact i2 i (by omega)
theorem tx_wv_ext {B B' : Int → Int} {b b' : Int} {k : Nat} (h : ∀ i : Nat, i < k → B (b + (i : Int)) = B' (b' + (i : Int))) : tx_wv B b k = tx_wv B' b' k := by
  induction k with
  | zero => rfl
  | succ k ih =>
    show tx_wv B b k * 32 + B (b + (k : Int)) - 96 = tx_wv B' b' k * 32 + B' (b' + (k : Int)) - 96
    rw [ih (fun i hi => h i (by omega)), h k (by omega)]
/-- the token from b to e is the word r -/
def y_wd (B : Int → Int) (b e : Int) (r : Nat) : Prop := e - b = ((q_slen.getD r 0 : Nat) : Int) ∧ ∀ i : Nat, i < q_slen.getD r 0 → B (b + (i : Int)) = y_ch r (i : Int)
/-- r is a word of letters, eight at the most, and its number is y_cw r -/
def y_isw (r : Nat) : Prop := r < 22 ∧ r ≠ 8
theorem y_isw_le : ∀ r, y_isw r → q_slen.getD r 0 ≤ 6 ∧ (∀ i, i < q_slen.getD r 0 → 97 ≤ ((q_sbyt.getD r []).getD i 0).toInt ∧ ((q_sbyt.getD r []).getD i 0).toInt ≤ 122) := by
  have h : ∀ r, r < 22 → r ≠ 8 → q_slen.getD r 0 ≤ 6 ∧ (∀ i, i < q_slen.getD r 0 → 97 ≤ ((q_sbyt.getD r []).getD i 0).toInt ∧ ((q_sbyt.getD r []).getD i 0).toInt ≤ 122) := by decide +kernel
  exact fun r hr => h r hr.1 hr.2
theorem y_cw_wv : ∀ r, r < 22 → r ≠ 8 → tx_wv (y_ch r) 0 (q_slen.getD r 0) = y_cw r := by decide +kernel
theorem y_ch_le {r : Nat} (hr : y_isw r) (j : Int) (h0 : 0 ≤ j) (h1 : j < ((q_slen.getD r 0 : Nat) : Int)) : tx_le (y_ch r j) := (y_isw_le r hr).2 j.toNat (by omega)
/-- by its number -/
theorem y_wd_iff {B : Int → Int} {b e : Int} {r : Nat} (hr : y_isw r) (hbe : b ≤ e) (hl : ∀ j, b ≤ j → j < e → tx_le (B j)) {word : Int} (h8 : e - b ≤ 8 → word = tx_wv B b (e - b).toNat) (h9 : 8 < e - b → word = -1) : y_wd B b e r ↔ word = y_cw r := by
  have ln := (y_isw_le r hr).1
  have cw := y_cw_wv r hr.1 hr.2
  constructor
  · rintro ⟨h1, h2⟩
    rw [h8 (by omega), ← cw, h1, Int.toNat_natCast]
    exact tx_wv_ext (fun i hi => by rw [Int.zero_add]; exact h2 i hi)
  · intro h
    by_cases q : e - b ≤ 8
    · rw [h8 q, ← cw] at h
      have z := tx_wv_inj (B := B) (B' := y_ch r) (b := b) (b' := 0) (k := (e - b).toNat) (k' := q_slen.getD r 0) (fun j a c => hl j a (by omega)) (fun j a c => y_ch_le hr j a (by omega)) h
      refine ⟨by omega, fun i hi => ?_⟩
      have := z.2 i (by omega)
      rw [Int.zero_add] at this
      exact this
    · rw [h9 (by omega)] at h
      have p : 0 ≤ y_cw r := by rw [← cw]; exact (tx_wv_b (fun j a c => y_ch_le hr j a (by omega))).1
      omega

section WD
variable {X : XW} {σ τ : ST} {R T a : Nat} {n : Int} {B : Int → Int}
theorem tc_isWordL (E : tc_E X σ R T n B) {b e : Int} (hb : (σ.1 R 2).toInt = b) (h0 : 0 ≤ b) (hen : e ≤ n) {r : Nat} (hr : r < 22) (hlen : e - b = ((q_slen.getD r 0 : Nat) : Int)) (k : Nat) : ∀ x : Int32, (2147483647 - x.toInt).toNat < k → 0 ≤ x.toInt → x.toInt ≤ e - b → ((F_X3_isWord_L23_1 X σ r R k x).toInt = 1 ∨ (F_X3_isWord_L23_1 X σ r R k x).toInt = 0) ∧ ((F_X3_isWord_L23_1 X σ r R k x).toInt = 1 ↔ ∀ i : Nat, x.toInt ≤ (i : Int) → i < q_slen.getD r 0 → B (b + (i : Int)) = y_ch r (i : Int)) := by
  have E3 := E.2.2.1
  induction k with
  | zero => intro x hm; exact absurd hm (Nat.not_lt_zero _)
  | succ k ih =>
    intro x hm x0 x1
    rw [F_X3_isWord_L23_1_s]
    simp only [F_X3_isWord_B23_1, ↓q_letE]
    rw [tj_len, tj_chr r (v := x) rfl]
    by_cases q : x.toInt < ((q_slen.getD r 0 : Nat) : Int)
    · rw [if_pos q, tc_sig E hb ⟨h0, by omega⟩ (v := x) rfl ⟨x0, by omega⟩, tx_D_in (by omega) (by omega)]
      have ex : ((x.toInt.toNat : Nat) : Int) = x.toInt := by omega
      by_cases q1 : y_ch r x.toInt = B (b + x.toInt)
      · rw [if_pos q1]
        have e1 : (x + 1).toInt = x.toInt + 1 := y_inc (by omega)
        obtain ⟨i1, i2⟩ := ih (x + 1) (by omega) (by omega) (by omega)
        refine ⟨i1, ?_⟩
        rw [i2, e1]
        constructor
        · intro h i a c
          by_cases hi : (i : Int) = x.toInt
          · rw [hi]; exact q1.symm
          · exact h i (by omega) c
        · intro h i a c
          exact h i (by omega) c
      · rw [if_neg q1]
        refine ⟨Or.inr rfl, ⟨fun h => absurd h (by decide), fun h => absurd ?_ q1⟩⟩
        have := h x.toInt.toNat (by omega) (by omega)
        rw [ex] at this
        exact this.symm
    · rw [if_neg q]
      exact ⟨Or.inl rfl, ⟨fun _ i a c => by omega, fun _ => rfl⟩⟩
theorem tc_isWord (E : tc_E X σ R T n B) {b e : Int} (hb : (σ.1 R 2).toInt = b) (he : (σ.1 R 3).toInt = e) (h0 : 0 ≤ b) (hbe : b ≤ e) (hen : e ≤ n) {r : Nat} (hr : r < 22) : ((F_X3_isWord X σ R r).toInt = 1 ∨ (F_X3_isWord X σ R r).toInt = 0) ∧ ((F_X3_isWord X σ R r).toInt = 1 ↔ ((σ.1 R 4).toInt = 1 ∧ y_wd B b e r)) := by
  have E3 := E.2.2.1
  have sz : (F_X3_size X σ R).toInt = e - b := by
    simp only [F_X3_size, ↓q_letE]
    rw [ar_sub, he, hb, ar_wr (by omega) (by omega)]
  simp only [F_X3_isWord, ↓q_letE]
  rw [sz, tj_len]
  by_cases q : (σ.1 R 4).toInt = 1
  · rw [if_pos q]
    by_cases q1 : e - b = ((q_slen.getD r 0 : Nat) : Int)
    · rw [if_pos q1]
      obtain ⟨z1, z2⟩ := tc_isWordL E hb h0 hen hr q1 ((2147483647 - (0 : Int32).toInt).toNat + 1) 0 (by decide) (by decide) (by show (0 : Int) ≤ _; omega)
      refine ⟨z1, ?_⟩
      rw [z2]
      constructor
      · intro h
        exact ⟨q, q1, fun i hi => h i (Int.natCast_nonneg i) hi⟩
      · rintro ⟨_, _, h⟩ i _ hi
        exact h i hi
    · rw [if_neg q1]
      exact ⟨Or.inr rfl, ⟨fun h => absurd h (by decide), fun h => absurd h.2.1 q1⟩⟩
  · rw [if_neg q]
    exact ⟨Or.inr rfl, ⟨fun h => absurd h (by decide), fun h => absurd h.1 q⟩⟩
theorem tm_isWord (w : Int64) : (F_X12_isWord X σ a w).toInt = if (σ.1 a 14).toInt = 1 ∧ (σ.2.1 a 19).toInt = w.toInt then 1 else 0 := by
  simp only [F_X12_isWord, ↓q_letE]
  by_cases q : (σ.1 a 14).toInt = 1
  · rw [if_pos q]
    have hc := lg_cmp_eq (σ.2.1 a 19) w
    by_cases q1 : (σ.2.1 a 19).toInt = w.toInt
    · have e : σ.2.1 a 19 = w := Int64.toInt_inj.mp q1
      rw [hc.mpr e, if_pos (by decide), if_pos ⟨q, q1⟩]
      rfl
    · have e : ¬ (lg_cmp (σ.2.1 a 19) w).toInt = 0 := fun h => q1 (congrArg Int64.toInt (hc.mp (q_eqI.mpr h)))
      rw [if_neg e, if_neg (fun h => q1 h.2)]
      rfl
  · rw [if_neg q, if_neg (fun h => q h.1)]
    rfl

theorem sp_kinds : (F_X12_spelled X σ (107 : Int32) (105 : Int32) (110 : Int32) (100 : Int32) (115 : Int32) (0 : Int32)).toInt = 11843731 := by
  simp only [F_X12_spelled, ↓q_letE]
  decide +kernel
theorem sp_each : (F_X12_spelled X σ (101 : Int32) (97 : Int32) (99 : Int32) (104 : Int32) (0 : Int32) (0 : Int32)).toInt = 164968 := by
  simp only [F_X12_spelled, ↓q_letE]
  decide +kernel
theorem sp_law : (F_X12_spelled X σ (108 : Int32) (97 : Int32) (119 : Int32) (0 : Int32) (0 : Int32) (0 : Int32)).toInt = 12343 := by
  simp only [F_X12_spelled, ↓q_letE]
  decide +kernel
theorem sp_up : (F_X12_spelled X σ (117 : Int32) (112 : Int32) (0 : Int32) (0 : Int32) (0 : Int32) (0 : Int32)).toInt = 688 := by
  simp only [F_X12_spelled, ↓q_letE]
  decide +kernel
theorem sp_down : (F_X12_spelled X σ (100 : Int32) (111 : Int32) (119 : Int32) (110 : Int32) (0 : Int32) (0 : Int32)).toInt = 147182 := by
  simp only [F_X12_spelled, ↓q_letE]
  decide +kernel
theorem sp_same : (F_X12_spelled X σ (115 : Int32) (97 : Int32) (109 : Int32) (101 : Int32) (0 : Int32) (0 : Int32)).toInt = 624037 := by
  simp only [F_X12_spelled, ↓q_letE]
  decide +kernel
theorem sp_most : (F_X12_spelled X σ (109 : Int32) (111 : Int32) (115 : Int32) (116 : Int32) (0 : Int32) (0 : Int32)).toInt = 441972 := by
  simp only [F_X12_spelled, ↓q_letE]
  decide +kernel
theorem sp_player : (F_X12_spelled X σ (112 : Int32) (108 : Int32) (97 : Int32) (121 : Int32) (101 : Int32) (114 : Int32)).toInt = 549512370 := by
  simp only [F_X12_spelled, ↓q_letE]
  decide +kernel
theorem sp_lies : (F_X12_spelled X σ (108 : Int32) (105 : Int32) (101 : Int32) (115 : Int32) (0 : Int32) (0 : Int32)).toInt = 402611 := by
  simp only [F_X12_spelled, ↓q_letE]
  decide +kernel
theorem sp_doubts : (F_X12_spelled X σ (100 : Int32) (111 : Int32) (117 : Int32) (98 : Int32) (116 : Int32) (115 : Int32)).toInt = 150637203 := by
  simp only [F_X12_spelled, ↓q_letE]
  decide +kernel
theorem sp_hand : (F_X12_spelled X σ (104 : Int32) (97 : Int32) (110 : Int32) (100 : Int32) (0 : Int32) (0 : Int32)).toInt = 263620 := by
  simp only [F_X12_spelled, ↓q_letE]
  decide +kernel
theorem sp_of : (F_X12_spelled X σ (111 : Int32) (102 : Int32) (0 : Int32) (0 : Int32) (0 : Int32) (0 : Int32)).toInt = 486 := by
  simp only [F_X12_spelled, ↓q_letE]
  decide +kernel
theorem sp_end : (F_X12_spelled X σ (101 : Int32) (110 : Int32) (100 : Int32) (0 : Int32) (0 : Int32) (0 : Int32)).toInt = 5572 := by
  simp only [F_X12_spelled, ↓q_letE]
  decide +kernel
theorem sp_turn : (F_X12_spelled X σ (116 : Int32) (117 : Int32) (114 : Int32) (110 : Int32) (0 : Int32) (0 : Int32)).toInt = 677454 := by
  simp only [F_X12_spelled, ↓q_letE]
  decide +kernel
theorem sp_stop : (F_X12_spelled X σ (115 : Int32) (116 : Int32) (111 : Int32) (112 : Int32) (0 : Int32) (0 : Int32)).toInt = 643568 := by
  simp only [F_X12_spelled, ↓q_letE]
  decide +kernel
theorem sp_loop : (F_X12_spelled X σ (108 : Int32) (111 : Int32) (111 : Int32) (112 : Int32) (0 : Int32) (0 : Int32)).toInt = 409072 := by
  simp only [F_X12_spelled, ↓q_letE]
  decide +kernel
theorem sp_when : (F_X12_spelled X σ (119 : Int32) (104 : Int32) (101 : Int32) (110 : Int32) (0 : Int32) (0 : Int32)).toInt = 762030 := by
  simp only [F_X12_spelled, ↓q_letE]
  decide +kernel
theorem sp_cards : (F_X12_spelled X σ (99 : Int32) (97 : Int32) (114 : Int32) (100 : Int32) (115 : Int32) (0 : Int32)).toInt = 3197075 := by
  simp only [F_X12_spelled, ↓q_letE]
  decide +kernel
theorem sp_heap : (F_X12_spelled X σ (104 : Int32) (101 : Int32) (97 : Int32) (112 : Int32) (0 : Int32) (0 : Int32)).toInt = 267312 := by
  simp only [F_X12_spelled, ↓q_letE]
  decide +kernel
theorem sp_shown : (F_X12_spelled X σ (115 : Int32) (104 : Int32) (111 : Int32) (119 : Int32) (110 : Int32) (0 : Int32)).toInt = 20201198 := by
  simp only [F_X12_spelled, ↓q_letE]
  decide +kernel
theorem sp_won : (F_X12_spelled X σ (119 : Int32) (111 : Int32) (110 : Int32) (0 : Int32) (0 : Int32) (0 : Int32)).toInt = 24046 := by
  simp only [F_X12_spelled, ↓q_letE]
  decide +kernel
theorem tm_isKinds : (F_X12_isKinds X σ a).toInt = if (σ.1 a 14).toInt = 1 ∧ (σ.2.1 a 19).toInt = 11843731 then 1 else 0 := by
  simp only [F_X12_isKinds, ↓q_letE]
  rw [tm_isWord, sp_kinds]
theorem tm_isEach : (F_X12_isEach X σ a).toInt = if (σ.1 a 14).toInt = 1 ∧ (σ.2.1 a 19).toInt = 164968 then 1 else 0 := by
  simp only [F_X12_isEach, ↓q_letE]
  rw [tm_isWord, sp_each]
theorem tm_isLaw : (F_X12_isLaw X σ a).toInt = if (σ.1 a 14).toInt = 1 ∧ (σ.2.1 a 19).toInt = 12343 then 1 else 0 := by
  simp only [F_X12_isLaw, ↓q_letE]
  rw [tm_isWord, sp_law]
theorem tm_isMost : (F_X12_isMost X σ a).toInt = if (σ.1 a 14).toInt = 1 ∧ (σ.2.1 a 19).toInt = 441972 then 1 else 0 := by
  simp only [F_X12_isMost, ↓q_letE]
  rw [tm_isWord, sp_most]
theorem tm_isPlayer : (F_X12_isPlayer X σ a).toInt = if (σ.1 a 14).toInt = 1 ∧ (σ.2.1 a 19).toInt = 549512370 then 1 else 0 := by
  simp only [F_X12_isPlayer, ↓q_letE]
  rw [tm_isWord, sp_player]
theorem tm_isLies : (F_X12_isLies X σ a).toInt = if (σ.1 a 14).toInt = 1 ∧ (σ.2.1 a 19).toInt = 402611 then 1 else 0 := by
  simp only [F_X12_isLies, ↓q_letE]
  rw [tm_isWord, sp_lies]
theorem tm_isDoubts : (F_X12_isDoubts X σ a).toInt = if (σ.1 a 14).toInt = 1 ∧ (σ.2.1 a 19).toInt = 150637203 then 1 else 0 := by
  simp only [F_X12_isDoubts, ↓q_letE]
  rw [tm_isWord, sp_doubts]
theorem tm_isHand : (F_X12_isHand X σ a).toInt = if (σ.1 a 14).toInt = 1 ∧ (σ.2.1 a 19).toInt = 263620 then 1 else 0 := by
  simp only [F_X12_isHand, ↓q_letE]
  rw [tm_isWord, sp_hand]
theorem tm_isOf : (F_X12_isOf X σ a).toInt = if (σ.1 a 14).toInt = 1 ∧ (σ.2.1 a 19).toInt = 486 then 1 else 0 := by
  simp only [F_X12_isOf, ↓q_letE]
  rw [tm_isWord, sp_of]
theorem tm_isEnd : (F_X12_isEnd X σ a).toInt = if (σ.1 a 14).toInt = 1 ∧ (σ.2.1 a 19).toInt = 5572 then 1 else 0 := by
  simp only [F_X12_isEnd, ↓q_letE]
  rw [tm_isWord, sp_end]
theorem tm_if1 {P : Prop} {i : Decidable P} : ((if P then (1 : Int) else 0) = 0) ↔ ¬ P := by
  constructor
  · intro h q; rw [if_pos q] at h; exact absurd h (by decide)
  · intro q; rw [if_neg q]
theorem tm_lawWord : (F_X12_lawWord X σ a).toInt = if (σ.1 a 14).toInt = 1 ∧ (σ.2.1 a 19).toInt = 688 then 0 else if (σ.1 a 14).toInt = 1 ∧ (σ.2.1 a 19).toInt = 147182 then 1 else if (σ.1 a 14).toInt = 1 ∧ (σ.2.1 a 19).toInt = 624037 then 2 else -1 := by
  simp only [F_X12_lawWord, ↓q_letE]
  rw [tm_isWord, tm_isWord, tm_isWord, sp_up, sp_down, sp_same]
  simp only [tm_if1]
  repeat' split
  all_goals first | rfl | (exfalso; omega)
theorem tm_stepWord : (F_X12_stepWord X σ a).toInt = if (σ.1 a 14).toInt = 1 ∧ (σ.2.1 a 19).toInt = 677454 then 0 else if (σ.1 a 14).toInt = 1 ∧ (σ.2.1 a 19).toInt = 402611 then 1 else if (σ.1 a 14).toInt = 1 ∧ (σ.2.1 a 19).toInt = 150637203 then 2 else if (σ.1 a 14).toInt = 1 ∧ (σ.2.1 a 19).toInt = 762030 then 3 else if (σ.1 a 14).toInt = 1 ∧ (σ.2.1 a 19).toInt = 409072 then 4 else if (σ.1 a 14).toInt = 1 ∧ (σ.2.1 a 19).toInt = 643568 then 5 else -1 := by
  simp only [F_X12_stepWord, ↓q_letE]
  rw [tm_isWord, tm_isLies, tm_isDoubts, tm_isWord, tm_isWord, tm_isWord, sp_turn, sp_when, sp_loop, sp_stop]
  simp only [tm_if1]
  repeat' split
  all_goals first | rfl | (exfalso; omega)
theorem tm_testWord : (F_X12_testWord X σ a).toInt = if (σ.1 a 14).toInt = 1 ∧ (σ.2.1 a 19).toInt = 3197075 then 0 else if (σ.1 a 14).toInt = 1 ∧ (σ.2.1 a 19).toInt = 267312 then 1 else if (σ.1 a 14).toInt = 1 ∧ (σ.2.1 a 19).toInt = 20201198 then 2 else if (σ.1 a 14).toInt = 1 ∧ (σ.2.1 a 19).toInt = 24046 then 3 else -1 := by
  simp only [F_X12_testWord, ↓q_letE]
  rw [tm_isWord, tm_isWord, tm_isWord, tm_isWord, sp_cards, sp_heap, sp_shown, sp_won]
  simp only [tm_if1]
  repeat' split
  all_goals first | rfl | (exfalso; omega)
/-- the numbers of the words that are no names -/
def y_res : List Int := [11843731, 164968, 12343, 441972, 549512370, 402611, 150637203, 263620, 486, 688, 147182, 624037, 677454, 762030, 3197075, 267312, 24046, 20201198, 409072, 5572, 643568]
theorem tm_isKept (h1 : (σ.1 a 14).toInt = 1) : (F_X12_isKept X σ a).toInt = if (σ.2.1 a 19).toInt ∈ y_res then 1 else 0 := by
  obtain ⟨w, hw⟩ : ∃ w, (σ.2.1 a 19).toInt = w := ⟨_, rfl⟩
  simp only [F_X12_isKept, ↓q_letE]
  rw [tm_isKinds, tm_isEach, tm_isLaw, tm_isMost, tm_isPlayer, tm_isHand, tm_isOf, tm_lawWord, tm_stepWord, tm_testWord, tm_isEnd]
  simp only [tm_if1, hw, h1, true_and]
  by_cases m : w ∈ y_res
  · rw [if_pos m]
    simp only [y_res, List.mem_cons, List.not_mem_nil, or_false] at m
    rcases m with rfl | rfl | rfl | rfl | rfl | rfl | rfl | rfl | rfl | rfl | rfl | rfl | rfl | rfl | rfl | rfl | rfl | rfl | rfl | rfl | rfl <;> rfl
  · rw [if_neg m]
    simp only [y_res, List.mem_cons, List.not_mem_nil, or_false, not_or] at m
    obtain ⟨m0, m1, m2, m3, m4, m5, m6, m7, m8, m9, m10, m11, m12, m13, m14, m15, m16, m17, m18, m19, m20⟩ := m
    simp only [*, if_false, not_false_eq_true, if_true]
    rfl
end WD
