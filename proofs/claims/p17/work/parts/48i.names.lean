/-! NAMES: what is reserved, who is named -/
def y_chs (r : Nat) : List Int := (q_sbyt.getD r []).map Int32.toInt
def y_wl : List Nat := [0, 1, 2, 6, 7, 9, 10, 11, 12, 3, 4, 5, 14, 17, 18, 19, 21, 20, 16, 13, 15]
def y_flat : List Nat → List Int
  | [] => []
  | r :: rs => y_chs r ++ 32 :: y_flat rs
theorem y_rs : y_chs 8 = y_flat y_wl := by decide +kernel
theorem y_wl_w : ∀ r ∈ y_wl, r < 22 ∧ r ≠ 8 := by decide
theorem y_wl_res : y_res = y_wl.map y_cw := by decide +kernel
theorem y_chs_ne : ∀ r ∈ y_wl, ∀ c ∈ y_chs r, c ≠ 32 := by decide +kernel
theorem y_chs_len : ∀ r ∈ y_wl, (y_chs r).length = q_slen.getD r 0 := by decide +kernel
theorem y_chs8 : (y_chs 8).length = 105 := by decide +kernel
theorem y_slen8 : q_slen.getD 8 0 = 105 := by decide +kernel
/-- the class's automaton -/
def y_au (s : Int → Int) (sz : Int) : List Int → Int → Bool
  | [], _ => false
  | c :: cs, al => if c = 32 then (if al = sz then true else y_au s sz cs 0) else if al < 0 then y_au s sz cs al else if c = s al then y_au s sz cs (al + 1) else y_au s sz cs (-1)
def y_mt (s : Int → Int) (sz : Int) : List Int → Int → Bool
  | [], al => decide (al = sz)
  | c :: cs, al => decide (c = s al) && y_mt s sz cs (al + 1)
theorem y_au_neg {s : Int → Int} {sz : Int} (hz : 0 ≤ sz) (w rest : List Int) (hw : ∀ c ∈ w, c ≠ 32) (al : Int) (h : al < 0) : y_au s sz (w ++ 32 :: rest) al = y_au s sz rest 0 := by
  induction w with
  | nil =>
    show (if (32 : Int) = 32 then (if al = sz then true else y_au s sz rest 0) else _) = _
    rw [if_pos rfl, if_neg (by omega)]
  | cons c cs ih =>
    show (if c = 32 then _ else if al < 0 then y_au s sz (cs ++ 32 :: rest) al else _) = _
    rw [if_neg (hw c List.mem_cons_self), if_pos h]
    exact ih (fun d hd => hw d (List.mem_cons_of_mem _ hd))
theorem y_au_word {s : Int → Int} {sz : Int} (hz : 0 ≤ sz) (w rest : List Int) (hw : ∀ c ∈ w, c ≠ 32) : ∀ al : Int, 0 ≤ al → y_au s sz (w ++ 32 :: rest) al = (y_mt s sz w al || y_au s sz rest 0) := by
  induction w with
  | nil =>
    intro al h
    show (if (32 : Int) = 32 then (if al = sz then true else y_au s sz rest 0) else _) = (decide (al = sz) || y_au s sz rest 0)
    rw [if_pos rfl]
    by_cases q : al = sz
    · rw [if_pos q, decide_eq_true q]; rfl
    · rw [if_neg q, decide_eq_false q]; rfl
  | cons c cs ih =>
    intro al h
    show (if c = 32 then _ else if al < 0 then _ else if c = s al then y_au s sz (cs ++ 32 :: rest) (al + 1) else y_au s sz (cs ++ 32 :: rest) (-1)) = (decide (c = s al) && y_mt s sz cs (al + 1) || y_au s sz rest 0)
    have hcs : ∀ d ∈ cs, d ≠ 32 := fun d hd => hw d (List.mem_cons_of_mem _ hd)
    rw [if_neg (hw c List.mem_cons_self), if_neg (by omega)]
    by_cases q : c = s al
    · rw [if_pos q, decide_eq_true q, ih hcs (al + 1) (by omega)]; rfl
    · rw [if_neg q, decide_eq_false q, y_au_neg hz cs rest hcs (-1) (by decide)]; rfl
theorem y_au_all {s : Int → Int} {sz : Int} (hz : 0 ≤ sz) (ws : List Nat) (h : ∀ r ∈ ws, ∀ c ∈ y_chs r, c ≠ 32) : y_au s sz (y_flat ws) 0 = ws.any (fun r => y_mt s sz (y_chs r) 0) := by
  induction ws with
  | nil => rfl
  | cons r rs ih =>
    show y_au s sz (y_chs r ++ 32 :: y_flat rs) 0 = (y_mt s sz (y_chs r) 0 || rs.any (fun r => y_mt s sz (y_chs r) 0))
    rw [y_au_word hz (y_chs r) (y_flat rs) (h r List.mem_cons_self) 0 (Int.le_refl 0), ih (fun q hq => h q (List.mem_cons_of_mem _ hq))]
theorem y_mt_iff {s : Int → Int} {sz : Int} (w : List Int) : ∀ al : Int, y_mt s sz w al = true ↔ (al + (w.length : Int) = sz ∧ ∀ i : Nat, i < w.length → s (al + (i : Int)) = w.getD i 0) := by
  induction w with
  | nil =>
    intro al
    show decide (al = sz) = true ↔ _
    rw [decide_eq_true_iff]
    constructor
    · intro h
      exact ⟨by show al + ((0 : Nat) : Int) = sz; omega, fun i hi => absurd hi (Nat.not_lt_zero _)⟩
    · rintro ⟨h, _⟩
      have h2 : al + ((0 : Nat) : Int) = sz := h
      omega
  | cons c cs ih =>
    intro al
    show (decide (c = s al) && y_mt s sz cs (al + 1)) = true ↔ _
    rw [Bool.and_eq_true, decide_eq_true_iff, ih]
    have hl : ((c :: cs).length : Int) = (cs.length : Int) + 1 := by
      show ((cs.length + 1 : Nat) : Int) = _
      omega
    rw [hl]
    constructor
    · rintro ⟨h1, h2, h3⟩
      refine ⟨by omega, fun i hi => ?_⟩
      cases i with
      | zero => show s (al + ((0 : Nat) : Int)) = c; rw [h1]; congr 1; omega
      | succ i =>
        have := h3 i (Nat.lt_of_succ_lt_succ hi)
        show s (al + ((i + 1 : Nat) : Int)) = cs.getD i 0
        rw [← this]
        congr 1
        omega
    · rintro ⟨h1, h2⟩
      refine ⟨?_, by omega, fun i hi => ?_⟩
      · have := h2 0 (Nat.succ_pos _)
        have e : s (al + ((0 : Nat) : Int)) = c := this
        rw [← e]
        congr 1
        omega
      · have := h2 (i + 1) (Nat.succ_lt_succ hi)
        have e : s (al + ((i + 1 : Nat) : Int)) = cs.getD i 0 := this
        rw [← e]
        congr 1
        omega
theorem y_chs_get (r i : Nat) : (y_chs r).getD i 0 = y_ch r (i : Int) := by
  unfold y_chs y_ch
  generalize q_sbyt.getD r [] = l
  rw [Int.toNat_natCast, List.getD_eq_getElem?_getD, List.getD_eq_getElem?_getD, List.getElem?_map]
  cases l[i]? with
  | none => rfl
  | some c => rfl
section NM
variable {X : XW} {σ τ : ST} {R T a : Nat} {n : Int} {B : Int → Int}
theorem tc_resL (E : tc_E X σ R T n B) {b sz : Int} (hb : (σ.1 R 2).toInt = b) (h0 : 0 ≤ b ∧ b ≤ 900) (hsz : (F_X3_size X σ R).toInt = sz) (k : Nat) : ∀ (x1 x2 : Int32) (i : Nat), x2.toInt = (i : Int) → (2147483647 - x2.toInt).toNat < k → i ≤ 105 → -1 ≤ x1.toInt → x1.toInt ≤ (i : Int) → (F_X3_isReserved_L4_1 X σ R k x1 x2).toInt = if y_au (fun j => tx_D B n (b + j)) sz ((y_chs 8).drop i) x1.toInt = true then 1 else 0 := by
  induction k with
  | zero => intro x1 x2 i _ hm; exact absurd hm (Nat.not_lt_zero _)
  | succ k ih =>
    intro x1 x2 i hi hm hi2 h1 h2
    rw [F_X3_isReserved_L4_1_s]
    simp only [F_X3_isReserved_B4_1, ↓q_letE]
    rw [tj_len, y_slen8, tj_chr 8 hi, hsz, hi]
    by_cases q : (i : Int) < ((105 : Nat) : Int)
    · have hil : i < (y_chs 8).length := by rw [y_chs8]; omega
      have e1 : (x2 + 1).toInt = ((i + 1 : Nat) : Int) := by rw [y_inc (by omega), hi]; omega
      have dr : (y_chs 8).drop i = y_ch 8 (i : Int) :: (y_chs 8).drop (i + 1) := by
        rw [List.drop_eq_getElem_cons hil]
        congr 1
        rw [← y_chs_get]
        simp [List.getD, hil]
      rw [if_pos q, dr]
      have au : ∀ c cs al, y_au (fun j => tx_D B n (b + j)) sz (c :: cs) al = if c = 32 then (if al = sz then true else y_au (fun j => tx_D B n (b + j)) sz cs 0) else if al < 0 then y_au (fun j => tx_D B n (b + j)) sz cs al else if c = tx_D B n (b + al) then y_au (fun j => tx_D B n (b + j)) sz cs (al + 1) else y_au (fun j => tx_D B n (b + j)) sz cs (-1) := fun _ _ _ => rfl
      rw [au]
      by_cases q1 : y_ch 8 (i : Int) = 32
      · rw [if_pos q1, if_pos q1]
        by_cases q2 : x1.toInt = sz
        · rw [if_pos q2, if_pos q2, if_pos rfl]; rfl
        · rw [if_neg q2, if_neg q2]
          exact ih 0 (x2 + 1) (i + 1) e1 (by omega) (by omega) (by decide) (by show (0 : Int) ≤ _; omega)
      · rw [if_neg q1, if_neg q1]
        by_cases q2 : x1.toInt < 0
        · rw [if_pos q2, if_pos q2]
          exact ih x1 (x2 + 1) (i + 1) e1 (by omega) (by omega) h1 (by omega)
        · rw [if_neg q2, if_neg q2, tc_sig E hb h0 (v := x1) rfl ⟨by omega, by omega⟩]
          by_cases q3 : y_ch 8 (i : Int) = tx_D B n (b + x1.toInt)
          · rw [if_pos q3, if_pos q3]
            have e2 : (x1 + 1).toInt = x1.toInt + 1 := y_inc (by omega)
            have z := ih (x1 + 1) (x2 + 1) (i + 1) e1 (by omega) (by omega) (by omega) (by omega)
            rw [e2] at z
            exact z
          · rw [if_neg q3, if_neg q3]
            exact ih (-1) (x2 + 1) (i + 1) e1 (by omega) (by omega) (by decide) (by show (-1 : Int) ≤ _; omega)
    · rw [if_neg q]
      have e : i = 105 := by omega
      rw [e, List.drop_eq_nil_of_le (by rw [y_chs8]; exact Nat.le_refl _)]
      rfl
/-- the class's reserved words are the reference's -/
theorem tl_reserved (E : tc_E X σ R T n B) (K : tl_K σ R τ a B n) (h1 : (τ.1 a 14).toInt = 1) : (F_X3_isReserved X σ R).toInt = if (τ.2.1 a 19).toInt ∈ y_res then 1 else 0 := by
  have b := K.b
  obtain ⟨k1, k2, k3, k4, k5, k6, k7, k8⟩ := id K
  have E3 := E.2.2.1
  have x := k6.2 h1
  obtain ⟨sz, hsz0⟩ : ∃ sz, sz = (τ.1 a 16).toInt - (τ.1 a 15).toInt := ⟨_, rfl⟩
  have hsz : (F_X3_size X σ R).toInt = sz := by
    simp only [F_X3_size, ↓q_letE]
    rw [ar_sub, k2, k1, hsz0, ar_wr (by omega) (by omega)]
  have z := tc_resL E k1 ⟨k7, by omega⟩ hsz ((2147483647 - (0 : Int32).toInt).toNat + 1) 0 0 0 rfl (by decide) (by decide) (by decide) (by decide)
  unfold F_X3_isReserved
  rw [z]
  have ez : (0 : Int32).toInt = 0 := rfl
  rw [List.drop_zero, ez, y_rs, y_au_all (by omega) y_wl y_chs_ne]
  have key : (y_wl.any (fun r => y_mt (fun j => tx_D B n ((τ.1 a 15).toInt + j)) sz (y_chs r) 0) = true) ↔ (τ.2.1 a 19).toInt ∈ y_res := by
    rw [y_wl_res, List.any_eq_true, List.mem_map]
    constructor
    · rintro ⟨r, hr, hm⟩
      refine ⟨r, hr, ?_⟩
      obtain ⟨m1, m2⟩ := (y_mt_iff (y_chs r) 0).mp hm
      rw [y_chs_len r hr] at m1 m2
      refine ((y_wd_iff (y_wl_w r hr) b.1 (tl_le K h1) x.2.1 x.2.2).mp ⟨by omega, fun i hi => ?_⟩).symm
      have y := m2 i hi
      rw [Int.zero_add, y_chs_get, tx_D_in (by omega) (by omega)] at y
      exact y
    · rintro ⟨r, hr, hm⟩
      refine ⟨r, hr, ?_⟩
      obtain ⟨m1, m2⟩ := (y_wd_iff (y_wl_w r hr) b.1 (tl_le K h1) x.2.1 x.2.2).mpr hm.symm
      refine (y_mt_iff (y_chs r) 0).mpr ?_
      rw [y_chs_len r hr]
      refine ⟨by omega, fun i hi => ?_⟩
      have y := m2 i hi
      show tx_D B n ((τ.1 a 15).toInt + (0 + (i : Int))) = _
      rw [Int.zero_add, y_chs_get, tx_D_in (by omega) (by omega)]
      exact y
  by_cases q : (τ.2.1 a 19).toInt ∈ y_res
  · rw [if_pos q, if_pos (key.mpr q)]
  · rw [if_neg q, if_neg (fun h => q (key.mp h))]
/-- a name that must stand there -/
theorem tl_mustBeName (E : tc_E X σ R T n B) (M : tm_E X τ a n B) (K : tl_K σ R τ a B n) (h : (τ.1 a 12).toInt = 0) :
    ((F_X12_isName X τ a).toInt = 1 ∧ (τ.1 a 14).toInt = 1 ∧ (τ.1 a 16).toInt - (τ.1 a 15).toInt ≤ 8 ∧ F_X3_mustBeName X σ R = (1, σ)) ∨
    ((F_X12_isName X τ a).toInt = 0 ∧ ∃ σ' : ST, F_X3_mustBeName X σ R = (0, σ') ∧ tk (tc_S2 R) σ σ' ∧ tkl (tn_S2 a) (tn_L a) τ (F_X12_wrong X τ a) ∧ tl_F σ' R (F_X12_wrong X τ a) a) := by
  have b := K.b
  obtain ⟨k1, k2, k3, k4, k5, k6, k7, k8⟩ := id K
  have E3 := E.2.2.1
  obtain ⟨σ', a1, a2, a3, a4⟩ := tl_wrong (X := X) K h
  have hsz : (F_X3_size X σ R).toInt = (τ.1 a 16).toInt - (τ.1 a 15).toInt := by
    simp only [F_X3_size, ↓q_letE]
    rw [ar_sub, k2, k1, ar_wr (by omega) (by omega)]
  have z0 : (0 : Int32).toInt = 0 := rfl
  have z1 : (1 : Int32).toInt = 1 := rfl
  simp only [F_X12_isName, F_X3_mustBeName, ↓q_letE, ↓q_biE]
  rw [k3, hsz, a1]
  by_cases q : (τ.1 a 14).toInt = 1
  · have x := k6.2 q
    rw [if_pos q, if_pos q, x.1, tl_reserved E K q, tm_isKept q]
    by_cases q8 : 8 < (τ.1 a 16).toInt - (τ.1 a 15).toInt
    · rw [if_pos q8, if_pos q8, z0, if_pos rfl]
      exact Or.inr ⟨rfl, σ', rfl, a2, a3, a4⟩
    · rw [if_neg q8, if_neg q8]
      by_cases qr : (τ.2.1 a 19).toInt ∈ y_res
      · rw [if_pos qr, if_neg (by decide), if_neg (by decide), z0, if_pos rfl]
        exact Or.inr ⟨rfl, σ', rfl, a2, a3, a4⟩
      · rw [if_neg qr, if_pos rfl, if_pos rfl]
        exact Or.inl ⟨z1, q, by omega, rfl⟩
  · rw [if_neg q, if_neg q, z0, if_pos rfl]
    exact Or.inr ⟨rfl, σ', rfl, a2, a3, a4⟩
end NM
