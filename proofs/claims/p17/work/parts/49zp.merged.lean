/-! FROM 49zp.moves.lean.txt -/
/-! A ROUND PLAYED: the moves of the class's loop, the marks of both -/
def pl_T (X : XW) (R : Nat) : Nat := q_rf X (q_rf X R 7) 0
/-- a run of its own, beside the game -/
def pl_D (X : XW) (lb : Nat → Nat) (o R : Nat) : Prop := q_kd X R = 7 ∧ lb R / 8192 ≠ o ∧ lb (pl_T X R) / 8192 ≠ o ∧ q_kd X (pl_T X R) = 20 ∧ q_ln X (pl_T X R) = 60
def pl_Sg (X : XW) (lb : Nat → Nat) (o R : Nat) (b f : Nat) : Prop := lb b / 8192 = o ∨ b = R ∧ f ≤ 6 ∨ b = pl_T X R
def pl_Sq (X : XW) (a : Nat) (b f : Nat) : Prop := b = q_rf X a 20 ∨ b = q_rf X a 28 ∨ b = a ∧ 38 ≤ f ∧ f ≤ 45
/-- both runs, both games the same -/
def pl_J (X : XW) (g a R : Nat) (V0 : Nat → Int → Int) (c0 : Int → Int) (n : Int) (σ τ : ST) : Prop :=
  pl_cnt a R σ τ ∧ σ.1 R 0 = τ.1 a 40 ∧ σ.1 R 1 = τ.1 a 41 ∧ σ.1 R 5 = τ.1 a 45 ∧ (0 ≤ (τ.1 a 40).toInt ∧ (τ.1 a 40).toInt ≤ 300) ∧ pl_gm X g a σ τ V0 c0 (n + (τ.1 a 40).toInt)
/-- neither is at its end -/
def pl_on (a : Nat) (τ : ST) : Prop := (τ.1 a 38).toInt = 0 ∧ (τ.1 a 45).toInt = 0
noncomputable def pl_L (X : XW) (g R : Nat) (x i : Int32) (σ : ST) : ST := F_X7_go_L46_1 X g R ((2147483647 - i.toInt).toNat + 1) x i σ
/-- what a piece of the round does: steps l to l', at most B moves more than a hundred a step -/
def pl_O (X : XW) (lb : Nat → Nat) (g o a R : Nat) (V0 : Nat → Int → Int) (c0 : Int → Int) (n : Int) (σ τ τ' : ST) (l l' B : Int) (x i : Int32) : Prop :=
  ∃ σ' : ST, tkl (pl_Sg X lb o R) (fun _ _ => False) σ σ' ∧ tkl (pl_Sq X a) (fun _ _ => False) τ τ' ∧ pl_J X g a R V0 c0 n σ' τ' ∧ (∀ y : Nat, (y : Int) < l ∨ l' ≤ (y : Int) → σ'.1 (pl_T X R) y = σ.1 (pl_T X R) y) ∧
    ((pl_on a τ' ∧ ∃ x' i' : Int32, x'.toInt = l' ∧ 0 ≤ i'.toInt ∧ i'.toInt - 100 * (τ'.1 a 40).toInt ≤ B ∧ pl_L X g R x i σ = pl_L X g R x' i' σ') ∨ ((τ'.1 a 38).toInt = 1 ∧ pl_L X g R x i σ = σ'))
section PE
variable {X : XW} {lb : Nat → Nat} {g o a R : Nat} {σ σ' τ τ' : ST} {V0 V : Nat → Int → Int} {c0 c : Int → Int} {n : Int}
theorem pl_len (Y : y_S X lb) (a : Nat) {k : Nat} (h : q_ln X a = k) : (q_len X a).toInt = (k : Int) := by rw [y_len Y, h]
theorem pl_tget (Y : y_S X lb) (D : pl_D X lb o R) {x : Int32} (hx : 0 ≤ x.toInt ∧ x.toInt < 60) : F_X5_get X σ (q_rf X R 7) x = σ.1 (pl_T X R) x.toNatClampNeg := by
  have e : (q_len X (pl_T X R)).toInt = 60 := pl_len Y _ D.2.2.2.2
  unfold F_X5_get
  show (if x.toInt < 0 then (0 : Int32) else q_let (q_len X (pl_T X R)) (fun n_2 => if x.toInt < n_2.toInt then q_let (σ.1 (pl_T X R) x.toNatClampNeg) (fun f_4 => f_4) else (0 : Int32))) = _
  rw [if_neg (by omega), q_letE (q_len X (pl_T X R)), e, if_pos hx.2, q_letE]
theorem pl_tset (Y : y_S X lb) (D : pl_D X lb o R) {x v : Int32} (hx : 0 ≤ x.toInt ∧ x.toInt < 60) : F_X5_set X σ (q_rf X R 7) x v = q_si σ (pl_T X R) x.toNatClampNeg v := by
  have e : (q_len X (pl_T X R)).toInt = 60 := pl_len Y _ D.2.2.2.2
  unfold F_X5_set
  show (if x.toInt < 0 then σ else q_let (q_len X (pl_T X R)) (fun n_2 => if x.toInt < n_2.toInt then q_let (q_si σ (pl_T X R) x.toNatClampNeg v) (fun f_4 => f_4) else σ)) = _
  rw [if_neg (by omega), q_letE (q_len X (pl_T X R)), e, if_pos hx.2, q_letE]
theorem pl_tadd (Y : y_S X lb) (D : pl_D X lb o R) {x v : Int32} (hx : 0 ≤ x.toInt ∧ x.toInt < 60) : F_X5_add X σ (q_rf X R 7) x v = q_si σ (pl_T X R) x.toNatClampNeg (σ.1 (pl_T X R) x.toNatClampNeg + v) := by
  have e : (q_len X (pl_T X R)).toInt = 60 := pl_len Y _ D.2.2.2.2
  unfold F_X5_add
  show (if x.toInt < 0 then σ else q_let (q_len X (pl_T X R)) (fun n_2 => if x.toInt < n_2.toInt then q_let (σ.1 (pl_T X R) x.toNatClampNeg) (fun f_4 => q_let (f_4 + v) (fun z_5 => q_let (q_si σ (pl_T X R) x.toNatClampNeg z_5) (fun s => s))) else σ)) = _
  rw [if_neg (by omega), q_letE (q_len X (pl_T X R)), e, if_pos hx.2, q_letE (σ.1 (pl_T X R) x.toNatClampNeg), q_letE (σ.1 (pl_T X R) x.toNatClampNeg + v), q_letE]
theorem pl_D.ne (D : pl_D X lb o R) : pl_T X R ≠ R := m_ne D.2.2.2.1 D.1 (by decide)
/-- a write beside the game -/
theorem pl_vo (Y : y_S X lb) (G : y_G X lb g o) {b : Nat} (hb : lb b / 8192 ≠ o) (f : Nat) (v : Int32) : y_v X g (q_si σ b f v) = y_v X g σ := pl_vR Y G hb f v
/-- a line of the round, in the class -/
theorem pl_line (Y : y_S X lb) (G : y_G X lb g o) (hV : y_v X g σ = V) {x : Int32} {l : Int} (hx : x.toInt = l) (hl : 0 ≤ l ∧ l < 60) : (F_X5_get X σ (q_rf X (q_rf X g 3) 3) x).toInt = V 18 l ∧ (F_X5_get X σ (q_rf X (q_rf X g 3) 4) x).toInt = V 19 l ∧ (F_X5_get X σ (q_rf X (q_rf X g 3) 5) x).toInt = V 20 l ∧ (F_X5_get X σ (q_rf X (q_rf X g 3) 6) x).toInt = V 21 l ∧ (F_X5_get X σ (q_rf X (q_rf X g 3) 7) x).toInt = V 22 l := by
  have w := pl_W (lb := lb) (o := o) hV
  have n18 : ((y_gn 18 : Nat) : Int) = 60 := rfl
  have n19 : ((y_gn 19 : Nat) : Int) = 60 := rfl
  have n20 : ((y_gn 20 : Nat) : Int) = 60 := rfl
  have n21 : ((y_gn 21 : Nat) : Int) = 60 := rfl
  have n22 : ((y_gn 22 : Nat) : Int) = 60 := rfl
  exact ⟨y_getI Y G w (id := 18) (r := q_rf X (q_rf X g 3) 3) ⟨by decide, by decide⟩ rfl hx hl.1 (by rw [n18]; exact hl.2), y_getI Y G w (id := 19) (r := q_rf X (q_rf X g 3) 4) ⟨by decide, by decide⟩ rfl hx hl.1 (by rw [n19]; exact hl.2), y_getI Y G w (id := 20) (r := q_rf X (q_rf X g 3) 5) ⟨by decide, by decide⟩ rfl hx hl.1 (by rw [n20]; exact hl.2), y_getI Y G w (id := 21) (r := q_rf X (q_rf X g 3) 6) ⟨by decide, by decide⟩ rfl hx hl.1 (by rw [n21]; exact hl.2), y_getI Y G w (id := 22) (r := q_rf X (q_rf X g 3) 7) ⟨by decide, by decide⟩ rfl hx hl.1 (by rw [n22]; exact hl.2)⟩
theorem pl_Ln {i x : Int32} (hi : 0 ≤ i.toInt ∧ i.toInt < 1000000) : F_X7_go_L46_1 X g R (2147483647 - i.toInt).toNat x (i + 1) σ = pl_L X g R x (i + 1) σ := by
  unfold pl_L
  have e : (i + 1).toInt = i.toInt + 1 := y_inc (by omega)
  have e2 : (2147483647 - i.toInt).toNat = (2147483647 - (i + 1).toInt).toNat + 1 := by rw [e]; omega
  rw [e2]
/-- one move -/
theorem pl_Lstep {i x : Int32} (hi : 0 ≤ i.toInt ∧ i.toInt < 1000000) (hx : x.toInt < (σ.1 (q_rf X g 3) 2).toInt) (h5 : (σ.1 R 5).toInt = 0) : pl_L X g R x i σ = if (F_X5_get X σ (q_rf X (q_rf X g 3) 3) x).toInt = 9 then q_bi (F_X7_behindEnd X σ R (q_rf X g 3) x) (fun r s => pl_L X g R r (i + 1) s) else if (σ.1 R 0).toInt = 300 then pl_L X g R x (i + 1) (q_si σ R 5 1) else q_bi (F_X7_behindStep X (q_si σ R 0 (σ.1 R 0 + 1)) R g x) (fun r s => pl_L X g R r (i + 1) s) := by
  have d : pl_L X g R x i σ = F_X7_go_B46_1 X g R (F_X7_go_L46_1 X g R (2147483647 - i.toInt).toNat) x i σ := by
    unfold pl_L
    rw [F_X7_go_L46_1_s]
  rw [d]
  unfold F_X7_go_B46_1
  rw [if_pos hi.2, q_letE (σ.1 (q_rf X g 3) 2), if_pos hx, q_letE (σ.1 R 5), if_pos h5, q_letE (F_X5_get X σ (q_rf X (q_rf X g 3) 3) x), q_letE (σ.1 R 0)]
  by_cases q : (F_X5_get X σ (q_rf X (q_rf X g 3) 3) x).toInt = 9
  · rw [if_pos q, if_pos q]
    obtain ⟨r, s, e⟩ : ∃ r s, F_X7_behindEnd X σ R (q_rf X g 3) x = (r, s) := ⟨_, _, rfl⟩
    rw [e, q_biP r s, q_biP r s, q_letE (i + 1), pl_Ln hi]
  · rw [if_neg q, if_neg q]
    by_cases q3 : (σ.1 R 0).toInt = 300
    · rw [if_pos q3, if_pos q3, q_letE (q_si σ R 5 1), q_letE (i + 1), pl_Ln hi]
    · rw [if_neg q3, if_neg q3, q_letE (σ.1 R 0), q_letE (σ.1 R 0 + 1), q_letE (q_si σ R 0 (σ.1 R 0 + 1))]
      obtain ⟨r, s, e⟩ : ∃ r s, F_X7_behindStep X (q_si σ R 0 (σ.1 R 0 + 1)) R g x = (r, s) := ⟨_, _, rfl⟩
      rw [e, q_biP r s, q_biP r s, q_letE (i + 1), pl_Ln hi]
/-- at its end -/
theorem pl_Lstop {i x : Int32} (h : (σ.1 R 5).toInt ≠ 0 ∨ (σ.1 (q_rf X g 3) 2).toInt ≤ x.toInt) : pl_L X g R x i σ = σ := by
  unfold pl_L
  rw [F_X7_go_L46_1_s]
  unfold F_X7_go_B46_1
  by_cases q : i.toInt < 1000000
  · rw [if_pos q, q_letE (σ.1 (q_rf X g 3) 2)]
    by_cases q2 : x.toInt < (σ.1 (q_rf X g 3) 2).toInt
    · rw [if_pos q2, q_letE (σ.1 R 5), if_neg (by
        rcases h with h | h
        · exact h
        · omega)]
    · rw [if_neg q2]
  · rw [if_neg q]
/-- behind a body -/
theorem pl_endMove (Y : y_S X lb) (G : y_G X lb g o) (D : pl_D X lb o R) (hV : y_v X g σ = V) {x i : Int32} {m l : Int} (hi : 0 ≤ i.toInt ∧ i.toInt < 1000000) (hx : x.toInt = m) (hm : l < m ∧ m < V 3 2) (hl : 0 ≤ l) (h60 : V 3 2 ≤ 60) (h5 : (σ.1 R 5).toInt = 0) (v18 : V 18 m = 9) (v19 : V 19 m = l) :
    ∃ y : Int32, y.toInt = l ∧ pl_L X g R x i σ = if V 18 l = 4 then pl_L X g R (if 0 < (σ.1 (pl_T X R) l.toNat - 1).toInt then y + 1 else x + 1) (i + 1) (q_si σ (pl_T X R) l.toNat (σ.1 (pl_T X R) l.toNat - 1)) else pl_L X g R (x + 1) (i + 1) σ := by
  have w := pl_W (lb := lb) (o := o) hV
  have f2 : (σ.1 (q_rf X g 3) 2).toInt = V 3 2 := w.rd (id := 3) (by decide) 2 rfl
  have ln := pl_line Y G hV hx ⟨by omega, by omega⟩
  obtain ⟨y, ey⟩ : ∃ y, y = F_X5_get X σ (q_rf X (q_rf X g 3) 4) x := ⟨_, rfl⟩
  have hy : y.toInt = l := by rw [ey, ln.2.1, v19]
  have l2 := pl_line Y G hV hy ⟨hl, by omega⟩
  have yn : y.toNatClampNeg = l.toNat := by rw [ar_cl, hy]
  refine ⟨y, hy, ?_⟩
  rw [pl_Lstep hi (by rw [f2]; omega) h5, ln.1, v18, if_pos rfl]
  unfold F_X7_behindEnd
  rw [q_letE (F_X5_get X σ (q_rf X (q_rf X g 3) 4) x), ← ey, q_letE (F_X5_get X σ (q_rf X (q_rf X g 3) 3) y), l2.1]
  by_cases q : V 18 l = 4
  · have em : σ.1 (pl_T X R) l.toNat + (-1) = σ.1 (pl_T X R) l.toNat - 1 := by
      apply Int32.toInt_inj.mp
      rw [ar_add, ar_sub, ar_m1]
      rfl
    rw [if_pos q, if_pos q, pl_tadd Y D ⟨by omega, by omega⟩, yn, em, q_letE (q_si σ (pl_T X R) l.toNat (σ.1 (pl_T X R) l.toNat - 1)), pl_tget Y D ⟨by omega, by omega⟩, yn, si_eq, q_letE (σ.1 (pl_T X R) l.toNat - 1)]
    by_cases q2 : 0 < (σ.1 (pl_T X R) l.toNat - 1).toInt
    · rw [if_pos q2, if_pos q2, q_letE (y + 1), q_biP (y + 1)]
    · rw [if_neg q2, if_neg q2, q_letE (x + 1), q_biP (x + 1)]
  · rw [if_neg q, if_neg q, q_letE (x + 1), q_biP (x + 1)]
theorem pl_J.sq (Y : y_S X lb) (ha : q_kd X a = 12) (J : pl_J X g a R V0 c0 n σ τ) {f : Nat} {v : Int32} (h : f ≠ 39 ∧ f ≠ 40 ∧ f ≠ 41 ∧ f ≠ 42 ∧ f ≠ 43 ∧ f ≠ 44 ∧ f ≠ 45) : pl_J X g a R V0 c0 n σ (q_si τ a f v) := by
  obtain ⟨⟨k6, k2, k3, k4⟩, j0, j1, j5, jb, V', c', i1, i2, i3⟩ := J
  have e : ∀ f', f' ≠ f → (q_si τ a f v).1 a f' = τ.1 a f' := fun f' hf => si_f hf _
  refine ⟨⟨?_, ?_, ?_, ?_⟩, ?_, ?_, ?_, ?_, V', c', i1, (mv_cell Y.1 ha f v).trans i2, ?_⟩
  · rw [e 39 (Ne.symm h.1)]; exact k6
  · rw [e 42 (by omega)]; exact k2
  · rw [e 43 (by omega)]; exact k3
  · rw [e 44 (by omega)]; exact k4
  · rw [e 40 (by omega)]; exact j0
  · rw [e 41 (by omega)]; exact j1
  · rw [e 45 (by omega)]; exact j5
  · rw [e 40 (by omega)]; exact jb
  · rw [e 40 (by omega)]; exact i3
theorem pl_J.st (Y : y_S X lb) (G : y_G X lb g o) (D : pl_D X lb o R) (J : pl_J X g a R V0 c0 n σ τ) (f : Nat) (v : Int32) : pl_J X g a R V0 c0 n (q_si σ (pl_T X R) f v) τ := by
  obtain ⟨⟨k6, k2, k3, k4⟩, j0, j1, j5, jb, V', c', i1, i2, i3⟩ := J
  have e : ∀ f', (q_si σ (pl_T X R) f v).1 R f' = σ.1 R f' := fun f' => q_si_ne (Ne.symm D.ne) f'
  refine ⟨⟨?_, ?_, ?_, ?_⟩, ?_, ?_, ?_, jb, V', c', (pl_vo Y G D.2.2.1 f v).trans i1, i2, i3⟩
  · rw [e]; exact k6
  · rw [e]; exact k2
  · rw [e]; exact k3
  · rw [e]; exact k4
  · rw [e]; exact j0
  · rw [e]; exact j1
  · rw [e]; exact j5
/-- a cell written as it was -/
theorem pl_same (τ : ST) (b f : Nat) : q_si τ b f (τ.1 b f) = τ := by
  have e : (fun b' f' => if b' = b ∧ f' = f then τ.1 b f else τ.1 b' f') = τ.1 := by
    funext b' f'
    split
    · rename_i h
      rw [h.1, h.2]
    · rfl
  unfold q_si
  rw [e]
/-- a step counted in both -/
theorem pl_J.step (Y : y_S X lb) (G : y_G X lb g o) (D : pl_D X lb o R) (ha : q_kd X a = 12) (J : pl_J X g a R V0 c0 n σ τ) (h : (τ.1 a 40).toInt ≠ 300) : pl_J X g a R V0 c0 n (q_si σ R 0 (σ.1 R 0 + 1)) (q_si τ a 40 (τ.1 a 40 + 1)) ∧ ((q_si τ a 40 (τ.1 a 40 + 1)).1 a 40).toInt = (τ.1 a 40).toInt + 1 := by
  obtain ⟨⟨k6, k2, k3, k4⟩, j0, j1, j5, jb, V', c', i1, i2, i3, i4, i5, i6⟩ := J
  have e : ∀ f', f' ≠ 40 → (q_si τ a 40 (τ.1 a 40 + 1)).1 a f' = τ.1 a f' := fun f' hf => si_f hf _
  have e' : ∀ f', f' ≠ 0 → (q_si σ R 0 (σ.1 R 0 + 1)).1 R f' = σ.1 R f' := fun f' hf => si_f hf _
  have e1 : ((q_si τ a 40 (τ.1 a 40 + 1)).1 a 40).toInt = (τ.1 a 40).toInt + 1 := by
    rw [si_eq]
    exact y_inc (by omega)
  refine ⟨⟨⟨?_, ?_, ?_, ?_⟩, ?_, ?_, ?_, ?_, V', c', (pl_vo Y G D.2.1 _ _).trans i1, (mv_cell Y.1 ha _ _).trans i2, i3, i4, i5.le (by omega), i6⟩, e1⟩
  · rw [e 39 (by decide), e' 6 (by decide)]; exact k6
  · rw [e 42 (by decide), e' 2 (by decide)]; exact k2
  · rw [e 43 (by decide), e' 3 (by decide)]; exact k3
  · rw [e 44 (by decide), e' 4 (by decide)]; exact k4
  · rw [si_eq, si_eq, j0]
  · rw [e 41 (by decide), e' 1 (by decide)]; exact j1
  · rw [e 45 (by decide), e' 5 (by decide)]; exact j5
  · omega
end PE
