/-! FROM 49zd.round.lean.txt -/
/-! A ROUND: both answer the same, all stays the same -/
/-- what a round leaves: a refusal, a text read -/
def rr_Out (C a : Nat) (σ τ : ST) (v : Int32) (m : Int) (σ' τ' : ST) : Prop :=
  ((v.toInt < 0 ∨ m < v.toInt ∨ 300 < v.toInt) ∧ tk (fun b f => b = C ∧ f = 0) σ σ' ∧ tkl (fun b f => b = a ∧ (f = 0 ∨ f = 1)) (fun _ _ => False) τ τ') ∨
  ((0 ≤ v.toInt ∧ v.toInt ≤ m ∧ v.toInt ≤ 300) ∧ (σ'.1 C 5).toInt = 0 ∧ (τ'.1 a 8).toInt = 0 ∧ (σ'.1 C 6).toInt = (τ'.1 a 10).toInt ∧ (σ'.1 C 7).toInt = (τ'.1 a 11).toInt)
theorem rg.w3 {V V' : Nat → Int → Int} {c : Int → Int} (R : rg V c) (hV : ∀ (id : Nat) (i : Int), id < 3 ∨ 3 < id ∧ id < 18 → V' id i = V id i) : rg V' c := by
  have h0 : ∀ i, V' 0 i = V 0 i := fun i => hV 0 i (by decide)
  have h1 : ∀ i, V' 1 i = V 1 i := fun i => hV 1 i (by decide)
  have h2 : ∀ i, V' 2 i = V 2 i := fun i => hV 2 i (by decide)
  have h4 : ∀ i, V' 4 i = V 4 i := fun i => hV 4 i (by decide)
  have h7 : ∀ i, V' 7 i = V 7 i := fun i => hV 7 i (by decide)
  have h8 : ∀ i, V' 8 i = V 8 i := fun i => hV 8 i (by decide)
  have h9 : ∀ i, V' 9 i = V 9 i := fun i => hV 9 i (by decide)
  have h10 : ∀ i, V' 10 i = V 10 i := fun i => hV 10 i (by decide)
  have h11 : ∀ i, V' 11 i = V 11 i := fun i => hV 11 i (by decide)
  have h12 : ∀ i, V' 12 i = V 12 i := fun i => hV 12 i (by decide)
  have h13 : ∀ i, V' 13 i = V 13 i := fun i => hV 13 i (by decide)
  have h14 : ∀ i, V' 14 i = V 14 i := fun i => hV 14 i (by decide)
  have h15 : ∀ i, V' 15 i = V 15 i := fun i => hV 15 i (by decide)
  have h16 : ∀ i, V' 16 i = V 16 i := fun i => hV 16 i (by decide)
  have h17 : ∀ i, V' 17 i = V 17 i := fun i => hV 17 i (by decide)
  unfold rg rg_t rg_s rg_p rg_h rg_l rg_a at R ⊢
  simp only [h0, h1, h2, h4, h7, h8, h9, h10, h11, h12, h13, h14, h15, h16, h17]
  exact R
section RDD
variable {X : XW} {lb : Nat → Nat} {C a : Nat} {σ τ : ST} {n m : Int} {B : Int → Int}
theorem rr_open0 (h8 : (τ.1 a 8).toInt = m) {v : Int32} (h : v.toInt < 0 ∨ m < v.toInt ∨ 300 < v.toInt) : F_X12_round X τ a v = (-1, q_si (q_si (q_si τ a 1 0) a 0 0) a 0 5) := by
  have d8 : ((q_si (q_si τ a 1 0) a 0 0).1 a 8).toInt = m := by rw [si_f (by decide), si_f (by decide)]; exact h8
  have e300 : (300 : Int32).toInt = 300 := rfl
  unfold F_X12_round F_X12_opens F_X12_no
  rw [q_letE (q_si τ a 1 0), q_letE (q_si (q_si τ a 1 0) a 0 0)]
  obtain ⟨τ2, e2⟩ : ∃ s, s = q_si (q_si τ a 1 0) a 0 0 := ⟨_, rfl⟩
  rw [← e2] at d8 ⊢
  by_cases q1 : v.toInt < 0
  · rw [if_pos q1, q_letE (q_si τ2 a 0 5), q_biP (0 : Int32) (q_si τ2 a 0 5), q_biP (0 : Int32) (q_si τ2 a 0 5), if_pos (by decide)]
  · rw [if_neg q1, q_letE (τ2.1 a 8), d8]
    by_cases q2 : m < v.toInt
    · rw [if_pos q2, q_letE (q_si τ2 a 0 5), q_biP (0 : Int32) (q_si τ2 a 0 5), q_biP (0 : Int32) (q_si τ2 a 0 5), if_pos (by decide)]
    · rw [if_neg q2, e300, if_pos (by omega), q_letE (q_si τ2 a 0 5), q_biP (0 : Int32) (q_si τ2 a 0 5), q_biP (0 : Int32) (q_si τ2 a 0 5), if_pos (by decide)]
theorem rr_open1 (h8 : (τ.1 a 8).toInt = m) {v : Int32} (h : 0 ≤ v.toInt ∧ v.toInt ≤ m ∧ v.toInt ≤ 300) : ∃ τ3 : ST, τ3 = q_si (q_si (q_si (q_si (q_si (q_si τ a 1 0) a 0 0) a 9 v) a 8 0) a 16 0) a 12 0 ∧ F_X12_round X τ a v = F_X12_round_L28_1 X a ((901 - ((q_si (F_X12_next X τ3 a) a 27 0).1 a 15).toInt).toNat + (1 - ((q_si (F_X12_next X τ3 a) a 27 0).1 a 12).toInt).toNat + 1) (q_si (F_X12_next X τ3 a) a 27 0) := by
  refine ⟨_, rfl, ?_⟩
  have d8 : ((q_si (q_si τ a 1 0) a 0 0).1 a 8).toInt = m := by rw [si_f (by decide), si_f (by decide)]; exact h8
  have e300 : (300 : Int32).toInt = 300 := rfl
  unfold F_X12_round F_X12_opens
  rw [q_letE (q_si τ a 1 0), q_letE (q_si (q_si τ a 1 0) a 0 0)]
  obtain ⟨τ2, e2⟩ : ∃ s, s = q_si (q_si τ a 1 0) a 0 0 := ⟨_, rfl⟩
  rw [← e2] at d8 ⊢
  rw [if_neg (by omega : ¬ v.toInt < 0), q_letE (τ2.1 a 8), d8, if_neg (by omega : ¬ m < v.toInt), e300, if_neg (by omega : ¬ (300 : Int) < v.toInt), q_letE (q_si τ2 a 9 v), q_letE (q_si (q_si τ2 a 9 v) a 8 0), q_letE (q_si (q_si (q_si τ2 a 9 v) a 8 0) a 16 0), q_letE (q_si (q_si (q_si (q_si τ2 a 9 v) a 8 0) a 16 0) a 12 0)]
  obtain ⟨τ3, e3⟩ : ∃ s, s = q_si (q_si (q_si (q_si τ2 a 9 v) a 8 0) a 16 0) a 12 0 := ⟨_, rfl⟩
  rw [← e3, q_letE (F_X12_next X τ3 a), q_biP (1 : Int32) (F_X12_next X τ3 a), if_neg (by decide), q_letE (q_si (F_X12_next X τ3 a) a 27 0)]
theorem rr_cl0 (h5 : (σ.1 C 5).toInt = m) {v : Int32} (h : v.toInt < 0 ∨ m < v.toInt ∨ 300 < v.toInt) : F_X11_round X σ C v = (-1, q_si σ C 0 5) := by
  have e300 : (300 : Int32).toInt = 300 := rfl
  unfold F_X11_round
  rw [mv_none σ 5]
  by_cases q1 : v.toInt < 0
  · rw [if_pos q1, q_biP (-1 : Int32) (q_si σ C 0 5)]
  · rw [if_neg q1, q_letE (σ.1 C 5), h5]
    by_cases q2 : m < v.toInt
    · rw [if_pos q2, q_biP (-1 : Int32) (q_si σ C 0 5)]
    · rw [if_neg q2, if_pos (by omega), q_biP (-1 : Int32) (q_si σ C 0 5)]
theorem rr_cl1 (h5 : (σ.1 C 5).toInt = m) {v : Int32} (h : 0 ≤ v.toInt ∧ v.toInt ≤ m ∧ v.toInt ≤ 300) {z : Int32} {σ' : ST} (e : F_X4_takes X σ (q_rf X C 13) (q_rf X C 4) v (q_rf X (q_rf X C 8) 0) = (z, σ')) : ∃ σ9 : ST, tk (fun b f => b = C ∧ (f = 5 ∨ f = 6 ∨ f = 7)) σ' σ9 ∧ σ9.1 C 5 = 0 ∧ (C ≠ q_rf X C 13 → σ9.1 C 6 = σ'.1 (q_rf X C 13) 6 ∧ σ9.1 C 7 = σ'.1 (q_rf X C 13) 7) ∧
    (z.toInt = 0 → F_X11_round X σ C v = (-1, q_si σ9 C 0 10)) ∧ (z.toInt = 1 → F_X11_round X σ C v = ((F_X8_copyFrom X σ9 (q_rf X (q_rf X C 8) 3) (q_rf X (q_rf X C 13) 8)).1 (q_rf X (q_rf X C 8) 3) 1, q_si (F_X8_copyFrom X σ9 (q_rf X (q_rf X C 8) 3) (q_rf X (q_rf X C 13) 8)) C 0 0)) := by
  have e300 : (300 : Int32).toInt = 300 := rfl
  have t9 : tk (fun b f => b = C ∧ (f = 5 ∨ f = 6 ∨ f = 7)) σ' (q_si (q_si (q_si σ' C 5 0) C 6 ((q_si σ' C 5 0).1 (q_rf X C 13) 6)) C 7 ((q_si (q_si σ' C 5 0) C 6 ((q_si σ' C 5 0).1 (q_rf X C 13) 6)).1 (q_rf X C 13) 7)) := ((tk.rf.si _ ⟨rfl, Or.inl rfl⟩).si _ ⟨rfl, Or.inr (Or.inl rfl)⟩).si _ ⟨rfl, Or.inr (Or.inr rfl)⟩
  have g5 : (q_si (q_si (q_si σ' C 5 0) C 6 ((q_si σ' C 5 0).1 (q_rf X C 13) 6)) C 7 ((q_si (q_si σ' C 5 0) C 6 ((q_si σ' C 5 0).1 (q_rf X C 13) 6)).1 (q_rf X C 13) 7)).1 C 5 = 0 := by rw [si_f (by decide), si_f (by decide), si_eq]
  have g67 : C ≠ q_rf X C 13 → (q_si (q_si (q_si σ' C 5 0) C 6 ((q_si σ' C 5 0).1 (q_rf X C 13) 6)) C 7 ((q_si (q_si σ' C 5 0) C 6 ((q_si σ' C 5 0).1 (q_rf X C 13) 6)).1 (q_rf X C 13) 7)).1 C 6 = σ'.1 (q_rf X C 13) 6 ∧ (q_si (q_si (q_si σ' C 5 0) C 6 ((q_si σ' C 5 0).1 (q_rf X C 13) 6)) C 7 ((q_si (q_si σ' C 5 0) C 6 ((q_si σ' C 5 0).1 (q_rf X C 13) 6)).1 (q_rf X C 13) 7)).1 C 7 = σ'.1 (q_rf X C 13) 7 := fun nCD => ⟨by rw [si_f (by decide), si_eq, q_si_ne (Ne.symm nCD)], by rw [si_eq, q_si_ne (Ne.symm nCD), q_si_ne (Ne.symm nCD)]⟩
  have er : F_X11_endReading X σ' C (q_rf X C 13) = q_si (q_si (q_si σ' C 5 0) C 6 ((q_si σ' C 5 0).1 (q_rf X C 13) 6)) C 7 ((q_si (q_si σ' C 5 0) C 6 ((q_si σ' C 5 0).1 (q_rf X C 13) 6)).1 (q_rf X C 13) 7) := by
    unfold F_X11_endReading
    rw [q_letE (q_si σ' C 5 0), q_letE ((q_si σ' C 5 0).1 (q_rf X C 13) 6), q_letE (q_si (q_si σ' C 5 0) C 6 ((q_si σ' C 5 0).1 (q_rf X C 13) 6)), q_letE ((q_si (q_si σ' C 5 0) C 6 ((q_si σ' C 5 0).1 (q_rf X C 13) 6)).1 (q_rf X C 13) 7), q_letE]
  obtain ⟨σ9, e9⟩ : ∃ s, s = q_si (q_si (q_si σ' C 5 0) C 6 ((q_si σ' C 5 0).1 (q_rf X C 13) 6)) C 7 ((q_si (q_si σ' C 5 0) C 6 ((q_si σ' C 5 0).1 (q_rf X C 13) 6)).1 (q_rf X C 13) 7) := ⟨_, rfl⟩
  rw [← e9] at t9 g5 g67 er
  have main : F_X11_round X σ C v = if z.toInt = 0 then (-1, q_si σ9 C 0 10) else ((F_X8_copyFrom X σ9 (q_rf X (q_rf X C 8) 3) (q_rf X (q_rf X C 13) 8)).1 (q_rf X (q_rf X C 8) 3) 1, q_si (F_X8_copyFrom X σ9 (q_rf X (q_rf X C 8) 3) (q_rf X (q_rf X C 13) 8)) C 0 0) := by
    unfold F_X11_round
    rw [if_neg (by omega : ¬ v.toInt < 0), q_letE (σ.1 C 5), h5, if_neg (by omega : ¬ m < v.toInt), if_neg (by omega), e, q_biP z σ', er, q_letE σ9]
    by_cases q : z.toInt = 0
    · rw [if_pos q, if_pos q, mv_none, q_biP (-1 : Int32) (q_si σ9 C 0 10)]
    · rw [if_neg q, if_neg q]
      obtain ⟨σ10, e10⟩ : ∃ s, s = F_X8_copyFrom X σ9 (q_rf X (q_rf X C 8) 3) (q_rf X (q_rf X C 13) 8) := ⟨_, rfl⟩
      rw [← e10, q_letE σ10, q_letE (σ10.1 (q_rf X (q_rf X C 8) 3) 1), mv_good, q_biP (σ10.1 (q_rf X (q_rf X C 8) 3) 1) (q_si σ10 C 0 0)]
  exact ⟨σ9, t9, g5, g67, fun q => by rw [main, if_pos q], fun q => by rw [main, if_neg (by omega)]⟩
end RDD
