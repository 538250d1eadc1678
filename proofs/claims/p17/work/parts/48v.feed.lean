/-! FEED: both tapes take the same bytes -/
def tp_R (X : XW) (C a : Nat) (σ τ : ST) (m : Int) : Prop := (σ.1 C 5).toInt = m ∧ (τ.1 a 8).toInt = m ∧ ∀ p : Int, 0 ≤ p → p < m → σ.1 (q_rf X C 4) p.toNat = τ.1 (q_rf X a 7) p.toNat ∧ -128 ≤ (σ.1 (q_rf X C 4) p.toNat).toInt ∧ (σ.1 (q_rf X C 4) p.toNat).toInt ≤ 127
theorem tp_byte (x : Int32) : -128 ≤ (x.toInt8.toInt32).toInt ∧ (x.toInt8.toInt32).toInt ≤ 127 := by
  have h1 := Int8.le_toInt x.toInt8
  have h2 := Int8.toInt_lt x.toInt8
  rw [Int8.toInt_toInt32]
  omega
section TO
variable {X : XW} {C a : Nat} {σ τ : ST} {m : Int}
theorem tp_step (nC : q_rf X C 4 ≠ C) (na : q_rf X a 7 ≠ a) (R : tp_R X C a σ τ m) (hm : 0 ≤ m ∧ m < 900) {y : Int32} (hy : -128 ≤ y.toInt ∧ y.toInt ≤ 127) :
    tp_R X C a (q_si (q_si σ (q_rf X C 4) (σ.1 C 5).toNatClampNeg y) C 5 ((q_si σ (q_rf X C 4) (σ.1 C 5).toNatClampNeg y).1 C 5 + 1)) (q_si (q_si τ (q_rf X a 7) (τ.1 a 8).toNatClampNeg y) a 8 ((q_si τ (q_rf X a 7) (τ.1 a 8).toNatClampNeg y).1 a 8 + 1)) (m + 1) := by
  obtain ⟨R1, R2, R3⟩ := R
  refine ⟨?_, ?_, fun p p0 p1 => ?_⟩
  · rw [si_eq, q_si_ne (Ne.symm nC), y_inc (by rw [R1]; omega), R1]
  · rw [si_eq, q_si_ne (Ne.symm na), y_inc (by rw [R2]; omega), R2]
  · rw [q_si_ne nC, q_si_ne na]
    show (if q_rf X C 4 = q_rf X C 4 ∧ p.toNat = (σ.1 C 5).toNatClampNeg then y else σ.1 (q_rf X C 4) p.toNat) = (if q_rf X a 7 = q_rf X a 7 ∧ p.toNat = (τ.1 a 8).toNatClampNeg then y else τ.1 (q_rf X a 7) p.toNat) ∧ -128 ≤ (if q_rf X C 4 = q_rf X C 4 ∧ p.toNat = (σ.1 C 5).toNatClampNeg then y else σ.1 (q_rf X C 4) p.toNat).toInt ∧ (if q_rf X C 4 = q_rf X C 4 ∧ p.toNat = (σ.1 C 5).toNatClampNeg then y else σ.1 (q_rf X C 4) p.toNat).toInt ≤ 127
    rw [ar_cl, ar_cl, R1, R2]
    by_cases q : p = m
    · rw [if_pos ⟨rfl, by rw [q]⟩, if_pos ⟨rfl, by rw [q]⟩]
      exact ⟨rfl, hy⟩
    · have nq : ¬ p.toNat = m.toNat := by omega
      rw [if_neg (fun z => nq z.2), if_neg (fun z => nq z.2)]
      exact R3 p p0 (by omega)
/-- one byte of an int -/
theorem tp_it (nC : q_rf X C 4 ≠ C) (na : q_rf X a 7 ≠ a) (R : tp_R X C a σ τ m) (hm : 0 ≤ m ∧ m < 900) (v : Int32) {x x' y y' : Int32} (hx : 0 ≤ x.toInt) (hy : 0 ≤ y.toInt) (ex : x + (-8) = x') (ey : y + (-1) = y') (exy : x = (8 : Int32) * y) (k j : Nat) :
    ∃ σ' τ' : ST, F_X11_tapeInt_L3_1 X C v (k + 1) x σ = F_X11_tapeInt_L3_1 X C v k x' σ' ∧ F_X12_lays_L2_1 X a v (j + 1) y τ = F_X12_lays_L2_1 X a v j y' τ' ∧ tp_R X C a σ' τ' (m + 1) := by
  obtain ⟨R1, R2, R3⟩ := id R
  have st := tp_step nC na R hm (tp_byte (v >>> (((8 : Int32) * y) &&& 31)).toInt8.toInt32)
  rw [F_X11_tapeInt_L3_1_s, F_X12_lays_L2_1_s]
  unfold F_X11_tapeInt_B3_1 F_X12_lays_B2_1
  rw [if_neg (by omega : ¬ x.toInt < 0), q_letE, R1, if_neg (by omega : ¬ m < 0), q_letE, R1, if_pos hm.2, if_neg (by omega : ¬ y.toInt < 0)]
  rw [q_letE (σ.1 C 5), q_letE (v >>> (x &&& 31)), q_letE ((v >>> (x &&& 31)).toInt8.toInt32), q_letE, q_letE, q_letE, q_letE, q_letE]
  rw [q_letE (τ.1 a 8), q_letE ((8 : Int32) * y), q_letE (v >>> (((8 : Int32) * y) &&& 31)), q_letE ((v >>> (((8 : Int32) * y) &&& 31)).toInt8.toInt32), q_letE, q_letE, q_letE, q_letE, q_letE]
  rw [ex, ey, exy]
  exact ⟨_, _, rfl, rfl, st⟩
theorem tp_int (nC : q_rf X C 4 ≠ C) (na : q_rf X a 7 ≠ a) (R : tp_R X C a σ τ m) (hm : 0 ≤ m ∧ m + 4 ≤ 900) (v : Int32) : tp_R X C a (F_X11_tapeInt X σ C v) (F_X12_lays X τ a v) (m + 4) := by
  unfold F_X11_tapeInt F_X12_lays
  have e24 : (24 : Int32).toInt = 24 := rfl
  have e3 : (3 : Int32).toInt = 3 := rfl
  obtain ⟨k, hk⟩ : ∃ k, ((24 : Int32).toInt + 2147483656).toNat + 1 = k + 1 + 1 + 1 + 1 + 1 := ⟨((24 : Int32).toInt + 2147483656).toNat - 4, by rw [e24]; omega⟩
  obtain ⟨j, hj⟩ : ∃ j, ((3 : Int32).toInt + 2147483656).toNat + 1 = j + 1 + 1 + 1 + 1 + 1 := ⟨((3 : Int32).toInt + 2147483656).toNat - 4, by rw [e3]; omega⟩
  rw [hk, hj]
  obtain ⟨σ1, τ1, a1, b1, R1⟩ := tp_it nC na R ⟨hm.1, by omega⟩ v (x := 24) (x' := 16) (y := 3) (y' := 2) (by decide) (by decide) (by decide) (by decide) (by decide) (k + 1 + 1 + 1 + 1) (j + 1 + 1 + 1 + 1)
  obtain ⟨σ2, τ2, a2, b2, R2⟩ := tp_it nC na R1 ⟨by omega, by omega⟩ v (x := 16) (x' := 8) (y := 2) (y' := 1) (by decide) (by decide) (by decide) (by decide) (by decide) (k + 1 + 1 + 1) (j + 1 + 1 + 1)
  obtain ⟨σ3, τ3, a3, b3, R3⟩ := tp_it nC na R2 ⟨by omega, by omega⟩ v (x := 8) (x' := 0) (y := 1) (y' := 0) (by decide) (by decide) (by decide) (by decide) (by decide) (k + 1 + 1) (j + 1 + 1)
  obtain ⟨σ4, τ4, a4, b4, R4⟩ := tp_it nC na R3 ⟨by omega, by omega⟩ v (x := 0) (x' := -8) (y := 0) (y' := -1) (by decide) (by decide) (by decide) (by decide) (by decide) (k + 1) (j + 1)
  rw [a1, a2, a3, a4, b1, b2, b3, b4, F_X11_tapeInt_L3_1_s, F_X12_lays_L2_1_s]
  unfold F_X11_tapeInt_B3_1 F_X12_lays_B2_1
  rw [if_pos (by decide : ((-8) : Int32).toInt < 0), if_pos (by decide : ((-1) : Int32).toInt < 0)]
  have em : m + 1 + 1 + 1 + 1 = m + 4 := by omega
  rw [em] at R4
  exact R4
theorem tp_feed (nC : q_rf X C 4 ≠ C) (na : q_rf X a 7 ≠ a) (R : tp_R X C a σ τ m) (hm : 0 ≤ m ∧ m ≤ 900) (v1 v2 v3 v4 v5 : Int32) : (F_X11_feed X σ C v1 v2 v3 v4 v5).1 = (F_X12_feed X τ a v1 v2 v3 v4 v5).1 ∧ ∃ m' : Int, 0 ≤ m' ∧ m' ≤ 900 ∧ tp_R X C a (F_X11_feed X σ C v1 v2 v3 v4 v5).2 (F_X12_feed X τ a v1 v2 v3 v4 v5).2 m' := by
  have e20 : (20 : Int32).toInt = 20 := rfl
  have R0 : tp_R X C a σ (q_si τ a 1 0) m := by
    obtain ⟨R1, R2, R3⟩ := R
    exact ⟨R1, by rw [si_f (by decide)]; exact R2, fun p p0 p1 => by rw [q_si_ne na]; exact R3 p p0 p1⟩
  unfold F_X11_feed F_X12_feed
  rw [q_letE (q_si τ a 1 0)]
  obtain ⟨τ0, h0⟩ : ∃ s, s = q_si τ a 1 0 := ⟨_, rfl⟩
  rw [← h0] at R0 ⊢
  have z1 : (σ.1 C 5 + 20).toInt = m + 20 := by rw [ar_add, R0.1, e20, ar_wr (by omega) (by omega)]
  have z2 : (τ0.1 a 8 + 20).toInt = m + 20 := by rw [ar_add, R0.2.1, e20, ar_wr (by omega) (by omega)]
  rw [q_letE (σ.1 C 5), q_letE (σ.1 C 5 + 20), q_letE (τ0.1 a 8), q_letE (τ0.1 a 8 + 20), z1, z2]
  by_cases q : 900 < m + 20
  · rw [if_pos q, if_pos q]
    exact ⟨rfl, m, hm.1, hm.2, R0⟩
  · rw [if_neg q, if_neg q]
    have S1 := tp_int nC na R0 ⟨hm.1, by omega⟩ v1
    rw [q_letE (F_X11_tapeInt X σ C v1), q_letE (F_X12_lays X τ0 a v1)]
    obtain ⟨σ1, g1⟩ : ∃ s, s = F_X11_tapeInt X σ C v1 := ⟨_, rfl⟩
    obtain ⟨τ1, h1⟩ : ∃ s, s = F_X12_lays X τ0 a v1 := ⟨_, rfl⟩
    rw [← g1, ← h1] at S1 ⊢
    have S2 := tp_int nC na S1 ⟨by omega, by omega⟩ v2
    rw [q_letE (F_X11_tapeInt X σ1 C v2), q_letE (F_X12_lays X τ1 a v2)]
    obtain ⟨σ2, g2⟩ : ∃ s, s = F_X11_tapeInt X σ1 C v2 := ⟨_, rfl⟩
    obtain ⟨τ2, h2⟩ : ∃ s, s = F_X12_lays X τ1 a v2 := ⟨_, rfl⟩
    rw [← g2, ← h2] at S2 ⊢
    have S3 := tp_int nC na S2 ⟨by omega, by omega⟩ v3
    rw [q_letE (F_X11_tapeInt X σ2 C v3), q_letE (F_X12_lays X τ2 a v3)]
    obtain ⟨σ3, g3⟩ : ∃ s, s = F_X11_tapeInt X σ2 C v3 := ⟨_, rfl⟩
    obtain ⟨τ3, h3⟩ : ∃ s, s = F_X12_lays X τ2 a v3 := ⟨_, rfl⟩
    rw [← g3, ← h3] at S3 ⊢
    have S4 := tp_int nC na S3 ⟨by omega, by omega⟩ v4
    rw [q_letE (F_X11_tapeInt X σ3 C v4), q_letE (F_X12_lays X τ3 a v4)]
    obtain ⟨σ4, g4⟩ : ∃ s, s = F_X11_tapeInt X σ3 C v4 := ⟨_, rfl⟩
    obtain ⟨τ4, h4⟩ : ∃ s, s = F_X12_lays X τ3 a v4 := ⟨_, rfl⟩
    rw [← g4, ← h4] at S4 ⊢
    have S5 := tp_int nC na S4 ⟨by omega, by omega⟩ v5
    rw [q_letE (F_X11_tapeInt X σ4 C v5), q_letE (F_X12_lays X τ4 a v5)]
    obtain ⟨σ5, g5⟩ : ∃ s, s = F_X11_tapeInt X σ4 C v5 := ⟨_, rfl⟩
    obtain ⟨τ5, h5⟩ : ∃ s, s = F_X12_lays X τ4 a v5 := ⟨_, rfl⟩
    rw [← g5, ← h5] at S5 ⊢
    rw [q_letE (σ5.1 C 5), q_letE (τ5.1 a 8)]
    exact ⟨Int32.toInt_inj.mp (S5.1.trans S5.2.1.symm), m + 4 + 4 + 4 + 4 + 4, by omega, by omega, S5⟩
end TO
