/-! FROM 49zj.known.lean.txt -/
/-! OBSERVERS: known, unknown of a kind -/
section OK
variable {X : XW} {lb : Nat → Nat} {C a : Nat} {σ τ : ST} {n : Int}
theorem rg.know {V : Nat → Int → Int} {c : Int → Int} {g o : Nat} {σ0 : ST} (S : y_S X lb) (G8 : y_G X lb g o) (w : y_W X lb g o σ0 σ V) (R : rg V c) (G : m_G c) (hc : m_c X τ a = c) {v1 v2 : Int32} {p k : Int} (hv1 : v1.toInt = p) (hv2 : v2.toInt = k) (hp : 0 ≤ p ∧ p < c 2) (hk : 0 ≤ k ∧ k < 10) : (F_X1_knownTo X σ (q_rf X g 1) v1 v2).toInt = c (34 + 10 * p + k) + m_A c p k (c 9).toNat ∧ (F_X12_knownOf X τ a v1 v2).toInt = c (34 + 10 * p + k) + m_A c p k (c 9).toNat ∧ (F_X0_unknownTo X σ g v1 v2).toInt = m_U c p k ∧ (F_X12_unknownOf X τ a v1 v2).toInt = m_U c p k := by
  have h2 : 0 ≤ c 2 ∧ c 2 ≤ 6 := G.1.2.1
  have b9 := G.1.2.2.2.2.2.2.1
  have e10 : (10 : Int32).toInt = 10 := rfl
  have n7 : ((y_gn 7 : Nat) : Int) = 60 := rfl
  have n8 : ((y_gn 8 : Nat) : Int) = 60 := rfl
  have n4 : ((y_gn 4 : Nat) : Int) = 10 := rfl
  have ix : (v1 * (10 : Int32) + v2).toInt = 10 * p + k := by
    rw [ar_add, ar_mul, e10, hv1, hv2, ar_wr (n := p * 10) (by omega) (by omega), ar_wr (by omega) (by omega)]
    omega
  have hb := G.h80 hp.1 (by omega : p < 6) hk.1 hk.2
  have ab := G.A_bd p k (c 9).toNat (by omega)
  have l80 := G.L80 b9.1 (Int.le_refl (c 9))
  have ib := G.I_bd hk.1 hk.2
  have ho := gm_handOf (X := X) (τ := τ) (a := a) hc hv1 hv2 ⟨hp.1, by omega⟩ hk
  have lo := gm_laidOf (X := X) (τ := τ) (a := a) hc G hv1 hv2
  have io := gm_inGameOf (X := X) (τ := τ) (a := a) hc G hv2 hk
  have kn1 : (F_X1_knownTo X σ (q_rf X g 1) v1 v2).toInt = c (34 + 10 * p + k) + m_A c p k (c 9).toNat := by
    unfold F_X1_knownTo
    rw [q_letE (v1 * (10 : Int32)), q_letE (v1 * (10 : Int32) + v2), q_letE, q_letE, q_letE, ar_add, y_getI S G8 w (id := 7) (r := q_rf X (q_rf X g 1) 0) ⟨by decide, by decide⟩ rfl ix (by omega) (by rw [n7]; omega), y_getI S G8 w (id := 8) (r := q_rf X (q_rf X g 1) 1) ⟨by decide, by decide⟩ rfl ix (by omega) (by rw [n8]; omega), R.2.2.2.1.1 _ (by omega) (by omega), R.2.2.2.2.2.1 p k hp.1 (by omega) hk.1 hk.2]
    have e : (34 : Int) + (10 * p + k) = 34 + 10 * p + k := by omega
    rw [e, ar_wr (by omega) (by omega)]
  have kn2 : (F_X12_knownOf X τ a v1 v2).toInt = c (34 + 10 * p + k) + m_A c p k (c 9).toNat := by
    unfold F_X12_knownOf
    rw [q_letE (F_X12_handOf X τ a v1 v2), q_letE (F_X12_laidOf X τ a v1 v2), q_letE, ar_add, ho, lo, ar_wr (by omega) (by omega)]
  refine ⟨kn1, kn2, ?_, ?_⟩
  · unfold F_X0_unknownTo
    rw [q_letE, q_letE (F_X1_knownTo X σ (q_rf X g 1) v1 v2), q_letE, ar_sub, kn1, y_getI S G8 w (id := 4) (r := q_rf X (q_rf X g 0) 5) ⟨by decide, by decide⟩ rfl hv2 hk.1 (by rw [n4]; omega), R.2.2.2.2.2.2 k hk.1 hk.2, ar_wr (by omega) (by omega)]
    rfl
  · unfold F_X12_unknownOf
    rw [q_letE (F_X12_inGameOf X τ a v2), q_letE (F_X12_knownOf X τ a v1 v2), q_letE, ar_sub, kn2, io, ar_wr (by omega) (by omega)]
    rfl
end OK
