/-! THE LAW: its loop, case by case -/
theorem lw_in {i L : Nat} {v : Int32} {j : Nat} (hv : v.toInt = j) (h : i + j < L) (hL : L ≤ 3072) : vp_in (nI i + v) L := by
  have e : (nI i).toInt = i := nI_toInt (by omega)
  refine vp_in_iff.mpr ?_
  rw [Int32.toInt_add, e, hv, Int.bmod_eq_of_le (by omega) (by omega)]
  omega
theorem q_c34 {X : XW} {a : Nat} (hT : q_T X) (ha : q_kd X a = 12) : q_kd X (q_rf X a 20) = 34 := (hT.1 a 20 (by rw [ha]; decide)).trans (by rw [ha]; rfl)
theorem q_c30 {X : XW} {a : Nat} (hT : q_T X) (ha : q_kd X a = 12) : q_kd X (q_rf X a 4) = 30 := (hT.1 a 4 (by rw [ha]; decide)).trans (by rw [ha]; rfl)
theorem q_c31 {X : XW} {a : Nat} (hT : q_T X) (ha : q_kd X a = 12) : q_kd X (q_rf X a 5) = 31 := (hT.1 a 5 (by rw [ha]; decide)).trans (by rw [ha]; rfl)
theorem q_c23 {X : XW} {a : Nat} (hT : q_T X) (ha : q_kd X a = 11) : q_kd X (q_rf X a 3) = 23 := (hT.1 a 3 (by rw [ha]; decide)).trans (by rw [ha]; rfl)
theorem q_c10 {X : XW} {a i : Nat} (hT : q_T X) (ha : q_kd X a = 11) (hi : i < 4) : q_kd X (q_rf X (q_rf X a 3) i) = 10 := by
  have h := q_c23 hT ha
  have e : q_rk 23 i = 10 := match i, hi with | 0, _ => rfl | 1, _ => rfl | 2, _ => rfl | 3, _ => rfl | (n + 4), hi => absurd hi (by omega)
  have z := hT.1 (q_rf X a 3) i (by rw [h, e]; decide)
  rw [z, h, e]
theorem lw_kC {X : XW} {σ σ1 : ST} {mo : Nat} {n : Int} (e2 : σ1.1 mo 24 = σ.1 mo 24) (e : m_c X σ1 mo = m_c X σ mo) (h : m_M (m_c X σ mo) (σ.1 mo 24).toInt n) : m_M (m_c X σ1 mo) (σ1.1 mo 24).toInt n := by
  rw [e, e2]
  exact h
theorem lw_kM {X : XW} {σ σ1 : ST} {mo lev : Nat} {n : Int} (hk : q_K lev X σ σ1) (hT : q_T X) (hmo : q_kd X mo = 12) (hl : 2 ≤ lev) (h : m_M (m_c X σ mo) (σ.1 mo 24).toInt n) : m_M (m_c X σ1 mo) (σ1.1 mo 24).toInt n :=
  lw_kC (hk mo 24 (by rw [hmo]; exact Nat.le_trans (by decide) hl)) (funext fun j => m_cK hk hT hmo hl j) h
theorem lw_kS {S : Nat → Nat → Prop} {X : XW} {σ σ1 : ST} {mo : Nat} {n : Int} (hk : q_KS S 8 X σ σ1) (hT : q_T X) (hmo : q_kd X mo = 12) (h1 : ∀ j, ¬ S (q_rf X mo 20) j) (h2 : ¬ S mo 24) (h : m_M (m_c X σ mo) (σ.1 mo 24).toInt n) : m_M (m_c X σ1 mo) (σ1.1 mo 24).toInt n :=
  lw_kC (hk mo 24 (by rw [hmo]; decide) h2) (funext fun j => congrArg Int32.toInt (hk _ _ (by rw [q_c34 hT hmo]; show (2 : Nat) ≤ 8; decide) (h1 _))) h
theorem lw_kT {X : XW} {σ σ1 : ST} {xo mo : Nat} {n : Int} {v1 r : Int32} {P : Prop} (h0 : 0 ≤ r.toInt ∧ r.toInt ≤ 1) (hi : r.toInt = 1 ↔ (0 ≤ v1.toInt ∧ v1.toInt < 4 ∧ P)) (hk : q_KS (fun b g => b = (q_rf X (q_rf X xo 3) v1.toNatClampNeg) ∧ g ≤ 1) 8 X σ σ1) (h8 : r.toInt = 0 → q_K 8 X σ σ1) (hT : q_T X) (hmo : q_kd X mo = 12) (hxo : q_kd X xo = 11) (h : m_M (m_c X σ mo) (σ.1 mo 24).toInt n) : m_M (m_c X σ1 mo) (σ1.1 mo 24).toInt n := by
  by_cases q : r.toInt = 1
  · obtain ⟨a, b, -⟩ := hi.mp q
    have k10 := q_c10 (i := v1.toNatClampNeg) hT hxo (by rw [q_cn]; omega)
    exact lw_kS hk hT hmo (fun j z => m_ne (q_c34 hT hmo) k10 (by decide) z.1) (fun z => m_ne hmo k10 (by decide) z.1) h
  · exact lw_kM (h8 (by omega)) hT hmo (by decide) h
theorem lw_up {c : Int → Int} {k n : Int} (h : m_M c k n) (hk : k ≤ 3) : m_M c k (n + 301) := m_M.up h h.1.1 (m_W.le h.1.2 (by omega)) (fun _ _ _ => rfl) hk (Int.le_refl k) (by omega)
theorem lw_wr {X : XW} {σ σ1 : ST} {mo : Nat} {n n' : Int} (e2 : σ1.1 mo 24 = σ.1 mo 24) (hG : m_G (m_c X σ1 mo)) (hW : m_W (m_c X σ1 mo) n') (e : ∀ j : Int, 930 ≤ j → j < 3720 → m_c X σ1 mo j = m_c X σ mo j) (h : m_M (m_c X σ mo) (σ.1 mo 24).toInt n) (h3 : (σ.1 mo 24).toInt ≤ 3) (hn : n ≤ n') : m_M (m_c X σ1 mo) (σ1.1 mo 24).toInt n' := by
  rw [e2]
  exact m_M.up h hG hW e h3 (Int.le_refl _) hn
theorem lw_eq {r r' : Int32} {P : Prop} (h : 0 ≤ r.toInt ∧ r.toInt ≤ 1) (h' : 0 ≤ r'.toInt ∧ r'.toInt ≤ 1) (i : r.toInt = 1 ↔ P) (i' : r'.toInt = 1 ↔ P) : r = r' := by
  refine Int32.toInt_inj.mp ?_
  by_cases q : P
  · have a := i.mpr q
    have b := i'.mpr q
    omega
  · have a : ¬ r.toInt = 1 := fun w => q (i.mp w)
    have b : ¬ r'.toInt = 1 := fun w => q (i'.mp w)
    omega
theorem m_and63 (x : Int32) : 0 ≤ (x &&& 63).toInt ∧ (x &&& 63).toInt ≤ 63 := by
  have h : (x &&& 63) = (x.toUInt32 &&& 63).toInt32 := rfl
  have h2 : (x.toUInt32 &&& 63).toNat ≤ 63 := by
    rw [UInt32.toNat_and]
    exact Nat.and_le_right
  have h3 : ((x.toUInt32 &&& 63).toInt32).toInt = ((x.toUInt32 &&& 63).toNat : Int) := by
    show ((x.toUInt32 &&& 63).toBitVec).toInt = _
    rw [BitVec.toInt_eq_toNat_of_lt (by show 2 * (x.toUInt32 &&& 63).toNat < _; omega)]
    rfl
  rw [h, h3]
  omega
/-! what the loop of this law keeps: the marks' numbers and the tapes' lengths of the two are the same -/
def lw_E (xo mo : Nat) (σ : ST) : Prop := (σ.1 xo 11).toInt = (σ.1 mo 24).toInt ∧ (σ.1 xo 5).toInt = (σ.1 mo 8).toInt
theorem lw_Ee {xo mo : Nat} {σ σ1 : ST} (a : σ1.1 xo 11 = σ.1 xo 11) (b : σ1.1 xo 5 = σ.1 xo 5) (c : σ1.1 mo 24 = σ.1 mo 24) (d : σ1.1 mo 8 = σ.1 mo 8) (h : lw_E xo mo σ) : lw_E xo mo σ1 := by
  unfold lw_E at h ⊢
  rw [a, b, c, d]
  exact h
theorem lw_EK {X : XW} {σ σ1 : ST} {xo mo lev : Nat} (hk : q_K lev X σ σ1) (h1 : 1 ≤ lev) (hxo : q_kd X xo = 11) (hmo : q_kd X mo = 12) (h : lw_E xo mo σ) : lw_E xo mo σ1 :=
  lw_Ee (hk _ _ (by rw [hxo]; exact h1)) (hk _ _ (by rw [hxo]; exact h1)) (hk _ _ (by rw [hmo]; exact h1)) (hk _ _ (by rw [hmo]; exact h1)) h
theorem lw_ES {S : Nat → Nat → Prop} {X : XW} {σ σ1 : ST} {xo mo lev : Nat} (hk : q_KS S lev X σ σ1) (h1 : 1 ≤ lev) (hxo : q_kd X xo = 11) (hmo : q_kd X mo = 12) (a : ¬ S xo 11) (b : ¬ S xo 5) (c : ¬ S mo 24) (d : ¬ S mo 8) (h : lw_E xo mo σ) : lw_E xo mo σ1 :=
  lw_Ee (hk _ _ (by rw [hxo]; exact h1) a) (hk _ _ (by rw [hxo]; exact h1) b) (hk _ _ (by rw [hmo]; exact h1) c) (hk _ _ (by rw [hmo]; exact h1) d) h
theorem lw_ET {X : XW} {σ σ1 : ST} {xo mo : Nat} {v1 r : Int32} {P : Prop} (h0 : 0 ≤ r.toInt ∧ r.toInt ≤ 1) (hi : r.toInt = 1 ↔ (0 ≤ v1.toInt ∧ v1.toInt < 4 ∧ P)) (hk : q_KS (fun b g => b = (q_rf X (q_rf X xo 3) v1.toNatClampNeg) ∧ g ≤ 1) 8 X σ σ1) (h8 : r.toInt = 0 → q_K 8 X σ σ1) (hT : q_T X) (hmo : q_kd X mo = 12) (hxo : q_kd X xo = 11) (h : lw_E xo mo σ) : lw_E xo mo σ1 := by
  by_cases q : r.toInt = 1
  · obtain ⟨a, b, -⟩ := hi.mp q
    have k10 := q_c10 (i := v1.toNatClampNeg) hT hxo (by rw [q_cn]; omega)
    exact lw_ES hk (by decide) hxo hmo (fun z => m_ne hxo k10 (by decide) z.1) (fun z => m_ne hxo k10 (by decide) z.1) (fun z => m_ne hmo k10 (by decide) z.1) (fun z => m_ne hmo k10 (by decide) z.1) h
  · exact lw_EK (h8 (by omega)) (by decide) hxo hmo h
theorem lw_Etape {X : XW} {σ σ1 σ2 : ST} {xo mo : Nat} {A : Int} (hxo : q_kd X xo = 11) (hmo : q_kd X mo = 12) (h : lw_E xo mo σ) {S2 : Nat → Nat → Prop} {lev : Nat} (k1 : q_KS (fun b g => b = xo ∧ g = 5) 8 X σ σ1) (k2 : q_KS S2 lev X σ1 σ2) (h1 : 1 ≤ lev) (s1 : ¬ S2 xo 11) (s2 : ¬ S2 xo 5) (s3 : ¬ S2 mo 24) (x : (σ1.1 xo 5).toInt = A) (y : (σ2.1 mo 8).toInt = A) : lw_E xo mo σ2 := by
  have ne : mo ≠ xo := m_ne hmo hxo (by decide)
  unfold lw_E at h ⊢
  rw [k2 xo 11 (by rw [hxo]; exact h1) s1, k2 xo 5 (by rw [hxo]; exact h1) s2, k2 mo 24 (by rw [hmo]; exact h1) s3, x, y, k1 xo 11 (by rw [hxo]; decide) (fun z => absurd z.2 (by decide)), k1 mo 24 (by rw [hmo]; decide) (fun z => ne z.1)]
  exact ⟨h.1, rfl⟩
theorem lw_Efeed {X : XW} {σ σ1 σ2 : ST} {xo mo : Nat} {r1 r2 : Int32} (hxo : q_kd X xo = 11) (hmo : q_kd X mo = 12) (h : lw_E xo mo σ) (k1 : q_KS (fun b g => b = xo ∧ g = 5) 8 X σ σ1) (a1 : (σ.1 xo 5).toInt + 20 > 900 → r1.toInt = -1 ∧ (σ1.1 xo 5).toInt = (σ.1 xo 5).toInt) (a2 : (σ.1 xo 5).toInt + 20 ≤ 900 → r1.toInt = (σ.1 xo 5).toInt + 20 ∧ (σ1.1 xo 5).toInt = (σ.1 xo 5).toInt + 20) (k2 : q_KS (fun b g => b = mo ∧ g = 8) 8 X σ1 σ2) (b1 : (σ1.1 mo 8).toInt + 20 > 900 → r2.toInt = -1 ∧ (σ2.1 mo 8).toInt = (σ1.1 mo 8).toInt) (b2 : (σ1.1 mo 8).toInt + 20 ≤ 900 → r2.toInt = (σ1.1 mo 8).toInt + 20 ∧ (σ2.1 mo 8).toInt = (σ1.1 mo 8).toInt + 20) : lw_E xo mo σ2 ∧ r1 = r2 := by
  have ne : mo ≠ xo := m_ne hmo hxo (by decide)
  have c : σ1.1 mo 8 = σ.1 mo 8 := k1 mo 8 (by rw [hmo]; decide) (fun z => ne z.1)
  have e := h.2
  rw [c] at b1 b2
  refine ⟨lw_Etape (A := (σ1.1 xo 5).toInt) hxo hmo h k1 k2 (by decide) (fun z => ne z.1.symm) (fun z => ne z.1.symm) (fun z => absurd z.2 (by decide)) rfl ?_, Int32.toInt_inj.mp ?_⟩
  · by_cases q : (σ.1 xo 5).toInt + 20 > 900
    · have := a1 q; have := b1 (by omega); omega
    · have := a2 (by omega); have := b2 (by omega); omega
  · by_cases q : (σ.1 xo 5).toInt + 20 > 900
    · have := a1 q; have := b1 (by omega); omega
    · have := a2 (by omega); have := b2 (by omega); omega
theorem lw_Etable {X : XW} {σ σ1 σ2 : ST} {xo mo : Nat} {v : Int32} (hxo : q_kd X xo = 11) (hmo : q_kd X mo = 12) (h : lw_E xo mo σ) (k1 : q_KS (fun b g => b = xo ∧ g = 5) 8 X σ σ1) (a1 : (v.toInt < 0 ∨ (σ.1 xo 5).toInt < v.toInt) → (σ1.1 xo 5).toInt = (σ.1 xo 5).toInt) (a2 : (0 ≤ v.toInt ∧ v.toInt ≤ (σ.1 xo 5).toInt) → (σ1.1 xo 5).toInt = 0) (k2 : q_KS (fun b g => b = mo ∧ 8 ≤ g ∧ g ≤ 18) 1 X σ1 σ2) (b1 : (v.toInt < 0 ∨ (σ1.1 mo 8).toInt < v.toInt) → (σ2.1 mo 8).toInt = (σ1.1 mo 8).toInt) (b2 : (0 ≤ v.toInt ∧ v.toInt ≤ (σ1.1 mo 8).toInt) → (σ2.1 mo 8).toInt = 0) : lw_E xo mo σ2 ∧ True := by
  have ne : mo ≠ xo := m_ne hmo hxo (by decide)
  have c : σ1.1 mo 8 = σ.1 mo 8 := k1 mo 8 (by rw [hmo]; decide) (fun z => ne z.1)
  have e := h.2
  rw [c] at b1 b2
  refine ⟨lw_Etape (A := (σ1.1 xo 5).toInt) hxo hmo h k1 k2 (by decide) (fun z => ne z.1.symm) (fun z => ne z.1.symm) (fun z => absurd z.2.2 (by decide)) rfl ?_, trivial⟩
  by_cases q : v.toInt < 0 ∨ (σ.1 xo 5).toInt < v.toInt
  · rw [a1 q, b1 (by omega)]; omega
  · rw [a2 (by omega), b2 (by omega)]
theorem lw_Eround {X : XW} {σ σ1 σ2 : ST} {xo mo : Nat} {v : Int32} (hxo : q_kd X xo = 11) (hmo : q_kd X mo = 12) (h : lw_E xo mo σ) (k1 : q_KS (fun b g => b = xo ∧ g = 5) 8 X σ σ1) (a1 : (v.toInt < 0 ∨ (σ.1 xo 5).toInt < v.toInt ∨ 300 < v.toInt) → (σ1.1 xo 5).toInt = (σ.1 xo 5).toInt) (a2 : (0 ≤ v.toInt ∧ v.toInt ≤ (σ.1 xo 5).toInt ∧ v.toInt ≤ 300) → (σ1.1 xo 5).toInt = 0) (k2 : q_KS (fun b g => b = mo ∧ 8 ≤ g ∧ g ≤ 18) 1 X σ1 σ2) (b1 : (v.toInt < 0 ∨ (σ1.1 mo 8).toInt < v.toInt ∨ 300 < v.toInt) → (σ2.1 mo 8).toInt = (σ1.1 mo 8).toInt) (b2 : (0 ≤ v.toInt ∧ v.toInt ≤ (σ1.1 mo 8).toInt ∧ v.toInt ≤ 300) → (σ2.1 mo 8).toInt = 0) : lw_E xo mo σ2 ∧ True := by
  have ne : mo ≠ xo := m_ne hmo hxo (by decide)
  have c : σ1.1 mo 8 = σ.1 mo 8 := k1 mo 8 (by rw [hmo]; decide) (fun z => ne z.1)
  have e := h.2
  rw [c] at b1 b2
  refine ⟨lw_Etape (A := (σ1.1 xo 5).toInt) hxo hmo h k1 k2 (by decide) (fun z => ne z.1.symm) (fun z => ne z.1.symm) (fun z => absurd z.2.2 (by decide)) rfl ?_, trivial⟩
  by_cases q : v.toInt < 0 ∨ (σ.1 xo 5).toInt < v.toInt ∨ 300 < v.toInt
  · rw [a1 q, b1 (by omega)]; omega
  · rw [a2 (by omega), b2 (by omega)]
theorem lw_Emk {X : XW} {σ σ1 σ2 : ST} {xo mo : Nat} {A : Int} (hxo : q_kd X xo = 11) (hmo : q_kd X mo = 12) (h : lw_E xo mo σ) (k1 : q_KS (fun b g => b = xo ∧ g = 11) 8 X σ σ1) (k2 : q_KS (fun b g => b = mo ∧ g = 24) 1 X σ1 σ2) (x : (σ1.1 xo 11).toInt = A) (y : (σ2.1 mo 24).toInt = A) : lw_E xo mo σ2 := by
  have ne : mo ≠ xo := m_ne hmo hxo (by decide)
  unfold lw_E at h ⊢
  rw [k2 xo 11 (by rw [hxo]; decide) (fun z => ne z.1.symm), k2 xo 5 (by rw [hxo]; decide) (fun z => ne z.1.symm), k2 mo 8 (by rw [hmo]; decide) (fun z => absurd z.2 (by decide)), x, y, k1 xo 5 (by rw [hxo]; decide) (fun z => absurd z.2 (by decide)), k1 mo 8 (by rw [hmo]; decide) (fun z => ne z.1)]
  exact ⟨rfl, h.2⟩
theorem lw_Emark {X : XW} {σ σ1 σ2 : ST} {xo mo : Nat} {r1 r2 : Int32} (hxo : q_kd X xo = 11) (hmo : q_kd X mo = 12) (hb : 0 ≤ (σ.1 xo 11).toInt ∧ (σ.1 xo 11).toInt ≤ 3) (h : lw_E xo mo σ) (k1 : q_KS (fun b g => b = xo ∧ g = 11) 8 X σ σ1) (a1 : (σ.1 xo 11).toInt < 3 → (σ1.1 xo 11).toInt = (σ.1 xo 11).toInt + 1 ∧ r1.toInt = (σ.1 xo 11).toInt + 1) (a2 : (σ.1 xo 11).toInt = 3 → (σ1.1 xo 11).toInt = 3 ∧ r1.toInt = -1) (k2 : q_KS (fun b g => b = mo ∧ g = 24) 1 X σ1 σ2) (b1 : (σ1.1 mo 24).toInt < 3 → (σ2.1 mo 24).toInt = (σ1.1 mo 24).toInt + 1 ∧ r2.toInt = (σ1.1 mo 24).toInt + 1) (b2 : (σ1.1 mo 24).toInt = 3 → (σ2.1 mo 24).toInt = 3 ∧ r2.toInt = -1) : lw_E xo mo σ2 ∧ r1 = r2 := by
  have ne : mo ≠ xo := m_ne hmo hxo (by decide)
  have c : σ1.1 mo 24 = σ.1 mo 24 := k1 mo 24 (by rw [hmo]; decide) (fun z => ne z.1)
  have e := h.1
  rw [c] at b1 b2
  refine ⟨lw_Emk (A := (σ1.1 xo 11).toInt) hxo hmo h k1 k2 rfl ?_, Int32.toInt_inj.mp ?_⟩
  · by_cases q : (σ.1 xo 11).toInt < 3
    · have := a1 q; have := b1 (by omega); omega
    · have := a2 (by omega); have := b2 (by omega); omega
  · by_cases q : (σ.1 xo 11).toInt < 3
    · have := a1 q; have := b1 (by omega); omega
    · have := a2 (by omega); have := b2 (by omega); omega
theorem lw_Eback {X : XW} {σ σ1 σ2 : ST} {xo mo : Nat} {r1 r2 : Int32} (hxo : q_kd X xo = 11) (hmo : q_kd X mo = 12) (hb : 0 ≤ (σ.1 xo 11).toInt ∧ (σ.1 xo 11).toInt ≤ 3) (h : lw_E xo mo σ) (k1 : q_KS (fun b g => b = xo ∧ g = 11) 8 X σ σ1) (a1 : 0 < (σ.1 xo 11).toInt → (σ1.1 xo 11).toInt = (σ.1 xo 11).toInt - 1 ∧ r1.toInt = (σ.1 xo 11).toInt - 1) (a2 : (σ.1 xo 11).toInt = 0 → (σ1.1 xo 11).toInt = 0 ∧ r1.toInt = -1) (k2 : q_KS (fun b g => b = mo ∧ g = 24) 1 X σ1 σ2) (b1 : 0 < (σ1.1 mo 24).toInt → (σ2.1 mo 24).toInt = (σ1.1 mo 24).toInt - 1 ∧ r2.toInt = (σ1.1 mo 24).toInt - 1) (b2 : (σ1.1 mo 24).toInt = 0 → (σ2.1 mo 24).toInt = 0 ∧ r2.toInt = -1) : lw_E xo mo σ2 ∧ r1 = r2 := by
  have ne : mo ≠ xo := m_ne hmo hxo (by decide)
  have c : σ1.1 mo 24 = σ.1 mo 24 := k1 mo 24 (by rw [hmo]; decide) (fun z => ne z.1)
  have e := h.1
  rw [c] at b1 b2
  refine ⟨lw_Emk (A := (σ1.1 xo 11).toInt) hxo hmo h k1 k2 rfl ?_, Int32.toInt_inj.mp ?_⟩
  · by_cases q : 0 < (σ.1 xo 11).toInt
    · have := a1 q; have := b1 (by omega); omega
    · have := a2 (by omega); have := b2 (by omega); omega
  · by_cases q : 0 < (σ.1 xo 11).toInt
    · have := a1 q; have := b1 (by omega); omega
    · have := a2 (by omega); have := b2 (by omega); omega
/-! what the loop of this law keeps besides: the tapes' bytes are the same (p10, p11, p12; NOT YET BUILT) -/
def lw_B (X : XW) (xo mo : Nat) (σ : ST) : Prop := ∀ p : Int, 0 ≤ p → p < (σ.1 xo 5).toInt → σ.1 (q_rf X xo 4) p.toNat = σ.1 (q_rf X mo 7) p.toNat ∧ -128 ≤ (σ.1 (q_rf X xo 4) p.toNat).toInt ∧ (σ.1 (q_rf X xo 4) p.toNat).toInt ≤ 127
theorem lw_noK {L : List (Nat × Nat)} {k f : Nat} (h : L.all (fun x => x.1 != k) = true) : q_in2 L k f = false := by
  unfold q_in2
  rw [List.any_eq_false]
  intro x hx
  have h1 := List.all_eq_true.mp h x hx
  have h2 : ¬ x.1 = k := by simpa using h1
  simp [h2]
section LB
variable {X : XW} {xo mo : Nat} {σ σ1 σ2 : ST} {L M L2 M2 : List (Nat × Nat)}
theorem lw_k22 (hT : q_T X) (hxo : q_kd X xo = 11) : q_kd X (q_rf X xo 4) = 22 := (hT.1 xo 4 (by rw [hxo]; decide)).trans (by rw [hxo]; rfl)
theorem lw_k33 (hT : q_T X) (hmo : q_kd X mo = 12) : q_kd X (q_rf X mo 7) = 33 := (hT.1 mo 7 (by rw [hmo]; decide)).trans (by rw [hmo]; rfl)
theorem lw_Bow (ow : q_ow L M X σ σ1) (hT : q_T X) (hxo : q_kd X xo = 11) (hmo : q_kd X mo = 12) (h22 : L.all (fun x => x.1 != 22) = true) (h33 : L.all (fun x => x.1 != 33) = true) : (∀ p, σ1.1 (q_rf X xo 4) p = σ.1 (q_rf X xo 4) p) ∧ ∀ p, σ1.1 (q_rf X mo 7) p = σ.1 (q_rf X mo 7) p :=
  ⟨fun p => ow.1 _ p (by rw [lw_k22 hT hxo]; exact lw_noK h22), fun p => ow.1 _ p (by rw [lw_k33 hT hmo]; exact lw_noK h33)⟩
/-- a call that leaves tapes and their lengths alone -/
theorem lw_BK (ow : q_ow L M X σ σ1) (hT : q_T X) (hxo : q_kd X xo = 11) (hmo : q_kd X mo = 12) (h22 : L.all (fun x => x.1 != 22) = true) (h33 : L.all (fun x => x.1 != 33) = true) (h5 : σ1.1 xo 5 = σ.1 xo 5) (h : lw_B X xo mo σ) : lw_B X xo mo σ1 := by
  obtain ⟨a1, a2⟩ := lw_Bow ow hT hxo hmo h22 h33
  intro p p0 p1
  rw [h5] at p1
  rw [a1, a2]
  exact h p p0 p1
/-- a table or a round: the tapes' bytes stand, the length stands or is 0 -/
theorem lw_B2 (ow : q_ow L M X σ σ1) (ow2 : q_ow L2 M2 X σ1 σ2) (hT : q_T X) (hxo : q_kd X xo = 11) (hmo : q_kd X mo = 12) (h22 : L.all (fun x => x.1 != 22) = true) (h33 : L.all (fun x => x.1 != 33) = true) (k22 : L2.all (fun x => x.1 != 22) = true) (k33 : L2.all (fun x => x.1 != 33) = true) (h5 : (σ2.1 xo 5).toInt = (σ.1 xo 5).toInt ∨ (σ2.1 xo 5).toInt = 0) (h : lw_B X xo mo σ) : lw_B X xo mo σ2 := by
  obtain ⟨a1, a2⟩ := lw_Bow ow hT hxo hmo h22 h33
  obtain ⟨b1, b2⟩ := lw_Bow ow2 hT hxo hmo k22 k33
  intro p p0 p1
  rw [b1, b2, a1, a2]
  rcases h5 with h5 | h5
  · exact h p p0 (by rw [h5] at p1; exact p1)
  · omega
theorem lw_tp (ow : q_ow L M X σ σ1) (hT : q_T X) (hxo : q_kd X xo = 11) (hmo : q_kd X mo = 12) (h33 : L.all (fun x => x.1 != 33) = true) (h8 : q_in2 L 12 8 = false) (he : (σ.1 xo 5).toInt = (σ.1 mo 8).toInt) (h : lw_B X xo mo σ) : tp_R X xo mo σ σ1 (σ.1 xo 5).toInt := by
  refine ⟨rfl, ?_, fun p p0 p1 => ?_⟩
  · rw [ow.1 mo 8 (by rw [hmo]; exact h8)]
    exact he.symm
  · rw [ow.1 (q_rf X mo 7) p.toNat (by rw [lw_k33 hT hmo]; exact lw_noK h33)]
    exact h p p0 p1
/-- feed -/
theorem lw_Bfeed {v1 v2 v3 v4 v5 r1 r2 : Int32} (e1 : (r1, σ1) = F_X11_feed X σ xo v1 v2 v3 v4 v5) (e2 : (r2, σ2) = F_X12_feed X σ1 mo v1 v2 v3 v4 v5) (ow : q_ow L M X σ σ1) (ow2 : q_ow L2 M2 X σ1 σ2) (hT : q_T X) (hxo : q_kd X xo = 11) (hmo : q_kd X mo = 12) (h33 : L.all (fun x => x.1 != 33) = true) (h8 : q_in2 L 12 8 = false) (k22 : L2.all (fun x => x.1 != 22) = true) (k5 : q_in2 L2 11 5 = false) (he : (σ.1 xo 5).toInt = (σ.1 mo 8).toInt) (hb : 0 ≤ (σ.1 xo 5).toInt ∧ (σ.1 xo 5).toInt ≤ 900) (h : lw_B X xo mo σ) : r1 = r2 ∧ lw_B X xo mo σ2 := by
  have nC : q_rf X xo 4 ≠ xo := m_ne (lw_k22 hT hxo) hxo (by decide)
  have na : q_rf X mo 7 ≠ mo := m_ne (lw_k33 hT hmo) hmo (by decide)
  obtain ⟨f1, m', m0, m1, R⟩ := tp_feed nC na (lw_tp ow hT hxo hmo h33 h8 he h) hb v1 v2 v3 v4 v5
  rw [← e1, ← e2] at f1 R
  obtain ⟨R1, R2, R3⟩ := R
  refine ⟨f1, fun p p0 p1 => ?_⟩
  have c5 : σ2.1 xo 5 = σ1.1 xo 5 := ow2.1 xo 5 (by rw [hxo]; exact k5)
  have cb : σ2.1 (q_rf X xo 4) p.toNat = σ1.1 (q_rf X xo 4) p.toNat := ow2.1 _ _ (by rw [lw_k22 hT hxo]; exact lw_noK k22)
  rw [c5] at p1
  rw [cb]
  have R1' : (σ1.1 xo 5).toInt = m' := R1
  exact R3 p p0 (by omega)
/-- table: the compared case -/
theorem lw_Btable {lb : Nat → Nat} {v r1 r2 : Int32} (hcl : tb_Cls X lb xo mo) (e1 : (r1, σ1) = F_X11_table X σ xo v) (e2 : (r2, σ2) = F_X12_table X σ1 mo v) (ow : q_ow L M X σ σ1) (hT : q_T X) (hxo : q_kd X xo = 11) (hmo : q_kd X mo = 12) (h33 : L.all (fun x => x.1 != 33) = true) (h8 : q_in2 L 12 8 = false) (he : (σ.1 xo 5).toInt = (σ.1 mo 8).toInt) (hb : 0 ≤ (σ.1 xo 5).toInt ∧ (σ.1 xo 5).toInt ≤ 900) (h : lw_B X xo mo σ) : r1 = r2 := by
  obtain ⟨t1, t2, t3⟩ := lw_tp ow hT hxo hmo h33 h8 he h
  obtain ⟨z, σ', z', τ', a1, a2, a3, -⟩ := tb_table (B := fun p => (σ.1 (q_rf X xo 4) p.toNat).toInt) hcl t1 t2 hb (fun p p0 p1 => ⟨rfl, (t3 p p0 p1).2⟩) (fun p p0 p1 => (congrArg Int32.toInt (t3 p p0 p1).1).symm) v
  rw [← e1] at a1
  rw [← e2] at a2
  have b1 : r1 = z := congrArg Prod.fst a1
  have b2 : r2 = z' := congrArg Prod.fst a2
  rw [b1, b2]
  exact Int32.toInt_inj.mp a3
end LB
theorem lw_h5t {xo : Nat} {σ σ1 σ2 : ST} {v : Int32} (a1 : (v.toInt < 0 ∨ (σ.1 xo 5).toInt < v.toInt) → (σ1.1 xo 5).toInt = (σ.1 xo 5).toInt) (a2 : (0 ≤ v.toInt ∧ v.toInt ≤ (σ.1 xo 5).toInt) → (σ1.1 xo 5).toInt = 0) (k : σ2.1 xo 5 = σ1.1 xo 5) : (σ2.1 xo 5).toInt = (σ.1 xo 5).toInt ∨ (σ2.1 xo 5).toInt = 0 := by
  rw [k]
  by_cases q : v.toInt < 0 ∨ (σ.1 xo 5).toInt < v.toInt
  · exact Or.inl (a1 q)
  · exact Or.inr (a2 (by omega))
theorem lw_h5r {xo : Nat} {σ σ1 σ2 : ST} {v : Int32} (a1 : (v.toInt < 0 ∨ (σ.1 xo 5).toInt < v.toInt ∨ 300 < v.toInt) → (σ1.1 xo 5).toInt = (σ.1 xo 5).toInt) (a2 : (0 ≤ v.toInt ∧ v.toInt ≤ (σ.1 xo 5).toInt ∧ v.toInt ≤ 300) → (σ1.1 xo 5).toInt = 0) (k : σ2.1 xo 5 = σ1.1 xo 5) : (σ2.1 xo 5).toInt = (σ.1 xo 5).toInt ∨ (σ2.1 xo 5).toInt = 0 := by
  rw [k]
  by_cases q : v.toInt < 0 ∨ (σ.1 xo 5).toInt < v.toInt ∨ 300 < v.toInt
  · exact Or.inl (a1 q)
  · exact Or.inr (a2 (by omega))
/-! what the loop of this law keeps besides: both games are the same (p11 and what follows) -/
section LA
variable {X : XW} {lb : Nat → Nat} {xo mo : Nat} {σ σ1 σ2 : ST} {L M L2 M2 : List (Nat × Nat)} {n : Int}
theorem lw_Aob (K : al_C X lb xo mo) {P Q : Int32 × ST} {r1 r2 : Int32} (o : ob_O X xo mo P Q) (e1 : (r1, σ1) = P) (e2 : (r2, σ2) = Q) (ow : q_ow L2 M2 X σ1 σ2) (h : kp_C L2 = true) : r1 = r2 ∧ al_R X xo mo σ2 σ2 := by
  rw [← e1, ← e2] at o
  exact ⟨Int32.toInt_inj.mp o.1, o.2.2.post K ow h⟩
theorem lw_fs {S F : Nat → Nat → Prop} {P : Int32 × ST} {r1 : Int32} (e1 : (r1, σ1) = P) (h : tkl S F σ P.2) : tkl S F σ σ1 := by
  rw [← e1] at h
  exact h
/-- what both tell of the latest reading -/
def lw_Y (xo mo : Nat) (σ : ST) : Prop := (σ.1 xo 6).toInt = (σ.1 mo 10).toInt ∧ (σ.1 xo 7).toInt = (σ.1 mo 11).toInt
def kp_Y (L : List (Nat × Nat)) : Bool := L.all (fun x => x.1 != 11 || (x.2 != 6 && x.2 != 99)) && L.all (fun x => x.1 != 11 || (x.2 != 7 && x.2 != 99)) && L.all (fun x => x.1 != 12 || (x.2 != 10 && x.2 != 99)) && L.all (fun x => x.1 != 12 || (x.2 != 11 && x.2 != 99))
theorem lw_YK (K : al_C X lb xo mo) (h : lw_Y xo mo σ) (ow : q_ow L M X σ σ1) (k : kp_Y L = true) : lw_Y xo mo σ1 := by
  unfold kp_Y at k
  rw [Bool.and_eq_true, Bool.and_eq_true, Bool.and_eq_true] at k
  unfold lw_Y
  rw [ow.1 xo 6 (by rw [K.1]; exact kp_no k.1.1.1), ow.1 xo 7 (by rw [K.1]; exact kp_no k.1.1.2), ow.1 mo 10 (by rw [K.2.1]; exact kp_no k.1.2), ow.1 mo 11 (by rw [K.2.1]; exact kp_no k.2)]
  exact h
theorem lw_Yrd (K : al_C X lb xo mo) (h : lw_Y xo mo σ) (ow : q_ow L M X σ σ1) (ow2 : q_ow L2 M2 X σ1 σ2) (k1 : q_in2 L 12 10 = false) (k2 : q_in2 L 12 11 = false) (k3 : q_in2 L2 11 6 = false) (k4 : q_in2 L2 11 7 = false) (o : (tk (fun b f => b = xo ∧ f = 0) σ σ1 ∧ tkl (fun b f => b = mo ∧ (f = 0 ∨ f = 1)) (fun _ _ => False) σ1 σ2) ∨ ((σ1.1 xo 6).toInt = (σ2.1 mo 10).toInt ∧ (σ1.1 xo 7).toInt = (σ2.1 mo 11).toInt)) : lw_Y xo mo σ2 := by
  unfold lw_Y at h ⊢
  rw [ow2.1 xo 6 (by rw [K.1]; exact k3), ow2.1 xo 7 (by rw [K.1]; exact k4)]
  rcases o with ⟨o1, o2⟩ | o
  · rw [o1.1 xo 6 (fun z => absurd z.2 (by decide)), o1.1 xo 7 (fun z => absurd z.2 (by decide)), o2.1 mo 10 (fun z => absurd z.2 (by decide)), o2.1 mo 11 (fun z => absurd z.2 (by decide)), ow.1 mo 10 (by rw [K.2.1]; exact k1), ow.1 mo 11 (by rw [K.2.1]; exact k2)]
    exact h
  · exact o
theorem lw_Around (hcl : tb_Cls X lb xo mo) (K : al_C X lb xo mo) (A : al_R X xo mo σ σ1) (Mm : m_M (m_c X σ1 mo) (σ1.1 mo 24).toInt n) {v r1 r2 : Int32} (e1 : (r1, σ1) = F_X11_round X σ xo v) (e2 : (r2, σ2) = F_X12_round X σ1 mo v) (ow : q_ow L M X σ σ1) (ow2 : q_ow L2 M2 X σ1 σ2) (hT : q_T X) (hxo : q_kd X xo = 11) (hmo : q_kd X mo = 12) (h33 : L.all (fun x => x.1 != 33) = true) (h8 : q_in2 L 12 8 = false) (h : kp_C L2 = true) (he : (σ.1 xo 5).toInt = (σ.1 mo 8).toInt) (hb : 0 ≤ (σ.1 xo 5).toInt ∧ (σ.1 xo 5).toInt ≤ 900) (hB : lw_B X xo mo σ) :
    r1 = r2 ∧ al_R X xo mo σ2 σ2 ∧ rr_Out xo mo σ σ1 v (σ.1 xo 5).toInt σ1 σ2 := by
  obtain ⟨t1, t2, t3⟩ := lw_tp ow hT hxo hmo h33 h8 he hB
  obtain ⟨z, σ', z', τ', a1, a2, a3, a4, a5, a6⟩ := al_round (B := fun p => (σ.1 (q_rf X xo 4) p.toNat).toInt) K hcl.2.2.2.2.2.2.1 A Mm t1 t2 hb (fun p p0 p1 => ⟨rfl, (t3 p p0 p1).2⟩) (fun p p0 p1 => (congrArg Int32.toInt (t3 p p0 p1).1).symm) v
  rw [← e1] at a1
  rw [← e2] at a2
  have b1 : r1 = z := congrArg Prod.fst a1
  have b2 : r2 = z' := congrArg Prod.fst a2
  have c1 : σ1 = σ' := congrArg Prod.snd a1
  have c2 : σ2 = τ' := congrArg Prod.snd a2
  subst c1
  subst c2
  refine ⟨?_, a6.post K ow2 h, a5⟩
  rw [b1, b2]
  exact Int32.toInt_inj.mp a3
theorem lw_Atable (hcl : tb_Cls X lb xo mo) (K : al_C X lb xo mo) (A : al_R X xo mo σ σ1) (Mm : m_M (m_c X σ1 mo) (σ1.1 mo 24).toInt n) {v r1 r2 : Int32} (e1 : (r1, σ1) = F_X11_table X σ xo v) (e2 : (r2, σ2) = F_X12_table X σ1 mo v) (ow : q_ow L M X σ σ1) (ow2 : q_ow L2 M2 X σ1 σ2) (hT : q_T X) (hxo : q_kd X xo = 11) (hmo : q_kd X mo = 12) (h33 : L.all (fun x => x.1 != 33) = true) (h8 : q_in2 L 12 8 = false) (h : kp_C L2 = true) (he : (σ.1 xo 5).toInt = (σ.1 mo 8).toInt) (hb : 0 ≤ (σ.1 xo 5).toInt ∧ (σ.1 xo 5).toInt ≤ 900) (hB : lw_B X xo mo σ) (hG : m_G (m_c X σ2 mo)) (k11 : q_in2 L 11 11 = false) (k24 : q_in2 L2 12 24 = false) (k24' : q_in2 L 12 24 = false) :
    r1 = r2 ∧ al_R X xo mo σ2 σ2 ∧ ∃ (z : Int32), tb_Out X xo mo σ σ1 v (σ.1 xo 5).toInt z σ1 σ2 := by
  obtain ⟨t1, t2, t3⟩ := lw_tp ow hT hxo hmo h33 h8 he hB
  obtain ⟨z, σ', z', τ', a1, a2, a3, a4, a5, a6⟩ := al_table (B := fun p => (σ.1 (q_rf X xo 4) p.toNat).toInt) K hcl.2.2.2.2.2.2.1 A Mm t1 t2 hb (fun p p0 p1 => ⟨rfl, (t3 p p0 p1).2⟩) (fun p p0 p1 => (congrArg Int32.toInt (t3 p p0 p1).1).symm) v
  rw [← e1] at a1
  rw [← e2] at a2
  have b1 : r1 = z := congrArg Prod.fst a1
  have b2 : r2 = z' := congrArg Prod.fst a2
  have c1 : σ1 = σ' := congrArg Prod.snd a1
  have c2 : σ2 = τ' := congrArg Prod.snd a2
  subst c1
  subst c2
  refine ⟨?_, (a6 hG (ow.1 xo 11 (by rw [hxo]; exact k11)) (ow2.1 mo 24 (by rw [hmo]; exact k24))).post K ow2 h, z, a5⟩
  rw [b1, b2]
  exact Int32.toInt_inj.mp a3
theorem lw_cz {z : Int32} {x y : Int64} (i : (z.toInt < 0 ↔ x.toInt < y.toInt) ∧ (0 < z.toInt ↔ y.toInt < x.toInt)) (e : x = y) : z.toInt = 0 := by
  subst e
  obtain ⟨i1, i2⟩ := i
  have a : ¬ z.toInt < 0 := fun q => absurd (i1.mp q) (Int.lt_irrefl _)
  have b : ¬ 0 < z.toInt := fun q => absurd (i2.mp q) (Int.lt_irrefl _)
  omega
end LA
theorem kl_13 : q_okV RL 13 RX11 yX11_status cX11_status 1 (some .int) 0 := ⟨(q_in_t3 (i := 14) (by first | rfl | decide +kernel) rfl), (q_in_t3 (i := 15) (by first | rfl | decide +kernel) rfl), (q_in_t3 (i := 16) (by first | rfl | decide +kernel) rfl), (q_in_t1 (i := 1) (by first | rfl | decide +kernel) rfl), (q_in_t3 (i := 17) (by first | rfl | decide +kernel) rfl), ⟨rfl, by decide, by decide, rfl⟩⟩
theorem kl_17 : q_okV RL 17 RX12 yX12_status cX12_status 1 (some .int) 0 := ⟨(q_in_t7 (i := 124) (by first | rfl | decide +kernel) rfl), (q_in_t7 (i := 125) (by first | rfl | decide +kernel) rfl), (q_in_t7 (i := 126) (by first | rfl | decide +kernel) rfl), (q_in_t1 (i := 14) (by first | rfl | decide +kernel) rfl), (q_in_t7 (i := 127) (by first | rfl | decide +kernel) rfl), ⟨rfl, by decide, by decide, rfl⟩⟩
theorem kl_18 : q_okV RL 18 RX11 yX11_top cX11_top 1 (some .long) 0 := ⟨(q_in_t3 (i := 18) (by first | rfl | decide +kernel) rfl), (q_in_t3 (i := 19) (by first | rfl | decide +kernel) rfl), (q_in_t3 (i := 20) (by first | rfl | decide +kernel) rfl), (q_in_t1 (i := 1) (by first | rfl | decide +kernel) rfl), (q_in_t3 (i := 21) (by first | rfl | decide +kernel) rfl), ⟨rfl, by decide, by decide, rfl⟩⟩
theorem kl_22 : q_okV RL 22 RX12 yX12_top cX12_top 1 (some .long) 0 := ⟨(q_in_t7 (i := 128) (by first | rfl | decide +kernel) rfl), (q_in_t7 (i := 129) (by first | rfl | decide +kernel) rfl), (q_in_t7 (i := 130) (by first | rfl | decide +kernel) rfl), (q_in_t1 (i := 14) (by first | rfl | decide +kernel) rfl), (q_in_t7 (i := 131) (by first | rfl | decide +kernel) rfl), ⟨rfl, by decide, by decide, rfl⟩⟩
theorem kl_23 : q_okV RL 23 RX11 yX11_bottom cX11_bottom 1 (some .long) 0 := ⟨(q_in_t3 (i := 22) (by first | rfl | decide +kernel) rfl), (q_in_t3 (i := 23) (by first | rfl | decide +kernel) rfl), (q_in_t3 (i := 24) (by first | rfl | decide +kernel) rfl), (q_in_t1 (i := 1) (by first | rfl | decide +kernel) rfl), (q_in_t3 (i := 25) (by first | rfl | decide +kernel) rfl), ⟨rfl, by decide, by decide, rfl⟩⟩
theorem kl_26 : q_okV RL 26 RX12 yX12_bottom cX12_bottom 1 (some .long) 0 := ⟨(q_in_t7 (i := 132) (by first | rfl | decide +kernel) rfl), (q_in_t7 (i := 133) (by first | rfl | decide +kernel) rfl), (q_in_t7 (i := 134) (by first | rfl | decide +kernel) rfl), (q_in_t1 (i := 14) (by first | rfl | decide +kernel) rfl), (q_in_t7 (i := 135) (by first | rfl | decide +kernel) rfl), ⟨rfl, by decide, by decide, rfl⟩⟩
theorem kl_27 : q_okV RL 27 RX11 yX11_tray cX11_tray 5 (some .boolean) 3 := ⟨(q_in_t3 (i := 26) (by first | rfl | decide +kernel) rfl), (q_in_t3 (i := 27) (by first | rfl | decide +kernel) rfl), (q_in_t3 (i := 28) (by first | rfl | decide +kernel) rfl), (q_in_t1 (i := 1) (by first | rfl | decide +kernel) rfl), (q_in_t3 (i := 29) (by first | rfl | decide +kernel) rfl), ⟨rfl, by decide, by decide, rfl⟩⟩
theorem kl_31 : q_okV RL 31 RX12 yX12_tray cX12_tray 5 (some .boolean) 3 := ⟨(q_in_t7 (i := 136) (by first | rfl | decide +kernel) rfl), (q_in_t7 (i := 137) (by first | rfl | decide +kernel) rfl), (q_in_t7 (i := 138) (by first | rfl | decide +kernel) rfl), (q_in_t1 (i := 14) (by first | rfl | decide +kernel) rfl), (q_in_t7 (i := 139) (by first | rfl | decide +kernel) rfl), ⟨rfl, by decide, by decide, rfl⟩⟩
theorem kl_34 : q_okV RL 34 RX11 yX11_write cX11_write 7 (some .boolean) 3 := ⟨(q_in_t3 (i := 50) (by first | rfl | decide +kernel) rfl), (q_in_t3 (i := 51) (by first | rfl | decide +kernel) rfl), (q_in_t3 (i := 52) (by first | rfl | decide +kernel) rfl), (q_in_t1 (i := 1) (by first | rfl | decide +kernel) rfl), (q_in_t3 (i := 53) (by first | rfl | decide +kernel) rfl), ⟨rfl, by decide, by decide, rfl⟩⟩
theorem kl_38 : q_okV RL 38 RX12 yX12_write cX12_write 5 (some .boolean) 3 := ⟨(q_in_t7 (i := 144) (by first | rfl | decide +kernel) rfl), (q_in_t7 (i := 145) (by first | rfl | decide +kernel) rfl), (q_in_t7 (i := 146) (by first | rfl | decide +kernel) rfl), (q_in_t1 (i := 14) (by first | rfl | decide +kernel) rfl), (q_in_t7 (i := 147) (by first | rfl | decide +kernel) rfl), ⟨rfl, by decide, by decide, rfl⟩⟩
theorem kl_39 : q_okV RL 39 RX11 yX11_read cX11_read 5 (some .long) 2 := ⟨(q_in_t3 (i := 73) (by first | rfl | decide +kernel) rfl), (q_in_t3 (i := 74) (by first | rfl | decide +kernel) rfl), (q_in_t3 (i := 75) (by first | rfl | decide +kernel) rfl), (q_in_t1 (i := 1) (by first | rfl | decide +kernel) rfl), (q_in_t3 (i := 76) (by first | rfl | decide +kernel) rfl), ⟨rfl, by decide, by decide, rfl⟩⟩
theorem kl_43 : q_okV RL 43 RX12 yX12_read cX12_read 3 (some .long) 2 := ⟨(q_in_t7 (i := 159) (by first | rfl | decide +kernel) rfl), (q_in_t7 (i := 160) (by first | rfl | decide +kernel) rfl), (q_in_t7 (i := 161) (by first | rfl | decide +kernel) rfl), (q_in_t1 (i := 14) (by first | rfl | decide +kernel) rfl), (q_in_t7 (i := 162) (by first | rfl | decide +kernel) rfl), ⟨rfl, by decide, by decide, rfl⟩⟩
theorem kl_44 : q_okV RL 44 RX11 yX11_pour cX11_pour 8 (some .boolean) 5 := ⟨(q_in_t3 (i := 85) (by first | rfl | decide +kernel) rfl), (q_in_t3 (i := 86) (by first | rfl | decide +kernel) rfl), (q_in_t3 (i := 87) (by first | rfl | decide +kernel) rfl), (q_in_t1 (i := 1) (by first | rfl | decide +kernel) rfl), (q_in_t3 (i := 88) (by first | rfl | decide +kernel) rfl), ⟨rfl, by decide, by decide, rfl⟩⟩
theorem kl_48 : q_okV RL 48 RX12 yX12_pour cX12_pour 9 (some .boolean) 5 := ⟨(q_in_t7 (i := 164) (by first | rfl | decide +kernel) rfl), (q_in_t7 (i := 165) (by first | rfl | decide +kernel) rfl), (q_in_t7 (i := 166) (by first | rfl | decide +kernel) rfl), (q_in_t1 (i := 14) (by first | rfl | decide +kernel) rfl), (q_in_t7 (i := 167) (by first | rfl | decide +kernel) rfl), ⟨rfl, by decide, by decide, rfl⟩⟩
theorem kl_49 : q_okV RL 49 RX11 yX11_feed cX11_feed 6 (some .int) 5 := ⟨(q_in_t3 (i := 97) (by first | rfl | decide +kernel) rfl), (q_in_t3 (i := 98) (by first | rfl | decide +kernel) rfl), (q_in_t3 (i := 99) (by first | rfl | decide +kernel) rfl), (q_in_t1 (i := 1) (by first | rfl | decide +kernel) rfl), (q_in_t3 (i := 100) (by first | rfl | decide +kernel) rfl), ⟨rfl, by decide, by decide, rfl⟩⟩
theorem kl_53 : q_okV RL 53 RX12 yX12_feed cX12_feed 6 (some .int) 5 := ⟨(q_in_t7 (i := 168) (by first | rfl | decide +kernel) rfl), (q_in_t7 (i := 169) (by first | rfl | decide +kernel) rfl), (q_in_t7 (i := 170) (by first | rfl | decide +kernel) rfl), (q_in_t1 (i := 14) (by first | rfl | decide +kernel) rfl), (q_in_t7 (i := 171) (by first | rfl | decide +kernel) rfl), ⟨rfl, by decide, by decide, rfl⟩⟩
theorem kl_54 : q_okV RL 54 RX11 yX11_table cX11_table 3 (some .int) 1 := ⟨(q_in_t3 (i := 105) (by first | rfl | decide +kernel) rfl), (q_in_t3 (i := 106) (by first | rfl | decide +kernel) rfl), (q_in_t3 (i := 107) (by first | rfl | decide +kernel) rfl), (q_in_t1 (i := 1) (by first | rfl | decide +kernel) rfl), (q_in_t3 (i := 108) (by first | rfl | decide +kernel) rfl), ⟨rfl, by decide, by decide, rfl⟩⟩
theorem kl_58 : q_okV RL 58 RX12 yX12_table cX12_table 3 (some .int) 1 := ⟨(q_in_t7 (i := 180) (by first | rfl | decide +kernel) rfl), (q_in_t7 (i := 181) (by first | rfl | decide +kernel) rfl), (q_in_t7 (i := 182) (by first | rfl | decide +kernel) rfl), (q_in_t1 (i := 14) (by first | rfl | decide +kernel) rfl), (q_in_t7 (i := 183) (by first | rfl | decide +kernel) rfl), ⟨rfl, by decide, by decide, rfl⟩⟩
theorem kl_59 : q_okV RL 59 RX11 yX11_round cX11_round 3 (some .int) 1 := ⟨(q_in_t4 (i := 156) (by first | rfl | decide +kernel) rfl), (q_in_t4 (i := 157) (by first | rfl | decide +kernel) rfl), (q_in_t4 (i := 158) (by first | rfl | decide +kernel) rfl), (q_in_t1 (i := 1) (by first | rfl | decide +kernel) rfl), (q_in_t4 (i := 159) (by first | rfl | decide +kernel) rfl), ⟨rfl, by decide, by decide, rfl⟩⟩
theorem kl_62 : q_okV RL 62 RX12 yX12_round cX12_round 3 (some .int) 1 := ⟨(q_in_t8 (i := 95) (by first | rfl | decide +kernel) rfl), (q_in_t8 (i := 96) (by first | rfl | decide +kernel) rfl), (q_in_t8 (i := 97) (by first | rfl | decide +kernel) rfl), (q_in_t1 (i := 14) (by first | rfl | decide +kernel) rfl), (q_in_t8 (i := 98) (by first | rfl | decide +kernel) rfl), ⟨rfl, by decide, by decide, rfl⟩⟩
theorem kl_63 : q_okV RL 63 RX11 yX11_fault cX11_fault 2 (some .int) 1 := ⟨(q_in_t5 (i := 2) (by first | rfl | decide +kernel) rfl), (q_in_t5 (i := 3) (by first | rfl | decide +kernel) rfl), (q_in_t5 (i := 4) (by first | rfl | decide +kernel) rfl), (q_in_t1 (i := 1) (by first | rfl | decide +kernel) rfl), (q_in_t5 (i := 5) (by first | rfl | decide +kernel) rfl), ⟨rfl, by decide, by decide, rfl⟩⟩
theorem kl_66 : q_okV RL 66 RX12 yX12_fault cX12_fault 2 (some .int) 1 := ⟨(q_in_t7 (i := 176) (by first | rfl | decide +kernel) rfl), (q_in_t7 (i := 177) (by first | rfl | decide +kernel) rfl), (q_in_t7 (i := 178) (by first | rfl | decide +kernel) rfl), (q_in_t1 (i := 14) (by first | rfl | decide +kernel) rfl), (q_in_t7 (i := 179) (by first | rfl | decide +kernel) rfl), ⟨rfl, by decide, by decide, rfl⟩⟩
theorem kl_67 : q_okV RL 67 RX11 yX11_many cX11_many 3 (some .int) 1 := ⟨(q_in_t5 (i := 6) (by first | rfl | decide +kernel) rfl), (q_in_t5 (i := 7) (by first | rfl | decide +kernel) rfl), (q_in_t5 (i := 8) (by first | rfl | decide +kernel) rfl), (q_in_t1 (i := 1) (by first | rfl | decide +kernel) rfl), (q_in_t5 (i := 9) (by first | rfl | decide +kernel) rfl), ⟨rfl, by decide, by decide, rfl⟩⟩
theorem kl_70 : q_okV RL 70 RX12 yX12_many cX12_many 2 (some .int) 1 := ⟨(q_in_t8 (i := 111) (by first | rfl | decide +kernel) rfl), (q_in_t8 (i := 112) (by first | rfl | decide +kernel) rfl), (q_in_t8 (i := 113) (by first | rfl | decide +kernel) rfl), (q_in_t1 (i := 14) (by first | rfl | decide +kernel) rfl), (q_in_t8 (i := 114) (by first | rfl | decide +kernel) rfl), ⟨rfl, by decide, by decide, rfl⟩⟩
theorem kl_71 : q_okV RL 71 RX11 yX11_player cX11_player 4 (some .int) 2 := ⟨(q_in_t5 (i := 10) (by first | rfl | decide +kernel) rfl), (q_in_t5 (i := 11) (by first | rfl | decide +kernel) rfl), (q_in_t5 (i := 12) (by first | rfl | decide +kernel) rfl), (q_in_t1 (i := 1) (by first | rfl | decide +kernel) rfl), (q_in_t5 (i := 13) (by first | rfl | decide +kernel) rfl), ⟨rfl, by decide, by decide, rfl⟩⟩
theorem kl_75 : q_okV RL 75 RX12 yX12_player cX12_player 3 (some .int) 2 := ⟨(q_in_t8 (i := 127) (by first | rfl | decide +kernel) rfl), (q_in_t8 (i := 128) (by first | rfl | decide +kernel) rfl), (q_in_t8 (i := 129) (by first | rfl | decide +kernel) rfl), (q_in_t1 (i := 14) (by first | rfl | decide +kernel) rfl), (q_in_t8 (i := 130) (by first | rfl | decide +kernel) rfl), ⟨rfl, by decide, by decide, rfl⟩⟩
theorem kl_76 : q_okV RL 76 RX11 yX11_hand cX11_hand 3 (some .int) 2 := ⟨(q_in_t5 (i := 28) (by first | rfl | decide +kernel) rfl), (q_in_t5 (i := 29) (by first | rfl | decide +kernel) rfl), (q_in_t5 (i := 30) (by first | rfl | decide +kernel) rfl), (q_in_t1 (i := 1) (by first | rfl | decide +kernel) rfl), (q_in_t5 (i := 31) (by first | rfl | decide +kernel) rfl), ⟨rfl, by decide, by decide, rfl⟩⟩
theorem kl_79 : q_okV RL 79 RX12 yX12_hand cX12_hand 3 (some .int) 2 := ⟨(q_in_t8 (i := 147) (by first | rfl | decide +kernel) rfl), (q_in_t8 (i := 148) (by first | rfl | decide +kernel) rfl), (q_in_t8 (i := 149) (by first | rfl | decide +kernel) rfl), (q_in_t1 (i := 14) (by first | rfl | decide +kernel) rfl), (q_in_t8 (i := 150) (by first | rfl | decide +kernel) rfl), ⟨rfl, by decide, by decide, rfl⟩⟩
theorem kl_80 : q_okV RL 80 RX11 yX11_inGame cX11_inGame 2 (some .int) 1 := ⟨(q_in_t5 (i := 41) (by first | rfl | decide +kernel) rfl), (q_in_t5 (i := 42) (by first | rfl | decide +kernel) rfl), (q_in_t5 (i := 43) (by first | rfl | decide +kernel) rfl), (q_in_t1 (i := 1) (by first | rfl | decide +kernel) rfl), (q_in_t5 (i := 44) (by first | rfl | decide +kernel) rfl), ⟨rfl, by decide, by decide, rfl⟩⟩
theorem kl_83 : q_okV RL 83 RX12 yX12_inGame cX12_inGame 2 (some .int) 1 := ⟨(q_in_t8 (i := 155) (by first | rfl | decide +kernel) rfl), (q_in_t8 (i := 156) (by first | rfl | decide +kernel) rfl), (q_in_t8 (i := 157) (by first | rfl | decide +kernel) rfl), (q_in_t1 (i := 14) (by first | rfl | decide +kernel) rfl), (q_in_t8 (i := 158) (by first | rfl | decide +kernel) rfl), ⟨rfl, by decide, by decide, rfl⟩⟩
theorem kl_84 : q_okV RL 84 RX11 yX11_laying cX11_laying 4 (some .int) 2 := ⟨(q_in_t5 (i := 45) (by first | rfl | decide +kernel) rfl), (q_in_t5 (i := 46) (by first | rfl | decide +kernel) rfl), (q_in_t5 (i := 47) (by first | rfl | decide +kernel) rfl), (q_in_t1 (i := 1) (by first | rfl | decide +kernel) rfl), (q_in_t5 (i := 48) (by first | rfl | decide +kernel) rfl), ⟨rfl, by decide, by decide, rfl⟩⟩
theorem kl_87 : q_okV RL 87 RX12 yX12_laying cX12_laying 3 (some .int) 2 := ⟨(q_in_t8 (i := 163) (by first | rfl | decide +kernel) rfl), (q_in_t8 (i := 164) (by first | rfl | decide +kernel) rfl), (q_in_t8 (i := 165) (by first | rfl | decide +kernel) rfl), (q_in_t1 (i := 14) (by first | rfl | decide +kernel) rfl), (q_in_t8 (i := 166) (by first | rfl | decide +kernel) rfl), ⟨rfl, by decide, by decide, rfl⟩⟩
theorem kl_88 : q_okV RL 88 RX11 yX11_cardOf cX11_cardOf 4 (some .int) 2 := ⟨(q_in_t5 (i := 54) (by first | rfl | decide +kernel) rfl), (q_in_t5 (i := 55) (by first | rfl | decide +kernel) rfl), (q_in_t5 (i := 56) (by first | rfl | decide +kernel) rfl), (q_in_t1 (i := 1) (by first | rfl | decide +kernel) rfl), (q_in_t5 (i := 57) (by first | rfl | decide +kernel) rfl), ⟨rfl, by decide, by decide, rfl⟩⟩
theorem kl_91 : q_okV RL 91 RX12 yX12_cardOf cX12_cardOf 3 (some .int) 2 := ⟨(q_in_t8 (i := 172) (by first | rfl | decide +kernel) rfl), (q_in_t8 (i := 173) (by first | rfl | decide +kernel) rfl), (q_in_t8 (i := 174) (by first | rfl | decide +kernel) rfl), (q_in_t1 (i := 14) (by first | rfl | decide +kernel) rfl), (q_in_t8 (i := 175) (by first | rfl | decide +kernel) rfl), ⟨rfl, by decide, by decide, rfl⟩⟩
theorem kl_92 : q_okV RL 92 RX11 yX11_copyHand cX11_copyHand 6 (some .int) 2 := ⟨(q_in_t5 (i := 62) (by first | rfl | decide +kernel) rfl), (q_in_t5 (i := 63) (by first | rfl | decide +kernel) rfl), (q_in_t5 (i := 64) (by first | rfl | decide +kernel) rfl), (q_in_t1 (i := 1) (by first | rfl | decide +kernel) rfl), (q_in_t5 (i := 65) (by first | rfl | decide +kernel) rfl), ⟨rfl, by decide, by decide, rfl⟩⟩
theorem kl_95 : q_okV RL 95 RX12 yX12_copyHand cX12_copyHand 4 (some .int) 2 := ⟨(q_in_t8 (i := 176) (by first | rfl | decide +kernel) rfl), (q_in_t8 (i := 177) (by first | rfl | decide +kernel) rfl), (q_in_t8 (i := 178) (by first | rfl | decide +kernel) rfl), (q_in_t1 (i := 14) (by first | rfl | decide +kernel) rfl), (q_in_t8 (i := 179) (by first | rfl | decide +kernel) rfl), ⟨rfl, by decide, by decide, rfl⟩⟩
theorem kl_96 : q_okV RL 96 RX11 yX11_lay cX11_lay 5 (some .int) 4 := ⟨(q_in_t5 (i := 66) (by first | rfl | decide +kernel) rfl), (q_in_t5 (i := 67) (by first | rfl | decide +kernel) rfl), (q_in_t5 (i := 68) (by first | rfl | decide +kernel) rfl), (q_in_t1 (i := 1) (by first | rfl | decide +kernel) rfl), (q_in_t5 (i := 69) (by first | rfl | decide +kernel) rfl), ⟨rfl, by decide, by decide, rfl⟩⟩
theorem kl_100 : q_okV RL 100 RX12 yX12_lay cX12_lay 9 (some .int) 4 := ⟨(q_in_t8 (i := 184) (by first | rfl | decide +kernel) rfl), (q_in_t8 (i := 185) (by first | rfl | decide +kernel) rfl), (q_in_t8 (i := 186) (by first | rfl | decide +kernel) rfl), (q_in_t1 (i := 14) (by first | rfl | decide +kernel) rfl), (q_in_t8 (i := 187) (by first | rfl | decide +kernel) rfl), ⟨rfl, by decide, by decide, rfl⟩⟩
theorem kl_101 : q_okV RL 101 RX11 yX11_leave cX11_leave 1 (some .int) 0 := ⟨(q_in_t5 (i := 109) (by first | rfl | decide +kernel) rfl), (q_in_t5 (i := 110) (by first | rfl | decide +kernel) rfl), (q_in_t5 (i := 111) (by first | rfl | decide +kernel) rfl), (q_in_t1 (i := 1) (by first | rfl | decide +kernel) rfl), (q_in_t5 (i := 112) (by first | rfl | decide +kernel) rfl), ⟨rfl, by decide, by decide, rfl⟩⟩
theorem kl_104 : q_okV RL 104 RX12 yX12_leave cX12_leave 1 (some .int) 0 := ⟨(q_in_t8 (i := 192) (by first | rfl | decide +kernel) rfl), (q_in_t8 (i := 193) (by first | rfl | decide +kernel) rfl), (q_in_t8 (i := 194) (by first | rfl | decide +kernel) rfl), (q_in_t1 (i := 14) (by first | rfl | decide +kernel) rfl), (q_in_t8 (i := 195) (by first | rfl | decide +kernel) rfl), ⟨rfl, by decide, by decide, rfl⟩⟩
theorem kl_105 : q_okV RL 105 RX11 yX11_doubt cX11_doubt 3 (some .int) 1 := ⟨(q_in_t5 (i := 132) (by first | rfl | decide +kernel) rfl), (q_in_t5 (i := 133) (by first | rfl | decide +kernel) rfl), (q_in_t5 (i := 134) (by first | rfl | decide +kernel) rfl), (q_in_t1 (i := 1) (by first | rfl | decide +kernel) rfl), (q_in_t5 (i := 135) (by first | rfl | decide +kernel) rfl), ⟨rfl, by decide, by decide, rfl⟩⟩
theorem kl_108 : q_okV RL 108 RX12 yX12_doubt cX12_doubt 2 (some .int) 1 := ⟨(q_in_t8 (i := 208) (by first | rfl | decide +kernel) rfl), (q_in_t8 (i := 209) (by first | rfl | decide +kernel) rfl), (q_in_t8 (i := 210) (by first | rfl | decide +kernel) rfl), (q_in_t1 (i := 14) (by first | rfl | decide +kernel) rfl), (q_in_t8 (i := 211) (by first | rfl | decide +kernel) rfl), ⟨rfl, by decide, by decide, rfl⟩⟩
theorem kl_109 : q_okV RL 109 RX11 yX11_bend cX11_bend 4 (some .boolean) 3 := ⟨(q_in_t5 (i := 161) (by first | rfl | decide +kernel) rfl), (q_in_t5 (i := 162) (by first | rfl | decide +kernel) rfl), (q_in_t5 (i := 163) (by first | rfl | decide +kernel) rfl), (q_in_t1 (i := 1) (by first | rfl | decide +kernel) rfl), (q_in_t5 (i := 164) (by first | rfl | decide +kernel) rfl), ⟨rfl, by decide, by decide, rfl⟩⟩
theorem kl_112 : q_okV RL 112 RX12 yX12_bend cX12_bend 4 (some .boolean) 3 := ⟨(q_in_t8 (i := 220) (by first | rfl | decide +kernel) rfl), (q_in_t8 (i := 221) (by first | rfl | decide +kernel) rfl), (q_in_t8 (i := 222) (by first | rfl | decide +kernel) rfl), (q_in_t1 (i := 14) (by first | rfl | decide +kernel) rfl), (q_in_t8 (i := 223) (by first | rfl | decide +kernel) rfl), ⟨rfl, by decide, by decide, rfl⟩⟩
theorem kl_113 : q_okV RL 113 RX11 yX11_known cX11_known 3 (some .int) 2 := ⟨(q_in_t5 (i := 169) (by first | rfl | decide +kernel) rfl), (q_in_t5 (i := 170) (by first | rfl | decide +kernel) rfl), (q_in_t5 (i := 171) (by first | rfl | decide +kernel) rfl), (q_in_t1 (i := 1) (by first | rfl | decide +kernel) rfl), (q_in_t5 (i := 172) (by first | rfl | decide +kernel) rfl), ⟨rfl, by decide, by decide, rfl⟩⟩
theorem kl_116 : q_okV RL 116 RX12 yX12_known cX12_known 3 (some .int) 2 := ⟨(q_in_t8 (i := 225) (by first | rfl | decide +kernel) rfl), (q_in_t8 (i := 226) (by first | rfl | decide +kernel) rfl), (q_in_t8 (i := 227) (by first | rfl | decide +kernel) rfl), (q_in_t1 (i := 14) (by first | rfl | decide +kernel) rfl), (q_in_t8 (i := 228) (by first | rfl | decide +kernel) rfl), ⟨rfl, by decide, by decide, rfl⟩⟩
theorem kl_117 : q_okV RL 117 RX11 yX11_unknown cX11_unknown 3 (some .int) 2 := ⟨(q_in_t5 (i := 177) (by first | rfl | decide +kernel) rfl), (q_in_t5 (i := 178) (by first | rfl | decide +kernel) rfl), (q_in_t5 (i := 179) (by first | rfl | decide +kernel) rfl), (q_in_t1 (i := 1) (by first | rfl | decide +kernel) rfl), (q_in_t5 (i := 180) (by first | rfl | decide +kernel) rfl), ⟨rfl, by decide, by decide, rfl⟩⟩
theorem kl_120 : q_okV RL 120 RX12 yX12_unknown cX12_unknown 3 (some .int) 2 := ⟨(q_in_t8 (i := 233) (by first | rfl | decide +kernel) rfl), (q_in_t8 (i := 234) (by first | rfl | decide +kernel) rfl), (q_in_t8 (i := 235) (by first | rfl | decide +kernel) rfl), (q_in_t1 (i := 14) (by first | rfl | decide +kernel) rfl), (q_in_t8 (i := 236) (by first | rfl | decide +kernel) rfl), ⟨rfl, by decide, by decide, rfl⟩⟩
theorem kl_121 : q_okV RL 121 RX11 yX11_impossible cX11_impossible 3 (some .int) 1 := ⟨(q_in_t5 (i := 191) (by first | rfl | decide +kernel) rfl), (q_in_t5 (i := 192) (by first | rfl | decide +kernel) rfl), (q_in_t5 (i := 193) (by first | rfl | decide +kernel) rfl), (q_in_t1 (i := 1) (by first | rfl | decide +kernel) rfl), (q_in_t5 (i := 194) (by first | rfl | decide +kernel) rfl), ⟨rfl, by decide, by decide, rfl⟩⟩
theorem kl_124 : q_okV RL 124 RX12 yX12_impossible cX12_impossible 2 (some .int) 1 := ⟨(q_in_t9 (i := 5) (by first | rfl | decide +kernel) rfl), (q_in_t9 (i := 6) (by first | rfl | decide +kernel) rfl), (q_in_t9 (i := 7) (by first | rfl | decide +kernel) rfl), (q_in_t1 (i := 14) (by first | rfl | decide +kernel) rfl), (q_in_t9 (i := 8) (by first | rfl | decide +kernel) rfl), ⟨rfl, by decide, by decide, rfl⟩⟩
theorem kl_125 : q_okV RL 125 RX11 yX11_blind cX11_blind 3 (some .boolean) 1 := ⟨(q_in_t5 (i := 203) (by first | rfl | decide +kernel) rfl), (q_in_t5 (i := 204) (by first | rfl | decide +kernel) rfl), (q_in_t5 (i := 205) (by first | rfl | decide +kernel) rfl), (q_in_t1 (i := 1) (by first | rfl | decide +kernel) rfl), (q_in_t5 (i := 206) (by first | rfl | decide +kernel) rfl), ⟨rfl, by decide, by decide, rfl⟩⟩
theorem kl_129 : q_okV RL 129 RX12 yX12_blind cX12_blind 2 (some .boolean) 1 := ⟨(q_in_t9 (i := 17) (by first | rfl | decide +kernel) rfl), (q_in_t9 (i := 18) (by first | rfl | decide +kernel) rfl), (q_in_t9 (i := 19) (by first | rfl | decide +kernel) rfl), (q_in_t1 (i := 14) (by first | rfl | decide +kernel) rfl), (q_in_t9 (i := 20) (by first | rfl | decide +kernel) rfl), ⟨rfl, by decide, by decide, rfl⟩⟩
theorem kl_130 : q_okV RL 130 RX11 yX11_honest cX11_honest 2 (some .boolean) 1 := ⟨(q_in_t5 (i := 229) (by first | rfl | decide +kernel) rfl), (q_in_t5 (i := 230) (by first | rfl | decide +kernel) rfl), (q_in_t5 (i := 231) (by first | rfl | decide +kernel) rfl), (q_in_t1 (i := 1) (by first | rfl | decide +kernel) rfl), (q_in_t5 (i := 232) (by first | rfl | decide +kernel) rfl), ⟨rfl, by decide, by decide, rfl⟩⟩
theorem kl_133 : q_okV RL 133 RX12 yX12_honest cX12_honest 2 (some .boolean) 1 := ⟨(q_in_t9 (i := 33) (by first | rfl | decide +kernel) rfl), (q_in_t9 (i := 34) (by first | rfl | decide +kernel) rfl), (q_in_t9 (i := 35) (by first | rfl | decide +kernel) rfl), (q_in_t1 (i := 14) (by first | rfl | decide +kernel) rfl), (q_in_t9 (i := 36) (by first | rfl | decide +kernel) rfl), ⟨rfl, by decide, by decide, rfl⟩⟩
theorem kl_134 : q_okV RL 134 RX11 yX11_belief cX11_belief 11 (some .boolean) 1 := ⟨(q_in_t6 (i := 2) (by first | rfl | decide +kernel) rfl), (q_in_t6 (i := 3) (by first | rfl | decide +kernel) rfl), (q_in_t6 (i := 4) (by first | rfl | decide +kernel) rfl), (q_in_t1 (i := 1) (by first | rfl | decide +kernel) rfl), (q_in_t6 (i := 5) (by first | rfl | decide +kernel) rfl), ⟨rfl, by decide, by decide, rfl⟩⟩
theorem kl_137 : q_okV RL 137 RX12 yX12_belief cX12_belief 7 (some .boolean) 1 := ⟨(q_in_t9 (i := 37) (by first | rfl | decide +kernel) rfl), (q_in_t9 (i := 38) (by first | rfl | decide +kernel) rfl), (q_in_t9 (i := 39) (by first | rfl | decide +kernel) rfl), (q_in_t1 (i := 14) (by first | rfl | decide +kernel) rfl), (q_in_t9 (i := 40) (by first | rfl | decide +kernel) rfl), ⟨rfl, by decide, by decide, rfl⟩⟩
theorem kl_138 : q_okV RL 138 RX11 yX11_worth cX11_worth 3 (some .boolean) 1 := ⟨(q_in_t6 (i := 6) (by first | rfl | decide +kernel) rfl), (q_in_t6 (i := 7) (by first | rfl | decide +kernel) rfl), (q_in_t6 (i := 8) (by first | rfl | decide +kernel) rfl), (q_in_t1 (i := 1) (by first | rfl | decide +kernel) rfl), (q_in_t6 (i := 9) (by first | rfl | decide +kernel) rfl), ⟨rfl, by decide, by decide, rfl⟩⟩
theorem kl_141 : q_okV RL 141 RX12 yX12_worth cX12_worth 2 (some .boolean) 1 := ⟨(q_in_t9 (i := 41) (by first | rfl | decide +kernel) rfl), (q_in_t9 (i := 42) (by first | rfl | decide +kernel) rfl), (q_in_t9 (i := 43) (by first | rfl | decide +kernel) rfl), (q_in_t1 (i := 14) (by first | rfl | decide +kernel) rfl), (q_in_t9 (i := 44) (by first | rfl | decide +kernel) rfl), ⟨rfl, by decide, by decide, rfl⟩⟩
theorem kl_142 : q_okV RL 142 RX11 yX11_ready cX11_ready 5 (some .int) 0 := ⟨(q_in_t6 (i := 17) (by first | rfl | decide +kernel) rfl), (q_in_t6 (i := 18) (by first | rfl | decide +kernel) rfl), (q_in_t6 (i := 19) (by first | rfl | decide +kernel) rfl), (q_in_t1 (i := 1) (by first | rfl | decide +kernel) rfl), (q_in_t6 (i := 20) (by first | rfl | decide +kernel) rfl), ⟨rfl, by decide, by decide, rfl⟩⟩
theorem kl_145 : q_okV RL 145 RX12 yX12_ready cX12_ready 9 (some .int) 0 := ⟨(q_in_t9 (i := 46) (by first | rfl | decide +kernel) rfl), (q_in_t9 (i := 47) (by first | rfl | decide +kernel) rfl), (q_in_t9 (i := 48) (by first | rfl | decide +kernel) rfl), (q_in_t1 (i := 14) (by first | rfl | decide +kernel) rfl), (q_in_t9 (i := 49) (by first | rfl | decide +kernel) rfl), ⟨rfl, by decide, by decide, rfl⟩⟩
theorem kl_146 : q_okV RL 146 RX11 yX11_heap cX11_heap 9 (some .boolean) 2 := ⟨(q_in_t6 (i := 22) (by first | rfl | decide +kernel) rfl), (q_in_t6 (i := 23) (by first | rfl | decide +kernel) rfl), (q_in_t6 (i := 24) (by first | rfl | decide +kernel) rfl), (q_in_t1 (i := 1) (by first | rfl | decide +kernel) rfl), (q_in_t6 (i := 25) (by first | rfl | decide +kernel) rfl), ⟨rfl, by decide, by decide, rfl⟩⟩
theorem kl_150 : q_okV RL 150 RX12 yX12_heap cX12_heap 9 (some .boolean) 2 := ⟨(q_in_t9 (i := 50) (by first | rfl | decide +kernel) rfl), (q_in_t9 (i := 51) (by first | rfl | decide +kernel) rfl), (q_in_t9 (i := 52) (by first | rfl | decide +kernel) rfl), (q_in_t1 (i := 14) (by first | rfl | decide +kernel) rfl), (q_in_t9 (i := 53) (by first | rfl | decide +kernel) rfl), ⟨rfl, by decide, by decide, rfl⟩⟩
theorem kl_151 : q_okV RL 151 RX11 yX11_said cX11_said 3 (some .int) 2 := ⟨(q_in_t6 (i := 27) (by first | rfl | decide +kernel) rfl), (q_in_t6 (i := 28) (by first | rfl | decide +kernel) rfl), (q_in_t6 (i := 29) (by first | rfl | decide +kernel) rfl), (q_in_t1 (i := 1) (by first | rfl | decide +kernel) rfl), (q_in_t6 (i := 30) (by first | rfl | decide +kernel) rfl), ⟨rfl, by decide, by decide, rfl⟩⟩
theorem kl_154 : q_okV RL 154 RX12 yX12_said cX12_said 5 (some .int) 2 := ⟨(q_in_t9 (i := 54) (by first | rfl | decide +kernel) rfl), (q_in_t9 (i := 55) (by first | rfl | decide +kernel) rfl), (q_in_t9 (i := 56) (by first | rfl | decide +kernel) rfl), (q_in_t1 (i := 14) (by first | rfl | decide +kernel) rfl), (q_in_t9 (i := 57) (by first | rfl | decide +kernel) rfl), ⟨rfl, by decide, by decide, rfl⟩⟩
theorem kl_155 : q_okV RL 155 RX11 yX11_waits cX11_waits 2 (some .int) 1 := ⟨(q_in_t6 (i := 35) (by first | rfl | decide +kernel) rfl), (q_in_t6 (i := 36) (by first | rfl | decide +kernel) rfl), (q_in_t6 (i := 37) (by first | rfl | decide +kernel) rfl), (q_in_t1 (i := 1) (by first | rfl | decide +kernel) rfl), (q_in_t6 (i := 38) (by first | rfl | decide +kernel) rfl), ⟨rfl, by decide, by decide, rfl⟩⟩
theorem kl_158 : q_okV RL 158 RX12 yX12_waits cX12_waits 2 (some .int) 1 := ⟨(q_in_t9 (i := 58) (by first | rfl | decide +kernel) rfl), (q_in_t9 (i := 59) (by first | rfl | decide +kernel) rfl), (q_in_t9 (i := 60) (by first | rfl | decide +kernel) rfl), (q_in_t1 (i := 14) (by first | rfl | decide +kernel) rfl), (q_in_t9 (i := 61) (by first | rfl | decide +kernel) rfl), ⟨rfl, by decide, by decide, rfl⟩⟩
theorem kl_159 : q_okV RL 159 RX11 yX11_falls cX11_falls 4 (some .int) 2 := ⟨(q_in_t6 (i := 43) (by first | rfl | decide +kernel) rfl), (q_in_t6 (i := 44) (by first | rfl | decide +kernel) rfl), (q_in_t6 (i := 45) (by first | rfl | decide +kernel) rfl), (q_in_t1 (i := 1) (by first | rfl | decide +kernel) rfl), (q_in_t6 (i := 46) (by first | rfl | decide +kernel) rfl), ⟨rfl, by decide, by decide, rfl⟩⟩
theorem kl_162 : q_okV RL 162 RX12 yX12_falls cX12_falls 3 (some .int) 2 := ⟨(q_in_t9 (i := 66) (by first | rfl | decide +kernel) rfl), (q_in_t9 (i := 67) (by first | rfl | decide +kernel) rfl), (q_in_t9 (i := 68) (by first | rfl | decide +kernel) rfl), (q_in_t1 (i := 14) (by first | rfl | decide +kernel) rfl), (q_in_t9 (i := 69) (by first | rfl | decide +kernel) rfl), ⟨rfl, by decide, by decide, rfl⟩⟩
theorem kl_163 : q_okV RL 163 RX11 yX11_honestly cX11_honestly 4 (some .int) 2 := ⟨(q_in_t6 (i := 56) (by first | rfl | decide +kernel) rfl), (q_in_t6 (i := 57) (by first | rfl | decide +kernel) rfl), (q_in_t6 (i := 58) (by first | rfl | decide +kernel) rfl), (q_in_t1 (i := 1) (by first | rfl | decide +kernel) rfl), (q_in_t6 (i := 59) (by first | rfl | decide +kernel) rfl), ⟨rfl, by decide, by decide, rfl⟩⟩
theorem kl_166 : q_okV RL 166 RX12 yX12_honestly cX12_honestly 3 (some .int) 2 := ⟨(q_in_t9 (i := 75) (by first | rfl | decide +kernel) rfl), (q_in_t9 (i := 76) (by first | rfl | decide +kernel) rfl), (q_in_t9 (i := 77) (by first | rfl | decide +kernel) rfl), (q_in_t1 (i := 14) (by first | rfl | decide +kernel) rfl), (q_in_t9 (i := 78) (by first | rfl | decide +kernel) rfl), ⟨rfl, by decide, by decide, rfl⟩⟩
theorem kl_167 : q_okV RL 167 RX11 yX11_rid cX11_rid 2 (some .int) 1 := ⟨(q_in_t6 (i := 67) (by first | rfl | decide +kernel) rfl), (q_in_t6 (i := 68) (by first | rfl | decide +kernel) rfl), (q_in_t6 (i := 69) (by first | rfl | decide +kernel) rfl), (q_in_t1 (i := 1) (by first | rfl | decide +kernel) rfl), (q_in_t6 (i := 70) (by first | rfl | decide +kernel) rfl), ⟨rfl, by decide, by decide, rfl⟩⟩
theorem kl_170 : q_okV RL 170 RX12 yX12_rid cX12_rid 3 (some .int) 1 := ⟨(q_in_t9 (i := 84) (by first | rfl | decide +kernel) rfl), (q_in_t9 (i := 85) (by first | rfl | decide +kernel) rfl), (q_in_t9 (i := 86) (by first | rfl | decide +kernel) rfl), (q_in_t1 (i := 14) (by first | rfl | decide +kernel) rfl), (q_in_t9 (i := 87) (by first | rfl | decide +kernel) rfl), ⟨rfl, by decide, by decide, rfl⟩⟩
theorem kl_171 : q_okV RL 171 RX11 yX11_lastKind cX11_lastKind 2 (some .int) 1 := ⟨(q_in_t6 (i := 75) (by first | rfl | decide +kernel) rfl), (q_in_t6 (i := 76) (by first | rfl | decide +kernel) rfl), (q_in_t6 (i := 77) (by first | rfl | decide +kernel) rfl), (q_in_t1 (i := 1) (by first | rfl | decide +kernel) rfl), (q_in_t6 (i := 78) (by first | rfl | decide +kernel) rfl), ⟨rfl, by decide, by decide, rfl⟩⟩
theorem kl_174 : q_okV RL 174 RX12 yX12_lastKind cX12_lastKind 2 (some .int) 1 := ⟨(q_in_t9 (i := 92) (by first | rfl | decide +kernel) rfl), (q_in_t9 (i := 93) (by first | rfl | decide +kernel) rfl), (q_in_t9 (i := 94) (by first | rfl | decide +kernel) rfl), (q_in_t1 (i := 14) (by first | rfl | decide +kernel) rfl), (q_in_t9 (i := 95) (by first | rfl | decide +kernel) rfl), ⟨rfl, by decide, by decide, rfl⟩⟩
theorem kl_175 : q_okV RL 175 RX11 yX11_mustLie cX11_mustLie 2 (some .int) 1 := ⟨(q_in_t6 (i := 79) (by first | rfl | decide +kernel) rfl), (q_in_t6 (i := 80) (by first | rfl | decide +kernel) rfl), (q_in_t6 (i := 81) (by first | rfl | decide +kernel) rfl), (q_in_t1 (i := 1) (by first | rfl | decide +kernel) rfl), (q_in_t6 (i := 82) (by first | rfl | decide +kernel) rfl), ⟨rfl, by decide, by decide, rfl⟩⟩
theorem kl_178 : q_okV RL 178 RX12 yX12_mustLie cX12_mustLie 2 (some .int) 1 := ⟨(q_in_t9 (i := 96) (by first | rfl | decide +kernel) rfl), (q_in_t9 (i := 97) (by first | rfl | decide +kernel) rfl), (q_in_t9 (i := 98) (by first | rfl | decide +kernel) rfl), (q_in_t1 (i := 14) (by first | rfl | decide +kernel) rfl), (q_in_t9 (i := 99) (by first | rfl | decide +kernel) rfl), ⟨rfl, by decide, by decide, rfl⟩⟩
theorem kl_179 : q_okV RL 179 RX11 yX11_soonest cX11_soonest 4 (some .int) 0 := ⟨(q_in_t6 (i := 83) (by first | rfl | decide +kernel) rfl), (q_in_t6 (i := 84) (by first | rfl | decide +kernel) rfl), (q_in_t6 (i := 85) (by first | rfl | decide +kernel) rfl), (q_in_t1 (i := 1) (by first | rfl | decide +kernel) rfl), (q_in_t6 (i := 86) (by first | rfl | decide +kernel) rfl), ⟨rfl, by decide, by decide, rfl⟩⟩
theorem kl_182 : q_okV RL 182 RX12 yX12_soonest cX12_soonest 5 (some .int) 0 := ⟨(q_in_t9 (i := 100) (by first | rfl | decide +kernel) rfl), (q_in_t9 (i := 101) (by first | rfl | decide +kernel) rfl), (q_in_t9 (i := 102) (by first | rfl | decide +kernel) rfl), (q_in_t1 (i := 14) (by first | rfl | decide +kernel) rfl), (q_in_t9 (i := 103) (by first | rfl | decide +kernel) rfl), ⟨rfl, by decide, by decide, rfl⟩⟩
theorem kl_183 : q_okV RL 183 RX11 yX11_best cX11_best 11 (some .int) 2 := ⟨(q_in_t6 (i := 87) (by first | rfl | decide +kernel) rfl), (q_in_t6 (i := 88) (by first | rfl | decide +kernel) rfl), (q_in_t6 (i := 89) (by first | rfl | decide +kernel) rfl), (q_in_t1 (i := 1) (by first | rfl | decide +kernel) rfl), (q_in_t6 (i := 90) (by first | rfl | decide +kernel) rfl), ⟨rfl, by decide, by decide, rfl⟩⟩
theorem kl_186 : q_okV RL 186 RX12 yX12_best cX12_best 13 (some .int) 2 := ⟨(q_in_t9 (i := 104) (by first | rfl | decide +kernel) rfl), (q_in_t9 (i := 105) (by first | rfl | decide +kernel) rfl), (q_in_t9 (i := 106) (by first | rfl | decide +kernel) rfl), (q_in_t1 (i := 14) (by first | rfl | decide +kernel) rfl), (q_in_t9 (i := 107) (by first | rfl | decide +kernel) rfl), ⟨rfl, by decide, by decide, rfl⟩⟩
theorem kl_187 : q_okV RL 187 RX11 yX11_sayer cX11_sayer 4 (some .int) 1 := ⟨(q_in_t6 (i := 97) (by first | rfl | decide +kernel) rfl), (q_in_t6 (i := 98) (by first | rfl | decide +kernel) rfl), (q_in_t6 (i := 99) (by first | rfl | decide +kernel) rfl), (q_in_t1 (i := 1) (by first | rfl | decide +kernel) rfl), (q_in_t6 (i := 100) (by first | rfl | decide +kernel) rfl), ⟨rfl, by decide, by decide, rfl⟩⟩
theorem kl_190 : q_okV RL 190 RX12 yX12_sayer cX12_sayer 4 (some .int) 1 := ⟨(q_in_t9 (i := 108) (by first | rfl | decide +kernel) rfl), (q_in_t9 (i := 109) (by first | rfl | decide +kernel) rfl), (q_in_t9 (i := 110) (by first | rfl | decide +kernel) rfl), (q_in_t1 (i := 14) (by first | rfl | decide +kernel) rfl), (q_in_t9 (i := 111) (by first | rfl | decide +kernel) rfl), ⟨rfl, by decide, by decide, rfl⟩⟩
theorem kl_191 : q_okV RL 191 RX11 yX11_has cX11_has 4 (some .int) 1 := ⟨(q_in_t6 (i := 102) (by first | rfl | decide +kernel) rfl), (q_in_t6 (i := 103) (by first | rfl | decide +kernel) rfl), (q_in_t6 (i := 104) (by first | rfl | decide +kernel) rfl), (q_in_t1 (i := 1) (by first | rfl | decide +kernel) rfl), (q_in_t6 (i := 105) (by first | rfl | decide +kernel) rfl), ⟨rfl, by decide, by decide, rfl⟩⟩
theorem kl_194 : q_okV RL 194 RX12 yX12_has cX12_has 4 (some .int) 1 := ⟨(q_in_t9 (i := 112) (by first | rfl | decide +kernel) rfl), (q_in_t9 (i := 113) (by first | rfl | decide +kernel) rfl), (q_in_t9 (i := 114) (by first | rfl | decide +kernel) rfl), (q_in_t1 (i := 14) (by first | rfl | decide +kernel) rfl), (q_in_t9 (i := 115) (by first | rfl | decide +kernel) rfl), ⟨rfl, by decide, by decide, rfl⟩⟩
theorem kl_195 : q_okV RL 195 RX11 yX11_lies cX11_lies 2 (some .int) 1 := ⟨(q_in_t6 (i := 106) (by first | rfl | decide +kernel) rfl), (q_in_t6 (i := 107) (by first | rfl | decide +kernel) rfl), (q_in_t6 (i := 108) (by first | rfl | decide +kernel) rfl), (q_in_t1 (i := 1) (by first | rfl | decide +kernel) rfl), (q_in_t6 (i := 109) (by first | rfl | decide +kernel) rfl), ⟨rfl, by decide, by decide, rfl⟩⟩
theorem kl_198 : q_okV RL 198 RX12 yX12_lies cX12_lies 2 (some .int) 1 := ⟨(q_in_t9 (i := 116) (by first | rfl | decide +kernel) rfl), (q_in_t9 (i := 117) (by first | rfl | decide +kernel) rfl), (q_in_t9 (i := 118) (by first | rfl | decide +kernel) rfl), (q_in_t1 (i := 14) (by first | rfl | decide +kernel) rfl), (q_in_t9 (i := 119) (by first | rfl | decide +kernel) rfl), ⟨rfl, by decide, by decide, rfl⟩⟩
theorem kl_199 : q_okV RL 199 RX11 yX11_guess cX11_guess 5 (some .boolean) 3 := ⟨(q_in_t6 (i := 115) (by first | rfl | decide +kernel) rfl), (q_in_t6 (i := 116) (by first | rfl | decide +kernel) rfl), (q_in_t6 (i := 117) (by first | rfl | decide +kernel) rfl), (q_in_t1 (i := 1) (by first | rfl | decide +kernel) rfl), (q_in_t6 (i := 118) (by first | rfl | decide +kernel) rfl), ⟨rfl, by decide, by decide, rfl⟩⟩
theorem kl_202 : q_okV RL 202 RX12 yX12_guess cX12_guess 4 (some .boolean) 3 := ⟨(q_in_t9 (i := 120) (by first | rfl | decide +kernel) rfl), (q_in_t9 (i := 121) (by first | rfl | decide +kernel) rfl), (q_in_t9 (i := 122) (by first | rfl | decide +kernel) rfl), (q_in_t1 (i := 14) (by first | rfl | decide +kernel) rfl), (q_in_t9 (i := 123) (by first | rfl | decide +kernel) rfl), ⟨rfl, by decide, by decide, rfl⟩⟩
theorem kl_203 : q_okV RL 203 RX11 yX11_fullest cX11_fullest 4 (some .int) 0 := ⟨(q_in_t6 (i := 120) (by first | rfl | decide +kernel) rfl), (q_in_t6 (i := 121) (by first | rfl | decide +kernel) rfl), (q_in_t6 (i := 122) (by first | rfl | decide +kernel) rfl), (q_in_t1 (i := 1) (by first | rfl | decide +kernel) rfl), (q_in_t6 (i := 123) (by first | rfl | decide +kernel) rfl), ⟨rfl, by decide, by decide, rfl⟩⟩
theorem kl_206 : q_okV RL 206 RX12 yX12_fullest cX12_fullest 3 (some .int) 0 := ⟨(q_in_t9 (i := 125) (by first | rfl | decide +kernel) rfl), (q_in_t9 (i := 126) (by first | rfl | decide +kernel) rfl), (q_in_t9 (i := 127) (by first | rfl | decide +kernel) rfl), (q_in_t1 (i := 14) (by first | rfl | decide +kernel) rfl), (q_in_t9 (i := 128) (by first | rfl | decide +kernel) rfl), ⟨rfl, by decide, by decide, rfl⟩⟩
theorem kl_207 : q_okV RL 207 RX11 yX11_quartet cX11_quartet 4 (some .int) 1 := ⟨(q_in_t6 (i := 124) (by first | rfl | decide +kernel) rfl), (q_in_t6 (i := 125) (by first | rfl | decide +kernel) rfl), (q_in_t6 (i := 126) (by first | rfl | decide +kernel) rfl), (q_in_t1 (i := 1) (by first | rfl | decide +kernel) rfl), (q_in_t6 (i := 127) (by first | rfl | decide +kernel) rfl), ⟨rfl, by decide, by decide, rfl⟩⟩
theorem kl_210 : q_okV RL 210 RX12 yX12_quartet cX12_quartet 3 (some .int) 1 := ⟨(q_in_t9 (i := 129) (by first | rfl | decide +kernel) rfl), (q_in_t9 (i := 130) (by first | rfl | decide +kernel) rfl), (q_in_t9 (i := 131) (by first | rfl | decide +kernel) rfl), (q_in_t1 (i := 14) (by first | rfl | decide +kernel) rfl), (q_in_t9 (i := 132) (by first | rfl | decide +kernel) rfl), ⟨rfl, by decide, by decide, rfl⟩⟩
theorem kl_211 : q_okV RL 211 RX11 yX11_sorts cX11_sorts 4 (some .int) 1 := ⟨(q_in_t6 (i := 128) (by first | rfl | decide +kernel) rfl), (q_in_t6 (i := 129) (by first | rfl | decide +kernel) rfl), (q_in_t6 (i := 130) (by first | rfl | decide +kernel) rfl), (q_in_t1 (i := 1) (by first | rfl | decide +kernel) rfl), (q_in_t6 (i := 131) (by first | rfl | decide +kernel) rfl), ⟨rfl, by decide, by decide, rfl⟩⟩
theorem kl_214 : q_okV RL 214 RX12 yX12_sorts cX12_sorts 4 (some .int) 1 := ⟨(q_in_t9 (i := 133) (by first | rfl | decide +kernel) rfl), (q_in_t9 (i := 134) (by first | rfl | decide +kernel) rfl), (q_in_t9 (i := 135) (by first | rfl | decide +kernel) rfl), (q_in_t1 (i := 14) (by first | rfl | decide +kernel) rfl), (q_in_t9 (i := 136) (by first | rfl | decide +kernel) rfl), ⟨rfl, by decide, by decide, rfl⟩⟩
theorem kl_215 : q_okV RL 215 RX11 yX11_liar cX11_liar 4 (some .int) 0 := ⟨(q_in_t6 (i := 132) (by first | rfl | decide +kernel) rfl), (q_in_t6 (i := 133) (by first | rfl | decide +kernel) rfl), (q_in_t6 (i := 134) (by first | rfl | decide +kernel) rfl), (q_in_t1 (i := 1) (by first | rfl | decide +kernel) rfl), (q_in_t6 (i := 135) (by first | rfl | decide +kernel) rfl), ⟨rfl, by decide, by decide, rfl⟩⟩
theorem kl_218 : q_okV RL 218 RX12 yX12_liar cX12_liar 5 (some .int) 0 := ⟨(q_in_t9 (i := 137) (by first | rfl | decide +kernel) rfl), (q_in_t9 (i := 138) (by first | rfl | decide +kernel) rfl), (q_in_t9 (i := 139) (by first | rfl | decide +kernel) rfl), (q_in_t1 (i := 14) (by first | rfl | decide +kernel) rfl), (q_in_t9 (i := 140) (by first | rfl | decide +kernel) rfl), ⟨rfl, by decide, by decide, rfl⟩⟩
theorem kl_219 : q_okV RL 219 RX11 yX11_play cX11_play 2 (some .int) 1 := ⟨(q_in_t6 (i := 136) (by first | rfl | decide +kernel) rfl), (q_in_t6 (i := 137) (by first | rfl | decide +kernel) rfl), (q_in_t6 (i := 138) (by first | rfl | decide +kernel) rfl), (q_in_t1 (i := 1) (by first | rfl | decide +kernel) rfl), (q_in_t6 (i := 139) (by first | rfl | decide +kernel) rfl), ⟨rfl, by decide, by decide, rfl⟩⟩
theorem kl_222 : q_okV RL 222 RX12 yX12_play cX12_play 2 (some .int) 1 := ⟨(q_in_t9 (i := 141) (by first | rfl | decide +kernel) rfl), (q_in_t9 (i := 142) (by first | rfl | decide +kernel) rfl), (q_in_t9 (i := 143) (by first | rfl | decide +kernel) rfl), (q_in_t1 (i := 14) (by first | rfl | decide +kernel) rfl), (q_in_t9 (i := 144) (by first | rfl | decide +kernel) rfl), ⟨rfl, by decide, by decide, rfl⟩⟩
theorem kl_223 : q_okV RL 223 RX11 yX11_played cX11_played 2 (some .int) 1 := ⟨(q_in_t6 (i := 191) (by first | rfl | decide +kernel) rfl), (q_in_t6 (i := 192) (by first | rfl | decide +kernel) rfl), (q_in_t6 (i := 193) (by first | rfl | decide +kernel) rfl), (q_in_t1 (i := 1) (by first | rfl | decide +kernel) rfl), (q_in_t6 (i := 194) (by first | rfl | decide +kernel) rfl), ⟨rfl, by decide, by decide, rfl⟩⟩
theorem kl_226 : q_okV RL 226 RX12 yX12_played cX12_played 2 (some .int) 1 := ⟨(q_in_t9 (i := 179) (by first | rfl | decide +kernel) rfl), (q_in_t9 (i := 180) (by first | rfl | decide +kernel) rfl), (q_in_t9 (i := 181) (by first | rfl | decide +kernel) rfl), (q_in_t1 (i := 14) (by first | rfl | decide +kernel) rfl), (q_in_t9 (i := 182) (by first | rfl | decide +kernel) rfl), ⟨rfl, by decide, by decide, rfl⟩⟩
theorem kl_227 : q_okV RL 227 RX11 yX11_wins cX11_wins 7 (some .boolean) 3 := ⟨(q_in_t6 (i := 195) (by first | rfl | decide +kernel) rfl), (q_in_t6 (i := 196) (by first | rfl | decide +kernel) rfl), (q_in_t6 (i := 197) (by first | rfl | decide +kernel) rfl), (q_in_t1 (i := 1) (by first | rfl | decide +kernel) rfl), (q_in_t6 (i := 198) (by first | rfl | decide +kernel) rfl), ⟨rfl, by decide, by decide, rfl⟩⟩
theorem kl_230 : q_okV RL 230 RX12 yX12_wins cX12_wins 4 (some .boolean) 3 := ⟨(q_in_t9 (i := 183) (by first | rfl | decide +kernel) rfl), (q_in_t9 (i := 184) (by first | rfl | decide +kernel) rfl), (q_in_t9 (i := 185) (by first | rfl | decide +kernel) rfl), (q_in_t1 (i := 14) (by first | rfl | decide +kernel) rfl), (q_in_t9 (i := 186) (by first | rfl | decide +kernel) rfl), ⟨rfl, by decide, by decide, rfl⟩⟩
theorem kl_231 : q_okV RL 231 RX11 yX11_left cX11_left 7 (some .boolean) 3 := ⟨(q_in_t6 (i := 203) (by first | rfl | decide +kernel) rfl), (q_in_t6 (i := 204) (by first | rfl | decide +kernel) rfl), (q_in_t6 (i := 205) (by first | rfl | decide +kernel) rfl), (q_in_t1 (i := 1) (by first | rfl | decide +kernel) rfl), (q_in_t6 (i := 206) (by first | rfl | decide +kernel) rfl), ⟨rfl, by decide, by decide, rfl⟩⟩
theorem kl_234 : q_okV RL 234 RX12 yX12_left cX12_left 4 (some .boolean) 3 := ⟨(q_in_t9 (i := 192) (by first | rfl | decide +kernel) rfl), (q_in_t9 (i := 193) (by first | rfl | decide +kernel) rfl), (q_in_t9 (i := 194) (by first | rfl | decide +kernel) rfl), (q_in_t1 (i := 14) (by first | rfl | decide +kernel) rfl), (q_in_t9 (i := 195) (by first | rfl | decide +kernel) rfl), ⟨rfl, by decide, by decide, rfl⟩⟩
theorem kl_235 : q_okV RL 235 RX11 yX11_mark cX11_mark 2 (some .int) 0 := ⟨(q_in_t6 (i := 207) (by first | rfl | decide +kernel) rfl), (q_in_t6 (i := 208) (by first | rfl | decide +kernel) rfl), (q_in_t6 (i := 209) (by first | rfl | decide +kernel) rfl), (q_in_t1 (i := 1) (by first | rfl | decide +kernel) rfl), (q_in_t6 (i := 210) (by first | rfl | decide +kernel) rfl), ⟨rfl, by decide, by decide, rfl⟩⟩
theorem kl_238 : q_okV RL 238 RX12 yX12_mark cX12_mark 1 (some .int) 0 := ⟨(q_in_t9 (i := 196) (by first | rfl | decide +kernel) rfl), (q_in_t9 (i := 197) (by first | rfl | decide +kernel) rfl), (q_in_t9 (i := 198) (by first | rfl | decide +kernel) rfl), (q_in_t1 (i := 14) (by first | rfl | decide +kernel) rfl), (q_in_t9 (i := 199) (by first | rfl | decide +kernel) rfl), ⟨rfl, by decide, by decide, rfl⟩⟩
theorem kl_239 : q_okV RL 239 RX11 yX11_back cX11_back 2 (some .int) 0 := ⟨(q_in_t6 (i := 215) (by first | rfl | decide +kernel) rfl), (q_in_t6 (i := 216) (by first | rfl | decide +kernel) rfl), (q_in_t6 (i := 217) (by first | rfl | decide +kernel) rfl), (q_in_t1 (i := 1) (by first | rfl | decide +kernel) rfl), (q_in_t6 (i := 218) (by first | rfl | decide +kernel) rfl), ⟨rfl, by decide, by decide, rfl⟩⟩
theorem kl_242 : q_okV RL 242 RX12 yX12_back cX12_back 1 (some .int) 0 := ⟨(q_in_t9 (i := 200) (by first | rfl | decide +kernel) rfl), (q_in_t9 (i := 201) (by first | rfl | decide +kernel) rfl), (q_in_t9 (i := 202) (by first | rfl | decide +kernel) rfl), (q_in_t1 (i := 14) (by first | rfl | decide +kernel) rfl), (q_in_t9 (i := 203) (by first | rfl | decide +kernel) rfl), ⟨rfl, by decide, by decide, rfl⟩⟩
