/-! FROM 49ze.alround.lean.txt -/
/-! A ROUND: both answer the same, all stays the same: the whole -/
section RE
variable {X : XW} {lb : Nat → Nat} {C a : Nat} {σ τ : ST} {n m : Int} {B : Int → Int}
theorem al_round (K : al_C X lb C a) (h9 : q_ln X (q_rf X a 7) = 900) (A : al_R X C a σ τ) (M : m_M (m_c X τ a) (τ.1 a 24).toInt n) (h5 : (σ.1 C 5).toInt = m) (h8 : (τ.1 a 8).toInt = m) (hm : 0 ≤ m ∧ m ≤ 900) (hB : ∀ p : Int, 0 ≤ p → p < m → (σ.1 (q_rf X C 4) p.toNat).toInt = B p ∧ -128 ≤ B p ∧ B p ≤ 127) (hB2 : ∀ p : Int, 0 ≤ p → p < m → (τ.1 (q_rf X a 7) p.toNat).toInt = B p) (v : Int32) :
    ∃ (z : Int32) (σ' : ST) (z' : Int32) (τ' : ST), F_X11_round X σ C v = (z, σ') ∧ F_X12_round X τ a v = (z', τ') ∧ z.toInt = z'.toInt ∧ (σ'.1 C 0).toInt = (τ'.1 a 0).toInt ∧ rr_Out C a σ τ v m σ' τ' ∧ al_R X C a σ' τ' := by
  obtain ⟨kC, ka, S, lC, G8, G9, GM⟩ := id K
  obtain ⟨A1, A2, A3, A4⟩ := id A
  have hTl : q_ln X (q_rf X C 4) = 900 := (y_Cls S kC ka lC h9).2.2.2.2.2.1
  have D := rd_Dmk S kC lC
  have k20 := (tb_k S.1 ka).1
  have k23 := (tb_k S.1 ka).2.2.1
  have k7 := (tb_k S.1 ka).2.2.2
  have na0 : a ≠ q_rf X a 20 := Ne.symm (m_ne k20 ka (by decide))
  have nU : q_rf X a 7 ≠ a := m_ne k7 ka (by decide)
  obtain ⟨m2, s2, t2⟩ := mv_beg S.1 ka (rfl : m_c X τ a = m_c X τ a)
  by_cases hv : v.toInt < 0 ∨ m < v.toInt ∨ 300 < v.toInt
  · have t2' : tkl (fun b f => b = a ∧ (f = 0 ∨ f = 1)) (fun _ _ => False) τ (q_si (q_si τ a 1 0) a 0 0) := (tkl.rf.si _ ⟨rfl, Or.inr rfl⟩).si _ ⟨rfl, Or.inl rfl⟩
    refine ⟨_, _, _, _, rr_cl0 h5 hv, rr_open0 h8 hv, rfl, by rw [si_eq, si_eq], Or.inl ⟨hv, tk.rf.si _ ⟨rfl, rfl⟩, t2'.si _ ⟨rfl, Or.inl rfl⟩⟩, A.mv K M ?_⟩
    exact mv_mk S G8 (by omega) y_W.rf A1.1 (fun _ _ _ => rfl) (fun _ _ _ => rfl) 5 ((mv_cell S.1 ka 0 5).trans m2) (t2.si _ (Or.inr (Or.inl ⟨rfl, Or.inl rfl⟩)))
  have hv' : 0 ≤ v.toInt ∧ v.toInt ≤ m ∧ v.toInt ≤ 300 := by omega
  obtain ⟨R, hR⟩ : ∃ R, R = q_rf X C 13 := ⟨_, rfl⟩
  obtain ⟨T, hT⟩ : ∃ T, T = q_rf X C 4 := ⟨_, rfl⟩
  obtain ⟨g, hg⟩ : ∃ g, g = q_rf X C 8 := ⟨_, rfl⟩
  rw [← hR, ← hT] at D
  rw [← hT] at hTl hB
  rw [← hg] at G8
  have lR : lb R = 29 := D.2.1
  have nCR : C ≠ R := m_ne kC D.1 (by decide)
  have nCi : ∀ i, i < 7 → C ≠ rdA X R i := fun i hi e => by
    have y := (D.2.2.2.2 i hi).1
    have y2 := (rdL_o i hi).2.2.2
    rw [← e, lC] at y
    exact y2 y.symm
  -- the reference opens
  obtain ⟨τ3, e3, eref⟩ := rr_open1 h8 hv'
  have t3 : tkl (fun b f => b = a ∧ (f = 0 ∨ f = 1 ∨ f = 9 ∨ f = 8 ∨ f = 16 ∨ f = 12)) (fun _ _ => False) τ τ3 := by
    rw [e3]
    exact (((((tkl.rf.si _ ⟨rfl, by omega⟩).si _ ⟨rfl, by omega⟩).si _ ⟨rfl, by omega⟩).si _ ⟨rfl, by omega⟩).si _ ⟨rfl, by omega⟩).si _ ⟨rfl, by omega⟩
  have c0 : τ3.1 a 0 = 0 := by rw [e3, si_f (by decide), si_f (by decide), si_f (by decide), si_f (by decide), si_eq]
  have c9 : τ3.1 a 9 = v := by rw [e3, si_f (by decide), si_f (by decide), si_f (by decide), si_eq]
  have c8 : τ3.1 a 8 = 0 := by rw [e3, si_f (by decide), si_f (by decide), si_eq]
  have c16 : τ3.1 a 16 = 0 := by rw [e3, si_f (by decide), si_eq]
  have c12 : τ3.1 a 12 = 0 := by rw [e3, si_eq]
  clear e3
  have z0 : (0 : Int32).toInt = 0 := rfl
  have M0 : tm_E X τ3 a v.toInt B := ⟨by rw [c9], ⟨by omega, by omega⟩, nU, fun p p0 p1 => by
    rw [t3.1 _ _ (fun q => nU q.1)]
    exact ⟨hB2 p p0 (by omega), (hB p p0 (by omega)).2⟩⟩
  -- the class begins
  obtain ⟨ρ, U, etk, S0, u0, u1, u2, r3, r6, r7, fρ⟩ := rr_beg (σ := σ) (n := v.toInt) (B := B) D hTl rfl ⟨by omega, by omega⟩ (fun p p0 p1 => hB p p0 (by omega)) (q_rf X g 0)
  obtain ⟨x1, x2, Kk, pk⟩ := tl_adv S0.1 M0 r3 (by rw [c16]; exact z0) ⟨Int.le_refl 0, by omega⟩ r6 r7
  obtain ⟨S1, f1⟩ := S0.rd D x1.S2
  obtain ⟨σ1, hσ1⟩ : ∃ s, s = F_X3_advance X ρ R := ⟨_, rfl⟩
  obtain ⟨τ4, hτ4⟩ : ∃ s, s = F_X12_next X τ3 a := ⟨_, rfl⟩
  rw [← hσ1] at Kk S1 f1 etk
  rw [← hτ4] at Kk x2 pk eref
  have M4 := M0.k2 x2.S2
  have h12 : (τ4.1 a 12).toInt = 0 := by rw [tn_12 x2, c12]; exact z0
  have mc4 : m_c X τ4 a = m_c X τ a := by
    funext j
    exact congrArg Int32.toInt ((x2.1 _ _ (fun q => na0 q.1.symm)).trans (t3.1 _ _ (fun q => na0 q.1.symm)))
  have mw4 : m_wd X τ4 a = m_wd X τ a := by
    funext j
    exact congrArg Int64.toInt ((x2.2.1 _ _ (fun q => m_ne k23 ka (by decide) q.1)).trans (t3.2.1 _ _ (fun q => q)))
  have M5 : rd_M X a τ4 v.toInt B (m_c X τ a) (m_wd X τ a) (τ4.1 a 27).toInt := ⟨M4, mc4, mw4, rfl, by rw [x2.1 a 0 (fun q => absurd q.2.1 (by decide)), c0]; exact z0, by rw [x2.1 a 8 (fun q => absurd q.2.1 (by decide)), c8]; exact z0⟩
  obtain ⟨M6, s6⟩ := M5.ns S.1 ka 0
  rw [z0] at M6
  have frσ1 : ∀ b, b ≠ R → (∀ i, i < 7 → b ≠ rdA X R i) → ∀ f, σ1.1 b f = σ.1 b f := fun b b1 b2 f => (f1.1 b b1 b2 f).trans (fρ b b1 b2 f)
  have ownR : ∀ (o : Nat), 1 ≤ o → o ≤ 5 → ∀ b, lb b / 8192 = o → b ≠ R ∧ (∀ i, i < 7 → b ≠ rdA X R i) ∧ b ≠ C := fun o o1 o2 b hb => ⟨fun e => by rw [e, lR] at hb; omega, fun i hi e => by
    have y := (D.2.2.2.2 i hi).1
    have y2 := (rdL_o i hi).1
    rw [e, y] at hb
    omega, fun e => by rw [e, lC] at hb; omega⟩
  have gv1 : y_v X g σ1 = y_v X g σ := y_v.k S G8 (fun b hb f => frσ1 b (ownR 1 (by decide) (by decide) b hb).1 (ownR 1 (by decide) (by decide) b hb).2.1 f)
  obtain ⟨τ5, hτ5⟩ : ∃ s, s = q_si τ4 a 27 0 := ⟨_, rfl⟩
  have t5 : tkl (fun b f => b = a ∧ f = 27) (fun _ _ => False) τ4 τ5 := by rw [hτ5]; exact tkl.rf.si _ ⟨rfl, rfl⟩
  rw [← hτ5] at M6 s6 eref
  have p12 : (τ5.1 a 12).toInt = 0 := by rw [t5.1 a 12 (fun q => absurd q.2 (by decide))]; exact h12
  have I : rd_I X R T a g v.toInt B (y_v X g σ) (m_wd X τ a) σ1 τ5 U 0 (m_c X τ a) 0 := ⟨S1, M6, Kk.same (fun _ _ _ => rfl) s6, p12, gv1⟩
  have mG := M.1.1
  have hP6 : 0 ≤ m_c X τ a 2 ∧ m_c X τ a 2 ≤ 6 := mG.1.2.1
  have Z0 : rd_Z U 0 0 := ⟨u1, by omega, by omega, by decide, by decide, by decide, by decide⟩
  have A1' : rb (y_v X g σ) (m_c X τ a) (m_wd X τ a) := by rw [hg]; exact A1
  have kb := I.2.2.1.b
  have pk0 := I.2.2.1.2.2.2.2.2.2.1
  obtain ⟨τ', eT, k, σ', hk, o⟩ := rT (fu := (901 - (τ5.1 a 15).toInt).toNat + (1 - (τ5.1 a 12).toInt).toNat + 1) S D ka G8 hv'.2.2 I Z0 hP6 A1'.1.1.2.2.2.2.1 A1'.2.1 (by rw [p12]; omega)
  rw [eT] at eref
  have fuel : ((2147483647 - (0 : Int32).toInt).toNat + 1) = (2147483648 - k) + k := by rw [z0]; omega
  rw [fuel] at etk
  -- what stays
  have pre : tkl (fun b f => b = a ∧ (f = 0 ∨ f = 1 ∨ f = 8 ∨ f = 9 ∨ 12 ≤ f ∧ f ≤ 18 ∨ f = 27)) (tn_L a) τ τ5 := ((t3.mono (fun _ _ q => ⟨q.1, by have := q.2; omega⟩) (fun _ _ q => q.elim)).tr (x2.S2.mono (fun _ _ q => ⟨q.1, by have := q.2; omega⟩) (fun _ _ q => q))).tr (t5.mono (fun _ _ q => ⟨q.1, by have := q.2; omega⟩) (fun _ _ q => q.elim))
  have mc5 : m_c X τ5 a = m_c X τ a := M6.2.1
  have nz0 : (0 : Int32).toNatClampNeg = 0 := rfl
  rcases o with ⟨o1, ⟨U', c', s', I', Z', o4, ⟨q, o5⟩, o6⟩, F⟩ | ⟨o1, o2, F⟩
  · -- read
    have e1 := o1 (2147483648 - k) 0 (by decide) (by omega)
    rw [e1] at etk
    obtain ⟨σ9, t9, g5, g67, -, ecl⟩ := rr_cl1 (X := X) (C := C) (σ := σ) h5 hv' (z := 1) (σ' := σ') (by rw [← hR, ← hT, ← hg]; exact etk)
    have ecl := ecl (by decide)
    rw [← hR, ← hg] at ecl
    rw [← hR] at g67
    obtain ⟨g6, g7⟩ := g67 nCR
    obtain ⟨Si, Mi, Ki, i12, iV⟩ := I'
    obtain ⟨y1, y2, y3, y4, y5, y6, y7⟩ := Z'
    obtain ⟨zz, τ9, j1, j2, j3, j4, j5, j6, j7, j8⟩ := rr_end1 (X := X) (τ := τ') S.1 ka i12 ⟨y4, y5⟩ Mi.2.2.2.1
    rw [j1] at eref
    have f9 : ∀ b, b ≠ R → (∀ i, i < 7 → b ≠ rdA X R i) → b ≠ C → ∀ f, σ9.1 b f = σ.1 b f := fun b b1 b2 b3 f => (t9.1 b f (fun q => b3 q.1)).trans ((F.1.1 b b1 b2 f).trans (frσ1 b b1 b2 f))
    have C9 : ∀ f, f ≠ 5 → f ≠ 6 → f ≠ 7 → σ9.1 C f = σ.1 C f := fun f f5 f6 f7 => (t9.1 C f (fun q => by have := q.2; omega)).trans ((F.1.1 C nCR nCi f).trans (frσ1 C nCR nCi f))
    have rv9 : rv X R σ9 = U' := by
      rw [← Si.2.1]
      funext id i
      unfold rv
      by_cases q : id < 7 ∧ 0 ≤ i
      · rw [if_pos q, if_pos q, t9.1 _ _ (fun z => nCi id q.1 z.1.symm)]
      · rw [if_neg q, if_neg q]
    obtain ⟨V', W, v0, v1, v2, v3, v4⟩ := rr_cp (σ := σ9) S D G8
    rw [rv9] at v0 v1 v2 v3
    obtain ⟨σ10, e10⟩ : ∃ s, s = F_X8_copyFrom X σ9 (q_rf X g 3) (q_rf X R 8) := ⟨_, rfl⟩
    rw [← e10] at W ecl
    have gv9 : y_v X g σ9 = y_v X g σ := y_v.k S G8 (fun b hb f => f9 b (ownR 1 (by decide) (by decide) b hb).1 (ownR 1 (by decide) (by decide) b hb).2.1 (ownR 1 (by decide) (by decide) b hb).2.2 f)
    rw [gv9] at v4
    have hC1 : lb C / 8192 ≠ 1 := by omega
    have C10 : ∀ f, σ10.1 C f = σ9.1 C f := W.1 C hC1
    have ans : (σ10.1 (q_rf X g 3) 1).toInt = s' := by
      have z1 := y_v_rdn (X := X) (g := g) (σ := σ10) (id := 3) (by decide) 1
      rw [W.2.2] at z1
      exact z1.trans (v1.trans y1)
    have gvF : y_v X g (q_si σ10 C 0 0) = V' := by
      rw [← W.2.2]
      exact y_v.k S G8 (fun b hb f => by rw [q_si_ne (ownR 1 (by decide) (by decide) b hb).2.2])
    have a9 : ∀ f, f ≠ 10 → f ≠ 11 → τ9.1 a f = τ'.1 a f := fun f q1 q2 => j5.1 a f (fun q => by
      rcases q with q | q
      · exact na0 q
      · have := q.2
        omega)
    have mwF : m_wd X τ9 a = m_wd X τ a := by
      rw [← Mi.2.2.1]
      funext j
      exact congrArg Int64.toInt (j5.2.1 _ _ (fun q => q))
    have mci : m_c X τ' a = c' := Mi.2.1
    have mlow : ∀ j : Int, 0 ≤ j → j < 654 ∨ 930 ≤ j ∧ j < 3720 → m_c X τ9 a j = m_c X τ a j := fun j j0 j1' => by
      rw [j8 j j0 (by omega) (by omega), if_neg (by omega), F.2.2 j j0 (by omega), mc5]
    have e24 : τ9.1 a 24 = τ.1 a 24 := by
      rw [a9 24 (by decide) (by decide), F.2.1.1 a 24 (fun q => by
        rcases q with q | q
        · exact na0 q
        · have := q.2
          omega), pre.1 a 24 (fun q => by have := q.2; omega)]
    have k67 := Ki.2.2.2.2.2.2.2.2
    refine ⟨_, _, zz, τ9, ecl, eref, ans.trans j2.symm, ?_, Or.inr ⟨hv', ?_, ?_, ?_, ?_⟩, ⟨⟨?_, ?_, ?_⟩, ?_, ?_, fun b b1 b2 => ?_⟩⟩
    · rw [si_eq, a9 0 (by decide) (by decide), Mi.2.2.2.2.1]
      exact z0
    · rw [si_f (by decide), C10, g5]
      exact z0
    · rw [a9 8 (by decide) (by decide)]
      exact Mi.2.2.2.2.2
    · rw [si_f (by decide), C10, g6, j3]
      exact k67.1
    · rw [si_f (by decide), C10, g7, j4]
      exact k67.2
    · rw [← hg, gvF]
      exact (A1'.1.x mG (fun _ _ _ => rfl) (fun j a0 a1 => mlow j a0 (Or.inl a1))).w3 (fun id i h => v4 id i (by omega))
    · rw [← hg, gvF, mwF, mlow 2 (by decide) (by decide)]
      intro p p0 p1
      obtain ⟨b1, b2, b3⟩ := A1'.2.1 p p0 p1
      rw [v4 6 p (by decide)]
      refine ⟨b1, fun i i0 i1 => by rw [v4 5 _ (by decide)]; exact b2 i i0 i1, ?_⟩
      rw [b3]
      refine tx_wv_ext (fun i hi => ?_)
      show y_v X g σ 5 (8 * p + (0 + (i : Int))) = V' 5 (8 * p + (0 + (i : Int)))
      rw [v4 5 _ (by decide)]
    · rw [← hg, gvF]
      have le := fl_le _ o5
      refine ⟨by rw [v0, o4, j6], by rw [j6]; exact Or.inr rfl, by rw [v1, y1, j7], by rw [v2]; exact ⟨y2, by omega⟩, q, ?_⟩
      rw [j7, v2]
      rw [u2] at o5
      exact fl_y q (fun id i i0 i1 i2 i3 => v3 id i i0 i1 i2 (by omega)) (fun j j0' j1' => by rw [j8 j (by omega) (by omega) (by omega), if_pos ⟨by omega, by omega⟩, mci, uc_e, Int.add_comm]) o5
    · rw [si_f (by decide), C10, C9 11 (by decide) (by decide) (by decide), e24]
      exact A2
    · rw [si_f (by decide), C10, C9 11 (by decide) (by decide) (by decide)]
      exact A3
    · rw [si_f (by decide), C10, C9 11 (by decide) (by decide) (by decide)] at b2
      have GMb := GM (b - 1) (by omega)
      have gvb : y_v X (q_rf X (q_rf X C 10) (b - 1)) (q_si σ10 C 0 0) = y_v X (q_rf X (q_rf X C 10) (b - 1)) σ := y_v.k S GMb (fun x hx f => by
        have ow := ownR (3 + (b - 1)) (by omega) (by omega) x hx
        rw [q_si_ne ow.2.2, W.1 x (by omega)]
        exact f9 x ow.1 ow.2.1 ow.2.2 f)
      refine (A4 b b1 b2).x (M.2 (b : Int) (by omega) (by rw [← A2]; exact b2)).1 (fun id i _ => by rw [gvb]) (fun j a0 a1 => ?_) (fun j a0 a1 => by rw [mwF])
      exact mlow _ (by omega) (Or.inr ⟨by omega, by omega⟩)
  · -- a fault
    have e1 := o1 (2147483648 - k) 0 (by decide) (by omega)
    rw [e1] at etk
    obtain ⟨σ9, t9, g5, g67, ecl, -⟩ := rr_cl1 (X := X) (C := C) (σ := σ) h5 hv' (z := 0) (σ' := σ') (by rw [← hR, ← hT, ← hg]; exact etk)
    have ecl := ecl (by decide)
    rw [← hR] at g67
    obtain ⟨g6, g7⟩ := g67 nCR
    obtain ⟨τ9, j1, j2, j3, j4, j5⟩ := rr_end0 (X := X) (τ := τ') o2.2.1
    rw [j1] at eref
    have f9 : ∀ b, b ≠ R → (∀ i, i < 7 → b ≠ rdA X R i) → b ≠ C → ∀ f, σ9.1 b f = σ.1 b f := fun b b1 b2 b3 f => (t9.1 b f (fun q => b3 q.1)).trans ((F.1.1 b b1 b2 f).trans (frσ1 b b1 b2 f))
    have C9 : ∀ f, f ≠ 5 → f ≠ 6 → f ≠ 7 → σ9.1 C f = σ.1 C f := fun f f5 f6 f7 => (t9.1 C f (fun q => by have := q.2; omega)).trans ((F.1.1 C nCR nCi f).trans (frσ1 C nCR nCi f))
    have a9 : ∀ f, f ≠ 0 → f ≠ 10 → f ≠ 11 → τ9.1 a f = τ'.1 a f := fun f q0 q1 q2 => j5.1 a f (fun q => by have := q.2; omega)
    have aR : ∀ f, f ≠ 27 → ¬ (12 ≤ f ∧ f ≤ 18) → τ'.1 a f = τ5.1 a f := fun f q1 q2 => F.2.1.1 a f (fun q => by
      rcases q with q | q
      · exact na0 q
      · have := q.2
        omega)
    have mlow : ∀ j : Int, 0 ≤ j → j < 3720 → m_c X τ9 a j = m_c X τ a j := fun j a0 a1 => by
      have y1 : m_c X τ9 a j = m_c X τ' a j := congrArg Int32.toInt (j5.1 _ _ (fun q => na0 q.1.symm))
      rw [y1, F.2.2 j a0 a1, mc5]
    have mwF : m_wd X τ9 a = m_wd X τ a := by
      funext j
      refine congrArg Int64.toInt ((j5.2.1 _ _ (fun q => q)).trans ((F.2.1.2.1 _ _ (fun q => m_ne k23 ka (by decide) q.1)).trans (pre.2.1 _ _ (fun q => m_ne k23 ka (by decide) q.1))))
    have e24 : τ9.1 a 24 = τ.1 a 24 := by rw [a9 24 (by decide) (by decide) (by decide), aR 24 (by decide) (by decide), pre.1 a 24 (fun q => by have := q.2; omega)]
    have gvF : y_v X g (q_si σ9 C 0 10) = y_v X g σ := y_v.k S G8 (fun b hb f => by
      have ow := ownR 1 (by decide) (by decide) b hb
      rw [q_si_ne ow.2.2]
      exact f9 b ow.1 ow.2.1 ow.2.2 f)
    refine ⟨_, _, _, τ9, ecl, eref, rfl, ?_, Or.inr ⟨hv', ?_, ?_, ?_, ?_⟩, ⟨?_, ?_, ?_, fun b b1 b2 => ?_⟩⟩
    · rw [si_eq, j4]
      rfl
    · rw [si_f (by decide), g5]
      exact z0
    · rw [a9 8 (by decide) (by decide) (by decide), aR 8 (by decide) (by decide)]
      exact M6.2.2.2.2.2
    · rw [si_f (by decide), g6, j2]
      exact o2.1
    · rw [si_f (by decide), g7, j3]
      exact o2.2.2
    · rw [← hg, gvF, mwF]
      exact A1'.x mG (fun _ _ _ => rfl) (fun j a0 a1 => mlow j a0 (by omega)) (fun _ _ _ => rfl)
    · rw [si_f (by decide), C9 11 (by decide) (by decide) (by decide), e24]
      exact A2
    · rw [si_f (by decide), C9 11 (by decide) (by decide) (by decide)]
      exact A3
    · rw [si_f (by decide), C9 11 (by decide) (by decide) (by decide)] at b2
      have GMb := GM (b - 1) (by omega)
      have gvb : y_v X (q_rf X (q_rf X C 10) (b - 1)) (q_si σ9 C 0 10) = y_v X (q_rf X (q_rf X C 10) (b - 1)) σ := y_v.k S GMb (fun x hx f => by
        have ow := ownR (3 + (b - 1)) (by omega) (by omega) x hx
        rw [q_si_ne ow.2.2]
        exact f9 x ow.1 ow.2.1 ow.2.2 f)
      refine (A4 b b1 b2).x (M.2 (b : Int) (by omega) (by rw [← A2]; exact b2)).1 (fun id i _ => by rw [gvb]) (fun j a0 a1 => ?_) (fun j a0 a1 => by rw [mwF])
      exact mlow _ (by omega) (by omega)
end RE
