/-! FROM 49p.tableF.lean.txt -/
/-! TABLE: what it leaves alone -/
section TNF
variable {X : XW} {lb : Nat → Nat} {C a : Nat} {σ τ : ST} {m : Int} {B : Int → Int}
theorem tb_tableF (Cl : tb_Cls X lb C a) (h5 : (σ.1 C 5).toInt = m) (h8 : (τ.1 a 8).toInt = m) (hm : 0 ≤ m ∧ m ≤ 900) (hB : ∀ p : Int, 0 ≤ p → p < m → (σ.1 (q_rf X C 4) p.toNat).toInt = B p ∧ -128 ≤ B p ∧ B p ≤ 127) (hB2 : ∀ p : Int, 0 ≤ p → p < m → (τ.1 (q_rf X a 7) p.toNat).toInt = B p) (v : Int32) :
    ∃ (z : Int32) (σ' : ST) (z' : Int32) (τ' : ST), F_X11_table X σ C v = (z, σ') ∧ F_X12_table X τ a v = (z', τ') ∧ z.toInt = z'.toInt ∧ (σ'.1 C 0).toInt = (τ'.1 a 0).toInt ∧ tb_Out X C a σ τ v m z σ' τ' ∧ ∀ b, lb b / 8192 = 3 ∨ lb b / 8192 = 4 ∨ lb b / 8192 = 5 → ∀ f, σ'.1 b f = σ.1 b f := by
  obtain ⟨kC, ka, Y, H, G1, hTl, hUl, hlC⟩ := Cl
  have z0 : (0 : Int32).toInt = 0 := rfl
  have m1 : ((-1) : Int32).toInt = -1 := rfl
  have e900 : (900 : Int32).toInt = 900 := rfl
  have ku : q_kd X (q_rf X a 7) = 33 := (tb_k Y.1 ka).2.2.2
  have nU : q_rf X a 7 ≠ a := m_ne ku ka (by decide)
  obtain ⟨D, hD⟩ : ∃ D, D = q_rf X C 12 := ⟨_, rfl⟩
  obtain ⟨T, hT⟩ : ∃ T, T = q_rf X C 4 := ⟨_, rfl⟩
  obtain ⟨g, hg⟩ : ∃ g, g = q_rf X D 8 := ⟨_, rfl⟩
  obtain ⟨g1, hg1⟩ : ∃ g, g = q_rf X C 8 := ⟨_, rfl⟩
  rw [← hD, ← hT, ← hg] at H
  rw [← hT] at hTl hB
  rw [← hg1] at G1
  have kD : q_kd X D = 9 := H.1
  have kT : q_kd X T = 22 := H.2.2.2.2.2.2.2.2
  have nTD : T ≠ D := m_ne kT kD (by decide)
  have nCD : C ≠ D := m_ne kC kD (by decide)
  have nCA : C ≠ tb_T X D := m_ne kC H.2.2.2.2.2.2.1 (by decide)
  have hC6 : lb C / 8192 ≠ 6 := by omega
  have hC1 : lb C / 8192 ≠ 1 := by omega
  have hD1 : lb D / 8192 ≠ 1 := by have := H.2.2.2.1; omega
  -- the reference begins
  have t2 : tkl (fun b f => b = a ∧ (f = 0 ∨ f = 1)) (fun _ _ => False) τ (q_si (q_si τ a 1 0) a 0 0) := (tkl.rf.si _ ⟨rfl, Or.inr rfl⟩).si _ ⟨rfl, Or.inl rfl⟩
  have d8 : ((q_si (q_si τ a 1 0) a 0 0).1 a 8).toInt = m := by rw [si_f (by decide), si_f (by decide)]; exact h8
  have d0 : (q_si (q_si τ a 1 0) a 0 0).1 a 0 = 0 := si_eq _ _ _ _
  unfold F_X11_table F_X12_table F_X12_opens F_X12_no F_X11_none F_X11_good
  rw [q_letE (q_si τ a 1 0), q_letE (q_si (q_si τ a 1 0) a 0 0)]
  obtain ⟨τ2, e2⟩ : ∃ s, s = q_si (q_si τ a 1 0) a 0 0 := ⟨_, rfl⟩
  rw [← e2] at t2 d8 d0 ⊢
  have no5 : tkl (fun b f => b = a ∧ (f = 0 ∨ f = 1)) (fun _ _ => False) τ (q_si τ2 a 0 5) := t2.si _ ⟨rfl, Or.inl rfl⟩
  have st5 : ((q_si σ C 0 5).1 C 0).toInt = ((q_si τ2 a 0 5).1 a 0).toInt := by rw [si_eq, si_eq]
  have tc5 : tk (fun b f => b = C ∧ f = 0) σ (q_si σ C 0 5) := tk.rf.si _ ⟨rfl, rfl⟩
  have fr5 : ∀ b, lb b / 8192 = 3 ∨ lb b / 8192 = 4 ∨ lb b / 8192 = 5 → ∀ f, (q_si σ C 0 5).1 b f = σ.1 b f := fun b hb f => tc5.1 b f (fun z => by
    rw [z.1] at hb
    omega)
  have hD0 := H.2.2.2.1
  have hA0 := H.2.2.2.2.2.1
  by_cases q1 : v.toInt < 0
  · rw [if_pos q1, if_pos q1, q_letE, q_biP, q_letE, q_biP, q_biP, if_pos (by decide : (0 : Int32).toInt = 0)]
    exact ⟨-1, _, -1, _, rfl, rfl, rfl, st5, Or.inl ⟨Or.inl q1, tc5, no5⟩, fr5⟩
  · rw [if_neg q1, if_neg q1, q_letE (σ.1 C 5), h5, q_letE (τ2.1 a 8), d8]
    by_cases q2 : m < v.toInt
    · rw [if_pos q2, if_pos q2, q_letE, q_biP, q_letE, q_biP, q_biP, if_pos (by decide : (0 : Int32).toInt = 0)]
      exact ⟨-1, _, -1, _, rfl, rfl, rfl, st5, Or.inl ⟨Or.inr q2, tc5, no5⟩, fr5⟩
    · rw [if_neg q2, if_neg q2, e900, if_neg (by omega : ¬ (900 : Int) < v.toInt)]
      rw [q_letE (q_si τ2 a 9 v), q_letE (q_si (q_si τ2 a 9 v) a 8 0), q_letE (q_si (q_si (q_si τ2 a 9 v) a 8 0) a 16 0), q_letE (q_si (q_si (q_si (q_si τ2 a 9 v) a 8 0) a 16 0) a 12 0)]
      have t3 : tkl (fun b f => b = a ∧ (f = 9 ∨ f = 8 ∨ f = 16 ∨ f = 12)) (fun _ _ => False) τ2 (q_si (q_si (q_si (q_si τ2 a 9 v) a 8 0) a 16 0) a 12 0) := (((tkl.rf.si _ ⟨rfl, Or.inl rfl⟩).si _ ⟨rfl, Or.inr (Or.inl rfl)⟩).si _ ⟨rfl, Or.inr (Or.inr (Or.inl rfl))⟩).si _ ⟨rfl, Or.inr (Or.inr (Or.inr rfl))⟩
      have c9 : (q_si (q_si (q_si (q_si τ2 a 9 v) a 8 0) a 16 0) a 12 0).1 a 9 = v := by rw [si_f (by decide), si_f (by decide), si_f (by decide), si_eq]
      have c8 : (q_si (q_si (q_si (q_si τ2 a 9 v) a 8 0) a 16 0) a 12 0).1 a 8 = 0 := by rw [si_f (by decide), si_f (by decide), si_eq]
      have c16 : (q_si (q_si (q_si (q_si τ2 a 9 v) a 8 0) a 16 0) a 12 0).1 a 16 = 0 := by rw [si_f (by decide), si_eq]
      have c12 : (q_si (q_si (q_si (q_si τ2 a 9 v) a 8 0) a 16 0) a 12 0).1 a 12 = 0 := si_eq _ _ _ _
      obtain ⟨τ3, e3⟩ : ∃ s, s = q_si (q_si (q_si (q_si τ2 a 9 v) a 8 0) a 16 0) a 12 0 := ⟨_, rfl⟩
      rw [← e3] at t3 c9 c8 c16 c12 ⊢
      have c0 : τ3.1 a 0 = 0 := by rw [t3.1 a 0 (fun q => absurd q.2 (by decide)), d0]
      have M0 : tm_E X τ3 a v.toInt B := ⟨by rw [c9], ⟨by omega, by omega⟩, nU, fun p p0 p1 => by
        rw [t3.1 _ _ (fun q => nU q.1), t2.1 _ _ (fun q => nU q.1)]
        exact ⟨hB2 p p0 (by omega), (hB p p0 (by omega)).2⟩⟩
      obtain ⟨z, σ8, τ8, f1, f2, Gf, Pf, out⟩ := tb_takes Y H ka hTl nTD (v := v) rfl ⟨by omega, by omega⟩ (fun p p0 p1 => hB p p0 (by omega)) M0 (by rw [c16]; rfl) (by rw [c12]; rfl) (by rw [c0]; rfl) (by rw [c8]; rfl)
      rw [q_letE (F_X12_next X τ3 a), q_biP (1 : Int32) (F_X12_next X τ3 a), if_neg (by decide : ¬ (1 : Int32).toInt = 0), f2, ← hD, ← hT, ← hg1, f1, q_biP z σ8]
      have C8 : ∀ f, σ8.1 C f = σ.1 C f := Gf.1 C hC6 nCD nCA
      -- the class ends its reading
      unfold F_X11_endReading
      rw [q_letE (q_si σ8 C 5 0), q_letE ((q_si σ8 C 5 0).1 D 6), q_letE (q_si (q_si σ8 C 5 0) C 6 ((q_si σ8 C 5 0).1 D 6)), q_letE ((q_si (q_si σ8 C 5 0) C 6 ((q_si σ8 C 5 0).1 D 6)).1 D 7), q_letE (q_si (q_si (q_si σ8 C 5 0) C 6 ((q_si σ8 C 5 0).1 D 6)) C 7 ((q_si (q_si σ8 C 5 0) C 6 ((q_si σ8 C 5 0).1 D 6)).1 D 7))]
      have t9 : tk (fun b f => b = C ∧ (f = 5 ∨ f = 6 ∨ f = 7)) σ8 (q_si (q_si (q_si σ8 C 5 0) C 6 ((q_si σ8 C 5 0).1 D 6)) C 7 ((q_si (q_si σ8 C 5 0) C 6 ((q_si σ8 C 5 0).1 D 6)).1 D 7)) := ((tk.rf.si _ ⟨rfl, Or.inl rfl⟩).si _ ⟨rfl, Or.inr (Or.inl rfl)⟩).si _ ⟨rfl, Or.inr (Or.inr rfl)⟩
      have g5 : (q_si (q_si (q_si σ8 C 5 0) C 6 ((q_si σ8 C 5 0).1 D 6)) C 7 ((q_si (q_si σ8 C 5 0) C 6 ((q_si σ8 C 5 0).1 D 6)).1 D 7)).1 C 5 = 0 := by rw [si_f (by decide), si_f (by decide), si_eq]
      have g6 : (q_si (q_si (q_si σ8 C 5 0) C 6 ((q_si σ8 C 5 0).1 D 6)) C 7 ((q_si (q_si σ8 C 5 0) C 6 ((q_si σ8 C 5 0).1 D 6)).1 D 7)).1 C 6 = σ8.1 D 6 := by rw [si_f (by decide), si_eq, q_si_ne (Ne.symm nCD)]
      have g7 : (q_si (q_si (q_si σ8 C 5 0) C 6 ((q_si σ8 C 5 0).1 D 6)) C 7 ((q_si (q_si σ8 C 5 0) C 6 ((q_si σ8 C 5 0).1 D 6)).1 D 7)).1 C 7 = σ8.1 D 7 := by rw [si_eq, q_si_ne (Ne.symm nCD), q_si_ne (Ne.symm nCD)]
      obtain ⟨σ9, e9⟩ : ∃ s, s = q_si (q_si (q_si σ8 C 5 0) C 6 ((q_si σ8 C 5 0).1 D 6)) C 7 ((q_si (q_si σ8 C 5 0) C 6 ((q_si σ8 C 5 0).1 D 6)).1 D 7) := ⟨_, rfl⟩
      rw [← e9] at t9 g5 g6 g7 ⊢
      rw [q_letE σ9]
      have vw : ∀ (h o : Nat), y_G X lb h o → o ≠ 0 → ∀ id, id < 25 → ∀ f, σ9.1 (y_gA X h id) f = σ8.1 (y_gA X h id) f := fun h o G ho id hid f => t9.1 _ _ (fun q => by
        have := y_own Y G hid
        rw [q.1] at this
        omega)
      rcases out with ⟨o1, V, r, c, w, t, f9, f10, I⟩ | ⟨o1, o2⟩
      · obtain ⟨S, M, K, h0, Rr⟩ := I
        obtain ⟨zz, τ9, x1, x2, x3, x4, x5, x6, x7⟩ := tm_end1 (X := X) Y.1 ka h0
        rw [x1, if_neg (by omega : ¬ z.toInt = 0), ← hg]
        have cp : y_C X lb g1 1 g σ9 (F_X0_copyFrom X σ9 g1 g) y_all := tb_copy Y G1 H.2.2.1 (by decide)
        rw [q_letE (F_X0_copyFrom X σ9 g1 g)]
        obtain ⟨σ10, e10⟩ : ∃ s, s = F_X0_copyFrom X σ9 g1 g := ⟨_, rfl⟩
        rw [← e10] at cp ⊢
        obtain ⟨V1, W, hV⟩ := cp
        have vg : y_v X g σ9 = V := by
          rw [← S.2.1]
          funext id i
          unfold y_v
          by_cases q : id < 25 ∧ 0 ≤ i
          · rw [if_pos q, if_pos q, vw g 6 H.2.2.1 (by decide) id q.1]
          · rw [if_neg q, if_neg q]
        have p4 : (σ10.1 (q_rf X g1 0) 4).toInt = c 3722 := by
          have z1 := y_v_rdn (X := X) (g := g1) (σ := σ10) (id := 1) (by decide) 4
          rw [W.2.2] at z1
          refine z1.trans ?_
          have z2 := hV 1 ((4 : Nat) : Int) ⟨(1, 4), by decide, rfl, Or.inr ⟨by decide, rfl⟩⟩
          rw [z2, vg]
          exact Rr.b.2.2.1
        have C10 : ∀ f, σ10.1 C f = σ9.1 C f := W.1 C hC1
        have nCg : ∀ id, id < 25 → C ≠ y_gA X g1 id := fun id hid => y_gA_ne Y G1 hid hC1
        rw [q_letE (σ10.1 (q_rf X g1 0) 4), q_letE (q_si σ10 C 0 0), q_biP]
        have c5 : (q_si σ10 C 0 0).1 C 5 = 0 := by rw [si_f (by decide), C10, g5]
        have c6 : (q_si σ10 C 0 0).1 C 6 = σ8.1 D 6 := by rw [si_f (by decide), C10, g6]
        have c7 : (q_si σ10 C 0 0).1 C 7 = σ8.1 D 7 := by rw [si_f (by decide), C10, g7]
        have k67 := K.2.2.2.2.2.2.2.2
        have n20 : a ≠ q_rf X a 20 := Ne.symm (m_ne (tb_k Y.1 ka).1 ka (by decide))
        have a08 : ∀ f, f ≠ 10 → f ≠ 11 → τ9.1 a f = τ8.1 a f := fun f q1 q2 => x5.1 a f (fun q => by
          rcases q with q | q
          · exact n20 q
          · omega)
        have cc : ∀ j : Int, 0 ≤ j → j < 3720 → c j = m_c X τ a j := fun j a1 a2 => by
          rw [← M.2.1, Pf.1 j a1 a2]
          exact congrArg Int32.toInt ((t3.1 _ _ (fun q => n20 q.1.symm)).trans (t2.1 _ _ (fun q => n20 q.1.symm)))
        have ww : ∀ j : Int, 0 ≤ j → j < 24 → w j = m_wd X τ a j := fun j a1 a2 => by
          rw [← M.2.2.1, Pf.2.1 j a1 a2]
          exact congrArg Int64.toInt ((t3.2.1 _ _ (fun q => q)).trans (t2.2.1 _ _ (fun q => q)))
        rw [M.2.1] at x2 x6
        rw [M.2.2.1] at x7
        refine ⟨_, _, zz, τ9, rfl, rfl, p4.trans x2.symm, ?_, Or.inr ⟨⟨by omega, by omega⟩, by rw [c5]; rfl, ?_, ?_, ?_, Or.inr ⟨?_, V, r, c, w, t, Rr, cc, ww, p4, fun id i hi => ?_, x6, x7⟩⟩, fun b hb f => ?_⟩
        · rw [si_eq, a08 0 (by decide) (by decide), M.2.2.2.2.2.2.1]
          rfl
        · rw [a08 8 (by decide) (by decide)]
          exact M.2.2.2.2.2.2.2
        · rw [c6, x3]
          exact k67.1
        · rw [c7, x4]
          exact k67.2
        · rw [c6]
          exact k67.1
        · have z1 := hV id i hi
          rw [vg] at z1
          rw [← hg1, ← z1, ← W.2.2]
          unfold y_v
          by_cases q : id < 25 ∧ 0 ≤ i
          · rw [if_pos q, if_pos q, q_si_ne (Ne.symm (nCg id q.1))]
          · rw [if_neg q, if_neg q]
        · have nb : b ≠ C := fun z => by
            rw [z] at hb
            omega
          rw [q_si_ne nb, W.1 b (by omega) f, t9.1 b f (fun z => nb z.1), Gf.1 b (by omega) (fun z => by
            rw [z] at hb
            omega) (fun z => by
            rw [z] at hb
            omega)]
      · obtain ⟨τ9, x1, x2, x3, x4, x5⟩ := tm_end0 (X := X) o2.2.1
        rw [x1, if_pos o1, q_letE, q_biP]
        have n20 : a ≠ q_rf X a 20 := Ne.symm (m_ne (tb_k Y.1 ka).1 ka (by decide))
        refine ⟨_, _, _, τ9, rfl, rfl, rfl, ?_, Or.inr ⟨⟨by omega, by omega⟩, ?_, ?_, ?_, ?_, Or.inl ⟨rfl, ?_, fun j a1 a2 => ?_, fun j a1 a2 => ?_⟩⟩, fun b hb f => ?_⟩
        · rw [si_eq, x4]
          rfl
        · rw [si_f (by decide), g5]
          rfl
        · rw [x5.1 a 8 (fun q => absurd q.2 (by decide)), Pf.2.2.2, c8]
          rfl
        · rw [si_f (by decide), g6, x2]
          exact o2.1
        · rw [si_f (by decide), g7, x3]
          exact o2.2.2
        · funext id i
          unfold y_v
          by_cases q : id < 25 ∧ 0 ≤ i
          · have own := y_own Y G1 q.1
            rw [if_pos q, if_pos q, ← hg1, q_si_ne (fun z => by rw [z] at own; omega), vw g1 1 G1 (by decide) id q.1, Gf.1 _ (by omega) (fun z => by rw [z] at own; omega) (fun z => by
              rw [z] at own
              have := H.2.2.2.2.2.1
              omega)]
          · rw [if_neg q, if_neg q]
        · have y1 : m_c X τ9 a j = m_c X τ8 a j := congrArg Int32.toInt (x5.1 _ _ (fun q => n20 q.1.symm))
          rw [y1, Pf.1 j a1 a2]
          exact congrArg Int32.toInt ((t3.1 _ _ (fun q => n20 q.1.symm)).trans (t2.1 _ _ (fun q => n20 q.1.symm)))
        · have y1 : m_wd X τ9 a j = m_wd X τ8 a j := congrArg Int64.toInt (x5.2.1 _ _ (fun q => q))
          rw [y1, Pf.2.1 j a1 a2]
          exact congrArg Int64.toInt ((t3.2.1 _ _ (fun q => q)).trans (t2.2.1 _ _ (fun q => q)))
        · have nb : b ≠ C := fun z => by
            rw [z] at hb
            omega
          rw [q_si_ne nb, t9.1 b f (fun z => nb z.1), Gf.1 b (by omega) (fun z => by
            rw [z] at hb
            omega) (fun z => by
            rw [z] at hb
            omega)]
end TNF
