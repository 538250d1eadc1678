/-! A PLAYER READ -/
section TU
variable {X : XW} {lb : Nat → Nat} {D T g a : Nat} {σ τ σ' τ' σ1 τ1 : ST} {n : Int} {B : Int → Int} {V : Nat → Int → Int} {r c w t : Int → Int} {f9 f10 : Int}
theorem tb_R.b (h : tb_R V r c w t) : V 1 0 = c 3720 ∧ V 1 1 = c 3721 ∧ V 1 4 = c 3722 ∧ (2 ≤ c 3720 ∧ c 3720 ≤ 10) ∧ (1 ≤ c 3721 ∧ c 3721 ≤ 8) ∧ (0 ≤ c 3722 ∧ c 3722 ≤ 6) := by
  obtain ⟨⟨⟨n1, n2, n3, n4, n5⟩, n6⟩, z, nm, hh, mn, k1, k2, k3⟩ := h
  exact ⟨n1, n2, n5, ⟨k1, mn.1.2⟩, ⟨k2, mn.2.1.2⟩, mn.2.2.1⟩
/-- behind a fault the reference's player does nothing -/
theorem tm_J160a (h : 0 < (τ.1 a 12).toInt) : F_X12_readPlayer_J160_5 X a τ = τ := by
  unfold F_X12_readPlayer_J160_5
  rw [q_letE, if_neg (by omega)]
theorem tm_J125a (pl : Int32) (h : 0 < (τ.1 a 12).toInt) : F_X12_readPlayer_J125_4 X a pl τ = τ := by
  unfold F_X12_readPlayer_J125_4
  rw [q_letE, if_neg (by omega), tm_J160a h]
theorem tm_J72a (pl : Int32) (h : 0 < (τ.1 a 12).toInt) : F_X12_readPlayer_J72_3 X a pl τ = τ := by
  unfold F_X12_readPlayer_J72_3
  rw [q_letE, if_pos h]
theorem tm_J48a (pl : Int32) (h : 0 < (τ.1 a 12).toInt) : F_X12_readPlayer_J48_2 X a pl τ = τ := by
  unfold F_X12_readPlayer_J48_2
  rw [q_letE, if_neg (by omega), tm_J72a pl h]
theorem tm_J25a (pl : Int32) (h : 0 < (τ.1 a 12).toInt) : F_X12_readPlayer_J25_1 X a pl τ = τ := by
  unfold F_X12_readPlayer_J25_1
  rw [q_letE, if_pos h]
theorem tb_readPlayer (Y : y_S X lb) (H : tb_D X lb D T g) (ha : q_kd X a = 12) (I : tb_I X D T g a n B σ τ V r c w t f9 f10) (h1 : (τ.1 a 14).toInt = 1) :
    ∃ (z : Int32) (σ' : ST), F_X9_readPlayer X σ D = (z, σ') ∧ tb_O X lb D T g a n B σ τ σ' (F_X12_must X (F_X12_readPlayer X τ a) a (F_X12_isSign X (F_X12_readPlayer X τ a) a 59)) z := by
  obtain ⟨S, M, K, h0, Rr⟩ := I
  have kb := K.b
  have hDn : lb D / 8192 ≠ 6 := by have := H.2.2.2.1; omega
  obtain ⟨b0, b1, b4, b20, b21, b22⟩ := Rr.b
  obtain ⟨P, hP⟩ : ∃ P, P = c 3722 := ⟨_, rfl⟩
  rw [← hP] at b22
  have pc : (σ.1 (q_rf X g 0) 4).toInt = P := by
    have z := y_v_rdn (X := X) (g := g) (σ := σ) (id := 1) (by decide) 4
    rw [S.2.1] at z
    exact z.trans (b4.trans hP.symm)
  have pm : (τ.1 (q_rf X a 20) (3722 : Int32).toNatClampNeg).toInt = P := by
    have z := m_rd (X := X) (σ := τ) (a := a) (i := 3722) (A := 3722) rfl rfl
    rw [M.2.1] at z
    exact z.trans hP.symm
  have epl : τ.1 (q_rf X a 20) (3722 : Int32).toNatClampNeg = σ.1 (q_rf X g 0) 4 := Int32.toInt_inj.mp (pm.trans pc.symm)
  unfold F_X9_readPlayer F_X12_readPlayer
  rw [← H.2.1, q_letE (σ.1 (q_rf X g 0) 4), q_letE (τ.1 (q_rf X a 20) (3722 : Int32).toNatClampNeg), epl]
  obtain ⟨pl, hpl⟩ : ∃ s, s = σ.1 (q_rf X g 0) 4 := ⟨_, rfl⟩
  rw [← hpl] at pc ⊢
  by_cases q6 : P = 6
  · rw [q6] at pc
    rw [q_letE (τ.1 a 15)]
    have ng : ¬ pl.toInt < 6 := by omega
    rw [if_neg ng, if_pos pc, q_letE (F_X12_fail X τ a 6 (τ.1 a 15))]
    obtain ⟨σ', a1, a2, a3, a4⟩ := tl_fail (X := X) K h0 (by omega) (k := 6) (by decide) (w := τ.1 a 15) rfl
    rw [tm_J25a pl a4.2.1, a1]
    exact ⟨0, σ', rfl, tb_O.bad (S.rd Y H a2).2 (tb_P.rd Y.1 ha a3) rfl a4 _⟩
  · have lt : pl.toInt < 6 := by omega
    have ne : ¬ pl.toInt = 6 := by omega
    rw [if_pos lt, if_neg ne]
    unfold F_X12_readPlayer_J25_1
    rw [q_letE (τ.1 a 12), h0, if_neg (by decide : ¬ (0 : Int) < 0), q_letE (F_X3_advance X σ D), q_letE (F_X12_next X τ a), q_letE (F_X12_isName X (F_X12_next X τ a) a)]
    obtain ⟨c1, m1, K2, g2⟩ := tl_adv2 S.1 M.1 K
    obtain ⟨S2, f2⟩ := S.rd Y H c1.S2
    have M2 := M.rd Y.1 ha m1.S2
    have h02 : ((F_X12_next X τ a).1 a 12).toInt = 0 := by rw [tn_12 m1]; exact h0
    obtain ⟨σb, hσb⟩ : ∃ s, s = F_X3_advance X σ D := ⟨_, rfl⟩
    obtain ⟨τb, hτb⟩ : ∃ s, s = F_X12_next X τ a := ⟨_, rfl⟩
    rw [← hσb] at S2 f2 K2 ⊢
    rw [← hτb] at M2 K2 g2 h02 ⊢
    have k2b := K2.b
    rcases tl_mustBeName S2.1 M2.1 K2 h02 with ⟨m3, m4, m5, m6⟩ | ⟨m3, σ', m4, m5, m6, m7⟩
    · rw [m6, q_biP, if_neg (by decide : ¬ (1 : Int32).toInt = 0), m3, if_neg (by decide : ¬ (1 : Int) = 0)]
      unfold F_X12_readPlayer_J48_2
      rw [q_letE (τb.1 a 12), h02, if_pos (Eq.refl (0 : Int)), q_letE (F_X12_named X τb a 4), q_letE (F_X6_playerNamed X σb (q_rf X g 0) D)]
      have nmw : y_nm V (m_wd X τb a) (6 * 4) P := by
        rw [M2.2.2.1, hP]
        exact Rr.2.2.1
      obtain ⟨nm1, nm2⟩ := tl_named Y H.2.2.1 ((y_W.rf (lb := lb) (o := 6) (σ := σb)).eq S2.2.1) S2.1 K2 m4 m5 (v := 4) (bl := 4) rfl ⟨by decide, by decide⟩ (P := P) (by rw [M2.2.1, hP]; rfl) b22 (b4.trans hP.symm) nmw
      rw [nm1]
      rcases nm2 with ⟨q1, q2⟩ | ⟨q1, q2⟩
      · rw [if_pos q1, if_pos (by omega : (F_X12_named X τb a 4).toInt < 0)]
        unfold F_X12_readPlayer_J72_3
        rw [q_letE (τb.1 a 12), h02, if_neg (by decide : ¬ (0 : Int) < 0), q_letE (F_X6_addPlayer X σb (q_rf X g 0) D), q_letE ((24 : Int32) + pl), q_letE (τb.2.1 a 19), q_letE (q_sl τb (q_rf X a 23) ((24 : Int32) + pl).toNatClampNeg (τb.2.1 a 19))]
        have W := tc_addPlayer Y H S2.1 K2.1 K2.2.1 K2.2.2.2.2.2.2.1 k2b.1 k2b.2.1 m5 (P := P) ⟨b22.1, by omega⟩ S2.2.1 (b4.trans hP.symm)
        obtain ⟨S3, f3⟩ := S2.gm Y H W
        have i24 : ((24 : Int32) + pl).toInt = 24 + P := by
          have e24 : (24 : Int32).toInt = 24 := rfl
          rw [ar_add, e24, pc, ar_wr (by omega) (by omega)]
        obtain ⟨M3, sm3⟩ := M2.word Y.1 ha (i := (24 : Int32) + pl) (v := τb.2.1 a 19) (A := 24 + P) i24 (by omega)
        have K3 := K2.same (tl_sameC.W W hDn) sm3
        have wv : (τb.2.1 a 19).toInt = tx_wv B (τb.1 a 15).toInt ((τb.1 a 16).toInt - (τb.1 a 15).toInt).toNat := (K2.2.2.2.2.2.1.2 m4).2.1 m5
        have hl := tl_le K2 m4
        rw [wv] at M3
        have h03 : ((q_sl τb (q_rf X a 23) ((24 : Int32) + pl).toNatClampNeg (τb.2.1 a 19)).1 a 12).toInt = 0 := by rw [sm3.1 12 (by decide) (by decide)]; exact h02
        have e316 : (q_sl τb (q_rf X a 23) ((24 : Int32) + pl).toNatClampNeg (τb.2.1 a 19)).1 a 16 = τb.1 a 16 := sm3.1 16 (by decide) (by decide)
        obtain ⟨bb, hbb⟩ : ∃ s, s = (τb.1 a 15).toInt := ⟨_, rfl⟩
        obtain ⟨ee, hee⟩ : ∃ s, s = (τb.1 a 16).toInt := ⟨_, rfl⟩
        rw [← hbb, ← hee] at W S3 M3 hl k2b m5
        rw [← hbb] at g2
        obtain ⟨V1, hV1⟩ : ∃ v, v = y_up (y_up (y_ad V 5 (8 * P) (ee - bb) (fun j => B (bb + j))) 6 P (ee - bb)) 1 4 (P + 1) := ⟨_, rfl⟩
        have r1 : ∀ (id : Nat) (i : Int), id ≠ 5 → id ≠ 6 → id ≠ 1 → V1 id i = V id i := fun id i i5 i6 i1 => by
          rw [hV1, y_up_ne (Or.inl i1), y_up_ne (Or.inl i6), y_ad_ne i5]
        rw [← hV1] at W S3
        obtain ⟨σc, hσc⟩ : ∃ s, s = F_X6_addPlayer X σb (q_rf X g 0) D := ⟨_, rfl⟩
        obtain ⟨τc, hτc⟩ : ∃ s, s = q_sl τb (q_rf X a 23) ((24 : Int32) + pl).toNatClampNeg (τb.2.1 a 19) := ⟨_, rfl⟩
        rw [← hσc] at W S3 f3 K3 ⊢
        rw [← hτc] at M3 sm3 K3 h03 e316 ⊢
        have k3b := K3.b
        obtain ⟨c4, m4', K4, g4⟩ := tl_adv2 S3.1 M3.1 K3
        obtain ⟨S4, f4⟩ := S3.rd Y H c4.S2
        have M4 := M3.rd Y.1 ha m4'.S2
        have h04 : ((F_X12_next X τc a).1 a 12).toInt = 0 := by rw [tn_12 m4']; exact h03
        rw [q_letE (F_X3_advance X σc D), q_letE (F_X12_next X τc a)]
        obtain ⟨σd, hσd⟩ : ∃ s, s = F_X3_advance X σc D := ⟨_, rfl⟩
        obtain ⟨τd, hτd⟩ : ∃ s, s = F_X12_next X τc a := ⟨_, rfl⟩
        rw [← hσd] at S4 f4 K4 ⊢
        rw [← hτd] at M4 K4 g4 h04 ⊢
        rw [q_letE (F_X12_isLies X τd a)]
        have n9 := Rr.1.2.2.2.2 P b22.1 (by omega)
        have gP : 0 ≤ P ∧ P < 6 := ⟨b22.1, by omega⟩
        obtain ⟨z, σe, τe, v, u, e5, e6, hz, f5, S5, M5, o⟩ := tb_six Y H ha S4 M4 K4 h04 (rr := 9) ⟨by decide, by decide⟩ (flag := F_X12_isLies X τd a) tm_isLies (id := 10) (row := q_rf X (q_rf X g 1) 3) (Or.inl rfl) rfl (pl := pl) (P := P) pc gP (Ab := 3730) (A := 3730) rfl ⟨by decide, by decide⟩ (by rw [r1 10 P (by decide) (by decide) (by decide)]; exact n9.1)
        rw [e5, q_biP, e6 (F_X12_readPlayer_J125_4 X a pl)]
        rcases o with ⟨o1, o2, o3, o4, o5⟩ | ⟨o1, o2⟩
        · rw [if_neg (by omega : ¬ z.toInt = 0)]
          unfold F_X12_readPlayer_J125_4
          rw [q_letE (τe.1 a 12), o4, if_pos (Eq.refl (0 : Int)), q_letE (F_X12_isDoubts X τe a)]
          rw [o2] at S5
          obtain ⟨z2, σf, τf, v2, u2, e7, e8, hz2, f6, S6, M6, p⟩ := tb_six Y H ha S5 M5 o3 o4 (rr := 10) ⟨by decide, by decide⟩ (flag := F_X12_isDoubts X τe a) tm_isDoubts (id := 11) (row := q_rf X (q_rf X g 1) 4) (Or.inr rfl) rfl (pl := pl) (P := P) pc gP (Ab := 3736) (A := 3736) rfl ⟨by decide, by decide⟩ (by rw [y_up_ne (Or.inl (by decide)), m_up_ne (by omega), r1 11 P (by decide) (by decide) (by decide)]; exact n9.2)
          rw [e7, q_biP, e8 (F_X12_readPlayer_J160_5 X a)]
          rcases p with ⟨p1, p2, p3, p4, p5⟩ | ⟨p1, p2⟩
          · rw [if_neg (by omega : ¬ z2.toInt = 0)]
            unfold F_X12_readPlayer_J160_5
            rw [q_letE (τf.1 a 12), p4, if_pos (Eq.refl (0 : Int)), q_letE, q_letE, q_letE]
            rw [p2] at S6
            have hf : (τf.1 (q_rf X a 20) (3722 : Int32).toNatClampNeg).toInt = P := by
              have z := m_rd (X := X) (σ := τf) (a := a) (i := 3722) (A := 3722) rfl rfl
              rw [M6.2.1, m_up_ne (by omega), m_up_ne (by omega)] at z
              exact z.trans hP.symm
            have inc : (τf.1 (q_rf X a 20) (3722 : Int32).toNatClampNeg + 1).toInt = P + 1 := by
              rw [y_inc (by omega), hf]
            obtain ⟨M7, sm7⟩ := M6.cw Y.1 ha (i := 3722) (v := τf.1 (q_rf X a 20) (3722 : Int32).toNatClampNeg + 1) (A := 3722) rfl (by decide)
            rw [inc] at M7
            obtain ⟨τg, hτg⟩ : ∃ s, s = q_si τf (q_rf X a 20) (3722 : Int32).toNatClampNeg (τf.1 (q_rf X a 20) (3722 : Int32).toNatClampNeg + 1) := ⟨_, rfl⟩
            rw [← hτg] at M7 sm7 ⊢
            have K7 := p3.same tl_sameC.rf sm7
            have h07 : (τg.1 a 12).toInt = 0 := by rw [sm7.1 12 (by decide) (by decide)]; exact p4
            have R7 := Rr.player (b := bb) (e := ee) (v1 := v) (v2 := v2) hP.symm gP (by omega) m5 hl
            rw [← hV1] at R7
            have pP : tb_P X a τ τg := tb_P.mk M M7 (fun j a1 a2 => by rw [m_up_ne (by omega), m_up_ne (by omega), m_up_ne (by omega)]) (fun j a1 a2 => m_up_ne (by omega))
            have e715 : τg.1 a 15 = τf.1 a 15 := sm7.1 15 (by decide) (by decide)
            have k7b := K7.b
            obtain ⟨z3, σ2, e9, x1, x2, x3⟩ := tb_semi Y H ha (σ := σ) (τ := τ) ⟨S6, M7, K7, h07, R7⟩ ((((f2.tr f3).tr f4).tr f5).tr f6) pP (by rw [e715]; rw [e316] at g4; omega) (by rw [e715] at k7b; rw [e316] at g4; omega)
            rw [e9, q_biP]
            rcases x3 with ⟨y1, y2⟩ | ⟨y1, y2⟩
            · rw [if_neg (by omega)]
              exact ⟨1, σ2, rfl, x1, x2, Or.inl ⟨rfl, y2⟩⟩
            · rw [if_pos y1]
              exact ⟨0, σ2, rfl, x1, x2, Or.inr ⟨rfl, y2⟩⟩
          · rw [if_pos p1, tm_J160a p2.2.1]
            exact ⟨0, σf, rfl, tb_O.bad ((((f2.tr f3).tr f4).tr f5).tr f6) (tb_P.mk M M6 (fun j a1 a2 => by rw [m_up_ne (by omega), m_up_ne (by omega)]) (fun j a1 a2 => m_up_ne (by omega))) rfl p2 _⟩
        · rw [if_pos o1, tm_J125a pl o2.2.1]
          exact ⟨0, σe, rfl, tb_O.bad (((f2.tr f3).tr f4).tr f5) (tb_P.mk M M5 (fun j a1 a2 => m_up_ne (by omega)) (fun j a1 a2 => m_up_ne (by omega))) rfl o2 _⟩
      · rw [if_neg (by omega : ¬ (F_X12_named X τb a 4).toInt = -1), if_neg (by omega : ¬ (F_X12_named X τb a 4).toInt < 0), q_biE, q_letE, q_letE]
        obtain ⟨σ', a1, a2, a3, a4⟩ := tl_fail (X := X) K2 h02 (by omega) (k := 3) (by decide) (w := τb.1 a 15) rfl
        rw [tm_J72a pl a4.2.1, a1]
        exact ⟨0, σ', rfl, tb_O.bad (f2.tr (S2.rd Y H a2).2) ((tb_P.mk M M2 (fun _ _ _ => rfl) (fun _ _ _ => rfl)).tr (tb_P.rd Y.1 ha a3)) rfl a4 _⟩
    · rw [m4, q_biP, if_pos (by decide : (0 : Int32).toInt = 0), m3, if_pos (Eq.refl (0 : Int)), q_letE (F_X12_wrong X τb a), tm_J48a pl m7.2.1]
      exact ⟨0, σ', rfl, tb_O.bad (f2.tr (S2.rd Y H m5).2) ((tb_P.mk M M2 (fun _ _ _ => rfl) (fun _ _ _ => rfl)).tr (tb_P.rd Y.1 ha m6)) rfl m7 _⟩
end TU
