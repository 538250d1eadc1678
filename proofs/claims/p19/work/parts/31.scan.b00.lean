/-! FROM 31.scan.b00.lean.txt -/
section
set_option maxRecDepth 100000 in
set_option maxHeartbeats 4000000 in
theorem c_X12_isIn (l : Launch) (X : XW) (σ : ST) (v0 : Int64) (v1 : Int64) (v2 : Int64) : Met l yX12_isIn (q_ws yX12_isIn cX12_isIn 6 (some .boolean)) (q_rm 0 0) (q_P X σ [.long v0, .long v1, .long v2]) (q_Qi X 9 σ (fun (r : Int32) (σ' : ST) => σ' = σ ∧ (0 ≤ r.toInt ∧ r.toInt ≤ 1) ∧ (r.toInt = 1 ↔ (v1.toInt ≤ v0.toInt ∧ v0.toInt ≤ v2.toInt)) ∧ r = F_X12_isIn X σ v0 v1 v2)) 0 0 (q_reg X) := by
  refine q_met 9 (by first | exact rfl | decide +kernel) rfl (Nat.le_of_ble_eq_true rfl) (fun p e s m below meth c E hml hr hlk hI ls hl => ?_)
  have hx := E.1
  have hb := E.2.1
  have hl : lv_has ls 6 [(0, .long v0), (2, .long v1), (4, .long v2)] := hl
  obtain ⟨out, hout⟩ : ∃ o, o = F_X12_isIn X σ v0 v1 v2 := ⟨_, rfl⟩
  have hF := hout.symm
  unfold F_X12_isIn at hF
  refine lv_lload_n hx hb dX12_isIn_0 rfl (lv_at hl 0 rfl) ?_
  refine lv_lload_n hx hb dX12_isIn_1 rfl (lv_at hl 1 rfl) ?_
  refine q_lcmpX E dX12_isIn_2 (fun z_1 ez_1 hz_1 => ?_)
  replace hF := q_letX hF ez_1
  refine q_if_lt (A := z_1.toInt) E rfl (tgt := 17) dX12_isIn_3 (by decide) (fun c_2 => ?_) (fun c_2 => ?_)
  · skip
    replace hF := q_ifp hF c_2
    refine lv_iconst (v := 0) hx hb dX12_isIn_17 (by decide) ?_
    have hrv : (0 : Int32).toInt = 0 := rfl
    exact q_retz E hr hlk hI ⟨by decide, by decide⟩ ⟨rfl, ⟨by decide, by decide⟩, (by constructor <;> intro h9 <;> omega), (hF.trans hout)⟩ dX12_isIn_18
  · skip
    replace hF := q_ifn hF (Int.not_lt.mpr c_2)
    refine lv_lload_n hx hb dX12_isIn_6 rfl (lv_at hl 0 rfl) ?_
    refine lv_lload hx hb dX12_isIn_7 (lv_at hl 2 rfl) ?_
    refine q_lcmpX E dX12_isIn_9 (fun z_3 ez_3 hz_3 => ?_)
    replace hF := q_letX hF ez_3
    refine q_if_gt (A := z_3.toInt) E rfl (tgt := 17) dX12_isIn_10 (by decide) (fun c_4 => ?_) (fun c_4 => ?_)
    · skip
      replace hF := q_ifp hF c_4
      refine lv_iconst (v := 0) hx hb dX12_isIn_17 (by decide) ?_
      have hrv : (0 : Int32).toInt = 0 := rfl
      exact q_retz E hr hlk hI ⟨by decide, by decide⟩ ⟨rfl, ⟨by decide, by decide⟩, (by constructor <;> intro h9 <;> omega), (hF.trans hout)⟩ dX12_isIn_18
    · skip
      replace hF := q_ifn hF (Int.not_lt.mpr c_4)
      refine lv_iconst (v := 1) hx hb dX12_isIn_13 (by decide) ?_
      refine lv_goto (tgt := 18) hx hb dX12_isIn_14 (by decide) ?_
      have hrv : (1 : Int32).toInt = 1 := rfl
      exact q_retz E hr hlk hI ⟨by decide, by decide⟩ ⟨rfl, ⟨by decide, by decide⟩, (by constructor <;> intro h9 <;> omega), (hF.trans hout)⟩ dX12_isIn_18

set_option maxRecDepth 100000 in
set_option maxHeartbeats 4000000 in
theorem c_X12_look2 (l : Launch) (X : XW) (σ : ST) (a : Nat) (v1 : Int32) (ha : q_kd X a = 12) (h0 : 0 ≤ v1.toInt) (h1 : (σ.1 a 9).toInt ≤ 900) : Met l yX12_look2 (q_ws yX12_look2 cX12_look2 2 (some .int)) (q_rm 0 0) (q_P X σ [.ref a, .int v1]) (q_Qi X 9 σ (fun (r : Int32) (σ' : ST) => σ' = σ ∧ (r.toInt = m_look X σ a v1.toInt) ∧ (0 ≤ r.toInt ∧ r.toInt ≤ 255) ∧ r = F_X12_look2 X σ a v1)) 0 0 (q_reg X) := by
  refine q_met 9 (by first | exact rfl | decide +kernel) rfl (Nat.le_of_ble_eq_true rfl) (fun p e s m below meth c E hml hr hlk hI ls hl => ?_)
  have hx := E.1
  have hb := E.2.1
  have hl : lv_has ls 2 [(0, .ref a), (1, .int v1)] := hl
  obtain ⟨out, hout⟩ : ∃ o, o = F_X12_look2 X σ a v1 := ⟨_, rfl⟩
  have hF := hout.symm
  unfold F_X12_look2 at hF
  refine lv_iload_n hx hb dX12_look2_0 rfl (lv_at hl 1 rfl) ?_
  refine lv_aload_n hx hb dX12_look2_1 rfl (lv_at hl 0 rfl) ?_
  refine gs_X12_98_12 E hI ha dX12_look2_2 ?_
  refine lv_topi (fun f_1 ef_1 => ?_)
  replace hF := q_letX hF ef_1
  have if_1 : f_1.toInt = (σ.1 a 9).toInt := congrArg Int32.toInt ef_1
  refine q_icmp_ge (A := v1.toInt) (B := f_1.toInt) E rfl rfl (tgt := 21) dX12_look2_5 (by decide) (fun c_2 => ?_) (fun c_2 => ?_)
  · skip
    replace hF := q_ifn hF (Int.not_lt.mpr c_2)
    refine lv_iconst (v := 0) hx hb dX12_look2_21 (by decide) ?_
    have hrv : (0 : Int32).toInt = 0 := rfl
    exact q_reti E hr hlk hI ⟨rfl, (by first | (unfold m_look; rw [if_neg (by first | (clear h0 h1 hrv; omega) | omega)]; rfl) | assumption), (by first | (clear h0 h1 if_1 c_2; omega) | omega), (hF.trans hout)⟩ dX12_look2_22
  · skip
    replace hF := q_ifp hF c_2
    refine lv_aload_n hx hb dX12_look2_8 rfl (lv_at hl 0 rfl) ?_
    refine gs_X12_24_12 E hI ha dX12_look2_9 ?_
    refine lv_iload_n hx hb dX12_look2_12 rfl (lv_at hl 1 rfl) ?_
    refine q_bald E hI (q_tk (k' := 33) hI ha rfl (by decide)) ⟨by decide, rfl⟩ (by omega) (by rw [q_lnk (v := 900) hI (q_tk (k' := 33) hI ha rfl (by decide)) rfl (by decide)]; omega) dX12_look2_13 ?_
    refine lv_topi (fun f_3 ef_3 => ?_)
    replace hF := q_letX hF ef_3
    refine lv_sipush (v := 255) hx hb dX12_look2_14 (by decide) ?_
    refine lv_iand hx hb dX12_look2_17 ?_
    refine lv_topi (fun z_4 ez_4 => ?_)
    replace hF := q_letX hF ez_4
    have qz_4 : z_4.toInt = m_look X σ a v1.toInt := by unfold m_look; rw [if_pos (by first | (clear h0 h1; omega) | omega), ez_4, ef_3]; rfl
    have wz_4 := m_and255 f_3
    rw [← ez_4] at wz_4
    refine lv_goto (tgt := 22) hx hb dX12_look2_18 (by decide) ?_
    exact q_reti E hr hlk hI ⟨rfl, (by first | (unfold m_look; rw [if_neg (by omega)]; rfl) | assumption), (by omega), (hF.trans hout)⟩ dX12_look2_22

set_option maxRecDepth 100000 in
set_option maxHeartbeats 4000000 in
theorem c_X12_isLetter (l : Launch) (X : XW) (σ : ST) (v0 : Int32) : Met l yX12_isLetter (q_ws yX12_isLetter cX12_isLetter 1 (some .boolean)) (q_rm 0 0) (q_P X σ [.int v0]) (q_Qi X 9 σ (fun (r : Int32) (σ' : ST) => σ' = σ ∧ (0 ≤ r.toInt ∧ r.toInt ≤ 1) ∧ (r.toInt = 1 ↔ (97 ≤ v0.toInt ∧ v0.toInt ≤ 122)) ∧ r = F_X12_isLetter X σ v0)) 0 0 (q_reg X) := by
  refine q_met 9 (by first | exact rfl | decide +kernel) rfl (Nat.le_of_ble_eq_true rfl) (fun p e s m below meth c E hml hr hlk hI ls hl => ?_)
  have hx := E.1
  have hb := E.2.1
  have hl : lv_has ls 1 [(0, .int v0)] := hl
  obtain ⟨out, hout⟩ : ∃ o, o = F_X12_isLetter X σ v0 := ⟨_, rfl⟩
  have hF := hout.symm
  unfold F_X12_isLetter at hF
  refine lv_iload_n hx hb dX12_isLetter_0 rfl (lv_at hl 0 rfl) ?_
  refine lv_bipush (v := 97) hx hb dX12_isLetter_1 (by decide) ?_
  refine q_icmp_lt (A := v0.toInt) (B := 97) E rfl (by decide) (tgt := 16) dX12_isLetter_3 (by decide) (fun c_1 => ?_) (fun c_1 => ?_)
  · skip
    replace hF := q_ifp hF c_1
    refine lv_iconst (v := 0) hx hb dX12_isLetter_16 (by decide) ?_
    have hrv : (0 : Int32).toInt = 0 := rfl
    exact q_retz E hr hlk hI ⟨by decide, by decide⟩ ⟨rfl, ⟨by decide, by decide⟩, (by constructor <;> intro h9 <;> omega), (hF.trans hout)⟩ dX12_isLetter_17
  · skip
    replace hF := q_ifn hF (Int.not_lt.mpr c_1)
    refine lv_iload_n hx hb dX12_isLetter_6 rfl (lv_at hl 0 rfl) ?_
    refine lv_bipush (v := 122) hx hb dX12_isLetter_7 (by decide) ?_
    refine q_icmp_gt (A := v0.toInt) (B := 122) E rfl (by decide) (tgt := 16) dX12_isLetter_9 (by decide) (fun c_2 => ?_) (fun c_2 => ?_)
    · skip
      replace hF := q_ifp hF c_2
      refine lv_iconst (v := 0) hx hb dX12_isLetter_16 (by decide) ?_
      have hrv : (0 : Int32).toInt = 0 := rfl
      exact q_retz E hr hlk hI ⟨by decide, by decide⟩ ⟨rfl, ⟨by decide, by decide⟩, (by constructor <;> intro h9 <;> omega), (hF.trans hout)⟩ dX12_isLetter_17
    · skip
      replace hF := q_ifn hF (Int.not_lt.mpr c_2)
      refine lv_iconst (v := 1) hx hb dX12_isLetter_12 (by decide) ?_
      refine lv_goto (tgt := 17) hx hb dX12_isLetter_13 (by decide) ?_
      have hrv : (1 : Int32).toInt = 1 := rfl
      exact q_retz E hr hlk hI ⟨by decide, by decide⟩ ⟨rfl, ⟨by decide, by decide⟩, (by constructor <;> intro h9 <;> omega), (hF.trans hout)⟩ dX12_isLetter_17

set_option maxRecDepth 100000 in
set_option maxHeartbeats 4000000 in
theorem c_X12_isDigit (l : Launch) (X : XW) (σ : ST) (v0 : Int32) : Met l yX12_isDigit (q_ws yX12_isDigit cX12_isDigit 1 (some .boolean)) (q_rm 0 0) (q_P X σ [.int v0]) (q_Qi X 9 σ (fun (r : Int32) (σ' : ST) => σ' = σ ∧ (0 ≤ r.toInt ∧ r.toInt ≤ 1) ∧ (r.toInt = 1 ↔ (48 ≤ v0.toInt ∧ v0.toInt ≤ 57)) ∧ r = F_X12_isDigit X σ v0)) 0 0 (q_reg X) := by
  refine q_met 9 (by first | exact rfl | decide +kernel) rfl (Nat.le_of_ble_eq_true rfl) (fun p e s m below meth c E hml hr hlk hI ls hl => ?_)
  have hx := E.1
  have hb := E.2.1
  have hl : lv_has ls 1 [(0, .int v0)] := hl
  obtain ⟨out, hout⟩ : ∃ o, o = F_X12_isDigit X σ v0 := ⟨_, rfl⟩
  have hF := hout.symm
  unfold F_X12_isDigit at hF
  refine lv_iload_n hx hb dX12_isDigit_0 rfl (lv_at hl 0 rfl) ?_
  refine lv_bipush (v := 48) hx hb dX12_isDigit_1 (by decide) ?_
  refine q_icmp_lt (A := v0.toInt) (B := 48) E rfl (by decide) (tgt := 16) dX12_isDigit_3 (by decide) (fun c_1 => ?_) (fun c_1 => ?_)
  · skip
    replace hF := q_ifp hF c_1
    refine lv_iconst (v := 0) hx hb dX12_isDigit_16 (by decide) ?_
    have hrv : (0 : Int32).toInt = 0 := rfl
    exact q_retz E hr hlk hI ⟨by decide, by decide⟩ ⟨rfl, ⟨by decide, by decide⟩, (by constructor <;> intro h9 <;> omega), (hF.trans hout)⟩ dX12_isDigit_17
  · skip
    replace hF := q_ifn hF (Int.not_lt.mpr c_1)
    refine lv_iload_n hx hb dX12_isDigit_6 rfl (lv_at hl 0 rfl) ?_
    refine lv_bipush (v := 57) hx hb dX12_isDigit_7 (by decide) ?_
    refine q_icmp_gt (A := v0.toInt) (B := 57) E rfl (by decide) (tgt := 16) dX12_isDigit_9 (by decide) (fun c_2 => ?_) (fun c_2 => ?_)
    · skip
      replace hF := q_ifp hF c_2
      refine lv_iconst (v := 0) hx hb dX12_isDigit_16 (by decide) ?_
      have hrv : (0 : Int32).toInt = 0 := rfl
      exact q_retz E hr hlk hI ⟨by decide, by decide⟩ ⟨rfl, ⟨by decide, by decide⟩, (by constructor <;> intro h9 <;> omega), (hF.trans hout)⟩ dX12_isDigit_17
    · skip
      replace hF := q_ifn hF (Int.not_lt.mpr c_2)
      refine lv_iconst (v := 1) hx hb dX12_isDigit_12 (by decide) ?_
      refine lv_goto (tgt := 17) hx hb dX12_isDigit_13 (by decide) ?_
      have hrv : (1 : Int32).toInt = 1 := rfl
      exact q_retz E hr hlk hI ⟨by decide, by decide⟩ ⟨rfl, ⟨by decide, by decide⟩, (by constructor <;> intro h9 <;> omega), (hF.trans hout)⟩ dX12_isDigit_17

set_option maxRecDepth 100000 in
set_option maxHeartbeats 4000000 in
theorem c_X12_isSignByte (l : Launch) (X : XW) (σ : ST) (a : Nat) (v1 : Int32) (ha : q_kd X a = 12) : Met l yX12_isSignByte (q_ws yX12_isSignByte cX12_isSignByte 2 (some .boolean)) (q_rm 0 0) (q_P X σ [.ref a, .int v1]) (q_Qi X 9 σ (fun (r : Int32) (σ' : ST) => σ' = σ ∧ (0 ≤ r.toInt ∧ r.toInt ≤ 1) ∧ r = F_X12_isSignByte X σ a v1)) 0 0 (q_reg X) := by
  refine q_met 9 (by first | exact rfl | decide +kernel) rfl (Nat.le_of_ble_eq_true rfl) (fun p e s m below meth c E hml hr hlk hI ls hl => ?_)
  have hx := E.1
  have hb := E.2.1
  have hl : lv_has ls 2 [(0, .ref a), (1, .int v1)] := hl
  obtain ⟨out, hout⟩ : ∃ o, o = F_X12_isSignByte X σ a v1 := ⟨_, rfl⟩
  have hF := hout.symm
  unfold F_X12_isSignByte at hF
  refine lv_iload_n hx hb dX12_isSignByte_0 rfl (lv_at hl 1 rfl) ?_
  refine lv_bipush (v := 59) hx hb dX12_isSignByte_1 (by decide) ?_
  refine q_icmp_eq (A := v1.toInt) (B := 59) E rfl (by decide) (tgt := 24) dX12_isSignByte_3 (by decide) (fun c_1 => ?_) (fun c_1 => ?_)
  · skip
    replace hF := q_ifp hF c_1
    refine lv_iconst (v := 1) hx hb dX12_isSignByte_24 (by decide) ?_
    refine lv_goto (tgt := 29) hx hb dX12_isSignByte_25 (by decide) ?_
    have hrv : (1 : Int32).toInt = 1 := rfl
    exact q_retz E hr hlk hI ⟨by decide, by decide⟩ ⟨rfl, ⟨by decide, by decide⟩, (hF.trans hout)⟩ dX12_isSignByte_29
  · skip
    replace hF := q_ifn hF c_1
    refine lv_iload_n hx hb dX12_isSignByte_6 rfl (lv_at hl 1 rfl) ?_
    refine lv_bipush (v := 60) hx hb dX12_isSignByte_7 (by decide) ?_
    refine q_icmp_eq (A := v1.toInt) (B := 60) E rfl (by decide) (tgt := 24) dX12_isSignByte_9 (by decide) (fun c_2 => ?_) (fun c_2 => ?_)
    · skip
      replace hF := q_ifp hF c_2
      refine lv_iconst (v := 1) hx hb dX12_isSignByte_24 (by decide) ?_
      refine lv_goto (tgt := 29) hx hb dX12_isSignByte_25 (by decide) ?_
      have hrv : (1 : Int32).toInt = 1 := rfl
      exact q_retz E hr hlk hI ⟨by decide, by decide⟩ ⟨rfl, ⟨by decide, by decide⟩, (hF.trans hout)⟩ dX12_isSignByte_29
    · skip
      replace hF := q_ifn hF c_2
      refine lv_iload_n hx hb dX12_isSignByte_12 rfl (lv_at hl 1 rfl) ?_
      refine lv_bipush (v := 62) hx hb dX12_isSignByte_13 (by decide) ?_
      refine q_icmp_eq (A := v1.toInt) (B := 62) E rfl (by decide) (tgt := 24) dX12_isSignByte_15 (by decide) (fun c_3 => ?_) (fun c_3 => ?_)
      · skip
        replace hF := q_ifp hF c_3
        refine lv_iconst (v := 1) hx hb dX12_isSignByte_24 (by decide) ?_
        refine lv_goto (tgt := 29) hx hb dX12_isSignByte_25 (by decide) ?_
        have hrv : (1 : Int32).toInt = 1 := rfl
        exact q_retz E hr hlk hI ⟨by decide, by decide⟩ ⟨rfl, ⟨by decide, by decide⟩, (hF.trans hout)⟩ dX12_isSignByte_29
      · skip
        replace hF := q_ifn hF c_3
        refine lv_iload_n hx hb dX12_isSignByte_18 rfl (lv_at hl 1 rfl) ?_
        refine lv_bipush (v := 61) hx hb dX12_isSignByte_19 (by decide) ?_
        refine q_icmp_ne (A := v1.toInt) (B := 61) E rfl (by decide) (tgt := 28) dX12_isSignByte_21 (by decide) (fun c_4 => ?_) (fun c_4 => ?_)
        · skip
          replace hF := q_ifn hF c_4
          refine lv_iconst (v := 0) hx hb dX12_isSignByte_28 (by decide) ?_
          have hrv : (0 : Int32).toInt = 0 := rfl
          exact q_retz E hr hlk hI ⟨by decide, by decide⟩ ⟨rfl, ⟨by decide, by decide⟩, (hF.trans hout)⟩ dX12_isSignByte_29
        · skip
          replace hF := q_ifp hF c_4
          refine lv_iconst (v := 1) hx hb dX12_isSignByte_24 (by decide) ?_
          refine lv_goto (tgt := 29) hx hb dX12_isSignByte_25 (by decide) ?_
          have hrv : (1 : Int32).toInt = 1 := rfl
          exact q_retz E hr hlk hI ⟨by decide, by decide⟩ ⟨rfl, ⟨by decide, by decide⟩, (hF.trans hout)⟩ dX12_isSignByte_29

set_option maxRecDepth 100000 in
set_option maxHeartbeats 4000000 in
theorem c_X12_isSign (l : Launch) (X : XW) (σ : ST) (a : Nat) (v1 : Int32) (ha : q_kd X a = 12) : Met l yX12_isSign (q_ws yX12_isSign cX12_isSign 2 (some .boolean)) (q_rm 0 0) (q_P X σ [.ref a, .int v1]) (q_Qi X 9 σ (fun (r : Int32) (σ' : ST) => σ' = σ ∧ (0 ≤ r.toInt ∧ r.toInt ≤ 1) ∧ r = F_X12_isSign X σ a v1)) 0 0 (q_reg X) := by
  refine q_met 9 (by first | exact rfl | decide +kernel) rfl (Nat.le_of_ble_eq_true rfl) (fun p e s m below meth c E hml hr hlk hI ls hl => ?_)
  have hx := E.1
  have hb := E.2.1
  have hl : lv_has ls 2 [(0, .ref a), (1, .int v1)] := hl
  obtain ⟨out, hout⟩ : ∃ o, o = F_X12_isSign X σ a v1 := ⟨_, rfl⟩
  have hF := hout.symm
  unfold F_X12_isSign at hF
  refine lv_aload_n hx hb dX12_isSign_0 rfl (lv_at hl 0 rfl) ?_
  refine gs_X12_110_12 E hI ha dX12_isSign_1 ?_
  refine lv_topi (fun f_1 ef_1 => ?_)
  replace hF := q_letX hF ef_1
  refine lv_iconst (v := 3) hx hb dX12_isSign_4 (by decide) ?_
  refine q_icmp_ne (A := f_1.toInt) (B := 3) E rfl (by decide) (tgt := 20) dX12_isSign_5 (by decide) (fun c_2 => ?_) (fun c_2 => ?_)
  · skip
    replace hF := q_ifn hF c_2
    refine lv_iconst (v := 0) hx hb dX12_isSign_20 (by decide) ?_
    have hrv : (0 : Int32).toInt = 0 := rfl
    exact q_retz E hr hlk hI ⟨by decide, by decide⟩ ⟨rfl, ⟨by decide, by decide⟩, (hF.trans hout)⟩ dX12_isSign_21
  · skip
    replace hF := q_ifp hF c_2
    refine lv_aload_n hx hb dX12_isSign_8 rfl (lv_at hl 0 rfl) ?_
    refine gs_X12_129_12 E hI ha dX12_isSign_9 ?_
    refine lv_topi (fun f_3 ef_3 => ?_)
    replace hF := q_letX hF ef_3
    refine lv_iload_n hx hb dX12_isSign_12 rfl (lv_at hl 1 rfl) ?_
    refine q_icmp_ne (A := f_3.toInt) (B := v1.toInt) E rfl rfl (tgt := 20) dX12_isSign_13 (by decide) (fun c_4 => ?_) (fun c_4 => ?_)
    · skip
      replace hF := q_ifn hF c_4
      refine lv_iconst (v := 0) hx hb dX12_isSign_20 (by decide) ?_
      have hrv : (0 : Int32).toInt = 0 := rfl
      exact q_retz E hr hlk hI ⟨by decide, by decide⟩ ⟨rfl, ⟨by decide, by decide⟩, (hF.trans hout)⟩ dX12_isSign_21
    · skip
      replace hF := q_ifp hF c_4
      refine lv_iconst (v := 1) hx hb dX12_isSign_16 (by decide) ?_
      refine lv_goto (tgt := 21) hx hb dX12_isSign_17 (by decide) ?_
      have hrv : (1 : Int32).toInt = 1 := rfl
      exact q_retz E hr hlk hI ⟨by decide, by decide⟩ ⟨rfl, ⟨by decide, by decide⟩, (hF.trans hout)⟩ dX12_isSign_21

set_option maxRecDepth 100000 in
set_option maxHeartbeats 4000000 in
theorem c_X12_isWord (l : Launch) (X : XW) (σ : ST) (a : Nat) (v1 : Int64) (ha : q_kd X a = 12) : Met l yX12_isWord (q_ws yX12_isWord cX12_isWord 3 (some .boolean)) (q_rm 0 0) (q_P X σ [.ref a, .long v1]) (q_Qi X 9 σ (fun (r : Int32) (σ' : ST) => σ' = σ ∧ (0 ≤ r.toInt ∧ r.toInt ≤ 1) ∧ (r.toInt = 1 → (σ.1 a 14).toInt = 1) ∧ r = F_X12_isWord X σ a v1)) 0 0 (q_reg X) := by
  refine q_met 9 (by first | exact rfl | decide +kernel) rfl (Nat.le_of_ble_eq_true rfl) (fun p e s m below meth c E hml hr hlk hI ls hl => ?_)
  have hx := E.1
  have hb := E.2.1
  have hl : lv_has ls 3 [(0, .ref a), (1, .long v1)] := hl
  obtain ⟨out, hout⟩ : ∃ o, o = F_X12_isWord X σ a v1 := ⟨_, rfl⟩
  have hF := hout.symm
  unfold F_X12_isWord at hF
  refine lv_aload_n hx hb dX12_isWord_0 rfl (lv_at hl 0 rfl) ?_
  refine gs_X12_110_12 E hI ha dX12_isWord_1 ?_
  refine lv_topi (fun f_1 ef_1 => ?_)
  replace hF := q_letX hF ef_1
  have if_1 : f_1.toInt = (σ.1 a 14).toInt := congrArg Int32.toInt ef_1
  refine lv_iconst (v := 1) hx hb dX12_isWord_4 (by decide) ?_
  refine q_icmp_ne (A := f_1.toInt) (B := 1) E rfl (by decide) (tgt := 21) dX12_isWord_5 (by decide) (fun c_2 => ?_) (fun c_2 => ?_)
  · skip
    replace hF := q_ifn hF c_2
    refine lv_iconst (v := 0) hx hb dX12_isWord_21 (by decide) ?_
    have hrv : (0 : Int32).toInt = 0 := rfl
    exact q_retz E hr hlk hI ⟨by decide, by decide⟩ ⟨rfl, ⟨by decide, by decide⟩, (by first | (clear if_1 c_2; omega) | omega), (hF.trans hout)⟩ dX12_isWord_22
  · skip
    replace hF := q_ifp hF c_2
    refine lv_aload_n hx hb dX12_isWord_8 rfl (lv_at hl 0 rfl) ?_
    refine gs_X12_116_12 E hI ha dX12_isWord_9 ?_
    refine lv_topl (fun g_3 eg_3 => ?_)
    replace hF := q_letX hF eg_3
    refine lv_lload_n hx hb dX12_isWord_12 rfl (lv_at hl 1 rfl) ?_
    refine q_lcmpX E dX12_isWord_13 (fun z_4 ez_4 hz_4 => ?_)
    replace hF := q_letX hF ez_4
    refine q_if_ne (A := z_4.toInt) E rfl (tgt := 21) dX12_isWord_14 (by decide) (fun c_5 => ?_) (fun c_5 => ?_)
    · skip
      replace hF := q_ifn hF c_5
      refine lv_iconst (v := 0) hx hb dX12_isWord_21 (by decide) ?_
      have hrv : (0 : Int32).toInt = 0 := rfl
      exact q_retz E hr hlk hI ⟨by decide, by decide⟩ ⟨rfl, ⟨by decide, by decide⟩, (by first | (clear if_1 c_2 hz_4 c_5; omega) | omega), (hF.trans hout)⟩ dX12_isWord_22
    · skip
      replace hF := q_ifp hF c_5
      refine lv_iconst (v := 1) hx hb dX12_isWord_17 (by decide) ?_
      refine lv_goto (tgt := 22) hx hb dX12_isWord_18 (by decide) ?_
      have hrv : (1 : Int32).toInt = 1 := rfl
      exact q_retz E hr hlk hI ⟨by decide, by decide⟩ ⟨rfl, ⟨by decide, by decide⟩, (by first | (clear hz_4 c_5 hrv; omega) | omega), (hF.trans hout)⟩ dX12_isWord_22

set_option maxRecDepth 100000 in
set_option maxHeartbeats 4000000 in
theorem c_X12_fail (l : Launch) (X : XW) (σ : ST) (a : Nat) (v1 : Int32) (v2 : Int32) (ha : q_kd X a = 12) (h0 : 0 ≤ (σ.1 a 12).toInt) (h1 : 1 ≤ v1.toInt) : Met l yX12_fail (q_ws yX12_fail cX12_fail 3 none) (q_rm 0 0) (q_P X σ [.ref a, .int v1, .int v2]) (q_Qv X 2 σ (fun (σ' : ST) => (q_KS (fun b g => b = a ∧ 12 ≤ g ∧ g ≤ 18) 9 X σ σ') ∧ ((σ'.1 a 9).toInt = (σ.1 a 9).toInt ∧ (σ'.1 a 14).toInt = (σ.1 a 14).toInt ∧ (σ'.1 a 15).toInt = (σ.1 a 15).toInt ∧ (σ'.1 a 16).toInt = (σ.1 a 16).toInt) ∧ ((σ.1 a 12).toInt ≤ (σ'.1 a 12).toInt ∧ 1 ≤ (σ'.1 a 12).toInt) ∧ σ' = F_X12_fail X σ a v1 v2 ∧ q_ow [(12, 12), (12, 13)] [] X σ σ')) 0 0 (q_reg X) := by
  refine q_met 2 (by first | exact rfl | decide +kernel) rfl (Nat.le_of_ble_eq_true rfl) (fun p e s m below meth c E hml hr hlk hI ls hl => ?_)
  have hx := E.1
  have hb := E.2.1
  have hl : lv_has ls 3 [(0, .ref a), (1, .int v1), (2, .int v2)] := hl
  have ks_σ : q_KS (fun b g => b = a ∧ 12 ≤ g ∧ g ≤ 18) 9 X σ σ := q_KS.rf
  have fr_σ : q_ow [(12, 12), (12, 13)] [] X σ σ := q_ow.rf
  obtain ⟨out, hout⟩ : ∃ o, o = F_X12_fail X σ a v1 v2 := ⟨_, rfl⟩
  have hF := hout.symm
  unfold F_X12_fail at hF
  refine lv_aload_n hx hb dX12_fail_0 rfl (lv_at hl 0 rfl) ?_
  refine gs_X12_187_12 E hI ha dX12_fail_1 ?_
  refine lv_topi (fun f_1 ef_1 => ?_)
  replace hF := q_letX hF ef_1
  have if_1 : f_1.toInt = (σ.1 a 12).toInt := congrArg Int32.toInt ef_1
  refine q_if_le (A := f_1.toInt) E rfl (tgt := 8) dX12_fail_4 (by decide) (fun c_2 => ?_) (fun c_2 => ?_)
  · skip
    replace hF := q_ifn hF (Int.not_lt.mpr c_2)
    refine lv_aload_n hx hb dX12_fail_8 rfl (lv_at hl 0 rfl) ?_
    refine lv_iload_n hx hb dX12_fail_9 rfl (lv_at hl 1 rfl) ?_
    refine ps_X12_187_12 E hI ha (by decide) dX12_fail_10 (fun H locs σ_3 hσ_3 hI => ?_)
    replace hF := q_letX hF hσ_3
    have fr_σ_3 := fr_σ.si hσ_3 ha rfl
    have ks_σ_3 : q_KS (fun b g => b = a ∧ 12 ≤ g ∧ g ≤ 18) 9 X σ σ_3 := ks_σ.siS hσ_3 ⟨rfl, by decide, by decide⟩
    have mv9_σ_3 : (σ_3.1 a 9).toInt = (σ.1 a 9).toInt := congrArg Int32.toInt (q_rdn hσ_3 (Or.inr (by decide)))
    have mv12_σ_3 : (σ_3.1 a 12).toInt = v1.toInt := congrArg Int32.toInt (q_rd hσ_3)
    have mv14_σ_3 : (σ_3.1 a 14).toInt = (σ.1 a 14).toInt := congrArg Int32.toInt (q_rdn hσ_3 (Or.inr (by decide)))
    have mv15_σ_3 : (σ_3.1 a 15).toInt = (σ.1 a 15).toInt := congrArg Int32.toInt (q_rdn hσ_3 (Or.inr (by decide)))
    have mv16_σ_3 : (σ_3.1 a 16).toInt = (σ.1 a 16).toInt := congrArg Int32.toInt (q_rdn hσ_3 (Or.inr (by decide)))
    have mv17_σ_3 : (σ_3.1 a 17).toInt = (σ.1 a 17).toInt := congrArg Int32.toInt (q_rdn hσ_3 (Or.inr (by decide)))
    refine lv_aload_n hx hb dX12_fail_13 rfl (lv_at hl 0 rfl) ?_
    refine lv_iload_n hx hb dX12_fail_14 rfl (lv_at hl 2 rfl) ?_
    refine ps_X12_190_12 E hI ha (by decide) dX12_fail_15 (fun H locs σ_4 hσ_4 hI => ?_)
    replace hF := q_letX hF hσ_4
    have fr_σ_4 := fr_σ_3.si hσ_4 ha rfl
    have ks_σ_4 : q_KS (fun b g => b = a ∧ 12 ≤ g ∧ g ≤ 18) 9 X σ σ_4 := ks_σ_3.siS hσ_4 ⟨rfl, by decide, by decide⟩
    have mv9_σ_4 : (σ_4.1 a 9).toInt = (σ_3.1 a 9).toInt := congrArg Int32.toInt (q_rdn hσ_4 (Or.inr (by decide)))
    have mv12_σ_4 : (σ_4.1 a 12).toInt = (σ_3.1 a 12).toInt := congrArg Int32.toInt (q_rdn hσ_4 (Or.inr (by decide)))
    have mv14_σ_4 : (σ_4.1 a 14).toInt = (σ_3.1 a 14).toInt := congrArg Int32.toInt (q_rdn hσ_4 (Or.inr (by decide)))
    have mv15_σ_4 : (σ_4.1 a 15).toInt = (σ_3.1 a 15).toInt := congrArg Int32.toInt (q_rdn hσ_4 (Or.inr (by decide)))
    have mv16_σ_4 : (σ_4.1 a 16).toInt = (σ_3.1 a 16).toInt := congrArg Int32.toInt (q_rdn hσ_4 (Or.inr (by decide)))
    have mv17_σ_4 : (σ_4.1 a 17).toInt = (σ_3.1 a 17).toInt := congrArg Int32.toInt (q_rdn hσ_4 (Or.inr (by decide)))
    exact q_retv E hr hlk hI ⟨ks_σ_4, (by first | (clear h0 h1 if_1 c_2 mv12_σ_3 mv17_σ_3 mv12_σ_4 mv17_σ_4; omega) | omega), (by first | (clear h0 h1 mv9_σ_3 mv14_σ_3 mv15_σ_3 mv16_σ_3 mv17_σ_3 mv9_σ_4 mv14_σ_4 mv15_σ_4 mv16_σ_4 mv17_σ_4; omega) | omega), (hF.trans hout), fr_σ_4⟩ dX12_fail_18
  · skip
    replace hF := q_ifp hF c_2
    exact q_retv E hr hlk hI ⟨ks_σ, (by first | (clear h0 h1 if_1 c_2; omega) | omega), (by first | (clear h0 h1; omega) | omega), (hF.trans hout), fr_σ⟩ dX12_fail_7

set_option maxRecDepth 100000 in
set_option maxHeartbeats 4000000 in
theorem c_X12_wrong (l : Launch) (X : XW) (σ : ST) (a : Nat) (ha : q_kd X a = 12) (h0 : 0 ≤ (σ.1 a 12).toInt) : Met l yX12_wrong (q_ws yX12_wrong cX12_wrong 1 none) (q_rm 1 22) (q_P X σ [.ref a]) (q_Qv X 2 σ (fun (σ' : ST) => (q_KS (fun b g => b = a ∧ 12 ≤ g ∧ g ≤ 18) 9 X σ σ') ∧ ((σ'.1 a 9).toInt = (σ.1 a 9).toInt ∧ (σ'.1 a 14).toInt = (σ.1 a 14).toInt ∧ (σ'.1 a 15).toInt = (σ.1 a 15).toInt ∧ (σ'.1 a 16).toInt = (σ.1 a 16).toInt) ∧ ((σ.1 a 12).toInt ≤ (σ'.1 a 12).toInt ∧ 1 ≤ (σ'.1 a 12).toInt) ∧ σ' = F_X12_wrong X σ a ∧ q_ow [(12, 12), (12, 13)] [] X σ σ')) 0 0 (q_reg X) := by
  refine q_met 2 (by first | exact rfl | decide +kernel) rfl (Nat.le_of_ble_eq_true rfl) (fun p e s m below meth c E hml hr hlk hI ls hl => ?_)
  have hx := E.1
  have hb := E.2.1
  have hl : lv_has ls 1 [(0, .ref a)] := hl
  have ks_σ : q_KS (fun b g => b = a ∧ 12 ≤ g ∧ g ≤ 18) 9 X σ σ := q_KS.rf
  have fr_σ : q_ow [(12, 12), (12, 13)] [] X σ σ := q_ow.rf
  obtain ⟨out, hout⟩ : ∃ o, o = F_X12_wrong X σ a := ⟨_, rfl⟩
  have hF := hout.symm
  unfold F_X12_wrong at hF
  refine lv_aload_n hx hb dX12_wrong_0 rfl (lv_at hl 0 rfl) ?_
  refine lv_aload_n hx hb dX12_wrong_1 rfl (lv_at hl 0 rfl) ?_
  refine gs_X12_110_12 E hI ha dX12_wrong_2 ?_
  refine lv_topi (fun f_1 ef_1 => ?_)
  replace hF := q_letX hF ef_1
  have if_1 : f_1.toInt = (σ.1 a 14).toInt := congrArg Int32.toInt ef_1
  refine lv_iconst (v := 4) hx hb dX12_wrong_5 (by decide) ?_
  refine q_icmp_ne (A := f_1.toInt) (B := 4) E rfl (by decide) (tgt := 13) dX12_wrong_6 (by decide) (fun c_2 => ?_) (fun c_2 => ?_)
  · skip
    replace hF := q_ifn hF c_2
    refine lv_iconst (v := 2) hx hb dX12_wrong_13 (by decide) ?_
    refine lv_aload_n hx hb dX12_wrong_14 rfl (lv_at hl 0 rfl) ?_
    refine gs_X12_104_12 E hI ha dX12_wrong_15 ?_
    refine lv_topi (fun f_3 ef_3 => ?_)
    replace hF := q_letX hF ef_3
    have if_3 : f_3.toInt = (σ.1 a 15).toInt := congrArg Int32.toInt ef_3
    have kc_4 : (2 : Int32).toInt = 2 := rfl
    refine q_cv (q_runV (As := [.int 2, .int f_3]) (rest := []) E (hml.trans hl.1.symm) hI (c_X12_fail l X σ a (2 : Int32) f_3 ha (by omega) (by first | (clear h0 if_1 c_2 if_3; omega) | omega)) kv_X12_193 ha ⟨rfl, by decide⟩ (show vwCl[11]? = some (RX12, TX12, 46) from rfl) rfl ⟨Nat.le_of_ble_eq_true rfl, Nat.le_of_ble_eq_true rfl⟩ ⟨Nat.le_refl _, Nat.le_refl _⟩ rfl (Nat.le_of_ble_eq_true rfl) dX12_wrong_18) hI (by decide) (fun σ_6 H locs hpσ_6 hkσ_6 hI => ?_)
    obtain ⟨ahpσ_6, bhpσ_6, chpσ_6, dhpσ_6, ehpσ_6⟩ := hpσ_6
    have fr_σ_6 := fr_σ.call ehpσ_6 rfl rfl
    replace hF := q_letX hF dhpσ_6
    have ks_σ_6 : q_KS (fun b g => b = a ∧ 12 ≤ g ∧ g ≤ 18) 9 X σ σ_6 := ks_σ.KS ahpσ_6 (by decide) (fun _ _ h => h)
    exact q_retv E hr hlk hI ⟨ks_σ_6, (by omega), (by omega), (hF.trans hout), fr_σ_6⟩ dX12_wrong_21
  · skip
    replace hF := q_ifp hF c_2
    refine lv_iconst (v := 1) hx hb dX12_wrong_9 (by decide) ?_
    refine lv_goto (tgt := 14) hx hb dX12_wrong_10 (by decide) ?_
    refine lv_aload_n hx hb dX12_wrong_14 rfl (lv_at hl 0 rfl) ?_
    refine gs_X12_104_12 E hI ha dX12_wrong_15 ?_
    refine lv_topi (fun f_7 ef_7 => ?_)
    replace hF := q_letX hF ef_7
    have if_7 : f_7.toInt = (σ.1 a 15).toInt := congrArg Int32.toInt ef_7
    have kc_8 : (1 : Int32).toInt = 1 := rfl
    refine q_cv (q_runV (As := [.int 1, .int f_7]) (rest := []) E (hml.trans hl.1.symm) hI (c_X12_fail l X σ a (1 : Int32) f_7 ha (by omega) (by first | (clear h0 if_1 c_2 if_7; omega) | omega)) kv_X12_193 ha ⟨rfl, by decide⟩ (show vwCl[11]? = some (RX12, TX12, 46) from rfl) rfl ⟨Nat.le_of_ble_eq_true rfl, Nat.le_of_ble_eq_true rfl⟩ ⟨Nat.le_refl _, Nat.le_refl _⟩ rfl (Nat.le_of_ble_eq_true rfl) dX12_wrong_18) hI (by decide) (fun σ_10 H locs hpσ_10 hkσ_10 hI => ?_)
    obtain ⟨ahpσ_10, bhpσ_10, chpσ_10, dhpσ_10, ehpσ_10⟩ := hpσ_10
    have fr_σ_10 := fr_σ.call ehpσ_10 rfl rfl
    replace hF := q_letX hF dhpσ_10
    have ks_σ_10 : q_KS (fun b g => b = a ∧ 12 ≤ g ∧ g ≤ 18) 9 X σ σ_10 := ks_σ.KS ahpσ_10 (by decide) (fun _ _ h => h)
    exact q_retv E hr hlk hI ⟨ks_σ_10, (by omega), (by omega), (hF.trans hout), fr_σ_10⟩ dX12_wrong_21
end
/-! FROM 32.next.a.lean.txt -/
section
section QS
variable {p : Program} {l : Launch} {e : Env} {R : Room} {s : State} {m : MethodId} {args : Array Value} {below : List Frame} {meth : Method} {c : Code} {H : Heap} {locs : List Loc} {cells slots : Nat} {Q : State → Prop} {cc : ByteArray} {X : XW} {n : Nat} {σ0 σ : ST} {H0 : Heap} {pc : Nat} {ls : Array Slot} {rest : List Value} {a : Nat}
theorem gs_X12_101_12 (E : q_E p c cc s m args RX12 X) (hI : q_I X n σ0 H0 locs σ H) (ha : q_kd X a = 12) (hdg : decode cc pc = .ok (.getfield 101, 3)) (kk : W p l e R s m args below meth c H locs cells slots Q (F0 m (pc + 3) ls (.int (σ.1 a 16) :: rest))) : W p l e R s m args below meth c H locs cells slots Q (F0 m pc ls (.ref a :: rest)) :=
  q_getf (ref := "CheatHeapModel") E hI ha ⟨rfl, by decide⟩ (show vwCl[11]? = some (RX12, TX12, 46) from rfl) q_inX12 (f := 16) (by decide) (q_in_t7 (i := 1) (by first | rfl | decide +kernel) rfl) (Or.inl rfl) rfl hdg kk
theorem ps_X12_104_12 (E : q_E p c cc s m args RX12 X) (hI : q_I X n σ0 H0 locs σ H) (ha : q_kd X a = 12) {v : Int32} (hcl : n < 3) (hdg : decode cc pc = .ok (.putfield 104, 3)) (kk : ∀ (H1 : Heap) (locs1 : List Loc) (σ1 : ST), σ1 = q_si σ a 15 v → q_I X n σ0 H0 locs1 σ1 H1 → W p l e R s m args below meth c H1 locs1 cells slots Q (F0 m (pc + 3) ls rest)) : W p l e R s m args below meth c H locs cells slots Q (F0 m pc ls (.int v :: .ref a :: rest)) :=
  q_puti (ref := "CheatHeapModel") E hI ha ⟨rfl, by decide⟩ (show vwCl[11]? = some (RX12, TX12, 46) from rfl) q_inX12 tyX12_ok nmX12 (f := 15) (by decide) (q_in_t7 (i := 0) (by first | rfl | decide +kernel) rfl) (Or.inl rfl) rfl rfl hcl hdg (q_inU rfl) (Or.inl rfl) (fun H1 l1 h => kk H1 l1 _ rfl h)
theorem ps_X12_101_12 (E : q_E p c cc s m args RX12 X) (hI : q_I X n σ0 H0 locs σ H) (ha : q_kd X a = 12) {v : Int32} (hcl : n < 3) (hdg : decode cc pc = .ok (.putfield 101, 3)) (kk : ∀ (H1 : Heap) (locs1 : List Loc) (σ1 : ST), σ1 = q_si σ a 16 v → q_I X n σ0 H0 locs1 σ1 H1 → W p l e R s m args below meth c H1 locs1 cells slots Q (F0 m (pc + 3) ls rest)) : W p l e R s m args below meth c H locs cells slots Q (F0 m pc ls (.int v :: .ref a :: rest)) :=
  q_puti (ref := "CheatHeapModel") E hI ha ⟨rfl, by decide⟩ (show vwCl[11]? = some (RX12, TX12, 46) from rfl) q_inX12 tyX12_ok nmX12 (f := 16) (by decide) (q_in_t7 (i := 1) (by first | rfl | decide +kernel) rfl) (Or.inl rfl) rfl rfl hcl hdg (q_inU rfl) (Or.inl rfl) (fun H1 l1 h => kk H1 l1 _ rfl h)
theorem kv_X12_107 : q_okV RX12 107 RX12 yX12_look2 cX12_look2 2 (some .int) 1 := ⟨(q_in_t7 (i := 192) (by first | rfl | decide +kernel) rfl), (q_in_t7 (i := 194) (by first | rfl | decide +kernel) rfl), (q_in_p (i := 43) (by decide +kernel) rfl), (q_in_t1 (i := 14) (by first | rfl | decide +kernel) rfl), (q_in_t7 (i := 195) (by first | rfl | decide +kernel) rfl), ⟨rfl, by decide, by decide, rfl⟩⟩
theorem ks_X12_113 : q_okS RX12 113 yX12_isLetter cX12_isLetter 1 (some .boolean) 1 := ⟨(q_in_t7 (i := 196) (by first | rfl | decide +kernel) rfl), (q_in_t7 (i := 197) (by first | rfl | decide +kernel) rfl), (q_in_t1 (i := 14) (by first | rfl | decide +kernel) rfl), (q_in_t7 (i := 198) (by first | rfl | decide +kernel) rfl), ⟨by decide, by decide, rfl⟩⟩
theorem ks_X12_126 : q_okS RX12 126 yX12_isDigit cX12_isDigit 1 (some .boolean) 1 := ⟨(q_in_t7 (i := 201) (by first | rfl | decide +kernel) rfl), (q_in_t7 (i := 202) (by first | rfl | decide +kernel) rfl), (q_in_t1 (i := 14) (by first | rfl | decide +kernel) rfl), (q_in_t7 (i := 203) (by first | rfl | decide +kernel) rfl), ⟨by decide, by decide, rfl⟩⟩
theorem ps_X12_129_12 (E : q_E p c cc s m args RX12 X) (hI : q_I X n σ0 H0 locs σ H) (ha : q_kd X a = 12) {v : Int32} (hcl : n < 3) (hdg : decode cc pc = .ok (.putfield 129, 3)) (kk : ∀ (H1 : Heap) (locs1 : List Loc) (σ1 : ST), σ1 = q_si σ a 17 v → q_I X n σ0 H0 locs1 σ1 H1 → W p l e R s m args below meth c H1 locs1 cells slots Q (F0 m (pc + 3) ls rest)) : W p l e R s m args below meth c H locs cells slots Q (F0 m pc ls (.int v :: .ref a :: rest)) :=
  q_puti (ref := "CheatHeapModel") E hI ha ⟨rfl, by decide⟩ (show vwCl[11]? = some (RX12, TX12, 46) from rfl) q_inX12 tyX12_ok nmX12 (f := 17) (by decide) (q_in_t7 (i := 2) (by first | rfl | decide +kernel) rfl) (Or.inl rfl) rfl rfl hcl hdg (q_inU rfl) (Or.inl rfl) (fun H1 l1 h => kk H1 l1 _ rfl h)
theorem kv_X12_132 : q_okV RX12 132 RX12 yX12_isSignByte cX12_isSignByte 2 (some .boolean) 1 := ⟨(q_in_t7 (i := 204) (by first | rfl | decide +kernel) rfl), (q_in_t7 (i := 206) (by first | rfl | decide +kernel) rfl), (q_in_p (i := 44) (by decide +kernel) rfl), (q_in_t1 (i := 14) (by first | rfl | decide +kernel) rfl), (q_in_t7 (i := 207) (by first | rfl | decide +kernel) rfl), ⟨rfl, by decide, by decide, rfl⟩⟩
theorem ps_X12_110_12 (E : q_E p c cc s m args RX12 X) (hI : q_I X n σ0 H0 locs σ H) (ha : q_kd X a = 12) {v : Int32} (hcl : n < 3) (hdg : decode cc pc = .ok (.putfield 110, 3)) (kk : ∀ (H1 : Heap) (locs1 : List Loc) (σ1 : ST), σ1 = q_si σ a 14 v → q_I X n σ0 H0 locs1 σ1 H1 → W p l e R s m args below meth c H1 locs1 cells slots Q (F0 m (pc + 3) ls rest)) : W p l e R s m args below meth c H locs cells slots Q (F0 m pc ls (.int v :: .ref a :: rest)) :=
  q_puti (ref := "CheatHeapModel") E hI ha ⟨rfl, by decide⟩ (show vwCl[11]? = some (RX12, TX12, 46) from rfl) q_inX12 tyX12_ok nmX12 (f := 14) (by decide) (q_in_t6 (i := 239) (by first | rfl | decide +kernel) rfl) (Or.inl rfl) rfl rfl hcl hdg (q_inU rfl) (Or.inl rfl) (fun H1 l1 h => kk H1 l1 _ rfl h)
theorem ps_X12_116_12 (E : q_E p c cc s m args RX12 X) (hI : q_I X n σ0 H0 locs σ H) (ha : q_kd X a = 12) {v : Int64} (hdg : decode cc pc = .ok (.putfield 116, 3)) (kk : ∀ (H1 : Heap) (locs1 : List Loc) (σ1 : ST), σ1 = q_sl σ a 19 v → q_I X n σ0 H0 locs1 σ1 H1 → W p l e R s m args below meth c H1 locs1 cells slots Q (F0 m (pc + 3) ls rest)) : W p l e R s m args below meth c H locs cells slots Q (F0 m pc ls (.long v :: .ref a :: rest)) :=
  q_putl E hI ha ⟨rfl, by decide⟩ (show vwCl[11]? = some (RX12, TX12, 46) from rfl) q_inX12 tyX12_ok nmX12 (f := 19) (by decide) (q_in_t7 (i := 4) (by first | rfl | decide +kernel) rfl) (Or.inl rfl) rfl rfl rfl hdg (fun H1 l1 h => kk H1 l1 _ rfl h)
theorem ps_X12_123_12 (E : q_E p c cc s m args RX12 X) (hI : q_I X n σ0 H0 locs σ H) (ha : q_kd X a = 12) {v : Int32} (hcl : n < 3) (hdg : decode cc pc = .ok (.putfield 123, 3)) (kk : ∀ (H1 : Heap) (locs1 : List Loc) (σ1 : ST), σ1 = q_si σ a 18 v → q_I X n σ0 H0 locs1 σ1 H1 → W p l e R s m args below meth c H1 locs1 cells slots Q (F0 m (pc + 3) ls rest)) : W p l e R s m args below meth c H locs cells slots Q (F0 m pc ls (.int v :: .ref a :: rest)) :=
  q_puti (ref := "CheatHeapModel") E hI ha ⟨rfl, by decide⟩ (show vwCl[11]? = some (RX12, TX12, 46) from rfl) q_inX12 tyX12_ok nmX12 (f := 18) (by decide) (q_in_t7 (i := 3) (by first | rfl | decide +kernel) rfl) (Or.inl rfl) rfl rfl hcl hdg (q_inU rfl) (Or.inl rfl) (fun H1 l1 h => kk H1 l1 _ rfl h)
end QS
end
/-! FROM 32.next.b00.lean.txt -/
section
set_option maxRecDepth 100000 in
set_option maxHeartbeats 4000000 in
theorem c_X12_next (l : Launch) (X : XW) (σ : ST) (a : Nat) (ha : q_kd X a = 12) (h0 : 0 ≤ (σ.1 a 16).toInt) (h1 : (σ.1 a 16).toInt ≤ (σ.1 a 9).toInt) (h2 : (σ.1 a 9).toInt ≤ 900) : Met l yX12_next (q_ws yX12_next cX12_next 2 none) (q_rm 1 21) (q_P X σ [.ref a]) (q_Qv X 2 σ (fun (σ' : ST) => (q_KS (fun b g => b = a ∧ 12 ≤ g ∧ g ≤ 18) 9 X σ σ') ∧ (0 ≤ (σ'.1 a 15).toInt ∧ (σ'.1 a 15).toInt ≤ (σ'.1 a 16).toInt ∧ (σ'.1 a 16).toInt ≤ (σ'.1 a 9).toInt ∧ (σ'.1 a 9).toInt ≤ 900 ∧ 0 ≤ (σ'.1 a 14).toInt ∧ (σ'.1 a 14).toInt ≤ 4 ∧ (σ'.1 a 14).toInt ≤ 4 * ((σ'.1 a 16).toInt - (σ'.1 a 15).toInt) ∧ (σ'.1 a 14).toInt ≤ 4 * ((σ'.1 a 9).toInt - (σ'.1 a 15).toInt)) ∧ ((σ'.1 a 9).toInt = (σ.1 a 9).toInt ∧ (σ'.1 a 12).toInt = (σ.1 a 12).toInt ∧ (σ.1 a 16).toInt ≤ (σ'.1 a 15).toInt) ∧ σ' = F_X12_next X σ a ∧ q_ow [(12, 14), (12, 15), (12, 16), (12, 17), (12, 18)] [(12, 19)] X σ σ')) 0 0 (q_reg X) := by
  refine q_met 2 (by first | exact rfl | decide +kernel) rfl (Nat.le_of_ble_eq_true rfl) (fun p e s m below meth c E hml hr hlk hI ls hl => ?_)
  have hx := E.1
  have hb := E.2.1
  have hl : lv_has ls 2 [(0, .ref a)] := hl
  have ks_σ : q_KS (fun b g => b = a ∧ 12 ≤ g ∧ g ≤ 18) 9 X σ σ := q_KS.rf
  have fr_σ : q_ow [(12, 14), (12, 15), (12, 16), (12, 17), (12, 18)] [(12, 19)] X σ σ := q_ow.rf
  obtain ⟨out, hout⟩ : ∃ o, o = F_X12_next X σ a := ⟨_, rfl⟩
  have hF := hout.symm
  unfold F_X12_next at hF
  refine lv_aload_n hx hb dX12_next_0 rfl (lv_at hl 0 rfl) ?_
  refine lv_aload_n hx hb dX12_next_1 rfl (lv_at hl 0 rfl) ?_
  refine gs_X12_101_12 E hI ha dX12_next_2 ?_
  refine lv_topi (fun f_1 ef_1 => ?_)
  replace hF := q_letX hF ef_1
  have if_1 : f_1.toInt = (σ.1 a 16).toInt := congrArg Int32.toInt ef_1
  refine ps_X12_104_12 E hI ha (by decide) dX12_next_5 (fun H locs σ_2 hσ_2 hI => ?_)
  replace hF := q_letX hF hσ_2
  have fr_σ_2 := fr_σ.si hσ_2 ha rfl
  have ks_σ_2 : q_KS (fun b g => b = a ∧ 12 ≤ g ∧ g ≤ 18) 9 X σ σ_2 := ks_σ.siS hσ_2 ⟨rfl, by decide, by decide⟩
  have mv9_σ_2 : (σ_2.1 a 9).toInt = (σ.1 a 9).toInt := congrArg Int32.toInt (q_rdn hσ_2 (Or.inr (by decide)))
  have mv12_σ_2 : (σ_2.1 a 12).toInt = (σ.1 a 12).toInt := congrArg Int32.toInt (q_rdn hσ_2 (Or.inr (by decide)))
  have mv14_σ_2 : (σ_2.1 a 14).toInt = (σ.1 a 14).toInt := congrArg Int32.toInt (q_rdn hσ_2 (Or.inr (by decide)))
  have mv15_σ_2 : (σ_2.1 a 15).toInt = f_1.toInt := congrArg Int32.toInt (q_rd hσ_2)
  have mv16_σ_2 : (σ_2.1 a 16).toInt = (σ.1 a 16).toInt := congrArg Int32.toInt (q_rdn hσ_2 (Or.inr (by decide)))
  have mv17_σ_2 : (σ_2.1 a 17).toInt = (σ.1 a 17).toInt := congrArg Int32.toInt (q_rdn hσ_2 (Or.inr (by decide)))
  have L_8_4 : ∀ (k_4 : Nat)  (σ_3 : ST) (H : Heap) (locs : List Loc) (ls : Array Slot), ((σ_3.1 a 9).toInt - (σ_3.1 a 15).toInt).toNat < k_4 → ((σ_3.1 a 9).toInt = (σ.1 a 9).toInt ∧ (σ_3.1 a 12).toInt = (σ.1 a 12).toInt ∧ (σ.1 a 16).toInt ≤ (σ_3.1 a 15).toInt ∧ (σ_3.1 a 15).toInt ≤ (σ.1 a 9).toInt) → (q_KS (fun b g => b = a ∧ 12 ≤ g ∧ g ≤ 18) 9 X σ σ_3) → (q_ow [(12, 14), (12, 15), (12, 16), (12, 17), (12, 18)] [(12, 19)] X σ σ_3) → (F_X12_next_L8_1 X a k_4 σ_3 = out) → q_I X 2 σ s.heap locs σ_3 H → lv_has ls 2 [(0, .ref a)] → W p l e (q_rm 1 21) s m ([.ref a] : List Value).toArray below meth c H locs 0 0 (MQ below (q_Qv X 2 σ (fun (σ' : ST) => (q_KS (fun b g => b = a ∧ 12 ≤ g ∧ g ≤ 18) 9 X σ σ') ∧ (0 ≤ (σ'.1 a 15).toInt ∧ (σ'.1 a 15).toInt ≤ (σ'.1 a 16).toInt ∧ (σ'.1 a 16).toInt ≤ (σ'.1 a 9).toInt ∧ (σ'.1 a 9).toInt ≤ 900 ∧ 0 ≤ (σ'.1 a 14).toInt ∧ (σ'.1 a 14).toInt ≤ 4 ∧ (σ'.1 a 14).toInt ≤ 4 * ((σ'.1 a 16).toInt - (σ'.1 a 15).toInt) ∧ (σ'.1 a 14).toInt ≤ 4 * ((σ'.1 a 9).toInt - (σ'.1 a 15).toInt)) ∧ ((σ'.1 a 9).toInt = (σ.1 a 9).toInt ∧ (σ'.1 a 12).toInt = (σ.1 a 12).toInt ∧ (σ.1 a 16).toInt ≤ (σ'.1 a 15).toInt) ∧ σ' = F_X12_next X σ a ∧ q_ow [(12, 14), (12, 15), (12, 16), (12, 17), (12, 18)] [(12, 19)] X σ σ')) ([.ref a] : List Value).toArray s 0 0 (q_reg X)) (F0 m 8 ls []) := by
    clear hF
    intro k_4
    induction k_4 with
    | zero =>
      intro σ_3 H locs ls hms
      try clear fr_σ; try clear fr_σ_2; try clear mv9_σ_2; try clear mv12_σ_2; try clear mv14_σ_2; try clear mv15_σ_2; try clear mv16_σ_2; try clear mv17_σ_2
      exact absurd hms (Nat.not_lt_zero _)
    | succ k_4 ih8 =>
      intro σ_3 H locs ls hm8 e8σ_3 ks_σ_3 fr_σ_3 hF hI hl
      replace hF := (F_X12_next_L8_1_s).symm.trans hF
      unfold F_X12_next_B8_1 at hF
      refine lv_aload_n hx hb dX12_next_8 rfl (lv_at hl 0 rfl) ?_
      refine gs_X12_104_12 E hI ha dX12_next_9 ?_
      refine lv_topi (fun f_5 ef_5 => ?_)
      replace hF := q_letX hF ef_5
      have if_5 : f_5.toInt = (σ_3.1 a 15).toInt := congrArg Int32.toInt ef_5
      refine lv_aload_n hx hb dX12_next_12 rfl (lv_at hl 0 rfl) ?_
      refine gs_X12_98_12 E hI ha dX12_next_13 ?_
      refine lv_topi (fun f_6 ef_6 => ?_)
      replace hF := q_letX hF ef_6
      have if_6 : f_6.toInt = (σ_3.1 a 9).toInt := congrArg Int32.toInt ef_6
      have J_58_6 : ∀  (H : Heap) (locs : List Loc) (ls : Array Slot), (F_X12_next_J58_2 X σ_3 a = out) → q_I X 2 σ s.heap locs σ_3 H → lv_has ls 2 [(0, .ref a)] → W p l e (q_rm 1 21) s m ([.ref a] : List Value).toArray below meth c H locs 0 0 (MQ below (q_Qv X 2 σ (fun (σ' : ST) => (q_KS (fun b g => b = a ∧ 12 ≤ g ∧ g ≤ 18) 9 X σ σ') ∧ (0 ≤ (σ'.1 a 15).toInt ∧ (σ'.1 a 15).toInt ≤ (σ'.1 a 16).toInt ∧ (σ'.1 a 16).toInt ≤ (σ'.1 a 9).toInt ∧ (σ'.1 a 9).toInt ≤ 900 ∧ 0 ≤ (σ'.1 a 14).toInt ∧ (σ'.1 a 14).toInt ≤ 4 ∧ (σ'.1 a 14).toInt ≤ 4 * ((σ'.1 a 16).toInt - (σ'.1 a 15).toInt) ∧ (σ'.1 a 14).toInt ≤ 4 * ((σ'.1 a 9).toInt - (σ'.1 a 15).toInt)) ∧ ((σ'.1 a 9).toInt = (σ.1 a 9).toInt ∧ (σ'.1 a 12).toInt = (σ.1 a 12).toInt ∧ (σ.1 a 16).toInt ≤ (σ'.1 a 15).toInt) ∧ σ' = F_X12_next X σ a ∧ q_ow [(12, 14), (12, 15), (12, 16), (12, 17), (12, 18)] [(12, 19)] X σ σ')) ([.ref a] : List Value).toArray s 0 0 (q_reg X)) (F0 m 58 ls []) := by
        clear hF
        intro  H locs ls  hF hI hl
        unfold F_X12_next_J58_2 at hF
        refine lv_aload_n hx hb dX12_next_58 rfl (lv_at hl 0 rfl) ?_
        refine lv_aload_n hx hb dX12_next_59 rfl (lv_at hl 0 rfl) ?_
        refine gs_X12_104_12 E hI ha dX12_next_60 ?_
        refine lv_topi (fun f_7 ef_7 => ?_)
        replace hF := q_letX hF ef_7
        have if_7 : f_7.toInt = (σ_3.1 a 15).toInt := congrArg Int32.toInt ef_7
        refine ps_X12_101_12 E hI ha (by decide) dX12_next_63 (fun H locs σ_8 hσ_8 hI => ?_)
        replace hF := q_letX hF hσ_8
        have fr_σ_8 := fr_σ_3.si hσ_8 ha rfl
        have ks_σ_8 : q_KS (fun b g => b = a ∧ 12 ≤ g ∧ g ≤ 18) 9 X σ σ_8 := ks_σ_3.siS hσ_8 ⟨rfl, by decide, by decide⟩
        have mv9_σ_8 : (σ_8.1 a 9).toInt = (σ_3.1 a 9).toInt := congrArg Int32.toInt (q_rdn hσ_8 (Or.inr (by decide)))
        have mv12_σ_8 : (σ_8.1 a 12).toInt = (σ_3.1 a 12).toInt := congrArg Int32.toInt (q_rdn hσ_8 (Or.inr (by decide)))
        have mv14_σ_8 : (σ_8.1 a 14).toInt = (σ_3.1 a 14).toInt := congrArg Int32.toInt (q_rdn hσ_8 (Or.inr (by decide)))
        have mv15_σ_8 : (σ_8.1 a 15).toInt = (σ_3.1 a 15).toInt := congrArg Int32.toInt (q_rdn hσ_8 (Or.inr (by decide)))
        have mv16_σ_8 : (σ_8.1 a 16).toInt = f_7.toInt := congrArg Int32.toInt (q_rd hσ_8)
        have mv17_σ_8 : (σ_8.1 a 17).toInt = (σ_3.1 a 17).toInt := congrArg Int32.toInt (q_rdn hσ_8 (Or.inr (by decide)))
        refine lv_aload_n hx hb dX12_next_66 rfl (lv_at hl 0 rfl) ?_
        refine gs_X12_104_12 E hI ha dX12_next_67 ?_
        refine lv_topi (fun f_9 ef_9 => ?_)
        replace hF := q_letX hF ef_9
        have if_9 : f_9.toInt = (σ_8.1 a 15).toInt := congrArg Int32.toInt ef_9
        refine lv_aload_n hx hb dX12_next_70 rfl (lv_at hl 0 rfl) ?_
        refine gs_X12_98_12 E hI ha dX12_next_71 ?_
        refine lv_topi (fun f_10 ef_10 => ?_)
        replace hF := q_letX hF ef_10
        have if_10 : f_10.toInt = (σ_8.1 a 9).toInt := congrArg Int32.toInt ef_10
        have gc_11_f_9 := q_rng f_9
        have gc_11_f_10 := q_rng f_10
        refine q_icmp_lt (A := f_9.toInt) (B := f_10.toInt) E rfl rfl (tgt := 83) dX12_next_74 (by decide) (fun c_11 => ?_) (fun c_11 => ?_)
        · skip
          replace hF := q_ifp hF c_11
          refine lv_aload_n hx hb dX12_next_83 rfl (lv_at hl 0 rfl) ?_
          refine lv_aload_n hx hb dX12_next_84 rfl (lv_at hl 0 rfl) ?_
          refine gs_X12_104_12 E hI ha dX12_next_85 ?_
          refine lv_topi (fun f_12 ef_12 => ?_)
          replace hF := q_letX hF ef_12
          have if_12 : f_12.toInt = (σ_8.1 a 15).toInt := congrArg Int32.toInt ef_12
          refine q_ci (q_runV (As := [.int f_12]) (rest := []) E (hml.trans hl.1.symm) hI (c_X12_look2 l X σ_8 a f_12 ha (by first | (clear h0 h1 h2 hm8 if_6 mv9_σ_8 mv12_σ_8 mv14_σ_8 mv17_σ_8 if_10 gc_11_f_10 c_11; omega) | omega) (by first | (clear h0 h1 h2 if_1 hm8 if_5 if_7 mv12_σ_8 mv14_σ_8 mv15_σ_8 mv16_σ_8 mv17_σ_8 if_9 gc_11_f_9 c_11 if_12; omega) | omega)) kv_X12_107 ha ⟨rfl, by decide⟩ (show vwCl[11]? = some (RX12, TX12, 46) from rfl) rfl ⟨Nat.le_of_ble_eq_true rfl, Nat.le_of_ble_eq_true rfl⟩ ⟨Nat.le_refl _, Nat.le_refl _⟩ rfl (Nat.le_of_ble_eq_true rfl) dX12_next_88) hI (by decide) (fun r_13 σ_14 H locs hpσ_14 hkσ_14 hI => ?_)
          obtain ⟨ahpσ_14, bhpσ_14, chpσ_14, dhpσ_14⟩ := hpσ_14
          rw [ahpσ_14] at hI
          replace hF := q_letX hF dhpσ_14
          have lkx : r_13.toInt = m_look X σ a f_12.toInt := bhpσ_14.trans (m_lookK ks_σ_8 hI.1 ha (fun b g h => ⟨h.1, by omega⟩) _)
          obtain ⟨xat, hxat⟩ : ∃ y : Int, y = f_12.toInt := ⟨_, rfl⟩
          rw [← hxat] at lkx
          refine lv_istore_n (lv' := [(1, .int r_13), (0, .ref a)]) hx hb dX12_next_91 rfl hl (by decide) rfl (fun ls hl => ?_)
          refine lv_iload_n hx hb dX12_next_92 rfl (lv_at hl 0 rfl) ?_
          refine q_ci (q_runS (As := [.int r_13]) (rest := []) E (hml.trans hl.1.symm) hI (c_X12_isLetter l X σ_8 r_13) ks_X12_113 rfl ⟨Nat.le_of_ble_eq_true rfl, Nat.le_of_ble_eq_true rfl⟩ ⟨Nat.le_refl _, Nat.le_refl _⟩ rfl (Nat.le_of_ble_eq_true rfl) dX12_next_93) hI (by decide) (fun r_15 σ_16 H locs hpσ_16 hkσ_16 hI => ?_)
          obtain ⟨ahpσ_16, bhpσ_16, chpσ_16, dhpσ_16⟩ := hpσ_16
          rw [ahpσ_16] at hI
          replace hF := q_letX hF dhpσ_16
          refine q_if_eq (A := r_15.toInt) E rfl (tgt := 198) dX12_next_96 (by decide) (fun c_17 => ?_) (fun c_17 => ?_)
          · skip
            replace hF := q_ifp hF c_17
            replace chpσ_16 := q_ifNo chpσ_16 c_17
            refine lv_iload_n hx hb dX12_next_198 rfl (lv_at hl 0 rfl) ?_
            refine q_ci (q_runS (As := [.int r_13]) (rest := []) E (hml.trans hl.1.symm) hI (c_X12_isDigit l X σ_8 r_13) ks_X12_126 rfl ⟨Nat.le_of_ble_eq_true rfl, Nat.le_of_ble_eq_true rfl⟩ ⟨Nat.le_refl _, Nat.le_refl _⟩ rfl (Nat.le_of_ble_eq_true rfl) dX12_next_199) hI (by decide) (fun r_18 σ_19 H locs hpσ_19 hkσ_19 hI => ?_)
            obtain ⟨ahpσ_19, bhpσ_19, chpσ_19, dhpσ_19⟩ := hpσ_19
            rw [ahpσ_19] at hI
            replace hF := q_letX hF dhpσ_19
            refine q_if_eq (A := r_18.toInt) E rfl (tgt := 298) dX12_next_202 (by decide) (fun c_20 => ?_) (fun c_20 => ?_)
            · skip
              replace hF := q_ifp hF c_20
              replace chpσ_19 := q_ifNo chpσ_19 c_20
              refine lv_aload_n hx hb dX12_next_298 rfl (lv_at hl 1 rfl) ?_
              refine lv_aload_n hx hb dX12_next_299 rfl (lv_at hl 1 rfl) ?_
              refine gs_X12_104_12 E hI ha dX12_next_300 ?_
              refine lv_topi (fun f_21 ef_21 => ?_)
              replace hF := q_letX hF ef_21
              have if_21 : f_21.toInt = (σ_8.1 a 15).toInt := congrArg Int32.toInt ef_21
              refine lv_iconst (v := 1) hx hb dX12_next_303 (by decide) ?_
              refine lv_iadd hx hb dX12_next_304 ?_
              refine lv_topi (fun z_22 ez_22 => ?_)
              replace hF := q_letX hF ez_22
              have iz_22 := q_addI (A := f_21.toInt) (B := 1) ez_22 rfl (by decide) (by first | (clear h0 h1 h2 if_1 hm8 e8σ_3 if_6 mv9_σ_8 mv12_σ_8 mv14_σ_8 mv17_σ_8 if_10 gc_11_f_10 c_11 ahpσ_14 bhpσ_14 chpσ_14 dhpσ_14 lkx ahpσ_16 bhpσ_16 dhpσ_16 c_17 chpσ_16 ahpσ_19 bhpσ_19 dhpσ_19 c_20 chpσ_19; omega) | omega) (by first | (clear h0 h1 h2 hm8 mv12_σ_8 mv14_σ_8 mv17_σ_8 ahpσ_14 bhpσ_14 chpσ_14 dhpσ_14 lkx ahpσ_16 bhpσ_16 dhpσ_16 c_17 chpσ_16 ahpσ_19 bhpσ_19 dhpσ_19 c_20 chpσ_19; omega) | omega)
              refine ps_X12_101_12 E hI ha (by decide) dX12_next_305 (fun H locs σ_23 hσ_23 hI => ?_)
              replace hF := q_letX hF hσ_23
              have fr_σ_23 := fr_σ_8.si hσ_23 ha rfl
              have ks_σ_23 : q_KS (fun b g => b = a ∧ 12 ≤ g ∧ g ≤ 18) 9 X σ σ_23 := ks_σ_8.siS hσ_23 ⟨rfl, by decide, by decide⟩
              have mv9_σ_23 : (σ_23.1 a 9).toInt = (σ_8.1 a 9).toInt := congrArg Int32.toInt (q_rdn hσ_23 (Or.inr (by decide)))
              have mv12_σ_23 : (σ_23.1 a 12).toInt = (σ_8.1 a 12).toInt := congrArg Int32.toInt (q_rdn hσ_23 (Or.inr (by decide)))
              have mv14_σ_23 : (σ_23.1 a 14).toInt = (σ_8.1 a 14).toInt := congrArg Int32.toInt (q_rdn hσ_23 (Or.inr (by decide)))
              have mv15_σ_23 : (σ_23.1 a 15).toInt = (σ_8.1 a 15).toInt := congrArg Int32.toInt (q_rdn hσ_23 (Or.inr (by decide)))
              have mv16_σ_23 : (σ_23.1 a 16).toInt = z_22.toInt := congrArg Int32.toInt (q_rd hσ_23)
              have mv17_σ_23 : (σ_23.1 a 17).toInt = (σ_8.1 a 17).toInt := congrArg Int32.toInt (q_rdn hσ_23 (Or.inr (by decide)))
              refine lv_aload_n hx hb dX12_next_308 rfl (lv_at hl 1 rfl) ?_
              refine lv_iload_n hx hb dX12_next_309 rfl (lv_at hl 0 rfl) ?_
              refine ps_X12_129_12 E hI ha (by decide) dX12_next_310 (fun H locs σ_24 hσ_24 hI => ?_)
              replace hF := q_letX hF hσ_24
              have fr_σ_24 := fr_σ_23.si hσ_24 ha rfl
              have ks_σ_24 : q_KS (fun b g => b = a ∧ 12 ≤ g ∧ g ≤ 18) 9 X σ σ_24 := ks_σ_23.siS hσ_24 ⟨rfl, by decide, by decide⟩
              have mv9_σ_24 : (σ_24.1 a 9).toInt = (σ_23.1 a 9).toInt := congrArg Int32.toInt (q_rdn hσ_24 (Or.inr (by decide)))
              have mv12_σ_24 : (σ_24.1 a 12).toInt = (σ_23.1 a 12).toInt := congrArg Int32.toInt (q_rdn hσ_24 (Or.inr (by decide)))
              have mv14_σ_24 : (σ_24.1 a 14).toInt = (σ_23.1 a 14).toInt := congrArg Int32.toInt (q_rdn hσ_24 (Or.inr (by decide)))
              have mv15_σ_24 : (σ_24.1 a 15).toInt = (σ_23.1 a 15).toInt := congrArg Int32.toInt (q_rdn hσ_24 (Or.inr (by decide)))
              have mv16_σ_24 : (σ_24.1 a 16).toInt = (σ_23.1 a 16).toInt := congrArg Int32.toInt (q_rdn hσ_24 (Or.inr (by decide)))
              have mv17_σ_24 : (σ_24.1 a 17).toInt = r_13.toInt := congrArg Int32.toInt (q_rd hσ_24)
              refine lv_aload_n hx hb dX12_next_313 rfl (lv_at hl 1 rfl) ?_
              refine lv_aload_n hx hb dX12_next_314 rfl (lv_at hl 1 rfl) ?_
              refine lv_iload_n hx hb dX12_next_315 rfl (lv_at hl 0 rfl) ?_
              refine q_ci (q_runV (As := [.int r_13]) (rest := [.ref a]) E (hml.trans hl.1.symm) hI (c_X12_isSignByte l X σ_24 a r_13 ha) kv_X12_132 ha ⟨rfl, by decide⟩ (show vwCl[11]? = some (RX12, TX12, 46) from rfl) rfl ⟨Nat.le_of_ble_eq_true rfl, Nat.le_of_ble_eq_true rfl⟩ ⟨Nat.le_refl _, Nat.le_refl _⟩ rfl (Nat.le_of_ble_eq_true rfl) dX12_next_316) hI (by decide) (fun r_25 σ_26 H locs hpσ_26 hkσ_26 hI => ?_)
              obtain ⟨ahpσ_26, bhpσ_26, chpσ_26⟩ := hpσ_26
              rw [ahpσ_26] at hI
              replace hF := q_letX hF chpσ_26
              refine q_if_eq (A := r_25.toInt) E rfl (tgt := 326) dX12_next_319 (by decide) (fun c_27 => ?_) (fun c_27 => ?_)
              · skip
                replace hF := q_ifp hF c_27
                refine lv_iconst (v := 4) hx hb dX12_next_326 (by decide) ?_
                refine ps_X12_110_12 E hI ha (by decide) dX12_next_327 (fun H locs σ_28 hσ_28 hI => ?_)
                replace hF := q_letX hF hσ_28
                have fr_σ_28 := fr_σ_24.si hσ_28 ha rfl
                have ks_σ_28 : q_KS (fun b g => b = a ∧ 12 ≤ g ∧ g ≤ 18) 9 X σ σ_28 := ks_σ_24.siS hσ_28 ⟨rfl, by decide, by decide⟩
                have mv9_σ_28 : (σ_28.1 a 9).toInt = (σ_24.1 a 9).toInt := congrArg Int32.toInt (q_rdn hσ_28 (Or.inr (by decide)))
                have mv12_σ_28 : (σ_28.1 a 12).toInt = (σ_24.1 a 12).toInt := congrArg Int32.toInt (q_rdn hσ_28 (Or.inr (by decide)))
                have mv14_σ_28 : (σ_28.1 a 14).toInt = 4 := by rw [q_rd hσ_28]; rfl
                have mv15_σ_28 : (σ_28.1 a 15).toInt = (σ_24.1 a 15).toInt := congrArg Int32.toInt (q_rdn hσ_28 (Or.inr (by decide)))
                have mv16_σ_28 : (σ_28.1 a 16).toInt = (σ_24.1 a 16).toInt := congrArg Int32.toInt (q_rdn hσ_28 (Or.inr (by decide)))
                have mv17_σ_28 : (σ_28.1 a 17).toInt = (σ_24.1 a 17).toInt := congrArg Int32.toInt (q_rdn hσ_28 (Or.inr (by decide)))
                exact q_retv E hr hlk hI ⟨ks_σ_28, (by first | (clear h0 h1 h2 hm8 mv12_σ_8 mv14_σ_8 mv17_σ_8 ahpσ_14 bhpσ_14 chpσ_14 dhpσ_14 lkx ahpσ_16 bhpσ_16 dhpσ_16 c_17 chpσ_16 ahpσ_19 bhpσ_19 dhpσ_19 c_20 chpσ_19 mv12_σ_23 mv14_σ_23 mv17_σ_23 mv12_σ_24 mv14_σ_24 mv17_σ_24 ahpσ_26 bhpσ_26 chpσ_26 c_27 mv12_σ_28 mv17_σ_28; omega) | omega), (by first | (clear h0 h1 h2 hm8 mv14_σ_8 mv17_σ_8 gc_11_f_9 gc_11_f_10 c_11 ahpσ_14 bhpσ_14 chpσ_14 dhpσ_14 lkx ahpσ_16 bhpσ_16 dhpσ_16 c_17 chpσ_16 ahpσ_19 bhpσ_19 dhpσ_19 c_20 chpσ_19 mv14_σ_23 mv17_σ_23 mv14_σ_24 mv17_σ_24 ahpσ_26 bhpσ_26 chpσ_26 c_27 mv14_σ_28 mv17_σ_28; omega) | omega), (hF.trans hout), fr_σ_28⟩ dX12_next_330
              · skip
                replace hF := q_ifn hF c_27
                replace c_27 := q_ifOne bhpσ_26 c_27
                refine lv_iconst (v := 3) hx hb dX12_next_322 (by decide) ?_
                refine lv_goto (tgt := 327) hx hb dX12_next_323 (by decide) ?_
                refine ps_X12_110_12 E hI ha (by decide) dX12_next_327 (fun H locs σ_29 hσ_29 hI => ?_)
                replace hF := q_letX hF hσ_29
                have fr_σ_29 := fr_σ_24.si hσ_29 ha rfl
                have ks_σ_29 : q_KS (fun b g => b = a ∧ 12 ≤ g ∧ g ≤ 18) 9 X σ σ_29 := ks_σ_24.siS hσ_29 ⟨rfl, by decide, by decide⟩
                have mv9_σ_29 : (σ_29.1 a 9).toInt = (σ_24.1 a 9).toInt := congrArg Int32.toInt (q_rdn hσ_29 (Or.inr (by decide)))
                have mv12_σ_29 : (σ_29.1 a 12).toInt = (σ_24.1 a 12).toInt := congrArg Int32.toInt (q_rdn hσ_29 (Or.inr (by decide)))
                have mv14_σ_29 : (σ_29.1 a 14).toInt = 3 := by rw [q_rd hσ_29]; rfl
                have mv15_σ_29 : (σ_29.1 a 15).toInt = (σ_24.1 a 15).toInt := congrArg Int32.toInt (q_rdn hσ_29 (Or.inr (by decide)))
                have mv16_σ_29 : (σ_29.1 a 16).toInt = (σ_24.1 a 16).toInt := congrArg Int32.toInt (q_rdn hσ_29 (Or.inr (by decide)))
                have mv17_σ_29 : (σ_29.1 a 17).toInt = (σ_24.1 a 17).toInt := congrArg Int32.toInt (q_rdn hσ_29 (Or.inr (by decide)))
                exact q_retv E hr hlk hI ⟨ks_σ_29, (by first | (clear h0 h1 h2 hm8 mv12_σ_8 mv14_σ_8 mv17_σ_8 ahpσ_14 bhpσ_14 chpσ_14 dhpσ_14 lkx ahpσ_16 bhpσ_16 dhpσ_16 c_17 chpσ_16 ahpσ_19 bhpσ_19 dhpσ_19 c_20 chpσ_19 mv12_σ_23 mv14_σ_23 mv17_σ_23 mv12_σ_24 mv14_σ_24 mv17_σ_24 ahpσ_26 bhpσ_26 chpσ_26 c_27 mv12_σ_29 mv17_σ_29; omega) | omega), (by first | (clear h0 h1 h2 hm8 mv14_σ_8 mv17_σ_8 gc_11_f_9 gc_11_f_10 c_11 ahpσ_14 bhpσ_14 chpσ_14 dhpσ_14 lkx ahpσ_16 bhpσ_16 dhpσ_16 c_17 chpσ_16 ahpσ_19 bhpσ_19 dhpσ_19 c_20 chpσ_19 mv14_σ_23 mv17_σ_23 mv14_σ_24 mv17_σ_24 ahpσ_26 bhpσ_26 chpσ_26 c_27 mv14_σ_29 mv17_σ_29; omega) | omega), (hF.trans hout), fr_σ_29⟩ dX12_next_330
            · skip
              replace hF := q_ifn hF c_20
              replace c_20 := q_ifOne bhpσ_19 c_20
              replace chpσ_19 := q_ifYes chpσ_19 c_20
              refine lv_aload_n hx hb dX12_next_205 rfl (lv_at hl 1 rfl) ?_
              refine lv_iconst (v := 0) hx hb dX12_next_206 (by decide) ?_
              refine ps_X12_129_12 E hI ha (by decide) dX12_next_207 (fun H locs σ_30 hσ_30 hI => ?_)
              replace hF := q_letX hF hσ_30
              have fr_σ_30 := fr_σ_8.si hσ_30 ha rfl
              have ks_σ_30 : q_KS (fun b g => b = a ∧ 12 ≤ g ∧ g ≤ 18) 9 X σ σ_30 := ks_σ_8.siS hσ_30 ⟨rfl, by decide, by decide⟩
              have mv9_σ_30 : (σ_30.1 a 9).toInt = (σ_8.1 a 9).toInt := congrArg Int32.toInt (q_rdn hσ_30 (Or.inr (by decide)))
              have mv12_σ_30 : (σ_30.1 a 12).toInt = (σ_8.1 a 12).toInt := congrArg Int32.toInt (q_rdn hσ_30 (Or.inr (by decide)))
              have mv14_σ_30 : (σ_30.1 a 14).toInt = (σ_8.1 a 14).toInt := congrArg Int32.toInt (q_rdn hσ_30 (Or.inr (by decide)))
              have mv15_σ_30 : (σ_30.1 a 15).toInt = (σ_8.1 a 15).toInt := congrArg Int32.toInt (q_rdn hσ_30 (Or.inr (by decide)))
              have mv16_σ_30 : (σ_30.1 a 16).toInt = (σ_8.1 a 16).toInt := congrArg Int32.toInt (q_rdn hσ_30 (Or.inr (by decide)))
              have mv17_σ_30 : (σ_30.1 a 17).toInt = 0 := by rw [q_rd hσ_30]; rfl
              have L_210_32 : ∀ (k_32 : Nat)  (σ_31 : ST) (H : Heap) (locs : List Loc) (ls : Array Slot), ((σ_31.1 a 9).toInt - (σ_31.1 a 16).toInt).toNat < k_32 → ((σ_31.1 a 9).toInt = (σ.1 a 9).toInt ∧ (σ_31.1 a 12).toInt = (σ.1 a 12).toInt ∧ (σ.1 a 16).toInt ≤ (σ_31.1 a 15).toInt ∧ (σ_31.1 a 15).toInt ≤ (σ_31.1 a 16).toInt ∧ (σ_31.1 a 15).toInt < (σ.1 a 9).toInt ∧ (σ_31.1 a 16).toInt ≤ (σ.1 a 9).toInt) → ((σ_31.1 a 15).toInt < (σ_31.1 a 16).toInt ∨ (48 ≤ m_look X σ a (σ_31.1 a 16).toInt ∧ m_look X σ a (σ_31.1 a 16).toInt ≤ 57)) → (q_KS (fun b g => b = a ∧ 12 ≤ g ∧ g ≤ 18) 9 X σ σ_31) → (q_ow [(12, 14), (12, 15), (12, 16), (12, 17), (12, 18)] [(12, 19)] X σ σ_31) → (F_X12_next_L210_3 X a k_32 σ_31 = out) → q_I X 2 σ s.heap locs σ_31 H → lv_has ls 2 [(0, .ref a), (1, .int r_13)] → W p l e (q_rm 1 21) s m ([.ref a] : List Value).toArray below meth c H locs 0 0 (MQ below (q_Qv X 2 σ (fun (σ' : ST) => (q_KS (fun b g => b = a ∧ 12 ≤ g ∧ g ≤ 18) 9 X σ σ') ∧ (0 ≤ (σ'.1 a 15).toInt ∧ (σ'.1 a 15).toInt ≤ (σ'.1 a 16).toInt ∧ (σ'.1 a 16).toInt ≤ (σ'.1 a 9).toInt ∧ (σ'.1 a 9).toInt ≤ 900 ∧ 0 ≤ (σ'.1 a 14).toInt ∧ (σ'.1 a 14).toInt ≤ 4 ∧ (σ'.1 a 14).toInt ≤ 4 * ((σ'.1 a 16).toInt - (σ'.1 a 15).toInt) ∧ (σ'.1 a 14).toInt ≤ 4 * ((σ'.1 a 9).toInt - (σ'.1 a 15).toInt)) ∧ ((σ'.1 a 9).toInt = (σ.1 a 9).toInt ∧ (σ'.1 a 12).toInt = (σ.1 a 12).toInt ∧ (σ.1 a 16).toInt ≤ (σ'.1 a 15).toInt) ∧ σ' = F_X12_next X σ a ∧ q_ow [(12, 14), (12, 15), (12, 16), (12, 17), (12, 18)] [(12, 19)] X σ σ')) ([.ref a] : List Value).toArray s 0 0 (q_reg X)) (F0 m 210 ls []) := by
                clear hF
                intro k_32
                induction k_32 with
                | zero =>
                  intro σ_31 H locs ls hms
                  try clear fr_σ_3; try clear fr_σ_30; try clear mv9_σ_30; try clear mv12_σ_30; try clear mv14_σ_30; try clear mv15_σ_30; try clear mv16_σ_30; try clear mv17_σ_30
                  exact absurd hms (Nat.not_lt_zero _)
                | succ k_32 ih210 =>
                  intro σ_31 H locs ls hm210 e210σ_31 f210σ_31 ks_σ_31 fr_σ_31 hF hI hl
                  replace hF := (F_X12_next_L210_3_s).symm.trans hF
                  unfold F_X12_next_B210_3 at hF
                  refine lv_aload_n hx hb dX12_next_210 rfl (lv_at hl 0 rfl) ?_
                  refine lv_aload_n hx hb dX12_next_211 rfl (lv_at hl 0 rfl) ?_
                  refine gs_X12_101_12 E hI ha dX12_next_212 ?_
                  refine lv_topi (fun f_33 ef_33 => ?_)
                  replace hF := q_letX hF ef_33
                  have if_33 : f_33.toInt = (σ_31.1 a 16).toInt := congrArg Int32.toInt ef_33
                  refine q_ci (q_runV (As := [.int f_33]) (rest := []) E (hml.trans hl.1.symm) hI (c_X12_look2 l X σ_31 a f_33 ha (by first | (clear h0 h1 h2 hm8 e8σ_3 if_5 if_6 if_7 mv9_σ_8 mv12_σ_8 mv14_σ_8 mv15_σ_8 mv16_σ_8 mv17_σ_8 if_9 if_10 gc_11_f_9 gc_11_f_10 c_11 if_12 ahpσ_14 bhpσ_14 chpσ_14 dhpσ_14 lkx hxat ahpσ_16 bhpσ_16 dhpσ_16 c_17 chpσ_16 ahpσ_19 bhpσ_19 dhpσ_19 c_20 chpσ_19 hm210 f210σ_31; omega) | omega) (by first | (clear h0 h1 h2 if_1 hm8 if_5 if_7 mv12_σ_8 mv14_σ_8 mv15_σ_8 mv16_σ_8 mv17_σ_8 if_9 gc_11_f_9 c_11 if_12 ahpσ_14 bhpσ_14 chpσ_14 dhpσ_14 lkx hxat ahpσ_16 bhpσ_16 dhpσ_16 c_17 chpσ_16 ahpσ_19 bhpσ_19 dhpσ_19 c_20 chpσ_19 hm210 f210σ_31 if_33; omega) | omega)) kv_X12_107 ha ⟨rfl, by decide⟩ (show vwCl[11]? = some (RX12, TX12, 46) from rfl) rfl ⟨Nat.le_of_ble_eq_true rfl, Nat.le_of_ble_eq_true rfl⟩ ⟨Nat.le_refl _, Nat.le_refl _⟩ rfl (Nat.le_of_ble_eq_true rfl) dX12_next_215) hI (by decide) (fun r_34 σ_35 H locs hpσ_35 hkσ_35 hI => ?_)
                  obtain ⟨ahpσ_35, bhpσ_35, chpσ_35, dhpσ_35⟩ := hpσ_35
                  rw [ahpσ_35] at hI
                  replace hF := q_letX hF dhpσ_35
                  have lbr_34 : r_34.toInt = m_look X σ a f_33.toInt := bhpσ_35.trans (m_lookK ks_σ_31 hI.1 ha (fun b g h => ⟨h.1, by omega⟩) _)
                  have lcr_34 : f_33.toInt = (σ_31.1 a 16).toInt := if_33
                  rw [lcr_34] at lbr_34
                  have ldr_34 := fun h => m_look_lt (X := X) (σ := σ) (a := a) (p := (σ_31.1 a 16).toInt) h
                  refine q_ci (q_runS (As := [.int r_34]) (rest := []) E (hml.trans hl.1.symm) hI (c_X12_isDigit l X σ_31 r_34) ks_X12_126 rfl ⟨Nat.le_of_ble_eq_true rfl, Nat.le_of_ble_eq_true rfl⟩ ⟨Nat.le_refl _, Nat.le_refl _⟩ rfl (Nat.le_of_ble_eq_true rfl) dX12_next_218) hI (by decide) (fun r_36 σ_37 H locs hpσ_37 hkσ_37 hI => ?_)
                  obtain ⟨ahpσ_37, bhpσ_37, chpσ_37, dhpσ_37⟩ := hpσ_37
                  rw [ahpσ_37] at hI
                  replace hF := q_letX hF dhpσ_37
                  refine q_if_eq (A := r_36.toInt) E rfl (tgt := 273) dX12_next_221 (by decide) (fun c_38 => ?_) (fun c_38 => ?_)
                  · skip
                    replace hF := q_ifp hF c_38
                    replace chpσ_37 := q_ifNo chpσ_37 c_38
                    unfold F_X12_next_E273_4 at hF
                    refine lv_aload_n hx hb dX12_next_273 rfl (lv_at hl 0 rfl) ?_
                    refine lv_aload_n hx hb dX12_next_274 rfl (lv_at hl 0 rfl) ?_
                    refine gs_X12_101_12 E hI ha dX12_next_275 ?_
                    refine lv_topi (fun f_39 ef_39 => ?_)
                    replace hF := q_letX hF ef_39
                    have if_39 : f_39.toInt = (σ_31.1 a 16).toInt := congrArg Int32.toInt ef_39
                    refine lv_aload_n hx hb dX12_next_278 rfl (lv_at hl 0 rfl) ?_
                    refine gs_X12_104_12 E hI ha dX12_next_279 ?_
                    refine lv_topi (fun f_40 ef_40 => ?_)
                    replace hF := q_letX hF ef_40
                    have if_40 : f_40.toInt = (σ_31.1 a 15).toInt := congrArg Int32.toInt ef_40
                    refine lv_isub hx hb dX12_next_282 ?_
                    refine lv_topi (fun z_41 ez_41 => ?_)
                    replace hF := q_letX hF ez_41
                    have iz_41 := q_subI (A := f_39.toInt) (B := f_40.toInt) ez_41 rfl rfl (by first | (clear h0 h1 h2 if_1 hm8 e8σ_3 if_5 if_6 if_7 mv9_σ_8 mv12_σ_8 mv14_σ_8 mv15_σ_8 mv16_σ_8 mv17_σ_8 if_9 if_10 gc_11_f_9 gc_11_f_10 c_11 if_12 ahpσ_14 bhpσ_14 chpσ_14 dhpσ_14 lkx hxat ahpσ_16 bhpσ_16 dhpσ_16 c_17 chpσ_16 ahpσ_19 bhpσ_19 dhpσ_19 c_20 chpσ_19 hm210 f210σ_31 ahpσ_35 bhpσ_35 chpσ_35 dhpσ_35 lbr_34 ldr_34 ahpσ_37 bhpσ_37 dhpσ_37 c_38 chpσ_37; omega) | omega) (by first | (clear h0 h1 h2 hm8 mv12_σ_8 mv14_σ_8 mv17_σ_8 ahpσ_14 bhpσ_14 chpσ_14 dhpσ_14 lkx ahpσ_16 bhpσ_16 dhpσ_16 c_17 chpσ_16 ahpσ_19 bhpσ_19 dhpσ_19 c_20 chpσ_19 hm210 f210σ_31 ahpσ_35 bhpσ_35 chpσ_35 dhpσ_35 lbr_34 ldr_34 ahpσ_37 bhpσ_37 dhpσ_37 c_38 chpσ_37; omega) | omega)
                    refine lv_iconst (v := 4) hx hb dX12_next_283 (by decide) ?_
                    have gc_42_z_41 := q_rng z_41
                    refine q_icmp_le (A := z_41.toInt) (B := 4) E rfl (by decide) (tgt := 291) dX12_next_284 (by decide) (fun c_42 => ?_) (fun c_42 => ?_)
                    · skip
                      replace hF := q_ifn hF (Int.not_lt.mpr c_42)
                      refine lv_iconst (v := 2) hx hb dX12_next_291 (by decide) ?_
                      refine ps_X12_110_12 E hI ha (by decide) dX12_next_292 (fun H locs σ_43 hσ_43 hI => ?_)
                      replace hF := q_letX hF hσ_43
                      have fr_σ_43 := fr_σ_31.si hσ_43 ha rfl
                      have ks_σ_43 : q_KS (fun b g => b = a ∧ 12 ≤ g ∧ g ≤ 18) 9 X σ σ_43 := ks_σ_31.siS hσ_43 ⟨rfl, by decide, by decide⟩
                      have mv9_σ_43 : (σ_43.1 a 9).toInt = (σ_31.1 a 9).toInt := congrArg Int32.toInt (q_rdn hσ_43 (Or.inr (by decide)))
                      have mv12_σ_43 : (σ_43.1 a 12).toInt = (σ_31.1 a 12).toInt := congrArg Int32.toInt (q_rdn hσ_43 (Or.inr (by decide)))
                      have mv14_σ_43 : (σ_43.1 a 14).toInt = 2 := by rw [q_rd hσ_43]; rfl
                      have mv15_σ_43 : (σ_43.1 a 15).toInt = (σ_31.1 a 15).toInt := congrArg Int32.toInt (q_rdn hσ_43 (Or.inr (by decide)))
                      have mv16_σ_43 : (σ_43.1 a 16).toInt = (σ_31.1 a 16).toInt := congrArg Int32.toInt (q_rdn hσ_43 (Or.inr (by decide)))
                      have mv17_σ_43 : (σ_43.1 a 17).toInt = (σ_31.1 a 17).toInt := congrArg Int32.toInt (q_rdn hσ_43 (Or.inr (by decide)))
                      refine lv_goto (tgt := 330) hx hb dX12_next_295 (by decide) ?_
                      exact q_retv E hr hlk hI ⟨ks_σ_43, (by first | (clear h0 h1 h2 hm8 if_5 if_7 mv12_σ_8 mv14_σ_8 mv15_σ_8 mv16_σ_8 mv17_σ_8 if_9 gc_11_f_9 c_11 if_12 ahpσ_14 bhpσ_14 chpσ_14 dhpσ_14 lkx hxat ahpσ_16 bhpσ_16 dhpσ_16 c_17 chpσ_16 ahpσ_19 bhpσ_19 dhpσ_19 c_20 chpσ_19 hm210 ahpσ_35 dhpσ_35 ahpσ_37 bhpσ_37 dhpσ_37 c_38 mv12_σ_43 mv17_σ_43; omega) | omega), (by first | (clear h0 h1 h2 hm8 if_5 if_7 mv14_σ_8 mv15_σ_8 mv16_σ_8 mv17_σ_8 if_9 gc_11_f_9 gc_11_f_10 c_11 if_12 ahpσ_14 bhpσ_14 chpσ_14 dhpσ_14 lkx hxat ahpσ_16 bhpσ_16 dhpσ_16 c_17 chpσ_16 ahpσ_19 bhpσ_19 dhpσ_19 c_20 chpσ_19 hm210 f210σ_31 if_33 ahpσ_35 bhpσ_35 chpσ_35 dhpσ_35 lbr_34 ldr_34 ahpσ_37 bhpσ_37 dhpσ_37 c_38 chpσ_37 if_39 iz_41 gc_42_z_41 c_42 mv14_σ_43 mv16_σ_43 mv17_σ_43; omega) | omega), (hF.trans hout), fr_σ_43⟩ dX12_next_330
                    · skip
                      replace hF := q_ifp hF c_42
                      refine lv_iconst (v := 4) hx hb dX12_next_287 (by decide) ?_
                      refine lv_goto (tgt := 292) hx hb dX12_next_288 (by decide) ?_
                      refine ps_X12_110_12 E hI ha (by decide) dX12_next_292 (fun H locs σ_44 hσ_44 hI => ?_)
                      replace hF := q_letX hF hσ_44
                      have fr_σ_44 := fr_σ_31.si hσ_44 ha rfl
                      have ks_σ_44 : q_KS (fun b g => b = a ∧ 12 ≤ g ∧ g ≤ 18) 9 X σ σ_44 := ks_σ_31.siS hσ_44 ⟨rfl, by decide, by decide⟩
                      have mv9_σ_44 : (σ_44.1 a 9).toInt = (σ_31.1 a 9).toInt := congrArg Int32.toInt (q_rdn hσ_44 (Or.inr (by decide)))
                      have mv12_σ_44 : (σ_44.1 a 12).toInt = (σ_31.1 a 12).toInt := congrArg Int32.toInt (q_rdn hσ_44 (Or.inr (by decide)))
                      have mv14_σ_44 : (σ_44.1 a 14).toInt = 4 := by rw [q_rd hσ_44]; rfl
                      have mv15_σ_44 : (σ_44.1 a 15).toInt = (σ_31.1 a 15).toInt := congrArg Int32.toInt (q_rdn hσ_44 (Or.inr (by decide)))
                      have mv16_σ_44 : (σ_44.1 a 16).toInt = (σ_31.1 a 16).toInt := congrArg Int32.toInt (q_rdn hσ_44 (Or.inr (by decide)))
                      have mv17_σ_44 : (σ_44.1 a 17).toInt = (σ_31.1 a 17).toInt := congrArg Int32.toInt (q_rdn hσ_44 (Or.inr (by decide)))
                      refine lv_goto (tgt := 330) hx hb dX12_next_295 (by decide) ?_
                      exact q_retv E hr hlk hI ⟨ks_σ_44, (by first | (clear h0 h1 h2 hm8 if_5 if_7 mv12_σ_8 mv14_σ_8 mv15_σ_8 mv16_σ_8 mv17_σ_8 if_9 gc_11_f_9 c_11 if_12 ahpσ_14 bhpσ_14 chpσ_14 dhpσ_14 lkx hxat ahpσ_16 bhpσ_16 dhpσ_16 c_17 chpσ_16 ahpσ_19 bhpσ_19 dhpσ_19 c_20 chpσ_19 hm210 f210σ_31 ahpσ_35 bhpσ_35 chpσ_35 dhpσ_35 lbr_34 ldr_34 ahpσ_37 bhpσ_37 dhpσ_37 c_38 chpσ_37 mv12_σ_44 mv17_σ_44; omega) | omega), (by first | (clear h0 h1 h2 hm8 if_5 if_7 mv14_σ_8 mv15_σ_8 mv16_σ_8 mv17_σ_8 if_9 gc_11_f_9 gc_11_f_10 c_11 if_12 ahpσ_14 bhpσ_14 chpσ_14 dhpσ_14 lkx hxat ahpσ_16 bhpσ_16 dhpσ_16 c_17 chpσ_16 ahpσ_19 bhpσ_19 dhpσ_19 c_20 chpσ_19 hm210 f210σ_31 if_33 ahpσ_35 bhpσ_35 chpσ_35 dhpσ_35 lbr_34 ldr_34 ahpσ_37 bhpσ_37 dhpσ_37 c_38 chpσ_37 if_39 iz_41 gc_42_z_41 c_42 mv14_σ_44 mv16_σ_44 mv17_σ_44; omega) | omega), (hF.trans hout), fr_σ_44⟩ dX12_next_330
                  · skip
                    replace hF := q_ifn hF c_38
                    replace c_38 := q_ifOne bhpσ_37 c_38
                    replace chpσ_37 := q_ifYes chpσ_37 c_38
                    refine lv_aload_n hx hb dX12_next_224 rfl (lv_at hl 0 rfl) ?_
                    refine gs_X12_101_12 E hI ha dX12_next_225 ?_
                    refine lv_topi (fun f_45 ef_45 => ?_)
                    replace hF := q_letX hF ef_45
                    have if_45 : f_45.toInt = (σ_31.1 a 16).toInt := congrArg Int32.toInt ef_45
                    refine lv_aload_n hx hb dX12_next_228 rfl (lv_at hl 0 rfl) ?_
                    refine gs_X12_104_12 E hI ha dX12_next_229 ?_
                    refine lv_topi (fun f_46 ef_46 => ?_)
                    replace hF := q_letX hF ef_46
                    have if_46 : f_46.toInt = (σ_31.1 a 15).toInt := congrArg Int32.toInt ef_46
                    refine lv_isub hx hb dX12_next_232 ?_
                    refine lv_topi (fun z_47 ez_47 => ?_)
                    replace hF := q_letX hF ez_47
                    have iz_47 := q_subI (A := f_45.toInt) (B := f_46.toInt) ez_47 rfl rfl (by first | (clear h0 h1 h2 if_1 hm8 e8σ_3 if_5 if_6 if_7 mv9_σ_8 mv12_σ_8 mv14_σ_8 mv15_σ_8 mv16_σ_8 mv17_σ_8 if_9 if_10 gc_11_f_9 gc_11_f_10 c_11 if_12 ahpσ_14 bhpσ_14 chpσ_14 dhpσ_14 lkx hxat ahpσ_16 bhpσ_16 dhpσ_16 c_17 chpσ_16 ahpσ_19 bhpσ_19 dhpσ_19 c_20 chpσ_19 hm210 f210σ_31 ahpσ_35 bhpσ_35 chpσ_35 dhpσ_35 lbr_34 ldr_34 ahpσ_37 bhpσ_37 dhpσ_37 c_38 chpσ_37; omega) | omega) (by first | (clear h0 h1 h2 hm8 mv12_σ_8 mv14_σ_8 mv17_σ_8 ahpσ_14 bhpσ_14 chpσ_14 dhpσ_14 lkx ahpσ_16 bhpσ_16 dhpσ_16 c_17 chpσ_16 ahpσ_19 bhpσ_19 dhpσ_19 c_20 chpσ_19 hm210 f210σ_31 ahpσ_35 bhpσ_35 chpσ_35 dhpσ_35 lbr_34 ldr_34 ahpσ_37 bhpσ_37 dhpσ_37 c_38 chpσ_37; omega) | omega)
                    refine lv_iconst (v := 4) hx hb dX12_next_233 (by decide) ?_
                    have gc_48_z_47 := q_rng z_47
                    refine q_icmp_ge (A := z_47.toInt) (B := 4) E rfl (by decide) (tgt := 260) dX12_next_234 (by decide) (fun c_48 => ?_) (fun c_48 => ?_)
                    · skip
                      replace hF := q_ifn hF (Int.not_lt.mpr c_48)
                      refine lv_aload_n hx hb dX12_next_260 rfl (lv_at hl 0 rfl) ?_
                      refine lv_dup hx hb dX12_next_261 rfl ?_
                      refine gs_X12_101_12 E hI ha dX12_next_262 ?_
                      refine lv_topi (fun f_49 ef_49 => ?_)
                      replace hF := q_letX hF ef_49
                      have if_49 : f_49.toInt = (σ_31.1 a 16).toInt := congrArg Int32.toInt ef_49
                      refine lv_iconst (v := 1) hx hb dX12_next_265 (by decide) ?_
                      refine lv_iadd hx hb dX12_next_266 ?_
                      refine lv_topi (fun z_50 ez_50 => ?_)
                      replace hF := q_letX hF ez_50
                      have iz_50 := q_addI (A := f_49.toInt) (B := 1) ez_50 rfl (by decide) (by first | (clear h0 h1 h2 hm8 mv12_σ_8 mv14_σ_8 mv17_σ_8 ahpσ_14 bhpσ_14 chpσ_14 dhpσ_14 lkx ahpσ_16 bhpσ_16 dhpσ_16 c_17 chpσ_16 ahpσ_19 bhpσ_19 dhpσ_19 c_20 chpσ_19 hm210 f210σ_31 ahpσ_35 bhpσ_35 chpσ_35 dhpσ_35 lbr_34 ldr_34 ahpσ_37 bhpσ_37 dhpσ_37 c_38 chpσ_37; omega) | omega) (by first | (clear h0 h1 h2 hm8 mv12_σ_8 mv14_σ_8 mv17_σ_8 ahpσ_14 bhpσ_14 chpσ_14 dhpσ_14 lkx ahpσ_16 bhpσ_16 dhpσ_16 c_17 chpσ_16 ahpσ_19 bhpσ_19 dhpσ_19 c_20 chpσ_19 hm210 f210σ_31 ahpσ_35 bhpσ_35 chpσ_35 dhpσ_35 lbr_34 ldr_34 ahpσ_37 bhpσ_37 dhpσ_37 c_38 chpσ_37 if_46 gc_48_z_47 c_48; omega) | omega)
                      refine ps_X12_101_12 E hI ha (by decide) dX12_next_267 (fun H locs σ_51 hσ_51 hI => ?_)
                      replace hF := q_letX hF hσ_51
                      have fr_σ_51 := fr_σ_31.si hσ_51 ha rfl
                      have ks_σ_51 : q_KS (fun b g => b = a ∧ 12 ≤ g ∧ g ≤ 18) 9 X σ σ_51 := ks_σ_31.siS hσ_51 ⟨rfl, by decide, by decide⟩
                      have mv9_σ_51 : (σ_51.1 a 9).toInt = (σ_31.1 a 9).toInt := congrArg Int32.toInt (q_rdn hσ_51 (Or.inr (by decide)))
                      have mv12_σ_51 : (σ_51.1 a 12).toInt = (σ_31.1 a 12).toInt := congrArg Int32.toInt (q_rdn hσ_51 (Or.inr (by decide)))
                      have mv14_σ_51 : (σ_51.1 a 14).toInt = (σ_31.1 a 14).toInt := congrArg Int32.toInt (q_rdn hσ_51 (Or.inr (by decide)))
                      have mv15_σ_51 : (σ_51.1 a 15).toInt = (σ_31.1 a 15).toInt := congrArg Int32.toInt (q_rdn hσ_51 (Or.inr (by decide)))
                      have mv16_σ_51 : (σ_51.1 a 16).toInt = z_50.toInt := congrArg Int32.toInt (q_rd hσ_51)
                      have mv17_σ_51 : (σ_51.1 a 17).toInt = (σ_31.1 a 17).toInt := congrArg Int32.toInt (q_rdn hσ_51 (Or.inr (by decide)))
                      refine lv_goto (tgt := 210) hx hb dX12_next_270 (by decide) ?_
                      exact ih210 σ_51 _ _ ls (by first | (clear h0 h1 h2 if_1 hm8 if_5 if_7 mv12_σ_8 mv14_σ_8 mv15_σ_8 mv16_σ_8 mv17_σ_8 if_9 gc_11_f_9 gc_11_f_10 c_11 if_12 ahpσ_14 bhpσ_14 chpσ_14 dhpσ_14 lkx hxat ahpσ_16 bhpσ_16 dhpσ_16 c_17 chpσ_16 ahpσ_19 bhpσ_19 dhpσ_19 c_20 chpσ_19 ahpσ_35 dhpσ_35 ahpσ_37 bhpσ_37 dhpσ_37 c_38 if_46 gc_48_z_47 c_48 mv12_σ_51 mv14_σ_51 mv15_σ_51 mv17_σ_51; omega) | omega) (by first | (clear h0 h1 h2 hm8 if_5 if_7 mv14_σ_8 mv15_σ_8 mv16_σ_8 mv17_σ_8 if_9 gc_11_f_9 gc_11_f_10 c_11 if_12 ahpσ_14 bhpσ_14 chpσ_14 dhpσ_14 lkx hxat ahpσ_16 bhpσ_16 dhpσ_16 c_17 chpσ_16 ahpσ_19 bhpσ_19 dhpσ_19 c_20 chpσ_19 hm210 f210σ_31 ahpσ_35 dhpσ_35 ahpσ_37 bhpσ_37 dhpσ_37 c_38 mv14_σ_51 mv17_σ_51; omega) | omega) (by first | (clear h0 h1 h2 if_1 hm8 e8σ_3 if_5 if_6 if_7 mv9_σ_8 mv12_σ_8 mv14_σ_8 mv15_σ_8 mv16_σ_8 mv17_σ_8 if_9 if_10 gc_11_f_9 gc_11_f_10 c_11 if_12 ahpσ_14 bhpσ_14 chpσ_14 dhpσ_14 lkx hxat ahpσ_16 bhpσ_16 dhpσ_16 c_17 chpσ_16 ahpσ_19 bhpσ_19 dhpσ_19 c_20 chpσ_19 hm210 f210σ_31 ahpσ_35 bhpσ_35 chpσ_35 dhpσ_35 lbr_34 ldr_34 ahpσ_37 bhpσ_37 dhpσ_37 c_38 chpσ_37 mv9_σ_51 mv12_σ_51 mv14_σ_51 mv17_σ_51; omega) | omega) ks_σ_51 fr_σ_51 hF hI (lv_sub hl [0, 1] rfl)
                    · skip
                      replace hF := q_ifp hF c_48
                      refine lv_aload_n hx hb dX12_next_237 rfl (lv_at hl 0 rfl) ?_
                      refine lv_bipush (v := 10) hx hb dX12_next_238 (by decide) ?_
                      refine lv_aload_n hx hb dX12_next_240 rfl (lv_at hl 0 rfl) ?_
                      refine gs_X12_129_12 E hI ha dX12_next_241 ?_
                      refine lv_topi (fun f_52 ef_52 => ?_)
                      replace hF := q_letX hF ef_52
                      have if_52 : f_52.toInt = (σ_31.1 a 17).toInt := congrArg Int32.toInt ef_52
                      refine lv_imul hx hb dX12_next_244 ?_
                      refine lv_topi (fun z_53 ez_53 => ?_)
                      replace hF := q_letX hF ez_53
                      refine lv_aload_n hx hb dX12_next_245 rfl (lv_at hl 0 rfl) ?_
                      refine lv_aload_n hx hb dX12_next_246 rfl (lv_at hl 0 rfl) ?_
                      refine gs_X12_101_12 E hI ha dX12_next_247 ?_
                      refine lv_topi (fun f_54 ef_54 => ?_)
                      replace hF := q_letX hF ef_54
                      have if_54 : f_54.toInt = (σ_31.1 a 16).toInt := congrArg Int32.toInt ef_54
                      refine q_ci (q_runV (As := [.int f_54]) (rest := [.int z_53, .ref a]) E (hml.trans hl.1.symm) hI (c_X12_look2 l X σ_31 a f_54 ha (by first | (clear h0 h1 h2 hm8 mv12_σ_8 mv14_σ_8 mv17_σ_8 ahpσ_14 bhpσ_14 chpσ_14 dhpσ_14 lkx ahpσ_16 bhpσ_16 dhpσ_16 c_17 chpσ_16 ahpσ_19 bhpσ_19 dhpσ_19 c_20 chpσ_19 hm210 f210σ_31 ahpσ_35 bhpσ_35 chpσ_35 dhpσ_35 lbr_34 ldr_34 ahpσ_37 bhpσ_37 dhpσ_37 c_38 chpσ_37 if_52; omega) | omega) (by first | (clear h0 h1 h2 if_1 hm8 if_5 if_7 mv12_σ_8 mv14_σ_8 mv15_σ_8 mv16_σ_8 mv17_σ_8 if_9 gc_11_f_9 c_11 if_12 ahpσ_14 bhpσ_14 chpσ_14 dhpσ_14 lkx hxat ahpσ_16 bhpσ_16 dhpσ_16 c_17 chpσ_16 ahpσ_19 bhpσ_19 dhpσ_19 c_20 chpσ_19 hm210 f210σ_31 if_33 ahpσ_35 bhpσ_35 chpσ_35 dhpσ_35 lbr_34 ldr_34 ahpσ_37 bhpσ_37 dhpσ_37 c_38 chpσ_37 if_45 if_46 iz_47 gc_48_z_47 c_48 if_52 if_54; omega) | omega)) kv_X12_107 ha ⟨rfl, by decide⟩ (show vwCl[11]? = some (RX12, TX12, 46) from rfl) rfl ⟨Nat.le_of_ble_eq_true rfl, Nat.le_of_ble_eq_true rfl⟩ ⟨Nat.le_refl _, Nat.le_refl _⟩ rfl (Nat.le_of_ble_eq_true rfl) dX12_next_250) hI (by decide) (fun r_55 σ_56 H locs hpσ_56 hkσ_56 hI => ?_)
                      obtain ⟨ahpσ_56, bhpσ_56, chpσ_56, dhpσ_56⟩ := hpσ_56
                      rw [ahpσ_56] at hI
                      replace hF := q_letX hF dhpσ_56
                      refine lv_iadd hx hb dX12_next_253 ?_
                      refine lv_topi (fun z_57 ez_57 => ?_)
                      replace hF := q_letX hF ez_57
                      refine lv_bipush (v := 48) hx hb dX12_next_254 (by decide) ?_
                      refine lv_isub hx hb dX12_next_256 ?_
                      refine lv_topi (fun z_58 ez_58 => ?_)
                      replace hF := q_letX hF ez_58
                      refine ps_X12_129_12 E hI ha (by decide) dX12_next_257 (fun H locs σ_59 hσ_59 hI => ?_)
                      replace hF := q_letX hF hσ_59
                      have fr_σ_59 := fr_σ_31.si hσ_59 ha rfl
                      have ks_σ_59 : q_KS (fun b g => b = a ∧ 12 ≤ g ∧ g ≤ 18) 9 X σ σ_59 := ks_σ_31.siS hσ_59 ⟨rfl, by decide, by decide⟩
                      have mv9_σ_59 : (σ_59.1 a 9).toInt = (σ_31.1 a 9).toInt := congrArg Int32.toInt (q_rdn hσ_59 (Or.inr (by decide)))
                      have mv12_σ_59 : (σ_59.1 a 12).toInt = (σ_31.1 a 12).toInt := congrArg Int32.toInt (q_rdn hσ_59 (Or.inr (by decide)))
                      have mv14_σ_59 : (σ_59.1 a 14).toInt = (σ_31.1 a 14).toInt := congrArg Int32.toInt (q_rdn hσ_59 (Or.inr (by decide)))
                      have mv15_σ_59 : (σ_59.1 a 15).toInt = (σ_31.1 a 15).toInt := congrArg Int32.toInt (q_rdn hσ_59 (Or.inr (by decide)))
                      have mv16_σ_59 : (σ_59.1 a 16).toInt = (σ_31.1 a 16).toInt := congrArg Int32.toInt (q_rdn hσ_59 (Or.inr (by decide)))
                      have mv17_σ_59 : (σ_59.1 a 17).toInt = z_58.toInt := congrArg Int32.toInt (q_rd hσ_59)
                      refine lv_aload_n hx hb dX12_next_260 rfl (lv_at hl 0 rfl) ?_
                      refine lv_dup hx hb dX12_next_261 rfl ?_
                      refine gs_X12_101_12 E hI ha dX12_next_262 ?_
                      refine lv_topi (fun f_60 ef_60 => ?_)
                      replace hF := q_letX hF ef_60
                      have if_60 : f_60.toInt = (σ_59.1 a 16).toInt := congrArg Int32.toInt ef_60
                      refine lv_iconst (v := 1) hx hb dX12_next_265 (by decide) ?_
                      refine lv_iadd hx hb dX12_next_266 ?_
                      refine lv_topi (fun z_61 ez_61 => ?_)
                      replace hF := q_letX hF ez_61
                      have iz_61 := q_addI (A := f_60.toInt) (B := 1) ez_61 rfl (by decide) (by first | (clear h0 h1 h2 hm8 mv12_σ_8 mv14_σ_8 mv17_σ_8 ahpσ_14 bhpσ_14 chpσ_14 dhpσ_14 lkx ahpσ_16 bhpσ_16 dhpσ_16 c_17 chpσ_16 ahpσ_19 bhpσ_19 dhpσ_19 c_20 chpσ_19 hm210 f210σ_31 ahpσ_35 bhpσ_35 chpσ_35 dhpσ_35 lbr_34 ldr_34 ahpσ_37 bhpσ_37 dhpσ_37 c_38 chpσ_37 if_52 ahpσ_56 bhpσ_56 chpσ_56 dhpσ_56 mv12_σ_59 mv14_σ_59 mv17_σ_59; omega) | omega) (by first | (clear h0 h1 h2 hm8 mv12_σ_8 mv14_σ_8 mv17_σ_8 ahpσ_14 bhpσ_14 chpσ_14 dhpσ_14 lkx ahpσ_16 bhpσ_16 dhpσ_16 c_17 chpσ_16 ahpσ_19 bhpσ_19 dhpσ_19 c_20 chpσ_19 hm210 f210σ_31 ahpσ_35 bhpσ_35 chpσ_35 dhpσ_35 lbr_34 ldr_34 ahpσ_37 bhpσ_37 dhpσ_37 c_38 chpσ_37 if_46 gc_48_z_47 c_48 if_52 ahpσ_56 bhpσ_56 chpσ_56 dhpσ_56 mv12_σ_59 mv14_σ_59 mv15_σ_59 mv17_σ_59; omega) | omega)
                      refine ps_X12_101_12 E hI ha (by decide) dX12_next_267 (fun H locs σ_62 hσ_62 hI => ?_)
                      replace hF := q_letX hF hσ_62
                      have fr_σ_62 := fr_σ_59.si hσ_62 ha rfl
                      have ks_σ_62 : q_KS (fun b g => b = a ∧ 12 ≤ g ∧ g ≤ 18) 9 X σ σ_62 := ks_σ_59.siS hσ_62 ⟨rfl, by decide, by decide⟩
                      have mv9_σ_62 : (σ_62.1 a 9).toInt = (σ_59.1 a 9).toInt := congrArg Int32.toInt (q_rdn hσ_62 (Or.inr (by decide)))
                      have mv12_σ_62 : (σ_62.1 a 12).toInt = (σ_59.1 a 12).toInt := congrArg Int32.toInt (q_rdn hσ_62 (Or.inr (by decide)))
                      have mv14_σ_62 : (σ_62.1 a 14).toInt = (σ_59.1 a 14).toInt := congrArg Int32.toInt (q_rdn hσ_62 (Or.inr (by decide)))
                      have mv15_σ_62 : (σ_62.1 a 15).toInt = (σ_59.1 a 15).toInt := congrArg Int32.toInt (q_rdn hσ_62 (Or.inr (by decide)))
                      have mv16_σ_62 : (σ_62.1 a 16).toInt = z_61.toInt := congrArg Int32.toInt (q_rd hσ_62)
                      have mv17_σ_62 : (σ_62.1 a 17).toInt = (σ_59.1 a 17).toInt := congrArg Int32.toInt (q_rdn hσ_62 (Or.inr (by decide)))
                      refine lv_goto (tgt := 210) hx hb dX12_next_270 (by decide) ?_
                      exact ih210 σ_62 _ _ ls (by first | (clear h0 h1 h2 if_1 hm8 if_5 if_7 mv12_σ_8 mv14_σ_8 mv15_σ_8 mv16_σ_8 mv17_σ_8 if_9 gc_11_f_9 gc_11_f_10 c_11 if_12 ahpσ_14 bhpσ_14 chpσ_14 dhpσ_14 lkx hxat ahpσ_16 bhpσ_16 dhpσ_16 c_17 chpσ_16 ahpσ_19 bhpσ_19 dhpσ_19 c_20 chpσ_19 ahpσ_35 dhpσ_35 ahpσ_37 bhpσ_37 dhpσ_37 c_38 if_46 gc_48_z_47 c_48 if_52 ahpσ_56 bhpσ_56 chpσ_56 dhpσ_56 mv12_σ_59 mv14_σ_59 mv15_σ_59 mv17_σ_59 mv12_σ_62 mv14_σ_62 mv15_σ_62 mv17_σ_62; omega) | omega) (by first | (clear h0 h1 h2 hm8 if_5 if_7 mv14_σ_8 mv15_σ_8 mv16_σ_8 mv17_σ_8 if_9 gc_11_f_9 gc_11_f_10 c_11 if_12 ahpσ_14 bhpσ_14 chpσ_14 dhpσ_14 lkx hxat ahpσ_16 bhpσ_16 dhpσ_16 c_17 chpσ_16 ahpσ_19 bhpσ_19 dhpσ_19 c_20 chpσ_19 hm210 f210σ_31 ahpσ_35 dhpσ_35 ahpσ_37 bhpσ_37 dhpσ_37 c_38 if_52 ahpσ_56 bhpσ_56 chpσ_56 dhpσ_56 mv14_σ_59 mv17_σ_59 mv14_σ_62 mv17_σ_62; omega) | omega) (by first | (clear h0 h1 h2 if_1 hm8 e8σ_3 if_5 if_6 if_7 mv9_σ_8 mv12_σ_8 mv14_σ_8 mv15_σ_8 mv16_σ_8 mv17_σ_8 if_9 if_10 gc_11_f_9 gc_11_f_10 c_11 if_12 ahpσ_14 bhpσ_14 chpσ_14 dhpσ_14 lkx hxat ahpσ_16 bhpσ_16 dhpσ_16 c_17 chpσ_16 ahpσ_19 bhpσ_19 dhpσ_19 c_20 chpσ_19 hm210 f210σ_31 ahpσ_35 bhpσ_35 chpσ_35 dhpσ_35 lbr_34 ldr_34 ahpσ_37 bhpσ_37 dhpσ_37 c_38 chpσ_37 if_52 ahpσ_56 bhpσ_56 chpσ_56 dhpσ_56 mv9_σ_59 mv12_σ_59 mv14_σ_59 mv17_σ_59 mv9_σ_62 mv12_σ_62 mv14_σ_62 mv17_σ_62; omega) | omega) ks_σ_62 fr_σ_62 hF hI (lv_sub hl [0, 1] rfl)
              exact L_210_32 (((σ_30.1 a 9).toInt - (σ_30.1 a 16).toInt).toNat + 1) σ_30 _ _ ls (Nat.lt_succ_self _) (by first | (clear h0 h1 h2 hm8 mv14_σ_8 mv17_σ_8 gc_11_f_9 gc_11_f_10 ahpσ_14 bhpσ_14 chpσ_14 dhpσ_14 lkx ahpσ_16 bhpσ_16 dhpσ_16 c_17 chpσ_16 ahpσ_19 bhpσ_19 dhpσ_19 c_20 chpσ_19; omega) | omega) (Or.inr (by have q : (σ_30.1 a 16).toInt = xat := (by first | (clear h0 h1 h2 if_1 hm8 e8σ_3 if_6 mv9_σ_8 mv12_σ_8 mv14_σ_8 mv17_σ_8 if_10 gc_11_f_9 gc_11_f_10 c_11 ahpσ_14 bhpσ_14 chpσ_14 dhpσ_14 lkx ahpσ_16 bhpσ_16 dhpσ_16 c_17 chpσ_16 ahpσ_19 bhpσ_19 dhpσ_19 c_20 chpσ_19; omega) | omega); rw [q]; omega)) ks_σ_30 fr_σ_30 hF hI (lv_sub hl [1, 0] rfl)
          · skip
            replace hF := q_ifn hF c_17
            replace c_17 := q_ifOne bhpσ_16 c_17
            replace chpσ_16 := q_ifYes chpσ_16 c_17
            refine lv_aload_n hx hb dX12_next_99 rfl (lv_at hl 1 rfl) ?_
            refine lv_iconst (v := 1) hx hb dX12_next_100 (by decide) ?_
            refine ps_X12_110_12 E hI ha (by decide) dX12_next_101 (fun H locs σ_63 hσ_63 hI => ?_)
            replace hF := q_letX hF hσ_63
            have fr_σ_63 := fr_σ_8.si hσ_63 ha rfl
            have ks_σ_63 : q_KS (fun b g => b = a ∧ 12 ≤ g ∧ g ≤ 18) 9 X σ σ_63 := ks_σ_8.siS hσ_63 ⟨rfl, by decide, by decide⟩
            have mv9_σ_63 : (σ_63.1 a 9).toInt = (σ_8.1 a 9).toInt := congrArg Int32.toInt (q_rdn hσ_63 (Or.inr (by decide)))
            have mv12_σ_63 : (σ_63.1 a 12).toInt = (σ_8.1 a 12).toInt := congrArg Int32.toInt (q_rdn hσ_63 (Or.inr (by decide)))
            have mv14_σ_63 : (σ_63.1 a 14).toInt = 1 := by rw [q_rd hσ_63]; rfl
            have mv15_σ_63 : (σ_63.1 a 15).toInt = (σ_8.1 a 15).toInt := congrArg Int32.toInt (q_rdn hσ_63 (Or.inr (by decide)))
            have mv16_σ_63 : (σ_63.1 a 16).toInt = (σ_8.1 a 16).toInt := congrArg Int32.toInt (q_rdn hσ_63 (Or.inr (by decide)))
            have mv17_σ_63 : (σ_63.1 a 17).toInt = (σ_8.1 a 17).toInt := congrArg Int32.toInt (q_rdn hσ_63 (Or.inr (by decide)))
            refine lv_aload_n hx hb dX12_next_104 rfl (lv_at hl 1 rfl) ?_
            refine lv_lconst (v := 0) hx hb dX12_next_105 (by decide) ?_
            refine ps_X12_116_12 E hI ha  dX12_next_106 (fun H locs σ_64 hσ_64 hI => ?_)
            replace hF := q_letX hF hσ_64
            have fr_σ_64 := fr_σ_63.sl hσ_64 ha rfl
            have ks_σ_64 : q_KS (fun b g => b = a ∧ 12 ≤ g ∧ g ≤ 18) 9 X σ σ_64 := ks_σ_63.sl hσ_64
            have mv9_σ_64 : (σ_64.1 a 9).toInt = (σ_63.1 a 9).toInt := congrArg Int32.toInt ((fun b g _ => by rw [hσ_64]; rfl : q_K 8 X σ_63 σ_64) a 9 (by rw [ha]; decide))
            have mv12_σ_64 : (σ_64.1 a 12).toInt = (σ_63.1 a 12).toInt := congrArg Int32.toInt ((fun b g _ => by rw [hσ_64]; rfl : q_K 8 X σ_63 σ_64) a 12 (by rw [ha]; decide))
            have mv14_σ_64 : (σ_64.1 a 14).toInt = (σ_63.1 a 14).toInt := congrArg Int32.toInt ((fun b g _ => by rw [hσ_64]; rfl : q_K 8 X σ_63 σ_64) a 14 (by rw [ha]; decide))
            have mv15_σ_64 : (σ_64.1 a 15).toInt = (σ_63.1 a 15).toInt := congrArg Int32.toInt ((fun b g _ => by rw [hσ_64]; rfl : q_K 8 X σ_63 σ_64) a 15 (by rw [ha]; decide))
            have mv16_σ_64 : (σ_64.1 a 16).toInt = (σ_63.1 a 16).toInt := congrArg Int32.toInt ((fun b g _ => by rw [hσ_64]; rfl : q_K 8 X σ_63 σ_64) a 16 (by rw [ha]; decide))
            have mv17_σ_64 : (σ_64.1 a 17).toInt = (σ_63.1 a 17).toInt := congrArg Int32.toInt ((fun b g _ => by rw [hσ_64]; rfl : q_K 8 X σ_63 σ_64) a 17 (by rw [ha]; decide))
            have L_109_66 : ∀ (k_66 : Nat)  (σ_65 : ST) (H : Heap) (locs : List Loc) (ls : Array Slot), ((σ_65.1 a 9).toInt - (σ_65.1 a 16).toInt).toNat < k_66 → ((σ_65.1 a 9).toInt = (σ.1 a 9).toInt ∧ (σ_65.1 a 12).toInt = (σ.1 a 12).toInt ∧ (σ.1 a 16).toInt ≤ (σ_65.1 a 15).toInt ∧ (σ_65.1 a 14).toInt = 1 ∧ (σ_65.1 a 15).toInt ≤ (σ_65.1 a 16).toInt ∧ (σ_65.1 a 15).toInt < (σ.1 a 9).toInt ∧ (σ_65.1 a 16).toInt ≤ (σ.1 a 9).toInt) → ((σ_65.1 a 15).toInt < (σ_65.1 a 16).toInt ∨ (97 ≤ m_look X σ a (σ_65.1 a 16).toInt ∧ m_look X σ a (σ_65.1 a 16).toInt ≤ 122)) → (q_KS (fun b g => b = a ∧ 12 ≤ g ∧ g ≤ 18) 9 X σ σ_65) → (q_ow [(12, 14), (12, 15), (12, 16), (12, 17), (12, 18)] [(12, 19)] X σ σ_65) → (F_X12_next_L109_5 X a k_66 σ_65 = out) → q_I X 2 σ s.heap locs σ_65 H → lv_has ls 2 [(0, .ref a), (1, .int r_13)] → W p l e (q_rm 1 21) s m ([.ref a] : List Value).toArray below meth c H locs 0 0 (MQ below (q_Qv X 2 σ (fun (σ' : ST) => (q_KS (fun b g => b = a ∧ 12 ≤ g ∧ g ≤ 18) 9 X σ σ') ∧ (0 ≤ (σ'.1 a 15).toInt ∧ (σ'.1 a 15).toInt ≤ (σ'.1 a 16).toInt ∧ (σ'.1 a 16).toInt ≤ (σ'.1 a 9).toInt ∧ (σ'.1 a 9).toInt ≤ 900 ∧ 0 ≤ (σ'.1 a 14).toInt ∧ (σ'.1 a 14).toInt ≤ 4 ∧ (σ'.1 a 14).toInt ≤ 4 * ((σ'.1 a 16).toInt - (σ'.1 a 15).toInt) ∧ (σ'.1 a 14).toInt ≤ 4 * ((σ'.1 a 9).toInt - (σ'.1 a 15).toInt)) ∧ ((σ'.1 a 9).toInt = (σ.1 a 9).toInt ∧ (σ'.1 a 12).toInt = (σ.1 a 12).toInt ∧ (σ.1 a 16).toInt ≤ (σ'.1 a 15).toInt) ∧ σ' = F_X12_next X σ a ∧ q_ow [(12, 14), (12, 15), (12, 16), (12, 17), (12, 18)] [(12, 19)] X σ σ')) ([.ref a] : List Value).toArray s 0 0 (q_reg X)) (F0 m 109 ls []) := by
              clear hF
              intro k_66
              induction k_66 with
              | zero =>
                intro σ_65 H locs ls hms
                try clear fr_σ_63; try clear mv9_σ_63; try clear mv12_σ_63; try clear mv14_σ_63; try clear mv15_σ_63; try clear mv16_σ_63; try clear mv17_σ_63; try clear fr_σ_64; try clear mv9_σ_64; try clear mv12_σ_64; try clear mv14_σ_64; try clear mv15_σ_64; try clear mv16_σ_64; try clear mv17_σ_64
                exact absurd hms (Nat.not_lt_zero _)
              | succ k_66 ih109 =>
                intro σ_65 H locs ls hm109 e109σ_65 f109σ_65 ks_σ_65 fr_σ_65 hF hI hl
                replace hF := (F_X12_next_L109_5_s).symm.trans hF
                unfold F_X12_next_B109_5 at hF
                refine lv_aload_n hx hb dX12_next_109 rfl (lv_at hl 0 rfl) ?_
                refine lv_aload_n hx hb dX12_next_110 rfl (lv_at hl 0 rfl) ?_
                refine gs_X12_101_12 E hI ha dX12_next_111 ?_
                refine lv_topi (fun f_67 ef_67 => ?_)
                replace hF := q_letX hF ef_67
                have if_67 : f_67.toInt = (σ_65.1 a 16).toInt := congrArg Int32.toInt ef_67
                refine q_ci (q_runV (As := [.int f_67]) (rest := []) E (hml.trans hl.1.symm) hI (c_X12_look2 l X σ_65 a f_67 ha (by first | (clear h0 h1 h2 hm8 e8σ_3 if_5 if_6 if_7 mv9_σ_8 mv12_σ_8 mv14_σ_8 mv15_σ_8 mv16_σ_8 mv17_σ_8 if_9 if_10 gc_11_f_9 gc_11_f_10 c_11 if_12 ahpσ_14 bhpσ_14 chpσ_14 dhpσ_14 lkx hxat ahpσ_16 bhpσ_16 dhpσ_16 c_17 chpσ_16 hm109 f109σ_65; omega) | omega) (by first | (clear h0 h1 h2 if_1 hm8 if_5 if_7 mv12_σ_8 mv14_σ_8 mv15_σ_8 mv16_σ_8 mv17_σ_8 if_9 gc_11_f_9 c_11 if_12 ahpσ_14 bhpσ_14 chpσ_14 dhpσ_14 lkx hxat ahpσ_16 bhpσ_16 dhpσ_16 c_17 chpσ_16 hm109 f109σ_65 if_67; omega) | omega)) kv_X12_107 ha ⟨rfl, by decide⟩ (show vwCl[11]? = some (RX12, TX12, 46) from rfl) rfl ⟨Nat.le_of_ble_eq_true rfl, Nat.le_of_ble_eq_true rfl⟩ ⟨Nat.le_refl _, Nat.le_refl _⟩ rfl (Nat.le_of_ble_eq_true rfl) dX12_next_114) hI (by decide) (fun r_68 σ_69 H locs hpσ_69 hkσ_69 hI => ?_)
                obtain ⟨ahpσ_69, bhpσ_69, chpσ_69, dhpσ_69⟩ := hpσ_69
                rw [ahpσ_69] at hI
                replace hF := q_letX hF dhpσ_69
                have lbr_68 : r_68.toInt = m_look X σ a f_67.toInt := bhpσ_69.trans (m_lookK ks_σ_65 hI.1 ha (fun b g h => ⟨h.1, by omega⟩) _)
                have lcr_68 : f_67.toInt = (σ_65.1 a 16).toInt := if_67
                rw [lcr_68] at lbr_68
                have ldr_68 := fun h => m_look_lt (X := X) (σ := σ) (a := a) (p := (σ_65.1 a 16).toInt) h
                refine q_ci (q_runS (As := [.int r_68]) (rest := []) E (hml.trans hl.1.symm) hI (c_X12_isLetter l X σ_65 r_68) ks_X12_113 rfl ⟨Nat.le_of_ble_eq_true rfl, Nat.le_of_ble_eq_true rfl⟩ ⟨Nat.le_refl _, Nat.le_refl _⟩ rfl (Nat.le_of_ble_eq_true rfl) dX12_next_117) hI (by decide) (fun r_70 σ_71 H locs hpσ_71 hkσ_71 hI => ?_)
                obtain ⟨ahpσ_71, bhpσ_71, chpσ_71, dhpσ_71⟩ := hpσ_71
                rw [ahpσ_71] at hI
                replace hF := q_letX hF dhpσ_71
                refine q_if_eq (A := r_70.toInt) E rfl (tgt := 182) dX12_next_120 (by decide) (fun c_72 => ?_) (fun c_72 => ?_)
                · skip
                  replace hF := q_ifp hF c_72
                  replace chpσ_71 := q_ifNo chpσ_71 c_72
                  unfold F_X12_next_E182_6 at hF
                  refine lv_aload_n hx hb dX12_next_182 rfl (lv_at hl 0 rfl) ?_
                  refine lv_aload_n hx hb dX12_next_183 rfl (lv_at hl 0 rfl) ?_
                  refine gs_X12_101_12 E hI ha dX12_next_184 ?_
                  refine lv_topi (fun f_73 ef_73 => ?_)
                  replace hF := q_letX hF ef_73
                  have if_73 : f_73.toInt = (σ_65.1 a 16).toInt := congrArg Int32.toInt ef_73
                  refine lv_aload_n hx hb dX12_next_187 rfl (lv_at hl 0 rfl) ?_
                  refine gs_X12_104_12 E hI ha dX12_next_188 ?_
                  refine lv_topi (fun f_74 ef_74 => ?_)
                  replace hF := q_letX hF ef_74
                  have if_74 : f_74.toInt = (σ_65.1 a 15).toInt := congrArg Int32.toInt ef_74
                  refine lv_isub hx hb dX12_next_191 ?_
                  refine lv_topi (fun z_75 ez_75 => ?_)
                  replace hF := q_letX hF ez_75
                  have iz_75 := q_subI (A := f_73.toInt) (B := f_74.toInt) ez_75 rfl rfl (by first | (clear h0 h1 h2 if_1 hm8 e8σ_3 if_5 if_6 if_7 mv9_σ_8 mv12_σ_8 mv14_σ_8 mv15_σ_8 mv16_σ_8 mv17_σ_8 if_9 if_10 gc_11_f_9 gc_11_f_10 c_11 if_12 ahpσ_14 bhpσ_14 chpσ_14 dhpσ_14 lkx hxat ahpσ_16 bhpσ_16 dhpσ_16 c_17 chpσ_16 hm109 f109σ_65 ahpσ_69 bhpσ_69 chpσ_69 dhpσ_69 lbr_68 ldr_68 ahpσ_71 bhpσ_71 dhpσ_71 c_72 chpσ_71; omega) | omega) (by first | (clear h0 h1 h2 hm8 mv12_σ_8 mv14_σ_8 mv17_σ_8 ahpσ_14 bhpσ_14 chpσ_14 dhpσ_14 lkx ahpσ_16 bhpσ_16 dhpσ_16 c_17 chpσ_16 hm109 f109σ_65 ahpσ_69 bhpσ_69 chpσ_69 dhpσ_69 lbr_68 ldr_68 ahpσ_71 bhpσ_71 dhpσ_71 c_72 chpσ_71; omega) | omega)
                  refine ps_X12_123_12 E hI ha (by decide) dX12_next_192 (fun H locs σ_76 hσ_76 hI => ?_)
                  replace hF := q_letX hF hσ_76
                  have fr_σ_76 := fr_σ_65.si hσ_76 ha rfl
                  have ks_σ_76 : q_KS (fun b g => b = a ∧ 12 ≤ g ∧ g ≤ 18) 9 X σ σ_76 := ks_σ_65.siS hσ_76 ⟨rfl, by decide, by decide⟩
                  have mv9_σ_76 : (σ_76.1 a 9).toInt = (σ_65.1 a 9).toInt := congrArg Int32.toInt (q_rdn hσ_76 (Or.inr (by decide)))
                  have mv12_σ_76 : (σ_76.1 a 12).toInt = (σ_65.1 a 12).toInt := congrArg Int32.toInt (q_rdn hσ_76 (Or.inr (by decide)))
                  have mv14_σ_76 : (σ_76.1 a 14).toInt = (σ_65.1 a 14).toInt := congrArg Int32.toInt (q_rdn hσ_76 (Or.inr (by decide)))
                  have mv15_σ_76 : (σ_76.1 a 15).toInt = (σ_65.1 a 15).toInt := congrArg Int32.toInt (q_rdn hσ_76 (Or.inr (by decide)))
                  have mv16_σ_76 : (σ_76.1 a 16).toInt = (σ_65.1 a 16).toInt := congrArg Int32.toInt (q_rdn hσ_76 (Or.inr (by decide)))
                  have mv17_σ_76 : (σ_76.1 a 17).toInt = (σ_65.1 a 17).toInt := congrArg Int32.toInt (q_rdn hσ_76 (Or.inr (by decide)))
                  refine lv_goto (tgt := 330) hx hb dX12_next_195 (by decide) ?_
                  exact q_retv E hr hlk hI ⟨ks_σ_76, (by first | (clear h0 h1 h2 hm8 if_5 if_7 mv12_σ_8 mv14_σ_8 mv15_σ_8 mv16_σ_8 mv17_σ_8 if_9 gc_11_f_9 c_11 if_12 ahpσ_14 bhpσ_14 chpσ_14 dhpσ_14 lkx hxat ahpσ_16 bhpσ_16 dhpσ_16 c_17 chpσ_16 hm109 ahpσ_69 dhpσ_69 ahpσ_71 bhpσ_71 dhpσ_71 c_72 mv12_σ_76 mv17_σ_76; omega) | omega), (by first | (clear h0 h1 h2 hm8 if_5 if_7 mv14_σ_8 mv15_σ_8 mv16_σ_8 mv17_σ_8 if_9 gc_11_f_9 gc_11_f_10 c_11 if_12 ahpσ_14 bhpσ_14 chpσ_14 dhpσ_14 lkx hxat ahpσ_16 bhpσ_16 dhpσ_16 c_17 chpσ_16 hm109 f109σ_65 if_67 ahpσ_69 bhpσ_69 chpσ_69 dhpσ_69 lbr_68 ldr_68 ahpσ_71 bhpσ_71 dhpσ_71 c_72 chpσ_71 if_73 iz_75 mv14_σ_76 mv16_σ_76 mv17_σ_76; omega) | omega), (hF.trans hout), fr_σ_76⟩ dX12_next_330
                · skip
                  replace hF := q_ifn hF c_72
                  replace c_72 := q_ifOne bhpσ_71 c_72
                  replace chpσ_71 := q_ifYes chpσ_71 c_72
                  refine lv_aload_n hx hb dX12_next_123 rfl (lv_at hl 0 rfl) ?_
                  refine lv_aload_n hx hb dX12_next_124 rfl (lv_at hl 0 rfl) ?_
                  refine gs_X12_101_12 E hI ha dX12_next_125 ?_
                  refine lv_topi (fun f_77 ef_77 => ?_)
                  replace hF := q_letX hF ef_77
                  have if_77 : f_77.toInt = (σ_65.1 a 16).toInt := congrArg Int32.toInt ef_77
                  refine lv_aload_n hx hb dX12_next_128 rfl (lv_at hl 0 rfl) ?_
                  refine gs_X12_104_12 E hI ha dX12_next_129 ?_
                  refine lv_topi (fun f_78 ef_78 => ?_)
                  replace hF := q_letX hF ef_78
                  have if_78 : f_78.toInt = (σ_65.1 a 15).toInt := congrArg Int32.toInt ef_78
                  refine lv_isub hx hb dX12_next_132 ?_
                  refine lv_topi (fun z_79 ez_79 => ?_)
                  replace hF := q_letX hF ez_79
                  have iz_79 := q_subI (A := f_77.toInt) (B := f_78.toInt) ez_79 rfl rfl (by first | (clear h0 h1 h2 if_1 hm8 e8σ_3 if_5 if_6 if_7 mv9_σ_8 mv12_σ_8 mv14_σ_8 mv15_σ_8 mv16_σ_8 mv17_σ_8 if_9 if_10 gc_11_f_9 gc_11_f_10 c_11 if_12 ahpσ_14 bhpσ_14 chpσ_14 dhpσ_14 lkx hxat ahpσ_16 bhpσ_16 dhpσ_16 c_17 chpσ_16 hm109 f109σ_65 ahpσ_69 bhpσ_69 chpσ_69 dhpσ_69 lbr_68 ldr_68 ahpσ_71 bhpσ_71 dhpσ_71 c_72 chpσ_71; omega) | omega) (by first | (clear h0 h1 h2 hm8 mv12_σ_8 mv14_σ_8 mv17_σ_8 ahpσ_14 bhpσ_14 chpσ_14 dhpσ_14 lkx ahpσ_16 bhpσ_16 dhpσ_16 c_17 chpσ_16 hm109 f109σ_65 ahpσ_69 bhpσ_69 chpσ_69 dhpσ_69 lbr_68 ldr_68 ahpσ_71 bhpσ_71 dhpσ_71 c_72 chpσ_71; omega) | omega)
                  refine lv_bipush (v := 8) hx hb dX12_next_133 (by decide) ?_
                  have gc_80_z_79 := q_rng z_79
                  refine q_icmp_ge (A := z_79.toInt) (B := 8) E rfl (by decide) (tgt := 163) dX12_next_135 (by decide) (fun c_80 => ?_) (fun c_80 => ?_)
                  · skip
                    replace hF := q_ifn hF (Int.not_lt.mpr c_80)
                    refine lv_ldc2 (v := (-1)) hx hb E.2.2.1 (E.2.2.2.1 _ (q_in_t7 (i := 163) (by first | rfl | decide +kernel) rfl)) dX12_next_163 ?_
                    refine ps_X12_116_12 E hI ha  dX12_next_166 (fun H locs σ_81 hσ_81 hI => ?_)
                    replace hF := q_letX hF hσ_81
                    have fr_σ_81 := fr_σ_65.sl hσ_81 ha rfl
                    have ks_σ_81 : q_KS (fun b g => b = a ∧ 12 ≤ g ∧ g ≤ 18) 9 X σ σ_81 := ks_σ_65.sl hσ_81
                    have mv9_σ_81 : (σ_81.1 a 9).toInt = (σ_65.1 a 9).toInt := congrArg Int32.toInt ((fun b g _ => by rw [hσ_81]; rfl : q_K 8 X σ_65 σ_81) a 9 (by rw [ha]; decide))
                    have mv12_σ_81 : (σ_81.1 a 12).toInt = (σ_65.1 a 12).toInt := congrArg Int32.toInt ((fun b g _ => by rw [hσ_81]; rfl : q_K 8 X σ_65 σ_81) a 12 (by rw [ha]; decide))
                    have mv14_σ_81 : (σ_81.1 a 14).toInt = (σ_65.1 a 14).toInt := congrArg Int32.toInt ((fun b g _ => by rw [hσ_81]; rfl : q_K 8 X σ_65 σ_81) a 14 (by rw [ha]; decide))
                    have mv15_σ_81 : (σ_81.1 a 15).toInt = (σ_65.1 a 15).toInt := congrArg Int32.toInt ((fun b g _ => by rw [hσ_81]; rfl : q_K 8 X σ_65 σ_81) a 15 (by rw [ha]; decide))
                    have mv16_σ_81 : (σ_81.1 a 16).toInt = (σ_65.1 a 16).toInt := congrArg Int32.toInt ((fun b g _ => by rw [hσ_81]; rfl : q_K 8 X σ_65 σ_81) a 16 (by rw [ha]; decide))
                    have mv17_σ_81 : (σ_81.1 a 17).toInt = (σ_65.1 a 17).toInt := congrArg Int32.toInt ((fun b g _ => by rw [hσ_81]; rfl : q_K 8 X σ_65 σ_81) a 17 (by rw [ha]; decide))
                    refine lv_aload_n hx hb dX12_next_169 rfl (lv_at hl 0 rfl) ?_
                    refine lv_dup hx hb dX12_next_170 rfl ?_
                    refine gs_X12_101_12 E hI ha dX12_next_171 ?_
                    refine lv_topi (fun f_82 ef_82 => ?_)
                    replace hF := q_letX hF ef_82
                    have if_82 : f_82.toInt = (σ_81.1 a 16).toInt := congrArg Int32.toInt ef_82
                    refine lv_iconst (v := 1) hx hb dX12_next_174 (by decide) ?_
                    refine lv_iadd hx hb dX12_next_175 ?_
                    refine lv_topi (fun z_83 ez_83 => ?_)
                    replace hF := q_letX hF ez_83
                    have iz_83 := q_addI (A := f_82.toInt) (B := 1) ez_83 rfl (by decide) (by first | (clear h0 h1 h2 hm8 mv12_σ_8 mv14_σ_8 mv17_σ_8 ahpσ_14 bhpσ_14 chpσ_14 dhpσ_14 lkx ahpσ_16 bhpσ_16 dhpσ_16 c_17 chpσ_16 hm109 f109σ_65 ahpσ_69 bhpσ_69 chpσ_69 dhpσ_69 lbr_68 ldr_68 ahpσ_71 bhpσ_71 dhpσ_71 c_72 chpσ_71 mv12_σ_81 mv14_σ_81 mv17_σ_81; omega) | omega) (by first | (clear h0 h1 h2 hm8 mv12_σ_8 mv14_σ_8 mv17_σ_8 ahpσ_14 bhpσ_14 chpσ_14 dhpσ_14 lkx ahpσ_16 bhpσ_16 dhpσ_16 c_17 chpσ_16 hm109 f109σ_65 ahpσ_69 bhpσ_69 chpσ_69 dhpσ_69 lbr_68 ldr_68 ahpσ_71 bhpσ_71 dhpσ_71 c_72 chpσ_71 gc_80_z_79 c_80 mv12_σ_81 mv14_σ_81 mv17_σ_81; omega) | omega)
                    refine ps_X12_101_12 E hI ha (by decide) dX12_next_176 (fun H locs σ_84 hσ_84 hI => ?_)
                    replace hF := q_letX hF hσ_84
                    have fr_σ_84 := fr_σ_81.si hσ_84 ha rfl
                    have ks_σ_84 : q_KS (fun b g => b = a ∧ 12 ≤ g ∧ g ≤ 18) 9 X σ σ_84 := ks_σ_81.siS hσ_84 ⟨rfl, by decide, by decide⟩
                    have mv9_σ_84 : (σ_84.1 a 9).toInt = (σ_81.1 a 9).toInt := congrArg Int32.toInt (q_rdn hσ_84 (Or.inr (by decide)))
                    have mv12_σ_84 : (σ_84.1 a 12).toInt = (σ_81.1 a 12).toInt := congrArg Int32.toInt (q_rdn hσ_84 (Or.inr (by decide)))
                    have mv14_σ_84 : (σ_84.1 a 14).toInt = (σ_81.1 a 14).toInt := congrArg Int32.toInt (q_rdn hσ_84 (Or.inr (by decide)))
                    have mv15_σ_84 : (σ_84.1 a 15).toInt = (σ_81.1 a 15).toInt := congrArg Int32.toInt (q_rdn hσ_84 (Or.inr (by decide)))
                    have mv16_σ_84 : (σ_84.1 a 16).toInt = z_83.toInt := congrArg Int32.toInt (q_rd hσ_84)
                    have mv17_σ_84 : (σ_84.1 a 17).toInt = (σ_81.1 a 17).toInt := congrArg Int32.toInt (q_rdn hσ_84 (Or.inr (by decide)))
                    refine lv_goto (tgt := 109) hx hb dX12_next_179 (by decide) ?_
                    exact ih109 σ_84 _ _ ls (by first | (clear h0 h1 h2 if_1 hm8 if_5 if_7 mv12_σ_8 mv14_σ_8 mv15_σ_8 mv16_σ_8 mv17_σ_8 if_9 gc_11_f_9 gc_11_f_10 c_11 if_12 ahpσ_14 bhpσ_14 chpσ_14 dhpσ_14 lkx hxat ahpσ_16 bhpσ_16 dhpσ_16 c_17 chpσ_16 ahpσ_69 dhpσ_69 ahpσ_71 bhpσ_71 dhpσ_71 c_72 gc_80_z_79 c_80 mv12_σ_81 mv14_σ_81 mv17_σ_81 mv12_σ_84 mv14_σ_84 mv15_σ_84 mv17_σ_84; omega) | omega) (by first | (clear h0 h1 h2 hm8 if_5 if_7 mv14_σ_8 mv15_σ_8 mv16_σ_8 mv17_σ_8 if_9 gc_11_f_9 gc_11_f_10 c_11 if_12 ahpσ_14 bhpσ_14 chpσ_14 dhpσ_14 lkx hxat ahpσ_16 bhpσ_16 dhpσ_16 c_17 chpσ_16 hm109 f109σ_65 ahpσ_69 dhpσ_69 ahpσ_71 bhpσ_71 dhpσ_71 c_72 mv17_σ_81 mv17_σ_84; omega) | omega) (by first | (clear h0 h1 h2 if_1 hm8 e8σ_3 if_5 if_6 if_7 mv9_σ_8 mv12_σ_8 mv14_σ_8 mv15_σ_8 mv16_σ_8 mv17_σ_8 if_9 if_10 gc_11_f_9 gc_11_f_10 c_11 if_12 ahpσ_14 bhpσ_14 chpσ_14 dhpσ_14 lkx hxat ahpσ_16 bhpσ_16 dhpσ_16 c_17 chpσ_16 hm109 f109σ_65 ahpσ_69 bhpσ_69 chpσ_69 dhpσ_69 lbr_68 ldr_68 ahpσ_71 bhpσ_71 dhpσ_71 c_72 chpσ_71 mv9_σ_81 mv12_σ_81 mv14_σ_81 mv17_σ_81 mv9_σ_84 mv12_σ_84 mv14_σ_84 mv17_σ_84; omega) | omega) ks_σ_84 fr_σ_84 hF hI (lv_sub hl [0, 1] rfl)
                  · skip
                    replace hF := q_ifp hF c_80
                    refine lv_aload_n hx hb dX12_next_138 rfl (lv_at hl 0 rfl) ?_
                    refine gs_X12_116_12 E hI ha dX12_next_139 ?_
                    refine lv_topl (fun g_85 eg_85 => ?_)
                    replace hF := q_letX hF eg_85
                    refine lv_ldc2 (v := 32) hx hb E.2.2.1 (E.2.2.2.1 _ (q_in_t7 (i := 199) (by first | rfl | decide +kernel) rfl)) dX12_next_142 ?_
                    refine lv_lmul hx hb dX12_next_145 ?_
                    refine lv_topl (fun y_86 ey_86 => ?_)
                    replace hF := q_letX hF ey_86
                    refine lv_aload_n hx hb dX12_next_146 rfl (lv_at hl 0 rfl) ?_
                    refine lv_aload_n hx hb dX12_next_147 rfl (lv_at hl 0 rfl) ?_
                    refine gs_X12_101_12 E hI ha dX12_next_148 ?_
                    refine lv_topi (fun f_87 ef_87 => ?_)
                    replace hF := q_letX hF ef_87
                    have if_87 : f_87.toInt = (σ_65.1 a 16).toInt := congrArg Int32.toInt ef_87
                    refine q_ci (q_runV (As := [.int f_87]) (rest := [.long y_86, .ref a]) E (hml.trans hl.1.symm) hI (c_X12_look2 l X σ_65 a f_87 ha (by first | (clear h0 h1 h2 hm8 mv12_σ_8 mv14_σ_8 mv17_σ_8 ahpσ_14 bhpσ_14 chpσ_14 dhpσ_14 lkx ahpσ_16 bhpσ_16 dhpσ_16 c_17 chpσ_16 hm109 f109σ_65 ahpσ_69 bhpσ_69 chpσ_69 dhpσ_69 lbr_68 ldr_68 ahpσ_71 bhpσ_71 dhpσ_71 c_72 chpσ_71; omega) | omega) (by first | (clear h0 h1 h2 if_1 hm8 if_5 if_7 mv12_σ_8 mv14_σ_8 mv15_σ_8 mv16_σ_8 mv17_σ_8 if_9 gc_11_f_9 c_11 if_12 ahpσ_14 bhpσ_14 chpσ_14 dhpσ_14 lkx hxat ahpσ_16 bhpσ_16 dhpσ_16 c_17 chpσ_16 hm109 f109σ_65 if_67 ahpσ_69 bhpσ_69 chpσ_69 dhpσ_69 lbr_68 ldr_68 ahpσ_71 bhpσ_71 dhpσ_71 c_72 chpσ_71 if_77 if_78 iz_79 gc_80_z_79 c_80 if_87; omega) | omega)) kv_X12_107 ha ⟨rfl, by decide⟩ (show vwCl[11]? = some (RX12, TX12, 46) from rfl) rfl ⟨Nat.le_of_ble_eq_true rfl, Nat.le_of_ble_eq_true rfl⟩ ⟨Nat.le_refl _, Nat.le_refl _⟩ rfl (Nat.le_of_ble_eq_true rfl) dX12_next_151) hI (by decide) (fun r_88 σ_89 H locs hpσ_89 hkσ_89 hI => ?_)
                    obtain ⟨ahpσ_89, bhpσ_89, chpσ_89, dhpσ_89⟩ := hpσ_89
                    rw [ahpσ_89] at hI
                    replace hF := q_letX hF dhpσ_89
                    refine lv_i2l hx hb dX12_next_154 rfl ?_
                    refine lv_topl (fun y_90 ey_90 => ?_)
                    replace hF := q_letX hF ey_90
                    refine lv_ladd hx hb dX12_next_155 ?_
                    refine lv_topl (fun y_91 ey_91 => ?_)
                    replace hF := q_letX hF ey_91
                    refine lv_ldc2 (v := 96) hx hb E.2.2.1 (E.2.2.2.1 _ (q_in_t7 (i := 200) (by first | rfl | decide +kernel) rfl)) dX12_next_156 ?_
                    refine lv_lsub hx hb dX12_next_159 ?_
                    refine lv_topl (fun y_92 ey_92 => ?_)
                    replace hF := q_letX hF ey_92
                    refine lv_goto (tgt := 166) hx hb dX12_next_160 (by decide) ?_
                    refine ps_X12_116_12 E hI ha  dX12_next_166 (fun H locs σ_93 hσ_93 hI => ?_)
                    replace hF := q_letX hF hσ_93
                    have fr_σ_93 := fr_σ_65.sl hσ_93 ha rfl
                    have ks_σ_93 : q_KS (fun b g => b = a ∧ 12 ≤ g ∧ g ≤ 18) 9 X σ σ_93 := ks_σ_65.sl hσ_93
                    have mv9_σ_93 : (σ_93.1 a 9).toInt = (σ_65.1 a 9).toInt := congrArg Int32.toInt ((fun b g _ => by rw [hσ_93]; rfl : q_K 8 X σ_65 σ_93) a 9 (by rw [ha]; decide))
                    have mv12_σ_93 : (σ_93.1 a 12).toInt = (σ_65.1 a 12).toInt := congrArg Int32.toInt ((fun b g _ => by rw [hσ_93]; rfl : q_K 8 X σ_65 σ_93) a 12 (by rw [ha]; decide))
                    have mv14_σ_93 : (σ_93.1 a 14).toInt = (σ_65.1 a 14).toInt := congrArg Int32.toInt ((fun b g _ => by rw [hσ_93]; rfl : q_K 8 X σ_65 σ_93) a 14 (by rw [ha]; decide))
                    have mv15_σ_93 : (σ_93.1 a 15).toInt = (σ_65.1 a 15).toInt := congrArg Int32.toInt ((fun b g _ => by rw [hσ_93]; rfl : q_K 8 X σ_65 σ_93) a 15 (by rw [ha]; decide))
                    have mv16_σ_93 : (σ_93.1 a 16).toInt = (σ_65.1 a 16).toInt := congrArg Int32.toInt ((fun b g _ => by rw [hσ_93]; rfl : q_K 8 X σ_65 σ_93) a 16 (by rw [ha]; decide))
                    have mv17_σ_93 : (σ_93.1 a 17).toInt = (σ_65.1 a 17).toInt := congrArg Int32.toInt ((fun b g _ => by rw [hσ_93]; rfl : q_K 8 X σ_65 σ_93) a 17 (by rw [ha]; decide))
                    refine lv_aload_n hx hb dX12_next_169 rfl (lv_at hl 0 rfl) ?_
                    refine lv_dup hx hb dX12_next_170 rfl ?_
                    refine gs_X12_101_12 E hI ha dX12_next_171 ?_
                    refine lv_topi (fun f_94 ef_94 => ?_)
                    replace hF := q_letX hF ef_94
                    have if_94 : f_94.toInt = (σ_93.1 a 16).toInt := congrArg Int32.toInt ef_94
                    refine lv_iconst (v := 1) hx hb dX12_next_174 (by decide) ?_
                    refine lv_iadd hx hb dX12_next_175 ?_
                    refine lv_topi (fun z_95 ez_95 => ?_)
                    replace hF := q_letX hF ez_95
                    have iz_95 := q_addI (A := f_94.toInt) (B := 1) ez_95 rfl (by decide) (by first | (clear h0 h1 h2 hm8 mv12_σ_8 mv14_σ_8 mv17_σ_8 ahpσ_14 bhpσ_14 chpσ_14 dhpσ_14 lkx ahpσ_16 bhpσ_16 dhpσ_16 c_17 chpσ_16 hm109 f109σ_65 ahpσ_69 bhpσ_69 chpσ_69 dhpσ_69 lbr_68 ldr_68 ahpσ_71 bhpσ_71 dhpσ_71 c_72 chpσ_71 ahpσ_89 bhpσ_89 chpσ_89 dhpσ_89 mv12_σ_93 mv14_σ_93 mv17_σ_93; omega) | omega) (by first | (clear h0 h1 h2 hm8 mv12_σ_8 mv14_σ_8 mv17_σ_8 ahpσ_14 bhpσ_14 chpσ_14 dhpσ_14 lkx ahpσ_16 bhpσ_16 dhpσ_16 c_17 chpσ_16 hm109 f109σ_65 ahpσ_69 bhpσ_69 chpσ_69 dhpσ_69 lbr_68 ldr_68 ahpσ_71 bhpσ_71 dhpσ_71 c_72 chpσ_71 if_78 gc_80_z_79 c_80 ahpσ_89 bhpσ_89 chpσ_89 dhpσ_89 mv12_σ_93 mv14_σ_93 mv15_σ_93 mv17_σ_93; omega) | omega)
                    refine ps_X12_101_12 E hI ha (by decide) dX12_next_176 (fun H locs σ_96 hσ_96 hI => ?_)
                    replace hF := q_letX hF hσ_96
                    have fr_σ_96 := fr_σ_93.si hσ_96 ha rfl
                    have ks_σ_96 : q_KS (fun b g => b = a ∧ 12 ≤ g ∧ g ≤ 18) 9 X σ σ_96 := ks_σ_93.siS hσ_96 ⟨rfl, by decide, by decide⟩
                    have mv9_σ_96 : (σ_96.1 a 9).toInt = (σ_93.1 a 9).toInt := congrArg Int32.toInt (q_rdn hσ_96 (Or.inr (by decide)))
                    have mv12_σ_96 : (σ_96.1 a 12).toInt = (σ_93.1 a 12).toInt := congrArg Int32.toInt (q_rdn hσ_96 (Or.inr (by decide)))
                    have mv14_σ_96 : (σ_96.1 a 14).toInt = (σ_93.1 a 14).toInt := congrArg Int32.toInt (q_rdn hσ_96 (Or.inr (by decide)))
                    have mv15_σ_96 : (σ_96.1 a 15).toInt = (σ_93.1 a 15).toInt := congrArg Int32.toInt (q_rdn hσ_96 (Or.inr (by decide)))
                    have mv16_σ_96 : (σ_96.1 a 16).toInt = z_95.toInt := congrArg Int32.toInt (q_rd hσ_96)
                    have mv17_σ_96 : (σ_96.1 a 17).toInt = (σ_93.1 a 17).toInt := congrArg Int32.toInt (q_rdn hσ_96 (Or.inr (by decide)))
                    refine lv_goto (tgt := 109) hx hb dX12_next_179 (by decide) ?_
                    exact ih109 σ_96 _ _ ls (by first | (clear h0 h1 h2 if_1 hm8 if_5 if_7 mv12_σ_8 mv14_σ_8 mv15_σ_8 mv16_σ_8 mv17_σ_8 if_9 gc_11_f_9 gc_11_f_10 c_11 if_12 ahpσ_14 bhpσ_14 chpσ_14 dhpσ_14 lkx hxat ahpσ_16 bhpσ_16 dhpσ_16 c_17 chpσ_16 ahpσ_69 dhpσ_69 ahpσ_71 bhpσ_71 dhpσ_71 c_72 if_78 gc_80_z_79 c_80 ahpσ_89 bhpσ_89 chpσ_89 dhpσ_89 mv12_σ_93 mv14_σ_93 mv15_σ_93 mv17_σ_93 mv12_σ_96 mv14_σ_96 mv15_σ_96 mv17_σ_96; omega) | omega) (by first | (clear h0 h1 h2 hm8 if_5 if_7 mv14_σ_8 mv15_σ_8 mv16_σ_8 mv17_σ_8 if_9 gc_11_f_9 gc_11_f_10 c_11 if_12 ahpσ_14 bhpσ_14 chpσ_14 dhpσ_14 lkx hxat ahpσ_16 bhpσ_16 dhpσ_16 c_17 chpσ_16 hm109 f109σ_65 ahpσ_69 dhpσ_69 ahpσ_71 bhpσ_71 dhpσ_71 c_72 ahpσ_89 bhpσ_89 chpσ_89 dhpσ_89 mv17_σ_93 mv17_σ_96; omega) | omega) (by first | (clear h0 h1 h2 if_1 hm8 e8σ_3 if_5 if_6 if_7 mv9_σ_8 mv12_σ_8 mv14_σ_8 mv15_σ_8 mv16_σ_8 mv17_σ_8 if_9 if_10 gc_11_f_9 gc_11_f_10 c_11 if_12 ahpσ_14 bhpσ_14 chpσ_14 dhpσ_14 lkx hxat ahpσ_16 bhpσ_16 dhpσ_16 c_17 chpσ_16 hm109 f109σ_65 ahpσ_69 bhpσ_69 chpσ_69 dhpσ_69 lbr_68 ldr_68 ahpσ_71 bhpσ_71 dhpσ_71 c_72 chpσ_71 ahpσ_89 bhpσ_89 chpσ_89 dhpσ_89 mv9_σ_93 mv12_σ_93 mv14_σ_93 mv17_σ_93 mv9_σ_96 mv12_σ_96 mv14_σ_96 mv17_σ_96; omega) | omega) ks_σ_96 fr_σ_96 hF hI (lv_sub hl [0, 1] rfl)
            exact L_109_66 (((σ_64.1 a 9).toInt - (σ_64.1 a 16).toInt).toNat + 1) σ_64 _ _ ls (Nat.lt_succ_self _) (by first | (clear h0 h1 h2 hm8 mv14_σ_8 mv17_σ_8 gc_11_f_9 gc_11_f_10 ahpσ_14 bhpσ_14 chpσ_14 dhpσ_14 lkx ahpσ_16 bhpσ_16 dhpσ_16 c_17 chpσ_16; omega) | omega) (Or.inr (by have q : (σ_64.1 a 16).toInt = xat := (by first | (clear h0 h1 h2 if_1 hm8 e8σ_3 if_6 mv9_σ_8 mv12_σ_8 mv14_σ_8 mv17_σ_8 if_10 gc_11_f_9 gc_11_f_10 c_11 ahpσ_14 bhpσ_14 chpσ_14 dhpσ_14 lkx ahpσ_16 bhpσ_16 dhpσ_16 c_17 chpσ_16; omega) | omega); rw [q]; omega)) ks_σ_64 fr_σ_64 hF hI (lv_sub hl [1, 0] rfl)
        · skip
          replace hF := q_ifn hF (Int.not_lt.mpr c_11)
          refine lv_aload_n hx hb dX12_next_77 rfl (lv_at hl 0 rfl) ?_
          refine lv_iconst (v := 0) hx hb dX12_next_78 (by decide) ?_
          refine ps_X12_110_12 E hI ha (by decide) dX12_next_79 (fun H locs σ_97 hσ_97 hI => ?_)
          replace hF := q_letX hF hσ_97
          have fr_σ_97 := fr_σ_8.si hσ_97 ha rfl
          have ks_σ_97 : q_KS (fun b g => b = a ∧ 12 ≤ g ∧ g ≤ 18) 9 X σ σ_97 := ks_σ_8.siS hσ_97 ⟨rfl, by decide, by decide⟩
          have mv9_σ_97 : (σ_97.1 a 9).toInt = (σ_8.1 a 9).toInt := congrArg Int32.toInt (q_rdn hσ_97 (Or.inr (by decide)))
          have mv12_σ_97 : (σ_97.1 a 12).toInt = (σ_8.1 a 12).toInt := congrArg Int32.toInt (q_rdn hσ_97 (Or.inr (by decide)))
          have mv14_σ_97 : (σ_97.1 a 14).toInt = 0 := by rw [q_rd hσ_97]; rfl
          have mv15_σ_97 : (σ_97.1 a 15).toInt = (σ_8.1 a 15).toInt := congrArg Int32.toInt (q_rdn hσ_97 (Or.inr (by decide)))
          have mv16_σ_97 : (σ_97.1 a 16).toInt = (σ_8.1 a 16).toInt := congrArg Int32.toInt (q_rdn hσ_97 (Or.inr (by decide)))
          have mv17_σ_97 : (σ_97.1 a 17).toInt = (σ_8.1 a 17).toInt := congrArg Int32.toInt (q_rdn hσ_97 (Or.inr (by decide)))
          exact q_retv E hr hlk hI ⟨ks_σ_97, (by first | (clear h0 h1 h2 hm8 mv12_σ_8 mv14_σ_8 mv17_σ_8 gc_11_f_9 mv12_σ_97 mv17_σ_97; omega) | omega), (by first | (clear h0 h1 h2 hm8 mv14_σ_8 mv17_σ_8 gc_11_f_9 gc_11_f_10 mv14_σ_97 mv17_σ_97; omega) | omega), (hF.trans hout), fr_σ_97⟩ dX12_next_82
      have gc_98_f_5 := q_rng f_5
      have gc_98_f_6 := q_rng f_6
      refine q_icmp_ge (A := f_5.toInt) (B := f_6.toInt) E rfl rfl (tgt := 58) dX12_next_16 (by decide) (fun c_98 => ?_) (fun c_98 => ?_)
      · skip
        replace hF := q_ifn hF (Int.not_lt.mpr c_98)
        exact J_58_6 _ _ ls hF hI (lv_sub hl [0] rfl)
      · skip
        replace hF := q_ifp hF c_98
        refine lv_aload_n hx hb dX12_next_19 rfl (lv_at hl 0 rfl) ?_
        refine lv_aload_n hx hb dX12_next_20 rfl (lv_at hl 0 rfl) ?_
        refine gs_X12_104_12 E hI ha dX12_next_21 ?_
        refine lv_topi (fun f_99 ef_99 => ?_)
        replace hF := q_letX hF ef_99
        have if_99 : f_99.toInt = (σ_3.1 a 15).toInt := congrArg Int32.toInt ef_99
        refine q_ci (q_runV (As := [.int f_99]) (rest := []) E (hml.trans hl.1.symm) hI (c_X12_look2 l X σ_3 a f_99 ha (by first | (clear h0 h1 h2 hm8 if_6 gc_98_f_6 c_98; omega) | omega) (by first | (clear h0 h1 h2 if_1 hm8 if_5 gc_98_f_5 c_98 if_99; omega) | omega)) kv_X12_107 ha ⟨rfl, by decide⟩ (show vwCl[11]? = some (RX12, TX12, 46) from rfl) rfl ⟨Nat.le_of_ble_eq_true rfl, Nat.le_of_ble_eq_true rfl⟩ ⟨Nat.le_refl _, Nat.le_refl _⟩ rfl (Nat.le_of_ble_eq_true rfl) dX12_next_24) hI (by decide) (fun r_100 σ_101 H locs hpσ_101 hkσ_101 hI => ?_)
        obtain ⟨ahpσ_101, bhpσ_101, chpσ_101, dhpσ_101⟩ := hpσ_101
        rw [ahpσ_101] at hI
        replace hF := q_letX hF dhpσ_101
        refine lv_bipush (v := 10) hx hb dX12_next_27 (by decide) ?_
        have gc_102_r_100 := q_rng r_100
        refine q_icmp_eq (A := r_100.toInt) (B := 10) E rfl (by decide) (tgt := 45) dX12_next_29 (by decide) (fun c_102 => ?_) (fun c_102 => ?_)
        · skip
          replace hF := q_ifp hF c_102
          refine lv_aload_n hx hb dX12_next_45 rfl (lv_at hl 0 rfl) ?_
          refine lv_dup hx hb dX12_next_46 rfl ?_
          refine gs_X12_104_12 E hI ha dX12_next_47 ?_
          refine lv_topi (fun f_103 ef_103 => ?_)
          replace hF := q_letX hF ef_103
          have if_103 : f_103.toInt = (σ_3.1 a 15).toInt := congrArg Int32.toInt ef_103
          refine lv_iconst (v := 1) hx hb dX12_next_50 (by decide) ?_
          refine lv_iadd hx hb dX12_next_51 ?_
          refine lv_topi (fun z_104 ez_104 => ?_)
          replace hF := q_letX hF ez_104
          have iz_104 := q_addI (A := f_103.toInt) (B := 1) ez_104 rfl (by decide) (by first | (clear h0 h1 h2 if_1 hm8 e8σ_3 if_6 gc_98_f_6 c_98 ahpσ_101 bhpσ_101 chpσ_101 dhpσ_101 gc_102_r_100 c_102; omega) | omega) (by first | (clear h0 h1 h2 hm8 ahpσ_101 bhpσ_101 chpσ_101 dhpσ_101 gc_102_r_100 c_102; omega) | omega)
          refine ps_X12_104_12 E hI ha (by decide) dX12_next_52 (fun H locs σ_105 hσ_105 hI => ?_)
          replace hF := q_letX hF hσ_105
          have fr_σ_105 := fr_σ_3.si hσ_105 ha rfl
          have ks_σ_105 : q_KS (fun b g => b = a ∧ 12 ≤ g ∧ g ≤ 18) 9 X σ σ_105 := ks_σ_3.siS hσ_105 ⟨rfl, by decide, by decide⟩
          have mv9_σ_105 : (σ_105.1 a 9).toInt = (σ_3.1 a 9).toInt := congrArg Int32.toInt (q_rdn hσ_105 (Or.inr (by decide)))
          have mv12_σ_105 : (σ_105.1 a 12).toInt = (σ_3.1 a 12).toInt := congrArg Int32.toInt (q_rdn hσ_105 (Or.inr (by decide)))
          have mv14_σ_105 : (σ_105.1 a 14).toInt = (σ_3.1 a 14).toInt := congrArg Int32.toInt (q_rdn hσ_105 (Or.inr (by decide)))
          have mv15_σ_105 : (σ_105.1 a 15).toInt = z_104.toInt := congrArg Int32.toInt (q_rd hσ_105)
          have mv16_σ_105 : (σ_105.1 a 16).toInt = (σ_3.1 a 16).toInt := congrArg Int32.toInt (q_rdn hσ_105 (Or.inr (by decide)))
          have mv17_σ_105 : (σ_105.1 a 17).toInt = (σ_3.1 a 17).toInt := congrArg Int32.toInt (q_rdn hσ_105 (Or.inr (by decide)))
          refine lv_goto (tgt := 8) hx hb dX12_next_55 (by decide) ?_
          exact ih8 σ_105 _ _ ls (by first | (clear h0 h1 h2 if_1 e8σ_3 gc_98_f_5 gc_98_f_6 ahpσ_101 bhpσ_101 chpσ_101 dhpσ_101 gc_102_r_100 c_102 mv12_σ_105 mv14_σ_105 mv16_σ_105 mv17_σ_105; omega) | omega) (by first | (clear h0 h1 h2 hm8 gc_98_f_5 gc_98_f_6 ahpσ_101 bhpσ_101 chpσ_101 dhpσ_101 gc_102_r_100 c_102 mv14_σ_105 mv16_σ_105 mv17_σ_105; omega) | omega) ks_σ_105 fr_σ_105 hF hI (lv_sub hl [0] rfl)
        · skip
          replace hF := q_ifn hF c_102
          refine lv_aload_n hx hb dX12_next_32 rfl (lv_at hl 0 rfl) ?_
          refine lv_aload_n hx hb dX12_next_33 rfl (lv_at hl 0 rfl) ?_
          refine gs_X12_104_12 E hI ha dX12_next_34 ?_
          refine lv_topi (fun f_106 ef_106 => ?_)
          replace hF := q_letX hF ef_106
          have if_106 : f_106.toInt = (σ_3.1 a 15).toInt := congrArg Int32.toInt ef_106
          refine q_ci (q_runV (As := [.int f_106]) (rest := []) E (hml.trans hl.1.symm) hI (c_X12_look2 l X σ_3 a f_106 ha (by first | (clear h0 h1 h2 hm8 if_6 gc_98_f_6 c_98 ahpσ_101 bhpσ_101 chpσ_101 dhpσ_101 gc_102_r_100 c_102; omega) | omega) (by first | (clear h0 h1 h2 if_1 hm8 if_5 gc_98_f_5 c_98 if_99 ahpσ_101 bhpσ_101 chpσ_101 dhpσ_101 gc_102_r_100 c_102 if_106; omega) | omega)) kv_X12_107 ha ⟨rfl, by decide⟩ (show vwCl[11]? = some (RX12, TX12, 46) from rfl) rfl ⟨Nat.le_of_ble_eq_true rfl, Nat.le_of_ble_eq_true rfl⟩ ⟨Nat.le_refl _, Nat.le_refl _⟩ rfl (Nat.le_of_ble_eq_true rfl) dX12_next_37) hI (by decide) (fun r_107 σ_108 H locs hpσ_108 hkσ_108 hI => ?_)
          obtain ⟨ahpσ_108, bhpσ_108, chpσ_108, dhpσ_108⟩ := hpσ_108
          rw [ahpσ_108] at hI
          replace hF := q_letX hF dhpσ_108
          refine lv_bipush (v := 32) hx hb dX12_next_40 (by decide) ?_
          have gc_109_r_107 := q_rng r_107
          refine q_icmp_ne (A := r_107.toInt) (B := 32) E rfl (by decide) (tgt := 58) dX12_next_42 (by decide) (fun c_109 => ?_) (fun c_109 => ?_)
          · skip
            replace hF := q_ifn hF c_109
            exact J_58_6 _ _ ls hF hI (lv_sub hl [0] rfl)
          · skip
            replace hF := q_ifp hF c_109
            refine lv_aload_n hx hb dX12_next_45 rfl (lv_at hl 0 rfl) ?_
            refine lv_dup hx hb dX12_next_46 rfl ?_
            refine gs_X12_104_12 E hI ha dX12_next_47 ?_
            refine lv_topi (fun f_110 ef_110 => ?_)
            replace hF := q_letX hF ef_110
            have if_110 : f_110.toInt = (σ_3.1 a 15).toInt := congrArg Int32.toInt ef_110
            refine lv_iconst (v := 1) hx hb dX12_next_50 (by decide) ?_
            refine lv_iadd hx hb dX12_next_51 ?_
            refine lv_topi (fun z_111 ez_111 => ?_)
            replace hF := q_letX hF ez_111
            have iz_111 := q_addI (A := f_110.toInt) (B := 1) ez_111 rfl (by decide) (by first | (clear h0 h1 h2 if_1 hm8 e8σ_3 if_6 gc_98_f_6 c_98 ahpσ_101 bhpσ_101 chpσ_101 dhpσ_101 gc_102_r_100 c_102 ahpσ_108 bhpσ_108 chpσ_108 dhpσ_108 gc_109_r_107 c_109; omega) | omega) (by first | (clear h0 h1 h2 hm8 ahpσ_101 bhpσ_101 chpσ_101 dhpσ_101 gc_102_r_100 c_102 ahpσ_108 bhpσ_108 chpσ_108 dhpσ_108 gc_109_r_107 c_109; omega) | omega)
            refine ps_X12_104_12 E hI ha (by decide) dX12_next_52 (fun H locs σ_112 hσ_112 hI => ?_)
            replace hF := q_letX hF hσ_112
            have fr_σ_112 := fr_σ_3.si hσ_112 ha rfl
            have ks_σ_112 : q_KS (fun b g => b = a ∧ 12 ≤ g ∧ g ≤ 18) 9 X σ σ_112 := ks_σ_3.siS hσ_112 ⟨rfl, by decide, by decide⟩
            have mv9_σ_112 : (σ_112.1 a 9).toInt = (σ_3.1 a 9).toInt := congrArg Int32.toInt (q_rdn hσ_112 (Or.inr (by decide)))
            have mv12_σ_112 : (σ_112.1 a 12).toInt = (σ_3.1 a 12).toInt := congrArg Int32.toInt (q_rdn hσ_112 (Or.inr (by decide)))
            have mv14_σ_112 : (σ_112.1 a 14).toInt = (σ_3.1 a 14).toInt := congrArg Int32.toInt (q_rdn hσ_112 (Or.inr (by decide)))
            have mv15_σ_112 : (σ_112.1 a 15).toInt = z_111.toInt := congrArg Int32.toInt (q_rd hσ_112)
            have mv16_σ_112 : (σ_112.1 a 16).toInt = (σ_3.1 a 16).toInt := congrArg Int32.toInt (q_rdn hσ_112 (Or.inr (by decide)))
            have mv17_σ_112 : (σ_112.1 a 17).toInt = (σ_3.1 a 17).toInt := congrArg Int32.toInt (q_rdn hσ_112 (Or.inr (by decide)))
            refine lv_goto (tgt := 8) hx hb dX12_next_55 (by decide) ?_
            exact ih8 σ_112 _ _ ls (by first | (clear h0 h1 h2 if_1 e8σ_3 gc_98_f_5 gc_98_f_6 ahpσ_101 bhpσ_101 chpσ_101 dhpσ_101 gc_102_r_100 ahpσ_108 bhpσ_108 chpσ_108 dhpσ_108 gc_109_r_107 c_109 mv12_σ_112 mv14_σ_112 mv16_σ_112 mv17_σ_112; omega) | omega) (by first | (clear h0 h1 h2 hm8 gc_98_f_5 gc_98_f_6 ahpσ_101 bhpσ_101 chpσ_101 dhpσ_101 gc_102_r_100 c_102 ahpσ_108 bhpσ_108 chpσ_108 dhpσ_108 gc_109_r_107 c_109 mv14_σ_112 mv16_σ_112 mv17_σ_112; omega) | omega) ks_σ_112 fr_σ_112 hF hI (lv_sub hl [0] rfl)
  exact L_8_4 (((σ_2.1 a 9).toInt - (σ_2.1 a 15).toInt).toNat + 1) σ_2 _ _ ls (Nat.lt_succ_self _) (by first | (clear h0 h1 h2; omega) | omega) ks_σ_2 fr_σ_2 hF hI (lv_sub hl [0] rfl)
end
/-! FROM 33.must.a.lean.txt -/
section
section QS
variable {p : Program} {l : Launch} {e : Env} {R : Room} {s : State} {m : MethodId} {args : Array Value} {below : List Frame} {meth : Method} {c : Code} {H : Heap} {locs : List Loc} {cells slots : Nat} {Q : State → Prop} {cc : ByteArray} {X : XW} {n : Nat} {σ0 σ : ST} {H0 : Heap} {pc : Nat} {ls : Array Slot} {rest : List Value} {a : Nat}
theorem kv_X12_200 : q_okV RX12 200 RX12 yX12_wrong cX12_wrong 1 none 0 := ⟨(q_in_t7 (i := 223) (by first | rfl | decide +kernel) rfl), (q_in_t7 (i := 225) (by first | rfl | decide +kernel) rfl), (q_in_p (i := 48) (by decide +kernel) rfl), (q_in_t1 (i := 14) (by first | rfl | decide +kernel) rfl), (q_in_t7 (i := 226) (by first | rfl | decide +kernel) rfl), ⟨rfl, by decide, by decide, rfl⟩⟩
theorem kv_X12_197 : q_okV RX12 197 RX12 yX12_next cX12_next 2 none 0 := ⟨(q_in_t7 (i := 188) (by first | rfl | decide +kernel) rfl), (q_in_t7 (i := 190) (by first | rfl | decide +kernel) rfl), (q_in_p (i := 42) (by decide +kernel) rfl), (q_in_t1 (i := 14) (by first | rfl | decide +kernel) rfl), (q_in_t7 (i := 191) (by first | rfl | decide +kernel) rfl), ⟨rfl, by decide, by decide, rfl⟩⟩
theorem ks_X12_94 : q_okS RX12 94 yX12_isIn cX12_isIn 6 (some .boolean) 3 := ⟨(q_in_t7 (i := 235) (by first | rfl | decide +kernel) rfl), (q_in_t7 (i := 236) (by first | rfl | decide +kernel) rfl), (q_in_t1 (i := 14) (by first | rfl | decide +kernel) rfl), (q_in_t7 (i := 237) (by first | rfl | decide +kernel) rfl), ⟨by decide, by decide, rfl⟩⟩
end QS
end
/-! FROM 33.must.b00.lean.txt -/
section
set_option maxRecDepth 100000 in
set_option maxHeartbeats 4000000 in
theorem c_X12_must (l : Launch) (X : XW) (σ : ST) (a : Nat) (v1 : Int32) (ha : q_kd X a = 12) (hs : 0 ≤ (σ.1 a 15).toInt ∧ (σ.1 a 15).toInt ≤ (σ.1 a 16).toInt ∧ (σ.1 a 16).toInt ≤ (σ.1 a 9).toInt ∧ (σ.1 a 9).toInt ≤ 900 ∧ 0 ≤ (σ.1 a 14).toInt ∧ (σ.1 a 14).toInt ≤ 4 ∧ (σ.1 a 14).toInt ≤ 4 * ((σ.1 a 16).toInt - (σ.1 a 15).toInt) ∧ (σ.1 a 14).toInt ≤ 4 * ((σ.1 a 9).toInt - (σ.1 a 15).toInt) ∧ 0 ≤ (σ.1 a 12).toInt) (hv : 0 ≤ v1.toInt) : Met l yX12_must (q_ws yX12_must cX12_must 2 none) (q_rm 2 42) (q_P X σ [.ref a, .int v1]) (q_Qv X 2 σ (fun (σ' : ST) => (q_KS (fun b g => b = a ∧ 12 ≤ g ∧ g ≤ 18) 9 X σ σ') ∧ (0 ≤ (σ'.1 a 15).toInt ∧ (σ'.1 a 15).toInt ≤ (σ'.1 a 16).toInt ∧ (σ'.1 a 16).toInt ≤ (σ'.1 a 9).toInt ∧ (σ'.1 a 9).toInt ≤ 900 ∧ 0 ≤ (σ'.1 a 14).toInt ∧ (σ'.1 a 14).toInt ≤ 4 ∧ (σ'.1 a 14).toInt ≤ 4 * ((σ'.1 a 16).toInt - (σ'.1 a 15).toInt) ∧ (σ'.1 a 14).toInt ≤ 4 * ((σ'.1 a 9).toInt - (σ'.1 a 15).toInt) ∧ 0 ≤ (σ'.1 a 12).toInt ∧ (σ'.1 a 9).toInt = (σ.1 a 9).toInt ∧ (σ.1 a 15).toInt ≤ (σ'.1 a 15).toInt ∧ (σ.1 a 12).toInt ≤ (σ'.1 a 12).toInt) ∧ ((σ.1 a 16).toInt ≤ (σ'.1 a 15).toInt + 1000 * (σ'.1 a 12).toInt ∧ 1 ≤ v1.toInt + (σ'.1 a 12).toInt) ∧ σ' = F_X12_must X σ a v1 ∧ q_ow [(12, 12), (12, 13), (12, 14), (12, 15), (12, 16), (12, 17), (12, 18)] [(12, 19)] X σ σ')) 0 0 (q_reg X) := by
  refine q_met 2 (by first | exact rfl | decide +kernel) rfl (Nat.le_of_ble_eq_true rfl) (fun p e s m below meth c E hml hr hlk hI ls hl => ?_)
  have hx := E.1
  have hb := E.2.1
  have hl : lv_has ls 2 [(0, .ref a), (1, .int v1)] := hl
  have ks_σ : q_KS (fun b g => b = a ∧ 12 ≤ g ∧ g ≤ 18) 9 X σ σ := q_KS.rf
  have fr_σ : q_ow [(12, 12), (12, 13), (12, 14), (12, 15), (12, 16), (12, 17), (12, 18)] [(12, 19)] X σ σ := q_ow.rf
  obtain ⟨out, hout⟩ : ∃ o, o = F_X12_must X σ a v1 := ⟨_, rfl⟩
  have hF := hout.symm
  unfold F_X12_must at hF
  refine lv_aload_n hx hb dX12_must_0 rfl (lv_at hl 0 rfl) ?_
  refine gs_X12_187_12 E hI ha dX12_must_1 ?_
  refine lv_topi (fun f_1 ef_1 => ?_)
  replace hF := q_letX hF ef_1
  have if_1 : f_1.toInt = (σ.1 a 12).toInt := congrArg Int32.toInt ef_1
  refine q_if_le (A := f_1.toInt) E rfl (tgt := 8) dX12_must_4 (by decide) (fun c_2 => ?_) (fun c_2 => ?_)
  · skip
    replace hF := q_ifn hF (Int.not_lt.mpr c_2)
    refine lv_iload_n hx hb dX12_must_8 rfl (lv_at hl 1 rfl) ?_
    refine q_if_eq (A := v1.toInt) E rfl (tgt := 19) dX12_must_9 (by decide) (fun c_3 => ?_) (fun c_3 => ?_)
    · skip
      replace hF := q_ifp hF c_3
      refine lv_aload_n hx hb dX12_must_19 rfl (lv_at hl 0 rfl) ?_
      refine q_cv (q_runV (As := []) (rest := []) E (hml.trans hl.1.symm) hI (c_X12_wrong l X σ a ha (by first | (clear hv c_3; omega) | omega)) kv_X12_200 ha ⟨rfl, by decide⟩ (show vwCl[11]? = some (RX12, TX12, 46) from rfl) rfl ⟨Nat.le_of_ble_eq_true rfl, Nat.le_of_ble_eq_true rfl⟩ ⟨Nat.le_refl _, Nat.le_refl _⟩ rfl (Nat.le_of_ble_eq_true rfl) dX12_must_20) hI (by decide) (fun σ_5 H locs hpσ_5 hkσ_5 hI => ?_)
      obtain ⟨ahpσ_5, bhpσ_5, chpσ_5, dhpσ_5, ehpσ_5⟩ := hpσ_5
      have fr_σ_5 := fr_σ.call ehpσ_5 rfl rfl
      replace hF := q_letX hF dhpσ_5
      have ks_σ_5 : q_KS (fun b g => b = a ∧ 12 ≤ g ∧ g ≤ 18) 9 X σ σ_5 := ks_σ.KS ahpσ_5 (by decide) (fun _ _ h => h)
      exact q_retv E hr hlk hI ⟨ks_σ_5, (by first | (clear hv c_3 ahpσ_5 dhpσ_5 ehpσ_5; omega) | omega), (by first | (clear hv if_1 c_2 ahpσ_5 dhpσ_5 ehpσ_5; omega) | omega), (hF.trans hout), fr_σ_5⟩ dX12_must_23
    · skip
      replace hF := q_ifn hF c_3
      refine lv_aload_n hx hb dX12_must_12 rfl (lv_at hl 0 rfl) ?_
      refine q_cv (q_runV (As := []) (rest := []) E (hml.trans hl.1.symm) hI (c_X12_next l X σ a ha (by first | (clear hv if_1 c_2 c_3; omega) | omega) (by first | (clear hv if_1 c_2 c_3; omega) | omega) (by first | (clear hv if_1 c_2 c_3; omega) | omega)) kv_X12_197 ha ⟨rfl, by decide⟩ (show vwCl[11]? = some (RX12, TX12, 46) from rfl) rfl ⟨Nat.le_of_ble_eq_true rfl, Nat.le_of_ble_eq_true rfl⟩ ⟨Nat.le_refl _, Nat.le_refl _⟩ rfl (Nat.le_of_ble_eq_true rfl) dX12_must_13) hI (by decide) (fun σ_7 H locs hpσ_7 hkσ_7 hI => ?_)
      obtain ⟨ahpσ_7, bhpσ_7, chpσ_7, dhpσ_7, ehpσ_7⟩ := hpσ_7
      have fr_σ_7 := fr_σ.call ehpσ_7 rfl rfl
      replace hF := q_letX hF dhpσ_7
      have ks_σ_7 : q_KS (fun b g => b = a ∧ 12 ≤ g ∧ g ≤ 18) 9 X σ σ_7 := ks_σ.KS ahpσ_7 (by decide) (fun _ _ h => h)
      refine lv_goto (tgt := 23) hx hb dX12_must_16 (by decide) ?_
      exact q_retv E hr hlk hI ⟨ks_σ_7, (by first | (clear hv c_3 ahpσ_7 dhpσ_7 ehpσ_7; omega) | omega), (by first | (clear ahpσ_7 bhpσ_7 dhpσ_7 ehpσ_7; omega) | omega), (hF.trans hout), fr_σ_7⟩ dX12_must_23
  · skip
    replace hF := q_ifp hF c_2
    exact q_retv E hr hlk hI ⟨ks_σ, (by first | (clear hv; omega) | omega), (by omega), (hF.trans hout), fr_σ⟩ dX12_must_7

set_option maxRecDepth 100000 in
set_option maxHeartbeats 4000000 in
theorem c_X12_count (l : Launch) (X : XW) (σ : ST) (a : Nat) (v1 : Int32) (v2 : Int32) (ha : q_kd X a = 12) (hs : 0 ≤ (σ.1 a 15).toInt ∧ (σ.1 a 15).toInt ≤ (σ.1 a 16).toInt ∧ (σ.1 a 16).toInt ≤ (σ.1 a 9).toInt ∧ (σ.1 a 9).toInt ≤ 900 ∧ 0 ≤ (σ.1 a 14).toInt ∧ (σ.1 a 14).toInt ≤ 4 ∧ (σ.1 a 14).toInt ≤ 4 * ((σ.1 a 16).toInt - (σ.1 a 15).toInt) ∧ (σ.1 a 14).toInt ≤ 4 * ((σ.1 a 9).toInt - (σ.1 a 15).toInt) ∧ 0 ≤ (σ.1 a 12).toInt) (hv : 0 ≤ v1.toInt ∧ v1.toInt ≤ 10 ∧ 0 ≤ v2.toInt) : Met l yX12_count (q_ws yX12_count cX12_count 4 (some .int)) (q_rm 2 42) (q_P X σ [.ref a, .int v1, .int v2]) (q_Qi X 2 σ (fun (r : Int32) (σ' : ST) => (q_KS (fun b g => b = a ∧ 12 ≤ g ∧ g ≤ 18) 9 X σ σ') ∧ (0 ≤ (σ'.1 a 15).toInt ∧ (σ'.1 a 15).toInt ≤ (σ'.1 a 16).toInt ∧ (σ'.1 a 16).toInt ≤ (σ'.1 a 9).toInt ∧ (σ'.1 a 9).toInt ≤ 900 ∧ 0 ≤ (σ'.1 a 14).toInt ∧ (σ'.1 a 14).toInt ≤ 4 ∧ (σ'.1 a 14).toInt ≤ 4 * ((σ'.1 a 16).toInt - (σ'.1 a 15).toInt) ∧ (σ'.1 a 14).toInt ≤ 4 * ((σ'.1 a 9).toInt - (σ'.1 a 15).toInt) ∧ 0 ≤ (σ'.1 a 12).toInt ∧ (σ'.1 a 9).toInt = (σ.1 a 9).toInt ∧ (σ.1 a 15).toInt ≤ (σ'.1 a 15).toInt ∧ (σ.1 a 12).toInt ≤ (σ'.1 a 12).toInt) ∧ ((σ.1 a 16).toInt ≤ (σ'.1 a 15).toInt + 1000 * (σ'.1 a 12).toInt ∧ 0 ≤ r.toInt ∧ r.toInt ≤ v2.toInt ∧ v1.toInt ≤ r.toInt + 10 * (σ'.1 a 12).toInt) ∧ (r, σ') = F_X12_count X σ a v1 v2 ∧ q_ow [(12, 12), (12, 13), (12, 14), (12, 15), (12, 16), (12, 17), (12, 18)] [(12, 19)] X σ σ')) 0 0 (q_reg X) := by
  refine q_met 2 (by first | exact rfl | decide +kernel) rfl (Nat.le_of_ble_eq_true rfl) (fun p e s m below meth c E hml hr hlk hI ls hl => ?_)
  have hx := E.1
  have hb := E.2.1
  have hl : lv_has ls 4 [(0, .ref a), (1, .int v1), (2, .int v2)] := hl
  have ks_σ : q_KS (fun b g => b = a ∧ 12 ≤ g ∧ g ≤ 18) 9 X σ σ := q_KS.rf
  have fr_σ : q_ow [(12, 12), (12, 13), (12, 14), (12, 15), (12, 16), (12, 17), (12, 18)] [(12, 19)] X σ σ := q_ow.rf
  obtain ⟨out, hout⟩ : ∃ o, o = F_X12_count X σ a v1 v2 := ⟨_, rfl⟩
  have hF := hout.symm
  unfold F_X12_count at hF
  refine lv_aload_n hx hb dX12_count_0 rfl (lv_at hl 0 rfl) ?_
  refine gs_X12_187_12 E hI ha dX12_count_1 ?_
  refine lv_topi (fun f_1 ef_1 => ?_)
  replace hF := q_letX hF ef_1
  have if_1 : f_1.toInt = (σ.1 a 12).toInt := congrArg Int32.toInt ef_1
  have J_19_2 : ∀  (σ_2 : ST) (H : Heap) (locs : List Loc) (ls : Array Slot), (0 ≤ (σ_2.1 a 15).toInt ∧ (σ_2.1 a 15).toInt ≤ (σ_2.1 a 16).toInt ∧ (σ_2.1 a 16).toInt ≤ (σ_2.1 a 9).toInt ∧ (σ_2.1 a 9).toInt ≤ 900 ∧ 0 ≤ (σ_2.1 a 14).toInt ∧ (σ_2.1 a 14).toInt ≤ 4 ∧ (σ_2.1 a 14).toInt ≤ 4 * ((σ_2.1 a 16).toInt - (σ_2.1 a 15).toInt) ∧ (σ_2.1 a 14).toInt ≤ 4 * ((σ_2.1 a 9).toInt - (σ_2.1 a 15).toInt) ∧ 0 ≤ (σ_2.1 a 12).toInt ∧ (σ_2.1 a 9).toInt = (σ.1 a 9).toInt ∧ (σ_2.1 a 15).toInt = (σ.1 a 15).toInt ∧ (σ_2.1 a 16).toInt = (σ.1 a 16).toInt ∧ (σ.1 a 12).toInt ≤ (σ_2.1 a 12).toInt) → (q_KS (fun b g => b = a ∧ 12 ≤ g ∧ g ≤ 18) 9 X σ σ_2) → (q_ow [(12, 12), (12, 13), (12, 14), (12, 15), (12, 16), (12, 17), (12, 18)] [(12, 19)] X σ σ_2) → (F_X12_count_J19_1 X a v1 v2 σ_2 = out) → q_I X 2 σ s.heap locs σ_2 H → lv_has ls 4 [(0, .ref a), (1, .int v1), (2, .int v2)] → W p l e (q_rm 2 42) s m ([.ref a, .int v1, .int v2] : List Value).toArray below meth c H locs 0 0 (MQ below (q_Qi X 2 σ (fun (r : Int32) (σ' : ST) => (q_KS (fun b g => b = a ∧ 12 ≤ g ∧ g ≤ 18) 9 X σ σ') ∧ (0 ≤ (σ'.1 a 15).toInt ∧ (σ'.1 a 15).toInt ≤ (σ'.1 a 16).toInt ∧ (σ'.1 a 16).toInt ≤ (σ'.1 a 9).toInt ∧ (σ'.1 a 9).toInt ≤ 900 ∧ 0 ≤ (σ'.1 a 14).toInt ∧ (σ'.1 a 14).toInt ≤ 4 ∧ (σ'.1 a 14).toInt ≤ 4 * ((σ'.1 a 16).toInt - (σ'.1 a 15).toInt) ∧ (σ'.1 a 14).toInt ≤ 4 * ((σ'.1 a 9).toInt - (σ'.1 a 15).toInt) ∧ 0 ≤ (σ'.1 a 12).toInt ∧ (σ'.1 a 9).toInt = (σ.1 a 9).toInt ∧ (σ.1 a 15).toInt ≤ (σ'.1 a 15).toInt ∧ (σ.1 a 12).toInt ≤ (σ'.1 a 12).toInt) ∧ ((σ.1 a 16).toInt ≤ (σ'.1 a 15).toInt + 1000 * (σ'.1 a 12).toInt ∧ 0 ≤ r.toInt ∧ r.toInt ≤ v2.toInt ∧ v1.toInt ≤ r.toInt + 10 * (σ'.1 a 12).toInt) ∧ (r, σ') = F_X12_count X σ a v1 v2 ∧ q_ow [(12, 12), (12, 13), (12, 14), (12, 15), (12, 16), (12, 17), (12, 18)] [(12, 19)] X σ σ')) ([.ref a, .int v1, .int v2] : List Value).toArray s 0 0 (q_reg X)) (F0 m 19 ls []) := by
    clear hF
    intro σ_2 H locs ls j19σ_2 ks_σ_2 fr_σ_2 hF hI hl
    try clear fr_σ
    unfold F_X12_count_J19_1 at hF
    refine lv_aload_n hx hb dX12_count_19 rfl (lv_at hl 0 rfl) ?_
    refine gs_X12_187_12 E hI ha dX12_count_20 ?_
    refine lv_topi (fun f_3 ef_3 => ?_)
    replace hF := q_letX hF ef_3
    have if_3 : f_3.toInt = (σ_2.1 a 12).toInt := congrArg Int32.toInt ef_3
    refine q_if_ne (A := f_3.toInt) E rfl (tgt := 50) dX12_count_23 (by decide) (fun c_4 => ?_) (fun c_4 => ?_)
    · skip
      replace hF := q_ifn hF c_4
      refine lv_aload_n hx hb dX12_count_50 rfl (lv_at hl 0 rfl) ?_
      refine gs_X12_187_12 E hI ha dX12_count_51 ?_
      refine lv_topi (fun f_5 ef_5 => ?_)
      replace hF := q_letX hF ef_5
      have if_5 : f_5.toInt = (σ_2.1 a 12).toInt := congrArg Int32.toInt ef_5
      refine q_if_le (A := f_5.toInt) E rfl (tgt := 59) dX12_count_54 (by decide) (fun c_6 => ?_) (fun c_6 => ?_)
      · skip
        replace hF := q_ifn hF (Int.not_lt.mpr c_6)
        refine lv_aload_n hx hb dX12_count_59 rfl (lv_at hl 0 rfl) ?_
        refine gs_X12_129_12 E hI ha dX12_count_60 ?_
        refine lv_topi (fun f_7 ef_7 => ?_)
        replace hF := q_letX hF ef_7
        have if_7 : f_7.toInt = (σ_2.1 a 17).toInt := congrArg Int32.toInt ef_7
        refine lv_istore_n (lv' := [(3, .int f_7), (0, .ref a), (1, .int v1), (2, .int v2)]) hx hb dX12_count_63 rfl hl (by decide) rfl (fun ls hl => ?_)
        refine lv_aload_n hx hb dX12_count_64 rfl (lv_at hl 1 rfl) ?_
        refine q_cv (q_runV (As := []) (rest := []) E (hml.trans hl.1.symm) hI (c_X12_next l X σ_2 a ha (by first | (clear hv if_1 if_3 c_4 if_5 c_6 if_7; omega) | omega) (by first | (clear hs hv if_1 if_3 c_4 if_5 c_6 if_7; omega) | omega) (by first | (clear hv if_1 if_3 c_4 if_5 c_6 if_7; omega) | omega)) kv_X12_197 ha ⟨rfl, by decide⟩ (show vwCl[11]? = some (RX12, TX12, 46) from rfl) rfl ⟨Nat.le_of_ble_eq_true rfl, Nat.le_of_ble_eq_true rfl⟩ ⟨Nat.le_refl _, Nat.le_refl _⟩ rfl (Nat.le_of_ble_eq_true rfl) dX12_count_65) hI (by decide) (fun σ_9 H locs hpσ_9 hkσ_9 hI => ?_)
        obtain ⟨ahpσ_9, bhpσ_9, chpσ_9, dhpσ_9, ehpσ_9⟩ := hpσ_9
        have fr_σ_9 := fr_σ_2.call ehpσ_9 rfl rfl
        replace hF := q_letX hF dhpσ_9
        have ks_σ_9 : q_KS (fun b g => b = a ∧ 12 ≤ g ∧ g ≤ 18) 9 X σ σ_9 := ks_σ_2.KS ahpσ_9 (by decide) (fun _ _ h => h)
        refine lv_iload_n hx hb dX12_count_68 rfl (lv_at hl 0 rfl) ?_
        exact q_reti E hr hlk hI ⟨ks_σ_9, (by first | (clear hv c_4 if_7 ahpσ_9 dhpσ_9 ehpσ_9; omega) | omega), (by first | (clear hs hv if_1 if_7 ahpσ_9 bhpσ_9 dhpσ_9 ehpσ_9; omega) | omega), (hF.trans hout), fr_σ_9⟩ dX12_count_69
      · skip
        replace hF := q_ifp hF c_6
        refine lv_iconst (v := 0) hx hb dX12_count_57 (by decide) ?_
        have hrv : (0 : Int32).toInt = 0 := rfl
        exact q_reti E hr hlk hI ⟨ks_σ_2, (by first | (clear hv c_4 hrv; omega) | omega), (by first | (clear if_1 c_4; omega) | omega), (hF.trans hout), fr_σ_2⟩ dX12_count_58
    · skip
      replace hF := q_ifp hF c_4
      refine lv_aload_n hx hb dX12_count_26 rfl (lv_at hl 0 rfl) ?_
      refine gs_X12_129_12 E hI ha dX12_count_27 ?_
      refine lv_topi (fun f_10 ef_10 => ?_)
      replace hF := q_letX hF ef_10
      have if_10 : f_10.toInt = (σ_2.1 a 17).toInt := congrArg Int32.toInt ef_10
      refine lv_i2l hx hb dX12_count_30 rfl ?_
      refine lv_topl (fun y_11 ey_11 => ?_)
      replace hF := q_letX hF ey_11
      have ggy_11 := q_rng f_10
      have iy_11 : y_11.toInt = f_10.toInt := by rw [ey_11]; exact (q_i2l _).trans rfl
      refine lv_iload_n hx hb dX12_count_31 rfl (lv_at hl 1 rfl) ?_
      refine lv_i2l hx hb dX12_count_32 rfl ?_
      refine lv_topl (fun y_12 ey_12 => ?_)
      replace hF := q_letX hF ey_12
      have ggy_12 := q_rng v1
      have iy_12 : y_12.toInt = v1.toInt := by rw [ey_12]; exact (q_i2l _).trans rfl
      refine lv_iload_n hx hb dX12_count_33 rfl (lv_at hl 2 rfl) ?_
      refine lv_i2l hx hb dX12_count_34 rfl ?_
      refine lv_topl (fun y_13 ey_13 => ?_)
      replace hF := q_letX hF ey_13
      have ggy_13 := q_rng v2
      have iy_13 : y_13.toInt = v2.toInt := by rw [ey_13]; exact (q_i2l _).trans rfl
      refine q_ci (q_runS (As := [.long y_11, .long y_12, .long y_13]) (rest := []) E (hml.trans hl.1.symm) hI (c_X12_isIn l X σ_2 y_11 y_12 y_13) ks_X12_94 rfl ⟨Nat.le_of_ble_eq_true rfl, Nat.le_of_ble_eq_true rfl⟩ ⟨Nat.le_refl _, Nat.le_refl _⟩ rfl (Nat.le_of_ble_eq_true rfl) dX12_count_35) hI (by decide) (fun r_14 σ_15 H locs hpσ_15 hkσ_15 hI => ?_)
      obtain ⟨ahpσ_15, bhpσ_15, chpσ_15, dhpσ_15⟩ := hpσ_15
      rw [ahpσ_15] at hI
      replace hF := q_letX hF dhpσ_15
      refine q_if_ne (A := r_14.toInt) E rfl (tgt := 50) dX12_count_38 (by decide) (fun c_16 => ?_) (fun c_16 => ?_)
      · skip
        replace hF := q_ifn hF c_16
        replace c_16 := q_ifOne bhpσ_15 c_16
        replace chpσ_15 := q_ifYes chpσ_15 c_16
        refine lv_aload_n hx hb dX12_count_50 rfl (lv_at hl 0 rfl) ?_
        refine gs_X12_187_12 E hI ha dX12_count_51 ?_
        refine lv_topi (fun f_17 ef_17 => ?_)
        replace hF := q_letX hF ef_17
        have if_17 : f_17.toInt = (σ_2.1 a 12).toInt := congrArg Int32.toInt ef_17
        refine q_if_le (A := f_17.toInt) E rfl (tgt := 59) dX12_count_54 (by decide) (fun c_18 => ?_) (fun c_18 => ?_)
        · skip
          replace hF := q_ifn hF (Int.not_lt.mpr c_18)
          refine lv_aload_n hx hb dX12_count_59 rfl (lv_at hl 0 rfl) ?_
          refine gs_X12_129_12 E hI ha dX12_count_60 ?_
          refine lv_topi (fun f_19 ef_19 => ?_)
          replace hF := q_letX hF ef_19
          have if_19 : f_19.toInt = (σ_2.1 a 17).toInt := congrArg Int32.toInt ef_19
          refine lv_istore_n (lv' := [(3, .int f_19), (0, .ref a), (1, .int v1), (2, .int v2)]) hx hb dX12_count_63 rfl hl (by decide) rfl (fun ls hl => ?_)
          refine lv_aload_n hx hb dX12_count_64 rfl (lv_at hl 1 rfl) ?_
          refine q_cv (q_runV (As := []) (rest := []) E (hml.trans hl.1.symm) hI (c_X12_next l X σ_2 a ha (by first | (clear hv if_1 if_3 c_4 if_10 ggy_11 iy_11 ggy_12 iy_12 ggy_13 iy_13 ahpσ_15 bhpσ_15 dhpσ_15 c_16 chpσ_15 if_17 c_18 if_19; omega) | omega) (by first | (clear hs hv if_1 if_3 c_4 if_10 ggy_11 iy_11 ggy_12 iy_12 ggy_13 iy_13 ahpσ_15 bhpσ_15 dhpσ_15 c_16 chpσ_15 if_17 c_18 if_19; omega) | omega) (by first | (clear hv if_1 if_3 c_4 if_10 ggy_11 iy_11 ggy_12 iy_12 ggy_13 iy_13 ahpσ_15 bhpσ_15 dhpσ_15 c_16 chpσ_15 if_17 c_18 if_19; omega) | omega)) kv_X12_197 ha ⟨rfl, by decide⟩ (show vwCl[11]? = some (RX12, TX12, 46) from rfl) rfl ⟨Nat.le_of_ble_eq_true rfl, Nat.le_of_ble_eq_true rfl⟩ ⟨Nat.le_refl _, Nat.le_refl _⟩ rfl (Nat.le_of_ble_eq_true rfl) dX12_count_65) hI (by decide) (fun σ_21 H locs hpσ_21 hkσ_21 hI => ?_)
          obtain ⟨ahpσ_21, bhpσ_21, chpσ_21, dhpσ_21, ehpσ_21⟩ := hpσ_21
          have fr_σ_21 := fr_σ_2.call ehpσ_21 rfl rfl
          replace hF := q_letX hF dhpσ_21
          have ks_σ_21 : q_KS (fun b g => b = a ∧ 12 ≤ g ∧ g ≤ 18) 9 X σ σ_21 := ks_σ_2.KS ahpσ_21 (by decide) (fun _ _ h => h)
          refine lv_iload_n hx hb dX12_count_68 rfl (lv_at hl 0 rfl) ?_
          exact q_reti E hr hlk hI ⟨ks_σ_21, (by first | (clear hv if_10 ggy_11 iy_11 ggy_12 iy_12 ggy_13 iy_13 ahpσ_15 bhpσ_15 dhpσ_15 c_16 chpσ_15 if_17 c_18 if_19 ahpσ_21 dhpσ_21 ehpσ_21; omega) | omega), (by first | (clear hs if_1 ggy_12 ggy_13 ahpσ_15 bhpσ_15 dhpσ_15 c_16 if_17 c_18 ahpσ_21 bhpσ_21 dhpσ_21 ehpσ_21; omega) | omega), (hF.trans hout), fr_σ_21⟩ dX12_count_69
        · skip
          replace hF := q_ifp hF c_18
          refine lv_iconst (v := 0) hx hb dX12_count_57 (by decide) ?_
          have hrv : (0 : Int32).toInt = 0 := rfl
          exact q_reti E hr hlk hI ⟨ks_σ_2, (by first | (clear hs hv if_1 j19σ_2 if_10 ggy_11 iy_11 ggy_12 iy_12 ggy_13 iy_13 ahpσ_15 bhpσ_15 dhpσ_15 c_16 chpσ_15 hrv; omega) | omega), (by first | (clear hs hv if_1 j19σ_2 if_10 ggy_11 iy_11 ggy_12 iy_12 ggy_13 iy_13 ahpσ_15 bhpσ_15 dhpσ_15 c_16 chpσ_15 hrv; omega) | omega), (hF.trans hout), fr_σ_2⟩ dX12_count_58
      · skip
        replace hF := q_ifp hF c_16
        replace chpσ_15 := q_ifNo chpσ_15 c_16
        refine lv_aload_n hx hb dX12_count_41 rfl (lv_at hl 0 rfl) ?_
        refine lv_iconst (v := 4) hx hb dX12_count_42 (by decide) ?_
        refine lv_aload_n hx hb dX12_count_43 rfl (lv_at hl 0 rfl) ?_
        refine gs_X12_104_12 E hI ha dX12_count_44 ?_
        refine lv_topi (fun f_22 ef_22 => ?_)
        replace hF := q_letX hF ef_22
        have if_22 : f_22.toInt = (σ_2.1 a 15).toInt := congrArg Int32.toInt ef_22
        have kc_23 : (4 : Int32).toInt = 4 := rfl
        refine q_cv (q_runV (As := [.int 4, .int f_22]) (rest := []) E (hml.trans hl.1.symm) hI (c_X12_fail l X σ_2 a (4 : Int32) f_22 ha (by first | (clear hs hv if_1 j19σ_2 if_10 ggy_11 iy_11 ggy_12 iy_12 ggy_13 iy_13 ahpσ_15 bhpσ_15 dhpσ_15 c_16 chpσ_15 if_22 kc_23; omega) | omega) (by first | (clear hs hv if_1 j19σ_2 if_3 c_4 if_10 ggy_11 iy_11 ggy_12 iy_12 ggy_13 iy_13 ahpσ_15 bhpσ_15 dhpσ_15 c_16 chpσ_15 if_22; omega) | omega)) kv_X12_193 ha ⟨rfl, by decide⟩ (show vwCl[11]? = some (RX12, TX12, 46) from rfl) rfl ⟨Nat.le_of_ble_eq_true rfl, Nat.le_of_ble_eq_true rfl⟩ ⟨Nat.le_refl _, Nat.le_refl _⟩ rfl (Nat.le_of_ble_eq_true rfl) dX12_count_47) hI (by decide) (fun σ_25 H locs hpσ_25 hkσ_25 hI => ?_)
        obtain ⟨ahpσ_25, bhpσ_25, chpσ_25, dhpσ_25, ehpσ_25⟩ := hpσ_25
        have fr_σ_25 := fr_σ_2.call ehpσ_25 rfl rfl
        replace hF := q_letX hF dhpσ_25
        have ks_σ_25 : q_KS (fun b g => b = a ∧ 12 ≤ g ∧ g ≤ 18) 9 X σ σ_25 := ks_σ_2.KS ahpσ_25 (by decide) (fun _ _ h => h)
        refine lv_aload_n hx hb dX12_count_50 rfl (lv_at hl 0 rfl) ?_
        refine gs_X12_187_12 E hI ha dX12_count_51 ?_
        refine lv_topi (fun f_26 ef_26 => ?_)
        replace hF := q_letX hF ef_26
        have if_26 : f_26.toInt = (σ_25.1 a 12).toInt := congrArg Int32.toInt ef_26
        refine q_if_le (A := f_26.toInt) E rfl (tgt := 59) dX12_count_54 (by decide) (fun c_27 => ?_) (fun c_27 => ?_)
        · skip
          replace hF := q_ifn hF (Int.not_lt.mpr c_27)
          refine lv_aload_n hx hb dX12_count_59 rfl (lv_at hl 0 rfl) ?_
          refine gs_X12_129_12 E hI ha dX12_count_60 ?_
          refine lv_topi (fun f_28 ef_28 => ?_)
          replace hF := q_letX hF ef_28
          have if_28 : f_28.toInt = (σ_25.1 a 17).toInt := congrArg Int32.toInt ef_28
          refine lv_istore_n (lv' := [(3, .int f_28), (0, .ref a), (1, .int v1), (2, .int v2)]) hx hb dX12_count_63 rfl hl (by decide) rfl (fun ls hl => ?_)
          refine lv_aload_n hx hb dX12_count_64 rfl (lv_at hl 1 rfl) ?_
          refine q_cv (q_runV (As := []) (rest := []) E (hml.trans hl.1.symm) hI (c_X12_next l X σ_25 a ha (by first | (clear hs hv if_1 j19σ_2 if_3 c_4 if_10 ggy_11 iy_11 ggy_12 iy_12 ggy_13 iy_13 ahpσ_15 bhpσ_15 dhpσ_15 c_16 chpσ_15 if_22 kc_23 ahpσ_25 bhpσ_25 dhpσ_25 ehpσ_25 if_28; omega) | omega) (by first | (clear hs hv if_1 j19σ_2 if_3 c_4 if_10 ggy_11 iy_11 ggy_12 iy_12 ggy_13 iy_13 ahpσ_15 bhpσ_15 dhpσ_15 c_16 chpσ_15 if_22 kc_23 ahpσ_25 bhpσ_25 dhpσ_25 ehpσ_25 if_28; omega) | omega) (by first | (clear hs hv if_1 j19σ_2 if_3 c_4 if_10 ggy_11 iy_11 ggy_12 iy_12 ggy_13 iy_13 ahpσ_15 bhpσ_15 dhpσ_15 c_16 chpσ_15 if_22 kc_23 ahpσ_25 bhpσ_25 dhpσ_25 ehpσ_25 if_28; omega) | omega)) kv_X12_197 ha ⟨rfl, by decide⟩ (show vwCl[11]? = some (RX12, TX12, 46) from rfl) rfl ⟨Nat.le_of_ble_eq_true rfl, Nat.le_of_ble_eq_true rfl⟩ ⟨Nat.le_refl _, Nat.le_refl _⟩ rfl (Nat.le_of_ble_eq_true rfl) dX12_count_65) hI (by decide) (fun σ_30 H locs hpσ_30 hkσ_30 hI => ?_)
          obtain ⟨ahpσ_30, bhpσ_30, chpσ_30, dhpσ_30, ehpσ_30⟩ := hpσ_30
          have fr_σ_30 := fr_σ_25.call ehpσ_30 rfl rfl
          replace hF := q_letX hF dhpσ_30
          have ks_σ_30 : q_KS (fun b g => b = a ∧ 12 ≤ g ∧ g ≤ 18) 9 X σ σ_30 := ks_σ_25.KS ahpσ_30 (by decide) (fun _ _ h => h)
          refine lv_iload_n hx hb dX12_count_68 rfl (lv_at hl 0 rfl) ?_
          exact q_reti E hr hlk hI ⟨ks_σ_30, (by first | (clear hs hv if_1 j19σ_2 if_3 c_4 if_10 ggy_11 iy_11 ggy_12 iy_12 ggy_13 iy_13 ahpσ_15 bhpσ_15 dhpσ_15 c_16 chpσ_15 if_22 kc_23 ahpσ_25 bhpσ_25 dhpσ_25 ehpσ_25 if_28 ahpσ_30 bhpσ_30 chpσ_30 dhpσ_30 ehpσ_30; omega) | omega), (by first | (clear hs hv if_1 j19σ_2 if_3 c_4 if_10 ggy_11 iy_11 ggy_12 iy_12 ggy_13 iy_13 ahpσ_15 bhpσ_15 dhpσ_15 c_16 chpσ_15 if_22 kc_23 ahpσ_25 bhpσ_25 dhpσ_25 ehpσ_25 if_28 ahpσ_30 bhpσ_30 chpσ_30 dhpσ_30 ehpσ_30; omega) | omega), (hF.trans hout), fr_σ_30⟩ dX12_count_69
        · skip
          replace hF := q_ifp hF c_27
          refine lv_iconst (v := 0) hx hb dX12_count_57 (by decide) ?_
          have hrv : (0 : Int32).toInt = 0 := rfl
          exact q_reti E hr hlk hI ⟨ks_σ_25, (by first | (clear hv if_10 ggy_11 iy_11 ggy_12 iy_12 ggy_13 iy_13 ahpσ_15 bhpσ_15 dhpσ_15 c_16 chpσ_15 kc_23 ahpσ_25 dhpσ_25 ehpσ_25 c_27 hrv; omega) | omega), (by first | (clear if_1 if_3 c_4 if_10 ggy_11 iy_11 ggy_12 ahpσ_15 bhpσ_15 dhpσ_15 c_16 chpσ_15 kc_23 ahpσ_25 dhpσ_25 ehpσ_25 c_27; omega) | omega), (hF.trans hout), fr_σ_25⟩ dX12_count_58
  refine q_if_ne (A := f_1.toInt) E rfl (tgt := 19) dX12_count_4 (by decide) (fun c_31 => ?_) (fun c_31 => ?_)
  · skip
    replace hF := q_ifn hF c_31
    exact J_19_2 σ _ _ ls (by first | (clear hv c_31; omega) | omega) ks_σ fr_σ hF hI (lv_sub hl [0, 1, 2] rfl)
  · skip
    replace hF := q_ifp hF c_31
    refine lv_aload_n hx hb dX12_count_7 rfl (lv_at hl 0 rfl) ?_
    refine gs_X12_110_12 E hI ha dX12_count_8 ?_
    refine lv_topi (fun f_32 ef_32 => ?_)
    replace hF := q_letX hF ef_32
    have if_32 : f_32.toInt = (σ.1 a 14).toInt := congrArg Int32.toInt ef_32
    refine lv_iconst (v := 2) hx hb dX12_count_11 (by decide) ?_
    refine q_icmp_eq (A := f_32.toInt) (B := 2) E rfl (by decide) (tgt := 19) dX12_count_12 (by decide) (fun c_33 => ?_) (fun c_33 => ?_)
    · skip
      replace hF := q_ifp hF c_33
      exact J_19_2 σ _ _ ls (by first | (clear hv; omega) | omega) ks_σ fr_σ hF hI (lv_sub hl [0, 1, 2] rfl)
    · skip
      replace hF := q_ifn hF c_33
      refine lv_aload_n hx hb dX12_count_15 rfl (lv_at hl 0 rfl) ?_
      refine q_cv (q_runV (As := []) (rest := []) E (hml.trans hl.1.symm) hI (c_X12_wrong l X σ a ha (by first | (clear hs hv if_32 c_33; omega) | omega)) kv_X12_200 ha ⟨rfl, by decide⟩ (show vwCl[11]? = some (RX12, TX12, 46) from rfl) rfl ⟨Nat.le_of_ble_eq_true rfl, Nat.le_of_ble_eq_true rfl⟩ ⟨Nat.le_refl _, Nat.le_refl _⟩ rfl (Nat.le_of_ble_eq_true rfl) dX12_count_16) hI (by decide) (fun σ_35 H locs hpσ_35 hkσ_35 hI => ?_)
      obtain ⟨ahpσ_35, bhpσ_35, chpσ_35, dhpσ_35, ehpσ_35⟩ := hpσ_35
      have fr_σ_35 := fr_σ.call ehpσ_35 rfl rfl
      replace hF := q_letX hF dhpσ_35
      have ks_σ_35 : q_KS (fun b g => b = a ∧ 12 ≤ g ∧ g ≤ 18) 9 X σ σ_35 := ks_σ.KS ahpσ_35 (by decide) (fun _ _ h => h)
      exact J_19_2 σ_35 _ _ ls (by first | (clear hv c_33 ahpσ_35 dhpσ_35 ehpσ_35; omega) | omega) ks_σ_35 fr_σ_35 hF hI (lv_sub hl [0, 1, 2] rfl)

set_option maxRecDepth 100000 in
set_option maxHeartbeats 4000000 in
theorem c_X12_spelled (l : Launch) (X : XW) (σ : ST) (v0 : Int32) (v1 : Int32) (v2 : Int32) (v3 : Int32) (v4 : Int32) (v5 : Int32) : Met l yX12_spelled (q_ws yX12_spelled cX12_spelled 8 (some .long)) (q_rm 0 0) (q_P X σ [.int v0, .int v1, .int v2, .int v3, .int v4, .int v5]) (q_Ql X 9 σ (fun (r : Int64) (σ' : ST) => σ' = σ ∧ r = F_X12_spelled X σ v0 v1 v2 v3 v4 v5)) 0 0 (q_reg X) := by
  refine q_met 9 (by first | exact rfl | decide +kernel) rfl (Nat.le_of_ble_eq_true rfl) (fun p e s m below meth c E hml hr hlk hI ls hl => ?_)
  have hx := E.1
  have hb := E.2.1
  have hl : lv_has ls 8 [(0, .int v0), (1, .int v1), (2, .int v2), (3, .int v3), (4, .int v4), (5, .int v5)] := hl
  obtain ⟨out, hout⟩ : ∃ o, o = F_X12_spelled X σ v0 v1 v2 v3 v4 v5 := ⟨_, rfl⟩
  have hF := hout.symm
  unfold F_X12_spelled at hF
  refine lv_iload_n hx hb dX12_spelled_0 rfl (lv_at hl 0 rfl) ?_
  refine lv_i2l hx hb dX12_spelled_1 rfl ?_
  refine lv_topl (fun y_1 ey_1 => ?_)
  replace hF := q_letX hF ey_1
  refine lv_ldc2 (v := 96) hx hb E.2.2.1 (E.2.2.2.1 _ (q_in_t7 (i := 200) (by first | rfl | decide +kernel) rfl)) dX12_spelled_2 ?_
  refine lv_lsub hx hb dX12_spelled_5 ?_
  refine lv_topl (fun y_2 ey_2 => ?_)
  replace hF := q_letX hF ey_2
  refine lv_ldc2 (v := 32) hx hb E.2.2.1 (E.2.2.2.1 _ (q_in_t7 (i := 199) (by first | rfl | decide +kernel) rfl)) dX12_spelled_6 ?_
  refine lv_lmul hx hb dX12_spelled_9 ?_
  refine lv_topl (fun y_3 ey_3 => ?_)
  replace hF := q_letX hF ey_3
  refine lv_iload_n hx hb dX12_spelled_10 rfl (lv_at hl 1 rfl) ?_
  refine lv_i2l hx hb dX12_spelled_11 rfl ?_
  refine lv_topl (fun y_4 ey_4 => ?_)
  replace hF := q_letX hF ey_4
  refine lv_ladd hx hb dX12_spelled_12 ?_
  refine lv_topl (fun y_5 ey_5 => ?_)
  replace hF := q_letX hF ey_5
  refine lv_ldc2 (v := 96) hx hb E.2.2.1 (E.2.2.2.1 _ (q_in_t7 (i := 200) (by first | rfl | decide +kernel) rfl)) dX12_spelled_13 ?_
  refine lv_lsub hx hb dX12_spelled_16 ?_
  refine lv_topl (fun y_6 ey_6 => ?_)
  replace hF := q_letX hF ey_6
  refine lv_lstore (lv' := [(6, .long y_6), (0, .int v0), (1, .int v1), (2, .int v2), (3, .int v3), (4, .int v4), (5, .int v5)]) hx hb dX12_spelled_17 hl (by decide) rfl (fun ls hl => ?_)
  refine lv_iload_n hx hb dX12_spelled_19 rfl (lv_at hl 3 rfl) ?_
  refine q_if_le (A := v2.toInt) E rfl (tgt := 39) dX12_spelled_20 (by decide) (fun c_7 => ?_) (fun c_7 => ?_)
  · skip
    replace hF := q_ifn hF (Int.not_lt.mpr c_7)
    refine lv_lload hx hb dX12_spelled_39 (lv_at hl 0 rfl) ?_
    refine lv_lstore (lv' := [(6, .long y_6), (0, .int v0), (1, .int v1), (2, .int v2), (3, .int v3), (4, .int v4), (5, .int v5)]) hx hb dX12_spelled_41 hl (by decide) rfl (fun ls hl => ?_)
    refine lv_iload_n hx hb dX12_spelled_43 rfl (lv_at hl 4 rfl) ?_
    refine q_if_le (A := v3.toInt) E rfl (tgt := 63) dX12_spelled_44 (by decide) (fun c_8 => ?_) (fun c_8 => ?_)
    · skip
      replace hF := q_ifn hF (Int.not_lt.mpr c_8)
      refine lv_lload hx hb dX12_spelled_63 (lv_at hl 0 rfl) ?_
      refine lv_lstore (lv' := [(6, .long y_6), (0, .int v0), (1, .int v1), (2, .int v2), (3, .int v3), (4, .int v4), (5, .int v5)]) hx hb dX12_spelled_65 hl (by decide) rfl (fun ls hl => ?_)
      refine lv_iload hx hb dX12_spelled_67 (lv_at hl 5 rfl) ?_
      refine q_if_le (A := v4.toInt) E rfl (tgt := 89) dX12_spelled_69 (by decide) (fun c_9 => ?_) (fun c_9 => ?_)
      · skip
        replace hF := q_ifn hF (Int.not_lt.mpr c_9)
        refine lv_lload hx hb dX12_spelled_89 (lv_at hl 0 rfl) ?_
        refine lv_lstore (lv' := [(6, .long y_6), (0, .int v0), (1, .int v1), (2, .int v2), (3, .int v3), (4, .int v4), (5, .int v5)]) hx hb dX12_spelled_91 hl (by decide) rfl (fun ls hl => ?_)
        refine lv_iload hx hb dX12_spelled_93 (lv_at hl 6 rfl) ?_
        refine q_if_le (A := v5.toInt) E rfl (tgt := 115) dX12_spelled_95 (by decide) (fun c_10 => ?_) (fun c_10 => ?_)
        · skip
          replace hF := q_ifn hF (Int.not_lt.mpr c_10)
          refine lv_lload hx hb dX12_spelled_115 (lv_at hl 0 rfl) ?_
          exact q_retl E hr hlk hI ⟨rfl, (hF.trans hout)⟩ dX12_spelled_117
        · skip
          replace hF := q_ifp hF c_10
          refine lv_lload hx hb dX12_spelled_98 (lv_at hl 0 rfl) ?_
          refine lv_ldc2 (v := 32) hx hb E.2.2.1 (E.2.2.2.1 _ (q_in_t7 (i := 199) (by first | rfl | decide +kernel) rfl)) dX12_spelled_100 ?_
          refine lv_lmul hx hb dX12_spelled_103 ?_
          refine lv_topl (fun y_11 ey_11 => ?_)
          replace hF := q_letX hF ey_11
          refine lv_iload hx hb dX12_spelled_104 (lv_at hl 6 rfl) ?_
          refine lv_i2l hx hb dX12_spelled_106 rfl ?_
          refine lv_topl (fun y_12 ey_12 => ?_)
          replace hF := q_letX hF ey_12
          refine lv_ladd hx hb dX12_spelled_107 ?_
          refine lv_topl (fun y_13 ey_13 => ?_)
          replace hF := q_letX hF ey_13
          refine lv_ldc2 (v := 96) hx hb E.2.2.1 (E.2.2.2.1 _ (q_in_t7 (i := 200) (by first | rfl | decide +kernel) rfl)) dX12_spelled_108 ?_
          refine lv_lsub hx hb dX12_spelled_111 ?_
          refine lv_topl (fun y_14 ey_14 => ?_)
          replace hF := q_letX hF ey_14
          refine lv_goto (tgt := 117) hx hb dX12_spelled_112 (by decide) ?_
          exact q_retl E hr hlk hI ⟨rfl, (hF.trans hout)⟩ dX12_spelled_117
      · skip
        replace hF := q_ifp hF c_9
        refine lv_lload hx hb dX12_spelled_72 (lv_at hl 0 rfl) ?_
        refine lv_ldc2 (v := 32) hx hb E.2.2.1 (E.2.2.2.1 _ (q_in_t7 (i := 199) (by first | rfl | decide +kernel) rfl)) dX12_spelled_74 ?_
        refine lv_lmul hx hb dX12_spelled_77 ?_
        refine lv_topl (fun y_15 ey_15 => ?_)
        replace hF := q_letX hF ey_15
        refine lv_iload hx hb dX12_spelled_78 (lv_at hl 5 rfl) ?_
        refine lv_i2l hx hb dX12_spelled_80 rfl ?_
        refine lv_topl (fun y_16 ey_16 => ?_)
        replace hF := q_letX hF ey_16
        refine lv_ladd hx hb dX12_spelled_81 ?_
        refine lv_topl (fun y_17 ey_17 => ?_)
        replace hF := q_letX hF ey_17
        refine lv_ldc2 (v := 96) hx hb E.2.2.1 (E.2.2.2.1 _ (q_in_t7 (i := 200) (by first | rfl | decide +kernel) rfl)) dX12_spelled_82 ?_
        refine lv_lsub hx hb dX12_spelled_85 ?_
        refine lv_topl (fun y_18 ey_18 => ?_)
        replace hF := q_letX hF ey_18
        refine lv_goto (tgt := 91) hx hb dX12_spelled_86 (by decide) ?_
        refine lv_lstore (lv' := [(6, .long y_18), (0, .int v0), (1, .int v1), (2, .int v2), (3, .int v3), (4, .int v4), (5, .int v5)]) hx hb dX12_spelled_91 hl (by decide) rfl (fun ls hl => ?_)
        refine lv_iload hx hb dX12_spelled_93 (lv_at hl 6 rfl) ?_
        refine q_if_le (A := v5.toInt) E rfl (tgt := 115) dX12_spelled_95 (by decide) (fun c_19 => ?_) (fun c_19 => ?_)
        · skip
          replace hF := q_ifn hF (Int.not_lt.mpr c_19)
          refine lv_lload hx hb dX12_spelled_115 (lv_at hl 0 rfl) ?_
          exact q_retl E hr hlk hI ⟨rfl, (hF.trans hout)⟩ dX12_spelled_117
        · skip
          replace hF := q_ifp hF c_19
          refine lv_lload hx hb dX12_spelled_98 (lv_at hl 0 rfl) ?_
          refine lv_ldc2 (v := 32) hx hb E.2.2.1 (E.2.2.2.1 _ (q_in_t7 (i := 199) (by first | rfl | decide +kernel) rfl)) dX12_spelled_100 ?_
          refine lv_lmul hx hb dX12_spelled_103 ?_
          refine lv_topl (fun y_20 ey_20 => ?_)
          replace hF := q_letX hF ey_20
          refine lv_iload hx hb dX12_spelled_104 (lv_at hl 6 rfl) ?_
          refine lv_i2l hx hb dX12_spelled_106 rfl ?_
          refine lv_topl (fun y_21 ey_21 => ?_)
          replace hF := q_letX hF ey_21
          refine lv_ladd hx hb dX12_spelled_107 ?_
          refine lv_topl (fun y_22 ey_22 => ?_)
          replace hF := q_letX hF ey_22
          refine lv_ldc2 (v := 96) hx hb E.2.2.1 (E.2.2.2.1 _ (q_in_t7 (i := 200) (by first | rfl | decide +kernel) rfl)) dX12_spelled_108 ?_
          refine lv_lsub hx hb dX12_spelled_111 ?_
          refine lv_topl (fun y_23 ey_23 => ?_)
          replace hF := q_letX hF ey_23
          refine lv_goto (tgt := 117) hx hb dX12_spelled_112 (by decide) ?_
          exact q_retl E hr hlk hI ⟨rfl, (hF.trans hout)⟩ dX12_spelled_117
    · skip
      replace hF := q_ifp hF c_8
      refine lv_lload hx hb dX12_spelled_47 (lv_at hl 0 rfl) ?_
      refine lv_ldc2 (v := 32) hx hb E.2.2.1 (E.2.2.2.1 _ (q_in_t7 (i := 199) (by first | rfl | decide +kernel) rfl)) dX12_spelled_49 ?_
      refine lv_lmul hx hb dX12_spelled_52 ?_
      refine lv_topl (fun y_24 ey_24 => ?_)
      replace hF := q_letX hF ey_24
      refine lv_iload_n hx hb dX12_spelled_53 rfl (lv_at hl 4 rfl) ?_
      refine lv_i2l hx hb dX12_spelled_54 rfl ?_
      refine lv_topl (fun y_25 ey_25 => ?_)
      replace hF := q_letX hF ey_25
      refine lv_ladd hx hb dX12_spelled_55 ?_
      refine lv_topl (fun y_26 ey_26 => ?_)
      replace hF := q_letX hF ey_26
      refine lv_ldc2 (v := 96) hx hb E.2.2.1 (E.2.2.2.1 _ (q_in_t7 (i := 200) (by first | rfl | decide +kernel) rfl)) dX12_spelled_56 ?_
      refine lv_lsub hx hb dX12_spelled_59 ?_
      refine lv_topl (fun y_27 ey_27 => ?_)
      replace hF := q_letX hF ey_27
      refine lv_goto (tgt := 65) hx hb dX12_spelled_60 (by decide) ?_
      refine lv_lstore (lv' := [(6, .long y_27), (0, .int v0), (1, .int v1), (2, .int v2), (3, .int v3), (4, .int v4), (5, .int v5)]) hx hb dX12_spelled_65 hl (by decide) rfl (fun ls hl => ?_)
      refine lv_iload hx hb dX12_spelled_67 (lv_at hl 5 rfl) ?_
      refine q_if_le (A := v4.toInt) E rfl (tgt := 89) dX12_spelled_69 (by decide) (fun c_28 => ?_) (fun c_28 => ?_)
      · skip
        replace hF := q_ifn hF (Int.not_lt.mpr c_28)
        refine lv_lload hx hb dX12_spelled_89 (lv_at hl 0 rfl) ?_
        refine lv_lstore (lv' := [(6, .long y_27), (0, .int v0), (1, .int v1), (2, .int v2), (3, .int v3), (4, .int v4), (5, .int v5)]) hx hb dX12_spelled_91 hl (by decide) rfl (fun ls hl => ?_)
        refine lv_iload hx hb dX12_spelled_93 (lv_at hl 6 rfl) ?_
        refine q_if_le (A := v5.toInt) E rfl (tgt := 115) dX12_spelled_95 (by decide) (fun c_29 => ?_) (fun c_29 => ?_)
        · skip
          replace hF := q_ifn hF (Int.not_lt.mpr c_29)
          refine lv_lload hx hb dX12_spelled_115 (lv_at hl 0 rfl) ?_
          exact q_retl E hr hlk hI ⟨rfl, (hF.trans hout)⟩ dX12_spelled_117
        · skip
          replace hF := q_ifp hF c_29
          refine lv_lload hx hb dX12_spelled_98 (lv_at hl 0 rfl) ?_
          refine lv_ldc2 (v := 32) hx hb E.2.2.1 (E.2.2.2.1 _ (q_in_t7 (i := 199) (by first | rfl | decide +kernel) rfl)) dX12_spelled_100 ?_
          refine lv_lmul hx hb dX12_spelled_103 ?_
          refine lv_topl (fun y_30 ey_30 => ?_)
          replace hF := q_letX hF ey_30
          refine lv_iload hx hb dX12_spelled_104 (lv_at hl 6 rfl) ?_
          refine lv_i2l hx hb dX12_spelled_106 rfl ?_
          refine lv_topl (fun y_31 ey_31 => ?_)
          replace hF := q_letX hF ey_31
          refine lv_ladd hx hb dX12_spelled_107 ?_
          refine lv_topl (fun y_32 ey_32 => ?_)
          replace hF := q_letX hF ey_32
          refine lv_ldc2 (v := 96) hx hb E.2.2.1 (E.2.2.2.1 _ (q_in_t7 (i := 200) (by first | rfl | decide +kernel) rfl)) dX12_spelled_108 ?_
          refine lv_lsub hx hb dX12_spelled_111 ?_
          refine lv_topl (fun y_33 ey_33 => ?_)
          replace hF := q_letX hF ey_33
          refine lv_goto (tgt := 117) hx hb dX12_spelled_112 (by decide) ?_
          exact q_retl E hr hlk hI ⟨rfl, (hF.trans hout)⟩ dX12_spelled_117
      · skip
        replace hF := q_ifp hF c_28
        refine lv_lload hx hb dX12_spelled_72 (lv_at hl 0 rfl) ?_
        refine lv_ldc2 (v := 32) hx hb E.2.2.1 (E.2.2.2.1 _ (q_in_t7 (i := 199) (by first | rfl | decide +kernel) rfl)) dX12_spelled_74 ?_
        refine lv_lmul hx hb dX12_spelled_77 ?_
        refine lv_topl (fun y_34 ey_34 => ?_)
        replace hF := q_letX hF ey_34
        refine lv_iload hx hb dX12_spelled_78 (lv_at hl 5 rfl) ?_
        refine lv_i2l hx hb dX12_spelled_80 rfl ?_
        refine lv_topl (fun y_35 ey_35 => ?_)
        replace hF := q_letX hF ey_35
        refine lv_ladd hx hb dX12_spelled_81 ?_
        refine lv_topl (fun y_36 ey_36 => ?_)
        replace hF := q_letX hF ey_36
        refine lv_ldc2 (v := 96) hx hb E.2.2.1 (E.2.2.2.1 _ (q_in_t7 (i := 200) (by first | rfl | decide +kernel) rfl)) dX12_spelled_82 ?_
        refine lv_lsub hx hb dX12_spelled_85 ?_
        refine lv_topl (fun y_37 ey_37 => ?_)
        replace hF := q_letX hF ey_37
        refine lv_goto (tgt := 91) hx hb dX12_spelled_86 (by decide) ?_
        refine lv_lstore (lv' := [(6, .long y_37), (0, .int v0), (1, .int v1), (2, .int v2), (3, .int v3), (4, .int v4), (5, .int v5)]) hx hb dX12_spelled_91 hl (by decide) rfl (fun ls hl => ?_)
        refine lv_iload hx hb dX12_spelled_93 (lv_at hl 6 rfl) ?_
        refine q_if_le (A := v5.toInt) E rfl (tgt := 115) dX12_spelled_95 (by decide) (fun c_38 => ?_) (fun c_38 => ?_)
        · skip
          replace hF := q_ifn hF (Int.not_lt.mpr c_38)
          refine lv_lload hx hb dX12_spelled_115 (lv_at hl 0 rfl) ?_
          exact q_retl E hr hlk hI ⟨rfl, (hF.trans hout)⟩ dX12_spelled_117
        · skip
          replace hF := q_ifp hF c_38
          refine lv_lload hx hb dX12_spelled_98 (lv_at hl 0 rfl) ?_
          refine lv_ldc2 (v := 32) hx hb E.2.2.1 (E.2.2.2.1 _ (q_in_t7 (i := 199) (by first | rfl | decide +kernel) rfl)) dX12_spelled_100 ?_
          refine lv_lmul hx hb dX12_spelled_103 ?_
          refine lv_topl (fun y_39 ey_39 => ?_)
          replace hF := q_letX hF ey_39
          refine lv_iload hx hb dX12_spelled_104 (lv_at hl 6 rfl) ?_
          refine lv_i2l hx hb dX12_spelled_106 rfl ?_
          refine lv_topl (fun y_40 ey_40 => ?_)
          replace hF := q_letX hF ey_40
          refine lv_ladd hx hb dX12_spelled_107 ?_
          refine lv_topl (fun y_41 ey_41 => ?_)
          replace hF := q_letX hF ey_41
          refine lv_ldc2 (v := 96) hx hb E.2.2.1 (E.2.2.2.1 _ (q_in_t7 (i := 200) (by first | rfl | decide +kernel) rfl)) dX12_spelled_108 ?_
          refine lv_lsub hx hb dX12_spelled_111 ?_
          refine lv_topl (fun y_42 ey_42 => ?_)
          replace hF := q_letX hF ey_42
          refine lv_goto (tgt := 117) hx hb dX12_spelled_112 (by decide) ?_
          exact q_retl E hr hlk hI ⟨rfl, (hF.trans hout)⟩ dX12_spelled_117
  · skip
    replace hF := q_ifp hF c_7
    refine lv_lload hx hb dX12_spelled_23 (lv_at hl 0 rfl) ?_
    refine lv_ldc2 (v := 32) hx hb E.2.2.1 (E.2.2.2.1 _ (q_in_t7 (i := 199) (by first | rfl | decide +kernel) rfl)) dX12_spelled_25 ?_
    refine lv_lmul hx hb dX12_spelled_28 ?_
    refine lv_topl (fun y_43 ey_43 => ?_)
    replace hF := q_letX hF ey_43
    refine lv_iload_n hx hb dX12_spelled_29 rfl (lv_at hl 3 rfl) ?_
    refine lv_i2l hx hb dX12_spelled_30 rfl ?_
    refine lv_topl (fun y_44 ey_44 => ?_)
    replace hF := q_letX hF ey_44
    refine lv_ladd hx hb dX12_spelled_31 ?_
    refine lv_topl (fun y_45 ey_45 => ?_)
    replace hF := q_letX hF ey_45
    refine lv_ldc2 (v := 96) hx hb E.2.2.1 (E.2.2.2.1 _ (q_in_t7 (i := 200) (by first | rfl | decide +kernel) rfl)) dX12_spelled_32 ?_
    refine lv_lsub hx hb dX12_spelled_35 ?_
    refine lv_topl (fun y_46 ey_46 => ?_)
    replace hF := q_letX hF ey_46
    refine lv_goto (tgt := 41) hx hb dX12_spelled_36 (by decide) ?_
    refine lv_lstore (lv' := [(6, .long y_46), (0, .int v0), (1, .int v1), (2, .int v2), (3, .int v3), (4, .int v4), (5, .int v5)]) hx hb dX12_spelled_41 hl (by decide) rfl (fun ls hl => ?_)
    refine lv_iload_n hx hb dX12_spelled_43 rfl (lv_at hl 4 rfl) ?_
    refine q_if_le (A := v3.toInt) E rfl (tgt := 63) dX12_spelled_44 (by decide) (fun c_47 => ?_) (fun c_47 => ?_)
    · skip
      replace hF := q_ifn hF (Int.not_lt.mpr c_47)
      refine lv_lload hx hb dX12_spelled_63 (lv_at hl 0 rfl) ?_
      refine lv_lstore (lv' := [(6, .long y_46), (0, .int v0), (1, .int v1), (2, .int v2), (3, .int v3), (4, .int v4), (5, .int v5)]) hx hb dX12_spelled_65 hl (by decide) rfl (fun ls hl => ?_)
      refine lv_iload hx hb dX12_spelled_67 (lv_at hl 5 rfl) ?_
      refine q_if_le (A := v4.toInt) E rfl (tgt := 89) dX12_spelled_69 (by decide) (fun c_48 => ?_) (fun c_48 => ?_)
      · skip
        replace hF := q_ifn hF (Int.not_lt.mpr c_48)
        refine lv_lload hx hb dX12_spelled_89 (lv_at hl 0 rfl) ?_
        refine lv_lstore (lv' := [(6, .long y_46), (0, .int v0), (1, .int v1), (2, .int v2), (3, .int v3), (4, .int v4), (5, .int v5)]) hx hb dX12_spelled_91 hl (by decide) rfl (fun ls hl => ?_)
        refine lv_iload hx hb dX12_spelled_93 (lv_at hl 6 rfl) ?_
        refine q_if_le (A := v5.toInt) E rfl (tgt := 115) dX12_spelled_95 (by decide) (fun c_49 => ?_) (fun c_49 => ?_)
        · skip
          replace hF := q_ifn hF (Int.not_lt.mpr c_49)
          refine lv_lload hx hb dX12_spelled_115 (lv_at hl 0 rfl) ?_
          exact q_retl E hr hlk hI ⟨rfl, (hF.trans hout)⟩ dX12_spelled_117
        · skip
          replace hF := q_ifp hF c_49
          refine lv_lload hx hb dX12_spelled_98 (lv_at hl 0 rfl) ?_
          refine lv_ldc2 (v := 32) hx hb E.2.2.1 (E.2.2.2.1 _ (q_in_t7 (i := 199) (by first | rfl | decide +kernel) rfl)) dX12_spelled_100 ?_
          refine lv_lmul hx hb dX12_spelled_103 ?_
          refine lv_topl (fun y_50 ey_50 => ?_)
          replace hF := q_letX hF ey_50
          refine lv_iload hx hb dX12_spelled_104 (lv_at hl 6 rfl) ?_
          refine lv_i2l hx hb dX12_spelled_106 rfl ?_
          refine lv_topl (fun y_51 ey_51 => ?_)
          replace hF := q_letX hF ey_51
          refine lv_ladd hx hb dX12_spelled_107 ?_
          refine lv_topl (fun y_52 ey_52 => ?_)
          replace hF := q_letX hF ey_52
          refine lv_ldc2 (v := 96) hx hb E.2.2.1 (E.2.2.2.1 _ (q_in_t7 (i := 200) (by first | rfl | decide +kernel) rfl)) dX12_spelled_108 ?_
          refine lv_lsub hx hb dX12_spelled_111 ?_
          refine lv_topl (fun y_53 ey_53 => ?_)
          replace hF := q_letX hF ey_53
          refine lv_goto (tgt := 117) hx hb dX12_spelled_112 (by decide) ?_
          exact q_retl E hr hlk hI ⟨rfl, (hF.trans hout)⟩ dX12_spelled_117
      · skip
        replace hF := q_ifp hF c_48
        refine lv_lload hx hb dX12_spelled_72 (lv_at hl 0 rfl) ?_
        refine lv_ldc2 (v := 32) hx hb E.2.2.1 (E.2.2.2.1 _ (q_in_t7 (i := 199) (by first | rfl | decide +kernel) rfl)) dX12_spelled_74 ?_
        refine lv_lmul hx hb dX12_spelled_77 ?_
        refine lv_topl (fun y_54 ey_54 => ?_)
        replace hF := q_letX hF ey_54
        refine lv_iload hx hb dX12_spelled_78 (lv_at hl 5 rfl) ?_
        refine lv_i2l hx hb dX12_spelled_80 rfl ?_
        refine lv_topl (fun y_55 ey_55 => ?_)
        replace hF := q_letX hF ey_55
        refine lv_ladd hx hb dX12_spelled_81 ?_
        refine lv_topl (fun y_56 ey_56 => ?_)
        replace hF := q_letX hF ey_56
        refine lv_ldc2 (v := 96) hx hb E.2.2.1 (E.2.2.2.1 _ (q_in_t7 (i := 200) (by first | rfl | decide +kernel) rfl)) dX12_spelled_82 ?_
        refine lv_lsub hx hb dX12_spelled_85 ?_
        refine lv_topl (fun y_57 ey_57 => ?_)
        replace hF := q_letX hF ey_57
        refine lv_goto (tgt := 91) hx hb dX12_spelled_86 (by decide) ?_
        refine lv_lstore (lv' := [(6, .long y_57), (0, .int v0), (1, .int v1), (2, .int v2), (3, .int v3), (4, .int v4), (5, .int v5)]) hx hb dX12_spelled_91 hl (by decide) rfl (fun ls hl => ?_)
        refine lv_iload hx hb dX12_spelled_93 (lv_at hl 6 rfl) ?_
        refine q_if_le (A := v5.toInt) E rfl (tgt := 115) dX12_spelled_95 (by decide) (fun c_58 => ?_) (fun c_58 => ?_)
        · skip
          replace hF := q_ifn hF (Int.not_lt.mpr c_58)
          refine lv_lload hx hb dX12_spelled_115 (lv_at hl 0 rfl) ?_
          exact q_retl E hr hlk hI ⟨rfl, (hF.trans hout)⟩ dX12_spelled_117
        · skip
          replace hF := q_ifp hF c_58
          refine lv_lload hx hb dX12_spelled_98 (lv_at hl 0 rfl) ?_
          refine lv_ldc2 (v := 32) hx hb E.2.2.1 (E.2.2.2.1 _ (q_in_t7 (i := 199) (by first | rfl | decide +kernel) rfl)) dX12_spelled_100 ?_
          refine lv_lmul hx hb dX12_spelled_103 ?_
          refine lv_topl (fun y_59 ey_59 => ?_)
          replace hF := q_letX hF ey_59
          refine lv_iload hx hb dX12_spelled_104 (lv_at hl 6 rfl) ?_
          refine lv_i2l hx hb dX12_spelled_106 rfl ?_
          refine lv_topl (fun y_60 ey_60 => ?_)
          replace hF := q_letX hF ey_60
          refine lv_ladd hx hb dX12_spelled_107 ?_
          refine lv_topl (fun y_61 ey_61 => ?_)
          replace hF := q_letX hF ey_61
          refine lv_ldc2 (v := 96) hx hb E.2.2.1 (E.2.2.2.1 _ (q_in_t7 (i := 200) (by first | rfl | decide +kernel) rfl)) dX12_spelled_108 ?_
          refine lv_lsub hx hb dX12_spelled_111 ?_
          refine lv_topl (fun y_62 ey_62 => ?_)
          replace hF := q_letX hF ey_62
          refine lv_goto (tgt := 117) hx hb dX12_spelled_112 (by decide) ?_
          exact q_retl E hr hlk hI ⟨rfl, (hF.trans hout)⟩ dX12_spelled_117
    · skip
      replace hF := q_ifp hF c_47
      refine lv_lload hx hb dX12_spelled_47 (lv_at hl 0 rfl) ?_
      refine lv_ldc2 (v := 32) hx hb E.2.2.1 (E.2.2.2.1 _ (q_in_t7 (i := 199) (by first | rfl | decide +kernel) rfl)) dX12_spelled_49 ?_
      refine lv_lmul hx hb dX12_spelled_52 ?_
      refine lv_topl (fun y_63 ey_63 => ?_)
      replace hF := q_letX hF ey_63
      refine lv_iload_n hx hb dX12_spelled_53 rfl (lv_at hl 4 rfl) ?_
      refine lv_i2l hx hb dX12_spelled_54 rfl ?_
      refine lv_topl (fun y_64 ey_64 => ?_)
      replace hF := q_letX hF ey_64
      refine lv_ladd hx hb dX12_spelled_55 ?_
      refine lv_topl (fun y_65 ey_65 => ?_)
      replace hF := q_letX hF ey_65
      refine lv_ldc2 (v := 96) hx hb E.2.2.1 (E.2.2.2.1 _ (q_in_t7 (i := 200) (by first | rfl | decide +kernel) rfl)) dX12_spelled_56 ?_
      refine lv_lsub hx hb dX12_spelled_59 ?_
      refine lv_topl (fun y_66 ey_66 => ?_)
      replace hF := q_letX hF ey_66
      refine lv_goto (tgt := 65) hx hb dX12_spelled_60 (by decide) ?_
      refine lv_lstore (lv' := [(6, .long y_66), (0, .int v0), (1, .int v1), (2, .int v2), (3, .int v3), (4, .int v4), (5, .int v5)]) hx hb dX12_spelled_65 hl (by decide) rfl (fun ls hl => ?_)
      refine lv_iload hx hb dX12_spelled_67 (lv_at hl 5 rfl) ?_
      refine q_if_le (A := v4.toInt) E rfl (tgt := 89) dX12_spelled_69 (by decide) (fun c_67 => ?_) (fun c_67 => ?_)
      · skip
        replace hF := q_ifn hF (Int.not_lt.mpr c_67)
        refine lv_lload hx hb dX12_spelled_89 (lv_at hl 0 rfl) ?_
        refine lv_lstore (lv' := [(6, .long y_66), (0, .int v0), (1, .int v1), (2, .int v2), (3, .int v3), (4, .int v4), (5, .int v5)]) hx hb dX12_spelled_91 hl (by decide) rfl (fun ls hl => ?_)
        refine lv_iload hx hb dX12_spelled_93 (lv_at hl 6 rfl) ?_
        refine q_if_le (A := v5.toInt) E rfl (tgt := 115) dX12_spelled_95 (by decide) (fun c_68 => ?_) (fun c_68 => ?_)
        · skip
          replace hF := q_ifn hF (Int.not_lt.mpr c_68)
          refine lv_lload hx hb dX12_spelled_115 (lv_at hl 0 rfl) ?_
          exact q_retl E hr hlk hI ⟨rfl, (hF.trans hout)⟩ dX12_spelled_117
        · skip
          replace hF := q_ifp hF c_68
          refine lv_lload hx hb dX12_spelled_98 (lv_at hl 0 rfl) ?_
          refine lv_ldc2 (v := 32) hx hb E.2.2.1 (E.2.2.2.1 _ (q_in_t7 (i := 199) (by first | rfl | decide +kernel) rfl)) dX12_spelled_100 ?_
          refine lv_lmul hx hb dX12_spelled_103 ?_
          refine lv_topl (fun y_69 ey_69 => ?_)
          replace hF := q_letX hF ey_69
          refine lv_iload hx hb dX12_spelled_104 (lv_at hl 6 rfl) ?_
          refine lv_i2l hx hb dX12_spelled_106 rfl ?_
          refine lv_topl (fun y_70 ey_70 => ?_)
          replace hF := q_letX hF ey_70
          refine lv_ladd hx hb dX12_spelled_107 ?_
          refine lv_topl (fun y_71 ey_71 => ?_)
          replace hF := q_letX hF ey_71
          refine lv_ldc2 (v := 96) hx hb E.2.2.1 (E.2.2.2.1 _ (q_in_t7 (i := 200) (by first | rfl | decide +kernel) rfl)) dX12_spelled_108 ?_
          refine lv_lsub hx hb dX12_spelled_111 ?_
          refine lv_topl (fun y_72 ey_72 => ?_)
          replace hF := q_letX hF ey_72
          refine lv_goto (tgt := 117) hx hb dX12_spelled_112 (by decide) ?_
          exact q_retl E hr hlk hI ⟨rfl, (hF.trans hout)⟩ dX12_spelled_117
      · skip
        replace hF := q_ifp hF c_67
        refine lv_lload hx hb dX12_spelled_72 (lv_at hl 0 rfl) ?_
        refine lv_ldc2 (v := 32) hx hb E.2.2.1 (E.2.2.2.1 _ (q_in_t7 (i := 199) (by first | rfl | decide +kernel) rfl)) dX12_spelled_74 ?_
        refine lv_lmul hx hb dX12_spelled_77 ?_
        refine lv_topl (fun y_73 ey_73 => ?_)
        replace hF := q_letX hF ey_73
        refine lv_iload hx hb dX12_spelled_78 (lv_at hl 5 rfl) ?_
        refine lv_i2l hx hb dX12_spelled_80 rfl ?_
        refine lv_topl (fun y_74 ey_74 => ?_)
        replace hF := q_letX hF ey_74
        refine lv_ladd hx hb dX12_spelled_81 ?_
        refine lv_topl (fun y_75 ey_75 => ?_)
        replace hF := q_letX hF ey_75
        refine lv_ldc2 (v := 96) hx hb E.2.2.1 (E.2.2.2.1 _ (q_in_t7 (i := 200) (by first | rfl | decide +kernel) rfl)) dX12_spelled_82 ?_
        refine lv_lsub hx hb dX12_spelled_85 ?_
        refine lv_topl (fun y_76 ey_76 => ?_)
        replace hF := q_letX hF ey_76
        refine lv_goto (tgt := 91) hx hb dX12_spelled_86 (by decide) ?_
        refine lv_lstore (lv' := [(6, .long y_76), (0, .int v0), (1, .int v1), (2, .int v2), (3, .int v3), (4, .int v4), (5, .int v5)]) hx hb dX12_spelled_91 hl (by decide) rfl (fun ls hl => ?_)
        refine lv_iload hx hb dX12_spelled_93 (lv_at hl 6 rfl) ?_
        refine q_if_le (A := v5.toInt) E rfl (tgt := 115) dX12_spelled_95 (by decide) (fun c_77 => ?_) (fun c_77 => ?_)
        · skip
          replace hF := q_ifn hF (Int.not_lt.mpr c_77)
          refine lv_lload hx hb dX12_spelled_115 (lv_at hl 0 rfl) ?_
          exact q_retl E hr hlk hI ⟨rfl, (hF.trans hout)⟩ dX12_spelled_117
        · skip
          replace hF := q_ifp hF c_77
          refine lv_lload hx hb dX12_spelled_98 (lv_at hl 0 rfl) ?_
          refine lv_ldc2 (v := 32) hx hb E.2.2.1 (E.2.2.2.1 _ (q_in_t7 (i := 199) (by first | rfl | decide +kernel) rfl)) dX12_spelled_100 ?_
          refine lv_lmul hx hb dX12_spelled_103 ?_
          refine lv_topl (fun y_78 ey_78 => ?_)
          replace hF := q_letX hF ey_78
          refine lv_iload hx hb dX12_spelled_104 (lv_at hl 6 rfl) ?_
          refine lv_i2l hx hb dX12_spelled_106 rfl ?_
          refine lv_topl (fun y_79 ey_79 => ?_)
          replace hF := q_letX hF ey_79
          refine lv_ladd hx hb dX12_spelled_107 ?_
          refine lv_topl (fun y_80 ey_80 => ?_)
          replace hF := q_letX hF ey_80
          refine lv_ldc2 (v := 96) hx hb E.2.2.1 (E.2.2.2.1 _ (q_in_t7 (i := 200) (by first | rfl | decide +kernel) rfl)) dX12_spelled_108 ?_
          refine lv_lsub hx hb dX12_spelled_111 ?_
          refine lv_topl (fun y_81 ey_81 => ?_)
          replace hF := q_letX hF ey_81
          refine lv_goto (tgt := 117) hx hb dX12_spelled_112 (by decide) ?_
          exact q_retl E hr hlk hI ⟨rfl, (hF.trans hout)⟩ dX12_spelled_117
end
/-! FROM 34.words.a.lean.txt -/
section
section QS
variable {p : Program} {l : Launch} {e : Env} {R : Room} {s : State} {m : MethodId} {args : Array Value} {below : List Frame} {meth : Method} {c : Code} {H : Heap} {locs : List Loc} {cells slots : Nat} {Q : State → Prop} {cc : ByteArray} {X : XW} {n : Nat} {σ0 σ : ST} {H0 : Heap} {pc : Nat} {ls : Array Slot} {rest : List Value} {a : Nat}
theorem ks_X12_135 : q_okS RX12 135 yX12_spelled cX12_spelled 8 (some .long) 6 := ⟨(q_in_t7 (i := 212) (by first | rfl | decide +kernel) rfl), (q_in_t7 (i := 213) (by first | rfl | decide +kernel) rfl), (q_in_t1 (i := 14) (by first | rfl | decide +kernel) rfl), (q_in_t7 (i := 214) (by first | rfl | decide +kernel) rfl), ⟨by decide, by decide, rfl⟩⟩
theorem kv_X12_139 : q_okV RX12 139 RX12 yX12_isWord cX12_isWord 3 (some .boolean) 1 := ⟨(q_in_t7 (i := 215) (by first | rfl | decide +kernel) rfl), (q_in_t7 (i := 217) (by first | rfl | decide +kernel) rfl), (q_in_p (i := 46) (by decide +kernel) rfl), (q_in_t1 (i := 14) (by first | rfl | decide +kernel) rfl), (q_in_t7 (i := 218) (by first | rfl | decide +kernel) rfl), ⟨rfl, by decide, by decide, rfl⟩⟩
theorem kv_X12_143 : q_okV RX12 143 RX12 yX12_isLies cX12_isLies 1 (some .boolean) 0 := ⟨(q_in_t8 (i := 55) (by first | rfl | decide +kernel) rfl), (q_in_t8 (i := 57) (by first | rfl | decide +kernel) rfl), (q_in_p (i := 65) (by decide +kernel) rfl), (q_in_t1 (i := 14) (by first | rfl | decide +kernel) rfl), (q_in_t8 (i := 58) (by first | rfl | decide +kernel) rfl), ⟨rfl, by decide, by decide, rfl⟩⟩
theorem kv_X12_147 : q_okV RX12 147 RX12 yX12_isDoubts cX12_isDoubts 1 (some .boolean) 0 := ⟨(q_in_t8 (i := 59) (by first | rfl | decide +kernel) rfl), (q_in_t8 (i := 61) (by first | rfl | decide +kernel) rfl), (q_in_p (i := 66) (by decide +kernel) rfl), (q_in_t1 (i := 14) (by first | rfl | decide +kernel) rfl), (q_in_t8 (i := 62) (by first | rfl | decide +kernel) rfl), ⟨rfl, by decide, by decide, rfl⟩⟩
theorem kv_X12_150 : q_okV RX12 150 RX12 yX12_isKinds cX12_isKinds 1 (some .boolean) 0 := ⟨(q_in_t7 (i := 208) (by first | rfl | decide +kernel) rfl), (q_in_t7 (i := 210) (by first | rfl | decide +kernel) rfl), (q_in_p (i := 45) (by decide +kernel) rfl), (q_in_t1 (i := 14) (by first | rfl | decide +kernel) rfl), (q_in_t7 (i := 211) (by first | rfl | decide +kernel) rfl), ⟨rfl, by decide, by decide, rfl⟩⟩
theorem kv_X12_153 : q_okV RX12 153 RX12 yX12_isEach cX12_isEach 1 (some .boolean) 0 := ⟨(q_in_t7 (i := 238) (by first | rfl | decide +kernel) rfl), (q_in_t8 (i := 0) (by first | rfl | decide +kernel) rfl), (q_in_p (i := 51) (by decide +kernel) rfl), (q_in_t1 (i := 14) (by first | rfl | decide +kernel) rfl), (q_in_t8 (i := 1) (by first | rfl | decide +kernel) rfl), ⟨rfl, by decide, by decide, rfl⟩⟩
theorem kv_X12_156 : q_okV RX12 156 RX12 yX12_isLaw cX12_isLaw 1 (some .boolean) 0 := ⟨(q_in_t8 (i := 6) (by first | rfl | decide +kernel) rfl), (q_in_t8 (i := 8) (by first | rfl | decide +kernel) rfl), (q_in_p (i := 53) (by decide +kernel) rfl), (q_in_t1 (i := 14) (by first | rfl | decide +kernel) rfl), (q_in_t8 (i := 9) (by first | rfl | decide +kernel) rfl), ⟨rfl, by decide, by decide, rfl⟩⟩
theorem kv_X12_159 : q_okV RX12 159 RX12 yX12_isMost cX12_isMost 1 (some .boolean) 0 := ⟨(q_in_t8 (i := 19) (by first | rfl | decide +kernel) rfl), (q_in_t8 (i := 21) (by first | rfl | decide +kernel) rfl), (q_in_p (i := 56) (by decide +kernel) rfl), (q_in_t1 (i := 14) (by first | rfl | decide +kernel) rfl), (q_in_t8 (i := 22) (by first | rfl | decide +kernel) rfl), ⟨rfl, by decide, by decide, rfl⟩⟩
theorem kv_X12_162 : q_okV RX12 162 RX12 yX12_isPlayer cX12_isPlayer 1 (some .boolean) 0 := ⟨(q_in_t8 (i := 27) (by first | rfl | decide +kernel) rfl), (q_in_t8 (i := 29) (by first | rfl | decide +kernel) rfl), (q_in_p (i := 58) (by decide +kernel) rfl), (q_in_t1 (i := 14) (by first | rfl | decide +kernel) rfl), (q_in_t8 (i := 30) (by first | rfl | decide +kernel) rfl), ⟨rfl, by decide, by decide, rfl⟩⟩
theorem kv_X12_165 : q_okV RX12 165 RX12 yX12_isHand cX12_isHand 1 (some .boolean) 0 := ⟨(q_in_t8 (i := 43) (by first | rfl | decide +kernel) rfl), (q_in_t8 (i := 45) (by first | rfl | decide +kernel) rfl), (q_in_p (i := 62) (by decide +kernel) rfl), (q_in_t1 (i := 14) (by first | rfl | decide +kernel) rfl), (q_in_t8 (i := 46) (by first | rfl | decide +kernel) rfl), ⟨rfl, by decide, by decide, rfl⟩⟩
theorem kv_X12_168 : q_okV RX12 168 RX12 yX12_isOf cX12_isOf 1 (some .boolean) 0 := ⟨(q_in_t8 (i := 47) (by first | rfl | decide +kernel) rfl), (q_in_t8 (i := 49) (by first | rfl | decide +kernel) rfl), (q_in_p (i := 63) (by decide +kernel) rfl), (q_in_t1 (i := 14) (by first | rfl | decide +kernel) rfl), (q_in_t8 (i := 50) (by first | rfl | decide +kernel) rfl), ⟨rfl, by decide, by decide, rfl⟩⟩
theorem kv_X12_171 : q_okV RX12 171 RX12 yX12_lawWord cX12_lawWord 1 (some .int) 0 := ⟨(q_in_t8 (i := 14) (by first | rfl | decide +kernel) rfl), (q_in_t8 (i := 16) (by first | rfl | decide +kernel) rfl), (q_in_p (i := 55) (by decide +kernel) rfl), (q_in_t1 (i := 14) (by first | rfl | decide +kernel) rfl), (q_in_t8 (i := 17) (by first | rfl | decide +kernel) rfl), ⟨rfl, by decide, by decide, rfl⟩⟩
theorem kv_X12_175 : q_okV RX12 175 RX12 yX12_stepWord cX12_stepWord 1 (some .int) 0 := ⟨(q_in_t8 (i := 51) (by first | rfl | decide +kernel) rfl), (q_in_t8 (i := 53) (by first | rfl | decide +kernel) rfl), (q_in_p (i := 64) (by decide +kernel) rfl), (q_in_t1 (i := 14) (by first | rfl | decide +kernel) rfl), (q_in_t8 (i := 54) (by first | rfl | decide +kernel) rfl), ⟨rfl, by decide, by decide, rfl⟩⟩
theorem kv_X12_178 : q_okV RX12 178 RX12 yX12_testWord cX12_testWord 1 (some .int) 0 := ⟨(q_in_t8 (i := 63) (by first | rfl | decide +kernel) rfl), (q_in_t8 (i := 65) (by first | rfl | decide +kernel) rfl), (q_in_p (i := 67) (by decide +kernel) rfl), (q_in_t1 (i := 14) (by first | rfl | decide +kernel) rfl), (q_in_t8 (i := 66) (by first | rfl | decide +kernel) rfl), ⟨rfl, by decide, by decide, rfl⟩⟩
theorem kv_X12_181 : q_okV RX12 181 RX12 yX12_isEnd cX12_isEnd 1 (some .boolean) 0 := ⟨(q_in_t8 (i := 67) (by first | rfl | decide +kernel) rfl), (q_in_t8 (i := 69) (by first | rfl | decide +kernel) rfl), (q_in_p (i := 68) (by decide +kernel) rfl), (q_in_t1 (i := 14) (by first | rfl | decide +kernel) rfl), (q_in_t8 (i := 70) (by first | rfl | decide +kernel) rfl), ⟨rfl, by decide, by decide, rfl⟩⟩
theorem gs_X12_123_12 (E : q_E p c cc s m args RX12 X) (hI : q_I X n σ0 H0 locs σ H) (ha : q_kd X a = 12) (hdg : decode cc pc = .ok (.getfield 123, 3)) (kk : W p l e R s m args below meth c H locs cells slots Q (F0 m (pc + 3) ls (.int (σ.1 a 18) :: rest))) : W p l e R s m args below meth c H locs cells slots Q (F0 m pc ls (.ref a :: rest)) :=
  q_getf (ref := "CheatHeapModel") E hI ha ⟨rfl, by decide⟩ (show vwCl[11]? = some (RX12, TX12, 46) from rfl) q_inX12 (f := 18) (by decide) (q_in_t7 (i := 3) (by first | rfl | decide +kernel) rfl) (Or.inl rfl) rfl hdg kk
theorem kv_X12_184 : q_okV RX12 184 RX12 yX12_isKept cX12_isKept 1 (some .boolean) 0 := ⟨(q_in_t8 (i := 39) (by first | rfl | decide +kernel) rfl), (q_in_t8 (i := 41) (by first | rfl | decide +kernel) rfl), (q_in_p (i := 61) (by decide +kernel) rfl), (q_in_t1 (i := 14) (by first | rfl | decide +kernel) rfl), (q_in_t8 (i := 42) (by first | rfl | decide +kernel) rfl), ⟨rfl, by decide, by decide, rfl⟩⟩
end QS
end
