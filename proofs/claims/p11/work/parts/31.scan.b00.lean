set_option maxRecDepth 100000 in
set_option maxHeartbeats 4000000 in
theorem c_X12_isIn (l : Launch) (X : XW) (σ : ST) (v0 : Int64) (v1 : Int64) (v2 : Int64) : Met l yX12_isIn (q_ws yX12_isIn cX12_isIn 6 (some .boolean)) (q_rm 0 0) (q_P X σ [.long v0, .long v1, .long v2]) (q_Qi X 9 σ (fun (r : Int32) (σ' : ST) => σ' = σ ∧ (0 ≤ r.toInt ∧ r.toInt ≤ 1) ∧ (r.toInt = 1 ↔ (v1.toInt ≤ v0.toInt ∧ v0.toInt ≤ v2.toInt)) ∧ r = F_X12_isIn X σ v0 v1 v2)) 0 0 (q_reg X) := by
  refine q_met 9 (by decide +kernel) rfl (Nat.le_of_ble_eq_true rfl) (fun p e s m below meth c E hml hr hlk hI ls hl => ?_)
  have hx := E.1
  have hb := E.2.1
  have hl : lv_has ls 6 [(0, .long v0), (2, .long v1), (4, .long v2)] := hl
  obtain ⟨out, hout⟩ : ∃ o, o = F_X12_isIn X σ v0 v1 v2 := ⟨_, rfl⟩
  have hF := hout.symm
  unfold F_X12_isIn at hF
  refine lv_lload_n hx hb dX12_isIn_0 rfl (lv_at hl 0 rfl) ?_
  refine lv_lload_n hx hb dX12_isIn_1 rfl (lv_at hl 1 rfl) ?_
  refine q_lcmpX E dX12_isIn_2 (fun z_1 ez_1 hz_1 => ?_)
  replace hF := q_letX hF ez_1
  refine q_if_lt (A := z_1.toInt) E rfl (tgt := 17) dX12_isIn_3 (by decide) (fun c_2 => ?_) (fun c_2 => ?_)
  · skip
    replace hF := q_ifp hF c_2
    refine lv_iconst (v := 0) hx hb dX12_isIn_17 (by decide) ?_
    have hrv : (0 : Int32).toInt = 0 := rfl
    exact q_retz E hr hlk hI ⟨by decide, by decide⟩ ⟨rfl, ⟨by decide, by decide⟩, (by constructor <;> intro h9 <;> omega), (hF.trans hout)⟩ dX12_isIn_18
  · skip
    replace hF := q_ifn hF (Int.not_lt.mpr c_2)
    refine lv_lload_n hx hb dX12_isIn_6 rfl (lv_at hl 0 rfl) ?_
    refine lv_lload hx hb dX12_isIn_7 (lv_at hl 2 rfl) ?_
    refine q_lcmpX E dX12_isIn_9 (fun z_3 ez_3 hz_3 => ?_)
    replace hF := q_letX hF ez_3
    refine q_if_gt (A := z_3.toInt) E rfl (tgt := 17) dX12_isIn_10 (by decide) (fun c_4 => ?_) (fun c_4 => ?_)
    · skip
      replace hF := q_ifp hF c_4
      refine lv_iconst (v := 0) hx hb dX12_isIn_17 (by decide) ?_
      have hrv : (0 : Int32).toInt = 0 := rfl
      exact q_retz E hr hlk hI ⟨by decide, by decide⟩ ⟨rfl, ⟨by decide, by decide⟩, (by constructor <;> intro h9 <;> omega), (hF.trans hout)⟩ dX12_isIn_18
    · skip
      replace hF := q_ifn hF (Int.not_lt.mpr c_4)
      refine lv_iconst (v := 1) hx hb dX12_isIn_13 (by decide) ?_
      refine lv_goto (tgt := 18) hx hb dX12_isIn_14 (by decide) ?_
      have hrv : (1 : Int32).toInt = 1 := rfl
      exact q_retz E hr hlk hI ⟨by decide, by decide⟩ ⟨rfl, ⟨by decide, by decide⟩, (by constructor <;> intro h9 <;> omega), (hF.trans hout)⟩ dX12_isIn_18

set_option maxRecDepth 100000 in
set_option maxHeartbeats 4000000 in
theorem c_X12_look2 (l : Launch) (X : XW) (σ : ST) (a : Nat) (v1 : Int32) (ha : q_kd X a = 12) (h0 : 0 ≤ v1.toInt) (h1 : (σ.1 a 9).toInt ≤ 900) : Met l yX12_look2 (q_ws yX12_look2 cX12_look2 2 (some .int)) (q_rm 0 0) (q_P X σ [.ref a, .int v1]) (q_Qi X 9 σ (fun (r : Int32) (σ' : ST) => σ' = σ ∧ (r.toInt = m_look X σ a v1.toInt) ∧ (0 ≤ r.toInt ∧ r.toInt ≤ 255) ∧ r = F_X12_look2 X σ a v1)) 0 0 (q_reg X) := by
  refine q_met 9 (by decide +kernel) rfl (Nat.le_of_ble_eq_true rfl) (fun p e s m below meth c E hml hr hlk hI ls hl => ?_)
  have hx := E.1
  have hb := E.2.1
  have hl : lv_has ls 2 [(0, .ref a), (1, .int v1)] := hl
  obtain ⟨out, hout⟩ : ∃ o, o = F_X12_look2 X σ a v1 := ⟨_, rfl⟩
  have hF := hout.symm
  unfold F_X12_look2 at hF
  refine lv_iload_n hx hb dX12_look2_0 rfl (lv_at hl 1 rfl) ?_
  refine lv_aload_n hx hb dX12_look2_1 rfl (lv_at hl 0 rfl) ?_
  refine gs_X12_98_12 E hI ha dX12_look2_2 ?_
  refine lv_topi (fun f_1 ef_1 => ?_)
  replace hF := q_letX hF ef_1
  have if_1 : f_1.toInt = (σ.1 a 9).toInt := congrArg Int32.toInt ef_1
  refine q_icmp_ge (A := v1.toInt) (B := f_1.toInt) E rfl rfl (tgt := 21) dX12_look2_5 (by decide) (fun c_2 => ?_) (fun c_2 => ?_)
  · skip
    replace hF := q_ifn hF (Int.not_lt.mpr c_2)
    refine lv_iconst (v := 0) hx hb dX12_look2_21 (by decide) ?_
    have hrv : (0 : Int32).toInt = 0 := rfl
    exact q_reti E hr hlk hI ⟨rfl, (by first | (unfold m_look; rw [if_neg (by omega)]; rfl) | assumption), (by omega), (hF.trans hout)⟩ dX12_look2_22
  · skip
    replace hF := q_ifp hF c_2
    refine lv_aload_n hx hb dX12_look2_8 rfl (lv_at hl 0 rfl) ?_
    refine gs_X12_24_12 E hI ha dX12_look2_9 ?_
    refine lv_iload_n hx hb dX12_look2_12 rfl (lv_at hl 1 rfl) ?_
    refine q_bald E hI (q_tk (k' := 33) hI ha rfl (by decide)) ⟨by decide, rfl⟩ (by omega) (by rw [q_lnk (v := 900) hI (q_tk (k' := 33) hI ha rfl (by decide)) rfl (by decide)]; omega) dX12_look2_13 ?_
    refine lv_topi (fun f_3 ef_3 => ?_)
    replace hF := q_letX hF ef_3
    refine lv_sipush (v := 255) hx hb dX12_look2_14 (by decide) ?_
    refine lv_iand hx hb dX12_look2_17 ?_
    refine lv_topi (fun z_4 ez_4 => ?_)
    replace hF := q_letX hF ez_4
    have qz_4 : z_4.toInt = m_look X σ a v1.toInt := by unfold m_look; rw [if_pos (by omega), ez_4, ef_3]; rfl
    have wz_4 := m_and255 f_3
    rw [← ez_4] at wz_4
    refine lv_goto (tgt := 22) hx hb dX12_look2_18 (by decide) ?_
    exact q_reti E hr hlk hI ⟨rfl, (by first | (unfold m_look; rw [if_neg (by omega)]; rfl) | assumption), (by omega), (hF.trans hout)⟩ dX12_look2_22

set_option maxRecDepth 100000 in
set_option maxHeartbeats 4000000 in
theorem c_X12_isLetter (l : Launch) (X : XW) (σ : ST) (v0 : Int32) : Met l yX12_isLetter (q_ws yX12_isLetter cX12_isLetter 1 (some .boolean)) (q_rm 0 0) (q_P X σ [.int v0]) (q_Qi X 9 σ (fun (r : Int32) (σ' : ST) => σ' = σ ∧ (0 ≤ r.toInt ∧ r.toInt ≤ 1) ∧ (r.toInt = 1 ↔ (97 ≤ v0.toInt ∧ v0.toInt ≤ 122)) ∧ r = F_X12_isLetter X σ v0)) 0 0 (q_reg X) := by
  refine q_met 9 (by decide +kernel) rfl (Nat.le_of_ble_eq_true rfl) (fun p e s m below meth c E hml hr hlk hI ls hl => ?_)
  have hx := E.1
  have hb := E.2.1
  have hl : lv_has ls 1 [(0, .int v0)] := hl
  obtain ⟨out, hout⟩ : ∃ o, o = F_X12_isLetter X σ v0 := ⟨_, rfl⟩
  have hF := hout.symm
  unfold F_X12_isLetter at hF
  refine lv_iload_n hx hb dX12_isLetter_0 rfl (lv_at hl 0 rfl) ?_
  refine lv_bipush (v := 97) hx hb dX12_isLetter_1 (by decide) ?_
  refine q_icmp_lt (A := v0.toInt) (B := 97) E rfl (by decide) (tgt := 16) dX12_isLetter_3 (by decide) (fun c_1 => ?_) (fun c_1 => ?_)
  · skip
    replace hF := q_ifp hF c_1
    refine lv_iconst (v := 0) hx hb dX12_isLetter_16 (by decide) ?_
    have hrv : (0 : Int32).toInt = 0 := rfl
    exact q_retz E hr hlk hI ⟨by decide, by decide⟩ ⟨rfl, ⟨by decide, by decide⟩, (by constructor <;> intro h9 <;> omega), (hF.trans hout)⟩ dX12_isLetter_17
  · skip
    replace hF := q_ifn hF (Int.not_lt.mpr c_1)
    refine lv_iload_n hx hb dX12_isLetter_6 rfl (lv_at hl 0 rfl) ?_
    refine lv_bipush (v := 122) hx hb dX12_isLetter_7 (by decide) ?_
    refine q_icmp_gt (A := v0.toInt) (B := 122) E rfl (by decide) (tgt := 16) dX12_isLetter_9 (by decide) (fun c_2 => ?_) (fun c_2 => ?_)
    · skip
      replace hF := q_ifp hF c_2
      refine lv_iconst (v := 0) hx hb dX12_isLetter_16 (by decide) ?_
      have hrv : (0 : Int32).toInt = 0 := rfl
      exact q_retz E hr hlk hI ⟨by decide, by decide⟩ ⟨rfl, ⟨by decide, by decide⟩, (by constructor <;> intro h9 <;> omega), (hF.trans hout)⟩ dX12_isLetter_17
    · skip
      replace hF := q_ifn hF (Int.not_lt.mpr c_2)
      refine lv_iconst (v := 1) hx hb dX12_isLetter_12 (by decide) ?_
      refine lv_goto (tgt := 17) hx hb dX12_isLetter_13 (by decide) ?_
      have hrv : (1 : Int32).toInt = 1 := rfl
      exact q_retz E hr hlk hI ⟨by decide, by decide⟩ ⟨rfl, ⟨by decide, by decide⟩, (by constructor <;> intro h9 <;> omega), (hF.trans hout)⟩ dX12_isLetter_17

set_option maxRecDepth 100000 in
set_option maxHeartbeats 4000000 in
theorem c_X12_isDigit (l : Launch) (X : XW) (σ : ST) (v0 : Int32) : Met l yX12_isDigit (q_ws yX12_isDigit cX12_isDigit 1 (some .boolean)) (q_rm 0 0) (q_P X σ [.int v0]) (q_Qi X 9 σ (fun (r : Int32) (σ' : ST) => σ' = σ ∧ (0 ≤ r.toInt ∧ r.toInt ≤ 1) ∧ (r.toInt = 1 ↔ (48 ≤ v0.toInt ∧ v0.toInt ≤ 57)) ∧ r = F_X12_isDigit X σ v0)) 0 0 (q_reg X) := by
  refine q_met 9 (by decide +kernel) rfl (Nat.le_of_ble_eq_true rfl) (fun p e s m below meth c E hml hr hlk hI ls hl => ?_)
  have hx := E.1
  have hb := E.2.1
  have hl : lv_has ls 1 [(0, .int v0)] := hl
  obtain ⟨out, hout⟩ : ∃ o, o = F_X12_isDigit X σ v0 := ⟨_, rfl⟩
  have hF := hout.symm
  unfold F_X12_isDigit at hF
  refine lv_iload_n hx hb dX12_isDigit_0 rfl (lv_at hl 0 rfl) ?_
  refine lv_bipush (v := 48) hx hb dX12_isDigit_1 (by decide) ?_
  refine q_icmp_lt (A := v0.toInt) (B := 48) E rfl (by decide) (tgt := 16) dX12_isDigit_3 (by decide) (fun c_1 => ?_) (fun c_1 => ?_)
  · skip
    replace hF := q_ifp hF c_1
    refine lv_iconst (v := 0) hx hb dX12_isDigit_16 (by decide) ?_
    have hrv : (0 : Int32).toInt = 0 := rfl
    exact q_retz E hr hlk hI ⟨by decide, by decide⟩ ⟨rfl, ⟨by decide, by decide⟩, (by constructor <;> intro h9 <;> omega), (hF.trans hout)⟩ dX12_isDigit_17
  · skip
    replace hF := q_ifn hF (Int.not_lt.mpr c_1)
    refine lv_iload_n hx hb dX12_isDigit_6 rfl (lv_at hl 0 rfl) ?_
    refine lv_bipush (v := 57) hx hb dX12_isDigit_7 (by decide) ?_
    refine q_icmp_gt (A := v0.toInt) (B := 57) E rfl (by decide) (tgt := 16) dX12_isDigit_9 (by decide) (fun c_2 => ?_) (fun c_2 => ?_)
    · skip
      replace hF := q_ifp hF c_2
      refine lv_iconst (v := 0) hx hb dX12_isDigit_16 (by decide) ?_
      have hrv : (0 : Int32).toInt = 0 := rfl
      exact q_retz E hr hlk hI ⟨by decide, by decide⟩ ⟨rfl, ⟨by decide, by decide⟩, (by constructor <;> intro h9 <;> omega), (hF.trans hout)⟩ dX12_isDigit_17
    · skip
      replace hF := q_ifn hF (Int.not_lt.mpr c_2)
      refine lv_iconst (v := 1) hx hb dX12_isDigit_12 (by decide) ?_
      refine lv_goto (tgt := 17) hx hb dX12_isDigit_13 (by decide) ?_
      have hrv : (1 : Int32).toInt = 1 := rfl
      exact q_retz E hr hlk hI ⟨by decide, by decide⟩ ⟨rfl, ⟨by decide, by decide⟩, (by constructor <;> intro h9 <;> omega), (hF.trans hout)⟩ dX12_isDigit_17

set_option maxRecDepth 100000 in
set_option maxHeartbeats 4000000 in
theorem c_X12_isSignByte (l : Launch) (X : XW) (σ : ST) (a : Nat) (v1 : Int32) (ha : q_kd X a = 12) : Met l yX12_isSignByte (q_ws yX12_isSignByte cX12_isSignByte 2 (some .boolean)) (q_rm 0 0) (q_P X σ [.ref a, .int v1]) (q_Qi X 9 σ (fun (r : Int32) (σ' : ST) => σ' = σ ∧ (0 ≤ r.toInt ∧ r.toInt ≤ 1) ∧ r = F_X12_isSignByte X σ a v1)) 0 0 (q_reg X) := by
  refine q_met 9 (by decide +kernel) rfl (Nat.le_of_ble_eq_true rfl) (fun p e s m below meth c E hml hr hlk hI ls hl => ?_)
  have hx := E.1
  have hb := E.2.1
  have hl : lv_has ls 2 [(0, .ref a), (1, .int v1)] := hl
  obtain ⟨out, hout⟩ : ∃ o, o = F_X12_isSignByte X σ a v1 := ⟨_, rfl⟩
  have hF := hout.symm
  unfold F_X12_isSignByte at hF
  refine lv_iload_n hx hb dX12_isSignByte_0 rfl (lv_at hl 1 rfl) ?_
  refine lv_bipush (v := 59) hx hb dX12_isSignByte_1 (by decide) ?_
  refine q_icmp_eq (A := v1.toInt) (B := 59) E rfl (by decide) (tgt := 24) dX12_isSignByte_3 (by decide) (fun c_1 => ?_) (fun c_1 => ?_)
  · skip
    replace hF := q_ifp hF c_1
    refine lv_iconst (v := 1) hx hb dX12_isSignByte_24 (by decide) ?_
    refine lv_goto (tgt := 29) hx hb dX12_isSignByte_25 (by decide) ?_
    have hrv : (1 : Int32).toInt = 1 := rfl
    exact q_retz E hr hlk hI ⟨by decide, by decide⟩ ⟨rfl, ⟨by decide, by decide⟩, (hF.trans hout)⟩ dX12_isSignByte_29
  · skip
    replace hF := q_ifn hF c_1
    refine lv_iload_n hx hb dX12_isSignByte_6 rfl (lv_at hl 1 rfl) ?_
    refine lv_bipush (v := 60) hx hb dX12_isSignByte_7 (by decide) ?_
    refine q_icmp_eq (A := v1.toInt) (B := 60) E rfl (by decide) (tgt := 24) dX12_isSignByte_9 (by decide) (fun c_2 => ?_) (fun c_2 => ?_)
    · skip
      replace hF := q_ifp hF c_2
      refine lv_iconst (v := 1) hx hb dX12_isSignByte_24 (by decide) ?_
      refine lv_goto (tgt := 29) hx hb dX12_isSignByte_25 (by decide) ?_
      have hrv : (1 : Int32).toInt = 1 := rfl
      exact q_retz E hr hlk hI ⟨by decide, by decide⟩ ⟨rfl, ⟨by decide, by decide⟩, (hF.trans hout)⟩ dX12_isSignByte_29
    · skip
      replace hF := q_ifn hF c_2
      refine lv_iload_n hx hb dX12_isSignByte_12 rfl (lv_at hl 1 rfl) ?_
      refine lv_bipush (v := 62) hx hb dX12_isSignByte_13 (by decide) ?_
      refine q_icmp_eq (A := v1.toInt) (B := 62) E rfl (by decide) (tgt := 24) dX12_isSignByte_15 (by decide) (fun c_3 => ?_) (fun c_3 => ?_)
      · skip
        replace hF := q_ifp hF c_3
        refine lv_iconst (v := 1) hx hb dX12_isSignByte_24 (by decide) ?_
        refine lv_goto (tgt := 29) hx hb dX12_isSignByte_25 (by decide) ?_
        have hrv : (1 : Int32).toInt = 1 := rfl
        exact q_retz E hr hlk hI ⟨by decide, by decide⟩ ⟨rfl, ⟨by decide, by decide⟩, (hF.trans hout)⟩ dX12_isSignByte_29
      · skip
        replace hF := q_ifn hF c_3
        refine lv_iload_n hx hb dX12_isSignByte_18 rfl (lv_at hl 1 rfl) ?_
        refine lv_bipush (v := 61) hx hb dX12_isSignByte_19 (by decide) ?_
        refine q_icmp_ne (A := v1.toInt) (B := 61) E rfl (by decide) (tgt := 28) dX12_isSignByte_21 (by decide) (fun c_4 => ?_) (fun c_4 => ?_)
        · skip
          replace hF := q_ifn hF c_4
          refine lv_iconst (v := 0) hx hb dX12_isSignByte_28 (by decide) ?_
          have hrv : (0 : Int32).toInt = 0 := rfl
          exact q_retz E hr hlk hI ⟨by decide, by decide⟩ ⟨rfl, ⟨by decide, by decide⟩, (hF.trans hout)⟩ dX12_isSignByte_29
        · skip
          replace hF := q_ifp hF c_4
          refine lv_iconst (v := 1) hx hb dX12_isSignByte_24 (by decide) ?_
          refine lv_goto (tgt := 29) hx hb dX12_isSignByte_25 (by decide) ?_
          have hrv : (1 : Int32).toInt = 1 := rfl
          exact q_retz E hr hlk hI ⟨by decide, by decide⟩ ⟨rfl, ⟨by decide, by decide⟩, (hF.trans hout)⟩ dX12_isSignByte_29

set_option maxRecDepth 100000 in
set_option maxHeartbeats 4000000 in
theorem c_X12_isSign (l : Launch) (X : XW) (σ : ST) (a : Nat) (v1 : Int32) (ha : q_kd X a = 12) : Met l yX12_isSign (q_ws yX12_isSign cX12_isSign 2 (some .boolean)) (q_rm 0 0) (q_P X σ [.ref a, .int v1]) (q_Qi X 9 σ (fun (r : Int32) (σ' : ST) => σ' = σ ∧ (0 ≤ r.toInt ∧ r.toInt ≤ 1) ∧ r = F_X12_isSign X σ a v1)) 0 0 (q_reg X) := by
  refine q_met 9 (by decide +kernel) rfl (Nat.le_of_ble_eq_true rfl) (fun p e s m below meth c E hml hr hlk hI ls hl => ?_)
  have hx := E.1
  have hb := E.2.1
  have hl : lv_has ls 2 [(0, .ref a), (1, .int v1)] := hl
  obtain ⟨out, hout⟩ : ∃ o, o = F_X12_isSign X σ a v1 := ⟨_, rfl⟩
  have hF := hout.symm
  unfold F_X12_isSign at hF
  refine lv_aload_n hx hb dX12_isSign_0 rfl (lv_at hl 0 rfl) ?_
  refine gs_X12_110_12 E hI ha dX12_isSign_1 ?_
  refine lv_topi (fun f_1 ef_1 => ?_)
  replace hF := q_letX hF ef_1
  refine lv_iconst (v := 3) hx hb dX12_isSign_4 (by decide) ?_
  refine q_icmp_ne (A := f_1.toInt) (B := 3) E rfl (by decide) (tgt := 20) dX12_isSign_5 (by decide) (fun c_2 => ?_) (fun c_2 => ?_)
  · skip
    replace hF := q_ifn hF c_2
    refine lv_iconst (v := 0) hx hb dX12_isSign_20 (by decide) ?_
    have hrv : (0 : Int32).toInt = 0 := rfl
    exact q_retz E hr hlk hI ⟨by decide, by decide⟩ ⟨rfl, ⟨by decide, by decide⟩, (hF.trans hout)⟩ dX12_isSign_21
  · skip
    replace hF := q_ifp hF c_2
    refine lv_aload_n hx hb dX12_isSign_8 rfl (lv_at hl 0 rfl) ?_
    refine gs_X12_129_12 E hI ha dX12_isSign_9 ?_
    refine lv_topi (fun f_3 ef_3 => ?_)
    replace hF := q_letX hF ef_3
    refine lv_iload_n hx hb dX12_isSign_12 rfl (lv_at hl 1 rfl) ?_
    refine q_icmp_ne (A := f_3.toInt) (B := v1.toInt) E rfl rfl (tgt := 20) dX12_isSign_13 (by decide) (fun c_4 => ?_) (fun c_4 => ?_)
    · skip
      replace hF := q_ifn hF c_4
      refine lv_iconst (v := 0) hx hb dX12_isSign_20 (by decide) ?_
      have hrv : (0 : Int32).toInt = 0 := rfl
      exact q_retz E hr hlk hI ⟨by decide, by decide⟩ ⟨rfl, ⟨by decide, by decide⟩, (hF.trans hout)⟩ dX12_isSign_21
    · skip
      replace hF := q_ifp hF c_4
      refine lv_iconst (v := 1) hx hb dX12_isSign_16 (by decide) ?_
      refine lv_goto (tgt := 21) hx hb dX12_isSign_17 (by decide) ?_
      have hrv : (1 : Int32).toInt = 1 := rfl
      exact q_retz E hr hlk hI ⟨by decide, by decide⟩ ⟨rfl, ⟨by decide, by decide⟩, (hF.trans hout)⟩ dX12_isSign_21

set_option maxRecDepth 100000 in
set_option maxHeartbeats 4000000 in
theorem c_X12_isWord (l : Launch) (X : XW) (σ : ST) (a : Nat) (v1 : Int64) (ha : q_kd X a = 12) : Met l yX12_isWord (q_ws yX12_isWord cX12_isWord 3 (some .boolean)) (q_rm 0 0) (q_P X σ [.ref a, .long v1]) (q_Qi X 9 σ (fun (r : Int32) (σ' : ST) => σ' = σ ∧ (0 ≤ r.toInt ∧ r.toInt ≤ 1) ∧ (r.toInt = 1 → (σ.1 a 14).toInt = 1) ∧ r = F_X12_isWord X σ a v1)) 0 0 (q_reg X) := by
  refine q_met 9 (by decide +kernel) rfl (Nat.le_of_ble_eq_true rfl) (fun p e s m below meth c E hml hr hlk hI ls hl => ?_)
  have hx := E.1
  have hb := E.2.1
  have hl : lv_has ls 3 [(0, .ref a), (1, .long v1)] := hl
  obtain ⟨out, hout⟩ : ∃ o, o = F_X12_isWord X σ a v1 := ⟨_, rfl⟩
  have hF := hout.symm
  unfold F_X12_isWord at hF
  refine lv_aload_n hx hb dX12_isWord_0 rfl (lv_at hl 0 rfl) ?_
  refine gs_X12_110_12 E hI ha dX12_isWord_1 ?_
  refine lv_topi (fun f_1 ef_1 => ?_)
  replace hF := q_letX hF ef_1
  have if_1 : f_1.toInt = (σ.1 a 14).toInt := congrArg Int32.toInt ef_1
  refine lv_iconst (v := 1) hx hb dX12_isWord_4 (by decide) ?_
  refine q_icmp_ne (A := f_1.toInt) (B := 1) E rfl (by decide) (tgt := 21) dX12_isWord_5 (by decide) (fun c_2 => ?_) (fun c_2 => ?_)
  · skip
    replace hF := q_ifn hF c_2
    refine lv_iconst (v := 0) hx hb dX12_isWord_21 (by decide) ?_
    have hrv : (0 : Int32).toInt = 0 := rfl
    exact q_retz E hr hlk hI ⟨by decide, by decide⟩ ⟨rfl, ⟨by decide, by decide⟩, (by omega), (hF.trans hout)⟩ dX12_isWord_22
  · skip
    replace hF := q_ifp hF c_2
    refine lv_aload_n hx hb dX12_isWord_8 rfl (lv_at hl 0 rfl) ?_
    refine gs_X12_116_12 E hI ha dX12_isWord_9 ?_
    refine lv_topl (fun g_3 eg_3 => ?_)
    replace hF := q_letX hF eg_3
    refine lv_lload_n hx hb dX12_isWord_12 rfl (lv_at hl 1 rfl) ?_
    refine q_lcmpX E dX12_isWord_13 (fun z_4 ez_4 hz_4 => ?_)
    replace hF := q_letX hF ez_4
    refine q_if_ne (A := z_4.toInt) E rfl (tgt := 21) dX12_isWord_14 (by decide) (fun c_5 => ?_) (fun c_5 => ?_)
    · skip
      replace hF := q_ifn hF c_5
      refine lv_iconst (v := 0) hx hb dX12_isWord_21 (by decide) ?_
      have hrv : (0 : Int32).toInt = 0 := rfl
      exact q_retz E hr hlk hI ⟨by decide, by decide⟩ ⟨rfl, ⟨by decide, by decide⟩, (by omega), (hF.trans hout)⟩ dX12_isWord_22
    · skip
      replace hF := q_ifp hF c_5
      refine lv_iconst (v := 1) hx hb dX12_isWord_17 (by decide) ?_
      refine lv_goto (tgt := 22) hx hb dX12_isWord_18 (by decide) ?_
      have hrv : (1 : Int32).toInt = 1 := rfl
      exact q_retz E hr hlk hI ⟨by decide, by decide⟩ ⟨rfl, ⟨by decide, by decide⟩, (by omega), (hF.trans hout)⟩ dX12_isWord_22

set_option maxRecDepth 100000 in
set_option maxHeartbeats 4000000 in
theorem c_X12_fail (l : Launch) (X : XW) (σ : ST) (a : Nat) (v1 : Int32) (v2 : Int32) (ha : q_kd X a = 12) (h0 : 0 ≤ (σ.1 a 12).toInt) (h1 : 1 ≤ v1.toInt) : Met l yX12_fail (q_ws yX12_fail cX12_fail 3 none) (q_rm 0 0) (q_P X σ [.ref a, .int v1, .int v2]) (q_Qv X 2 σ (fun (σ' : ST) => (q_KS (fun b g => b = a ∧ 12 ≤ g ∧ g ≤ 18) 9 X σ σ') ∧ ((σ'.1 a 9).toInt = (σ.1 a 9).toInt ∧ (σ'.1 a 14).toInt = (σ.1 a 14).toInt ∧ (σ'.1 a 15).toInt = (σ.1 a 15).toInt ∧ (σ'.1 a 16).toInt = (σ.1 a 16).toInt) ∧ ((σ.1 a 12).toInt ≤ (σ'.1 a 12).toInt ∧ 1 ≤ (σ'.1 a 12).toInt) ∧ σ' = F_X12_fail X σ a v1 v2 ∧ q_ow [(12, 12), (12, 13)] [] X σ σ')) 0 0 (q_reg X) := by
  refine q_met 2 (by decide +kernel) rfl (Nat.le_of_ble_eq_true rfl) (fun p e s m below meth c E hml hr hlk hI ls hl => ?_)
  have hx := E.1
  have hb := E.2.1
  have hl : lv_has ls 3 [(0, .ref a), (1, .int v1), (2, .int v2)] := hl
  have ks_σ : q_KS (fun b g => b = a ∧ 12 ≤ g ∧ g ≤ 18) 9 X σ σ := q_KS.rf
  have fr_σ : q_ow [(12, 12), (12, 13)] [] X σ σ := q_ow.rf
  obtain ⟨out, hout⟩ : ∃ o, o = F_X12_fail X σ a v1 v2 := ⟨_, rfl⟩
  have hF := hout.symm
  unfold F_X12_fail at hF
  refine lv_aload_n hx hb dX12_fail_0 rfl (lv_at hl 0 rfl) ?_
  refine gs_X12_187_12 E hI ha dX12_fail_1 ?_
  refine lv_topi (fun f_1 ef_1 => ?_)
  replace hF := q_letX hF ef_1
  have if_1 : f_1.toInt = (σ.1 a 12).toInt := congrArg Int32.toInt ef_1
  refine q_if_le (A := f_1.toInt) E rfl (tgt := 8) dX12_fail_4 (by decide) (fun c_2 => ?_) (fun c_2 => ?_)
  · skip
    replace hF := q_ifn hF (Int.not_lt.mpr c_2)
    refine lv_aload_n hx hb dX12_fail_8 rfl (lv_at hl 0 rfl) ?_
    refine lv_iload_n hx hb dX12_fail_9 rfl (lv_at hl 1 rfl) ?_
    refine ps_X12_187_12 E hI ha (by decide) dX12_fail_10 (fun H locs σ_3 hσ_3 hI => ?_)
    replace hF := q_letX hF hσ_3
    have fr_σ_3 := fr_σ.si hσ_3 ha rfl
    have ks_σ_3 : q_KS (fun b g => b = a ∧ 12 ≤ g ∧ g ≤ 18) 9 X σ σ_3 := ks_σ.siS hσ_3 ⟨rfl, by decide, by decide⟩
    have mv9_σ_3 : (σ_3.1 a 9).toInt = (σ.1 a 9).toInt := congrArg Int32.toInt (q_rdn hσ_3 (Or.inr (by decide)))
    have mv12_σ_3 : (σ_3.1 a 12).toInt = v1.toInt := congrArg Int32.toInt (q_rd hσ_3)
    have mv14_σ_3 : (σ_3.1 a 14).toInt = (σ.1 a 14).toInt := congrArg Int32.toInt (q_rdn hσ_3 (Or.inr (by decide)))
    have mv15_σ_3 : (σ_3.1 a 15).toInt = (σ.1 a 15).toInt := congrArg Int32.toInt (q_rdn hσ_3 (Or.inr (by decide)))
    have mv16_σ_3 : (σ_3.1 a 16).toInt = (σ.1 a 16).toInt := congrArg Int32.toInt (q_rdn hσ_3 (Or.inr (by decide)))
    have mv17_σ_3 : (σ_3.1 a 17).toInt = (σ.1 a 17).toInt := congrArg Int32.toInt (q_rdn hσ_3 (Or.inr (by decide)))
    refine lv_aload_n hx hb dX12_fail_13 rfl (lv_at hl 0 rfl) ?_
    refine lv_iload_n hx hb dX12_fail_14 rfl (lv_at hl 2 rfl) ?_
    refine ps_X12_190_12 E hI ha (by decide) dX12_fail_15 (fun H locs σ_4 hσ_4 hI => ?_)
    replace hF := q_letX hF hσ_4
    have fr_σ_4 := fr_σ_3.si hσ_4 ha rfl
    have ks_σ_4 : q_KS (fun b g => b = a ∧ 12 ≤ g ∧ g ≤ 18) 9 X σ σ_4 := ks_σ_3.siS hσ_4 ⟨rfl, by decide, by decide⟩
    have mv9_σ_4 : (σ_4.1 a 9).toInt = (σ_3.1 a 9).toInt := congrArg Int32.toInt (q_rdn hσ_4 (Or.inr (by decide)))
    have mv12_σ_4 : (σ_4.1 a 12).toInt = (σ_3.1 a 12).toInt := congrArg Int32.toInt (q_rdn hσ_4 (Or.inr (by decide)))
    have mv14_σ_4 : (σ_4.1 a 14).toInt = (σ_3.1 a 14).toInt := congrArg Int32.toInt (q_rdn hσ_4 (Or.inr (by decide)))
    have mv15_σ_4 : (σ_4.1 a 15).toInt = (σ_3.1 a 15).toInt := congrArg Int32.toInt (q_rdn hσ_4 (Or.inr (by decide)))
    have mv16_σ_4 : (σ_4.1 a 16).toInt = (σ_3.1 a 16).toInt := congrArg Int32.toInt (q_rdn hσ_4 (Or.inr (by decide)))
    have mv17_σ_4 : (σ_4.1 a 17).toInt = (σ_3.1 a 17).toInt := congrArg Int32.toInt (q_rdn hσ_4 (Or.inr (by decide)))
    exact q_retv E hr hlk hI ⟨ks_σ_4, (by omega), (by omega), (hF.trans hout), fr_σ_4⟩ dX12_fail_18
  · skip
    replace hF := q_ifp hF c_2
    exact q_retv E hr hlk hI ⟨ks_σ, (by omega), (by omega), (hF.trans hout), fr_σ⟩ dX12_fail_7

set_option maxRecDepth 100000 in
set_option maxHeartbeats 4000000 in
theorem c_X12_wrong (l : Launch) (X : XW) (σ : ST) (a : Nat) (ha : q_kd X a = 12) (h0 : 0 ≤ (σ.1 a 12).toInt) : Met l yX12_wrong (q_ws yX12_wrong cX12_wrong 1 none) (q_rm 1 22) (q_P X σ [.ref a]) (q_Qv X 2 σ (fun (σ' : ST) => (q_KS (fun b g => b = a ∧ 12 ≤ g ∧ g ≤ 18) 9 X σ σ') ∧ ((σ'.1 a 9).toInt = (σ.1 a 9).toInt ∧ (σ'.1 a 14).toInt = (σ.1 a 14).toInt ∧ (σ'.1 a 15).toInt = (σ.1 a 15).toInt ∧ (σ'.1 a 16).toInt = (σ.1 a 16).toInt) ∧ ((σ.1 a 12).toInt ≤ (σ'.1 a 12).toInt ∧ 1 ≤ (σ'.1 a 12).toInt) ∧ σ' = F_X12_wrong X σ a ∧ q_ow [(12, 12), (12, 13)] [] X σ σ')) 0 0 (q_reg X) := by
  refine q_met 2 (by decide +kernel) rfl (Nat.le_of_ble_eq_true rfl) (fun p e s m below meth c E hml hr hlk hI ls hl => ?_)
  have hx := E.1
  have hb := E.2.1
  have hl : lv_has ls 1 [(0, .ref a)] := hl
  have ks_σ : q_KS (fun b g => b = a ∧ 12 ≤ g ∧ g ≤ 18) 9 X σ σ := q_KS.rf
  have fr_σ : q_ow [(12, 12), (12, 13)] [] X σ σ := q_ow.rf
  obtain ⟨out, hout⟩ : ∃ o, o = F_X12_wrong X σ a := ⟨_, rfl⟩
  have hF := hout.symm
  unfold F_X12_wrong at hF
  refine lv_aload_n hx hb dX12_wrong_0 rfl (lv_at hl 0 rfl) ?_
  refine lv_aload_n hx hb dX12_wrong_1 rfl (lv_at hl 0 rfl) ?_
  refine gs_X12_110_12 E hI ha dX12_wrong_2 ?_
  refine lv_topi (fun f_1 ef_1 => ?_)
  replace hF := q_letX hF ef_1
  have if_1 : f_1.toInt = (σ.1 a 14).toInt := congrArg Int32.toInt ef_1
  refine lv_iconst (v := 4) hx hb dX12_wrong_5 (by decide) ?_
  refine q_icmp_ne (A := f_1.toInt) (B := 4) E rfl (by decide) (tgt := 13) dX12_wrong_6 (by decide) (fun c_2 => ?_) (fun c_2 => ?_)
  · skip
    replace hF := q_ifn hF c_2
    refine lv_iconst (v := 2) hx hb dX12_wrong_13 (by decide) ?_
    refine lv_aload_n hx hb dX12_wrong_14 rfl (lv_at hl 0 rfl) ?_
    refine gs_X12_104_12 E hI ha dX12_wrong_15 ?_
    refine lv_topi (fun f_3 ef_3 => ?_)
    replace hF := q_letX hF ef_3
    have if_3 : f_3.toInt = (σ.1 a 15).toInt := congrArg Int32.toInt ef_3
    have kc_4 : (2 : Int32).toInt = 2 := rfl
    refine q_cv (q_runV (As := [.int 2, .int f_3]) (rest := []) E (hml.trans hl.1.symm) hI (c_X12_fail l X σ a (2 : Int32) f_3 ha (by omega) (by omega)) kv_X12_193 ha ⟨rfl, by decide⟩ (show vwCl[11]? = some (RX12, TX12, 46) from rfl) rfl ⟨Nat.le_of_ble_eq_true rfl, Nat.le_of_ble_eq_true rfl⟩ ⟨Nat.le_refl _, Nat.le_refl _⟩ rfl (Nat.le_of_ble_eq_true rfl) dX12_wrong_18) hI (by decide) (fun σ_6 H locs hpσ_6 hkσ_6 hI => ?_)
    obtain ⟨ahpσ_6, bhpσ_6, chpσ_6, dhpσ_6, ehpσ_6⟩ := hpσ_6
    have fr_σ_6 := fr_σ.call ehpσ_6 rfl rfl
    replace hF := q_letX hF dhpσ_6
    have ks_σ_6 : q_KS (fun b g => b = a ∧ 12 ≤ g ∧ g ≤ 18) 9 X σ σ_6 := ks_σ.KS ahpσ_6 (by decide) (fun _ _ h => h)
    exact q_retv E hr hlk hI ⟨ks_σ_6, (by omega), (by omega), (hF.trans hout), fr_σ_6⟩ dX12_wrong_21
  · skip
    replace hF := q_ifp hF c_2
    refine lv_iconst (v := 1) hx hb dX12_wrong_9 (by decide) ?_
    refine lv_goto (tgt := 14) hx hb dX12_wrong_10 (by decide) ?_
    refine lv_aload_n hx hb dX12_wrong_14 rfl (lv_at hl 0 rfl) ?_
    refine gs_X12_104_12 E hI ha dX12_wrong_15 ?_
    refine lv_topi (fun f_7 ef_7 => ?_)
    replace hF := q_letX hF ef_7
    have if_7 : f_7.toInt = (σ.1 a 15).toInt := congrArg Int32.toInt ef_7
    have kc_8 : (1 : Int32).toInt = 1 := rfl
    refine q_cv (q_runV (As := [.int 1, .int f_7]) (rest := []) E (hml.trans hl.1.symm) hI (c_X12_fail l X σ a (1 : Int32) f_7 ha (by omega) (by omega)) kv_X12_193 ha ⟨rfl, by decide⟩ (show vwCl[11]? = some (RX12, TX12, 46) from rfl) rfl ⟨Nat.le_of_ble_eq_true rfl, Nat.le_of_ble_eq_true rfl⟩ ⟨Nat.le_refl _, Nat.le_refl _⟩ rfl (Nat.le_of_ble_eq_true rfl) dX12_wrong_18) hI (by decide) (fun σ_10 H locs hpσ_10 hkσ_10 hI => ?_)
    obtain ⟨ahpσ_10, bhpσ_10, chpσ_10, dhpσ_10, ehpσ_10⟩ := hpσ_10
    have fr_σ_10 := fr_σ.call ehpσ_10 rfl rfl
    replace hF := q_letX hF dhpσ_10
    have ks_σ_10 : q_KS (fun b g => b = a ∧ 12 ≤ g ∧ g ≤ 18) 9 X σ σ_10 := ks_σ.KS ahpσ_10 (by decide) (fun _ _ h => h)
    exact q_retv E hr hlk hI ⟨ks_σ_10, (by omega), (by omega), (hF.trans hout), fr_σ_10⟩ dX12_wrong_21
