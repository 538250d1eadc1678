section
set_option maxRecDepth 100000 in
set_option maxHeartbeats 4000000 in
theorem c_X12_spelled (l : Launch) (X : XW) (σ : ST) (v0 : Int32) (v1 : Int32) (v2 : Int32) (v3 : Int32) (v4 : Int32) (v5 : Int32) : Met l yX12_spelled (q_ws yX12_spelled cX12_spelled 8 (some .long)) (q_rm 0 0) (q_P X σ [.int v0, .int v1, .int v2, .int v3, .int v4, .int v5]) (q_Ql X 9 σ (fun (r : Int64) (σ' : ST) => σ' = σ ∧ r = F_X12_spelled X σ v0 v1 v2 v3 v4 v5)) 0 0 (q_reg X) := by
  refine q_met 9 (by first | exact rfl | decide +kernel) rfl (Nat.le_of_ble_eq_true rfl) (fun p e s m below meth c E hml hr hlk hI ls hl => ?_)
  have hx := E.1
  have hb := E.2.1
  have hl : lv_has ls 8 [(0, .int v0), (1, .int v1), (2, .int v2), (3, .int v3), (4, .int v4), (5, .int v5)] := hl
  obtain ⟨out, hout⟩ : ∃ o, o = F_X12_spelled X σ v0 v1 v2 v3 v4 v5 := ⟨_, rfl⟩
  have hF := hout.symm
  unfold F_X12_spelled at hF
  refine lv_iload_n hx hb dX12_spelled_0 rfl (lv_at hl 0 rfl) ?_
  refine lv_i2l hx hb dX12_spelled_1 rfl ?_
  refine lv_topl (fun y_1 ey_1 => ?_)
  replace hF := q_letX hF ey_1
  refine lv_ldc2 (v := 96) hx hb E.2.2.1 (E.2.2.2.1 _ (q_in_t7 (i := 200) (by first | rfl | decide +kernel) rfl)) dX12_spelled_2 ?_
  refine lv_lsub hx hb dX12_spelled_5 ?_
  refine lv_topl (fun y_2 ey_2 => ?_)
  replace hF := q_letX hF ey_2
  refine lv_ldc2 (v := 32) hx hb E.2.2.1 (E.2.2.2.1 _ (q_in_t7 (i := 199) (by first | rfl | decide +kernel) rfl)) dX12_spelled_6 ?_
  refine lv_lmul hx hb dX12_spelled_9 ?_
  refine lv_topl (fun y_3 ey_3 => ?_)
  replace hF := q_letX hF ey_3
  refine lv_iload_n hx hb dX12_spelled_10 rfl (lv_at hl 1 rfl) ?_
  refine lv_i2l hx hb dX12_spelled_11 rfl ?_
  refine lv_topl (fun y_4 ey_4 => ?_)
  replace hF := q_letX hF ey_4
  refine lv_ladd hx hb dX12_spelled_12 ?_
  refine lv_topl (fun y_5 ey_5 => ?_)
  replace hF := q_letX hF ey_5
  refine lv_ldc2 (v := 96) hx hb E.2.2.1 (E.2.2.2.1 _ (q_in_t7 (i := 200) (by first | rfl | decide +kernel) rfl)) dX12_spelled_13 ?_
  refine lv_lsub hx hb dX12_spelled_16 ?_
  refine lv_topl (fun y_6 ey_6 => ?_)
  replace hF := q_letX hF ey_6
  refine lv_lstore (lv' := [(6, .long y_6), (0, .int v0), (1, .int v1), (2, .int v2), (3, .int v3), (4, .int v4), (5, .int v5)]) hx hb dX12_spelled_17 hl (by decide) rfl (fun ls hl => ?_)
  refine lv_iload_n hx hb dX12_spelled_19 rfl (lv_at hl 3 rfl) ?_
  refine q_if_le (A := v2.toInt) E rfl (tgt := 39) dX12_spelled_20 (by decide) (fun c_7 => ?_) (fun c_7 => ?_)
  · skip
    replace hF := q_ifn hF (Int.not_lt.mpr c_7)
    refine lv_lload hx hb dX12_spelled_39 (lv_at hl 0 rfl) ?_
    refine lv_lstore (lv' := [(6, .long y_6), (0, .int v0), (1, .int v1), (2, .int v2), (3, .int v3), (4, .int v4), (5, .int v5)]) hx hb dX12_spelled_41 hl (by decide) rfl (fun ls hl => ?_)
    refine lv_iload_n hx hb dX12_spelled_43 rfl (lv_at hl 4 rfl) ?_
    refine q_if_le (A := v3.toInt) E rfl (tgt := 63) dX12_spelled_44 (by decide) (fun c_8 => ?_) (fun c_8 => ?_)
    · skip
      replace hF := q_ifn hF (Int.not_lt.mpr c_8)
      refine lv_lload hx hb dX12_spelled_63 (lv_at hl 0 rfl) ?_
      refine lv_lstore (lv' := [(6, .long y_6), (0, .int v0), (1, .int v1), (2, .int v2), (3, .int v3), (4, .int v4), (5, .int v5)]) hx hb dX12_spelled_65 hl (by decide) rfl (fun ls hl => ?_)
      refine lv_iload hx hb dX12_spelled_67 (lv_at hl 5 rfl) ?_
      refine q_if_le (A := v4.toInt) E rfl (tgt := 89) dX12_spelled_69 (by decide) (fun c_9 => ?_) (fun c_9 => ?_)
      · skip
        replace hF := q_ifn hF (Int.not_lt.mpr c_9)
        refine lv_lload hx hb dX12_spelled_89 (lv_at hl 0 rfl) ?_
        refine lv_lstore (lv' := [(6, .long y_6), (0, .int v0), (1, .int v1), (2, .int v2), (3, .int v3), (4, .int v4), (5, .int v5)]) hx hb dX12_spelled_91 hl (by decide) rfl (fun ls hl => ?_)
        refine lv_iload hx hb dX12_spelled_93 (lv_at hl 6 rfl) ?_
        refine q_if_le (A := v5.toInt) E rfl (tgt := 115) dX12_spelled_95 (by decide) (fun c_10 => ?_) (fun c_10 => ?_)
        · skip
          replace hF := q_ifn hF (Int.not_lt.mpr c_10)
          refine lv_lload hx hb dX12_spelled_115 (lv_at hl 0 rfl) ?_
          exact q_retl E hr hlk hI ⟨rfl, (hF.trans hout)⟩ dX12_spelled_117
        · skip
          replace hF := q_ifp hF c_10
          refine lv_lload hx hb dX12_spelled_98 (lv_at hl 0 rfl) ?_
          refine lv_ldc2 (v := 32) hx hb E.2.2.1 (E.2.2.2.1 _ (q_in_t7 (i := 199) (by first | rfl | decide +kernel) rfl)) dX12_spelled_100 ?_
          refine lv_lmul hx hb dX12_spelled_103 ?_
          refine lv_topl (fun y_11 ey_11 => ?_)
          replace hF := q_letX hF ey_11
          refine lv_iload hx hb dX12_spelled_104 (lv_at hl 6 rfl) ?_
          refine lv_i2l hx hb dX12_spelled_106 rfl ?_
          refine lv_topl (fun y_12 ey_12 => ?_)
          replace hF := q_letX hF ey_12
          refine lv_ladd hx hb dX12_spelled_107 ?_
          refine lv_topl (fun y_13 ey_13 => ?_)
          replace hF := q_letX hF ey_13
          refine lv_ldc2 (v := 96) hx hb E.2.2.1 (E.2.2.2.1 _ (q_in_t7 (i := 200) (by first | rfl | decide +kernel) rfl)) dX12_spelled_108 ?_
          refine lv_lsub hx hb dX12_spelled_111 ?_
          refine lv_topl (fun y_14 ey_14 => ?_)
          replace hF := q_letX hF ey_14
          refine lv_goto (tgt := 117) hx hb dX12_spelled_112 (by decide) ?_
          exact q_retl E hr hlk hI ⟨rfl, (hF.trans hout)⟩ dX12_spelled_117
      · skip
        replace hF := q_ifp hF c_9
        refine lv_lload hx hb dX12_spelled_72 (lv_at hl 0 rfl) ?_
        refine lv_ldc2 (v := 32) hx hb E.2.2.1 (E.2.2.2.1 _ (q_in_t7 (i := 199) (by first | rfl | decide +kernel) rfl)) dX12_spelled_74 ?_
        refine lv_lmul hx hb dX12_spelled_77 ?_
        refine lv_topl (fun y_15 ey_15 => ?_)
        replace hF := q_letX hF ey_15
        refine lv_iload hx hb dX12_spelled_78 (lv_at hl 5 rfl) ?_
        refine lv_i2l hx hb dX12_spelled_80 rfl ?_
        refine lv_topl (fun y_16 ey_16 => ?_)
        replace hF := q_letX hF ey_16
        refine lv_ladd hx hb dX12_spelled_81 ?_
        refine lv_topl (fun y_17 ey_17 => ?_)
        replace hF := q_letX hF ey_17
        refine lv_ldc2 (v := 96) hx hb E.2.2.1 (E.2.2.2.1 _ (q_in_t7 (i := 200) (by first | rfl | decide +kernel) rfl)) dX12_spelled_82 ?_
        refine lv_lsub hx hb dX12_spelled_85 ?_
        refine lv_topl (fun y_18 ey_18 => ?_)
        replace hF := q_letX hF ey_18
        refine lv_goto (tgt := 91) hx hb dX12_spelled_86 (by decide) ?_
        refine lv_lstore (lv' := [(6, .long y_18), (0, .int v0), (1, .int v1), (2, .int v2), (3, .int v3), (4, .int v4), (5, .int v5)]) hx hb dX12_spelled_91 hl (by decide) rfl (fun ls hl => ?_)
        refine lv_iload hx hb dX12_spelled_93 (lv_at hl 6 rfl) ?_
        refine q_if_le (A := v5.toInt) E rfl (tgt := 115) dX12_spelled_95 (by decide) (fun c_19 => ?_) (fun c_19 => ?_)
        · skip
          replace hF := q_ifn hF (Int.not_lt.mpr c_19)
          refine lv_lload hx hb dX12_spelled_115 (lv_at hl 0 rfl) ?_
          exact q_retl E hr hlk hI ⟨rfl, (hF.trans hout)⟩ dX12_spelled_117
        · skip
          replace hF := q_ifp hF c_19
          refine lv_lload hx hb dX12_spelled_98 (lv_at hl 0 rfl) ?_
          refine lv_ldc2 (v := 32) hx hb E.2.2.1 (E.2.2.2.1 _ (q_in_t7 (i := 199) (by first | rfl | decide +kernel) rfl)) dX12_spelled_100 ?_
          refine lv_lmul hx hb dX12_spelled_103 ?_
          refine lv_topl (fun y_20 ey_20 => ?_)
          replace hF := q_letX hF ey_20
          refine lv_iload hx hb dX12_spelled_104 (lv_at hl 6 rfl) ?_
          refine lv_i2l hx hb dX12_spelled_106 rfl ?_
          refine lv_topl (fun y_21 ey_21 => ?_)
          replace hF := q_letX hF ey_21
          refine lv_ladd hx hb dX12_spelled_107 ?_
          refine lv_topl (fun y_22 ey_22 => ?_)
          replace hF := q_letX hF ey_22
          refine lv_ldc2 (v := 96) hx hb E.2.2.1 (E.2.2.2.1 _ (q_in_t7 (i := 200) (by first | rfl | decide +kernel) rfl)) dX12_spelled_108 ?_
          refine lv_lsub hx hb dX12_spelled_111 ?_
          refine lv_topl (fun y_23 ey_23 => ?_)
          replace hF := q_letX hF ey_23
          refine lv_goto (tgt := 117) hx hb dX12_spelled_112 (by decide) ?_
          exact q_retl E hr hlk hI ⟨rfl, (hF.trans hout)⟩ dX12_spelled_117
    · skip
      replace hF := q_ifp hF c_8
      refine lv_lload hx hb dX12_spelled_47 (lv_at hl 0 rfl) ?_
      refine lv_ldc2 (v := 32) hx hb E.2.2.1 (E.2.2.2.1 _ (q_in_t7 (i := 199) (by first | rfl | decide +kernel) rfl)) dX12_spelled_49 ?_
      refine lv_lmul hx hb dX12_spelled_52 ?_
      refine lv_topl (fun y_24 ey_24 => ?_)
      replace hF := q_letX hF ey_24
      refine lv_iload_n hx hb dX12_spelled_53 rfl (lv_at hl 4 rfl) ?_
      refine lv_i2l hx hb dX12_spelled_54 rfl ?_
      refine lv_topl (fun y_25 ey_25 => ?_)
      replace hF := q_letX hF ey_25
      refine lv_ladd hx hb dX12_spelled_55 ?_
      refine lv_topl (fun y_26 ey_26 => ?_)
      replace hF := q_letX hF ey_26
      refine lv_ldc2 (v := 96) hx hb E.2.2.1 (E.2.2.2.1 _ (q_in_t7 (i := 200) (by first | rfl | decide +kernel) rfl)) dX12_spelled_56 ?_
      refine lv_lsub hx hb dX12_spelled_59 ?_
      refine lv_topl (fun y_27 ey_27 => ?_)
      replace hF := q_letX hF ey_27
      refine lv_goto (tgt := 65) hx hb dX12_spelled_60 (by decide) ?_
      refine lv_lstore (lv' := [(6, .long y_27), (0, .int v0), (1, .int v1), (2, .int v2), (3, .int v3), (4, .int v4), (5, .int v5)]) hx hb dX12_spelled_65 hl (by decide) rfl (fun ls hl => ?_)
      refine lv_iload hx hb dX12_spelled_67 (lv_at hl 5 rfl) ?_
      refine q_if_le (A := v4.toInt) E rfl (tgt := 89) dX12_spelled_69 (by decide) (fun c_28 => ?_) (fun c_28 => ?_)
      · skip
        replace hF := q_ifn hF (Int.not_lt.mpr c_28)
        refine lv_lload hx hb dX12_spelled_89 (lv_at hl 0 rfl) ?_
        refine lv_lstore (lv' := [(6, .long y_27), (0, .int v0), (1, .int v1), (2, .int v2), (3, .int v3), (4, .int v4), (5, .int v5)]) hx hb dX12_spelled_91 hl (by decide) rfl (fun ls hl => ?_)
        refine lv_iload hx hb dX12_spelled_93 (lv_at hl 6 rfl) ?_
        refine q_if_le (A := v5.toInt) E rfl (tgt := 115) dX12_spelled_95 (by decide) (fun c_29 => ?_) (fun c_29 => ?_)
        · skip
          replace hF := q_ifn hF (Int.not_lt.mpr c_29)
          refine lv_lload hx hb dX12_spelled_115 (lv_at hl 0 rfl) ?_
          exact q_retl E hr hlk hI ⟨rfl, (hF.trans hout)⟩ dX12_spelled_117
        · skip
          replace hF := q_ifp hF c_29
          refine lv_lload hx hb dX12_spelled_98 (lv_at hl 0 rfl) ?_
          refine lv_ldc2 (v := 32) hx hb E.2.2.1 (E.2.2.2.1 _ (q_in_t7 (i := 199) (by first | rfl | decide +kernel) rfl)) dX12_spelled_100 ?_
          refine lv_lmul hx hb dX12_spelled_103 ?_
          refine lv_topl (fun y_30 ey_30 => ?_)
          replace hF := q_letX hF ey_30
          refine lv_iload hx hb dX12_spelled_104 (lv_at hl 6 rfl) ?_
          refine lv_i2l hx hb dX12_spelled_106 rfl ?_
          refine lv_topl (fun y_31 ey_31 => ?_)
          replace hF := q_letX hF ey_31
          refine lv_ladd hx hb dX12_spelled_107 ?_
          refine lv_topl (fun y_32 ey_32 => ?_)
          replace hF := q_letX hF ey_32
          refine lv_ldc2 (v := 96) hx hb E.2.2.1 (E.2.2.2.1 _ (q_in_t7 (i := 200) (by first | rfl | decide +kernel) rfl)) dX12_spelled_108 ?_
          refine lv_lsub hx hb dX12_spelled_111 ?_
          refine lv_topl (fun y_33 ey_33 => ?_)
          replace hF := q_letX hF ey_33
          refine lv_goto (tgt := 117) hx hb dX12_spelled_112 (by decide) ?_
          exact q_retl E hr hlk hI ⟨rfl, (hF.trans hout)⟩ dX12_spelled_117
      · skip
        replace hF := q_ifp hF c_28
        refine lv_lload hx hb dX12_spelled_72 (lv_at hl 0 rfl) ?_
        refine lv_ldc2 (v := 32) hx hb E.2.2.1 (E.2.2.2.1 _ (q_in_t7 (i := 199) (by first | rfl | decide +kernel) rfl)) dX12_spelled_74 ?_
        refine lv_lmul hx hb dX12_spelled_77 ?_
        refine lv_topl (fun y_34 ey_34 => ?_)
        replace hF := q_letX hF ey_34
        refine lv_iload hx hb dX12_spelled_78 (lv_at hl 5 rfl) ?_
        refine lv_i2l hx hb dX12_spelled_80 rfl ?_
        refine lv_topl (fun y_35 ey_35 => ?_)
        replace hF := q_letX hF ey_35
        refine lv_ladd hx hb dX12_spelled_81 ?_
        refine lv_topl (fun y_36 ey_36 => ?_)
        replace hF := q_letX hF ey_36
        refine lv_ldc2 (v := 96) hx hb E.2.2.1 (E.2.2.2.1 _ (q_in_t7 (i := 200) (by first | rfl | decide +kernel) rfl)) dX12_spelled_82 ?_
        refine lv_lsub hx hb dX12_spelled_85 ?_
        refine lv_topl (fun y_37 ey_37 => ?_)
        replace hF := q_letX hF ey_37
        refine lv_goto (tgt := 91) hx hb dX12_spelled_86 (by decide) ?_
        refine lv_lstore (lv' := [(6, .long y_37), (0, .int v0), (1, .int v1), (2, .int v2), (3, .int v3), (4, .int v4), (5, .int v5)]) hx hb dX12_spelled_91 hl (by decide) rfl (fun ls hl => ?_)
        refine lv_iload hx hb dX12_spelled_93 (lv_at hl 6 rfl) ?_
        refine q_if_le (A := v5.toInt) E rfl (tgt := 115) dX12_spelled_95 (by decide) (fun c_38 => ?_) (fun c_38 => ?_)
        · skip
          replace hF := q_ifn hF (Int.not_lt.mpr c_38)
          refine lv_lload hx hb dX12_spelled_115 (lv_at hl 0 rfl) ?_
          exact q_retl E hr hlk hI ⟨rfl, (hF.trans hout)⟩ dX12_spelled_117
        · skip
          replace hF := q_ifp hF c_38
          refine lv_lload hx hb dX12_spelled_98 (lv_at hl 0 rfl) ?_
          refine lv_ldc2 (v := 32) hx hb E.2.2.1 (E.2.2.2.1 _ (q_in_t7 (i := 199) (by first | rfl | decide +kernel) rfl)) dX12_spelled_100 ?_
          refine lv_lmul hx hb dX12_spelled_103 ?_
          refine lv_topl (fun y_39 ey_39 => ?_)
          replace hF := q_letX hF ey_39
          refine lv_iload hx hb dX12_spelled_104 (lv_at hl 6 rfl) ?_
          refine lv_i2l hx hb dX12_spelled_106 rfl ?_
          refine lv_topl (fun y_40 ey_40 => ?_)
          replace hF := q_letX hF ey_40
          refine lv_ladd hx hb dX12_spelled_107 ?_
          refine lv_topl (fun y_41 ey_41 => ?_)
          replace hF := q_letX hF ey_41
          refine lv_ldc2 (v := 96) hx hb E.2.2.1 (E.2.2.2.1 _ (q_in_t7 (i := 200) (by first | rfl | decide +kernel) rfl)) dX12_spelled_108 ?_
          refine lv_lsub hx hb dX12_spelled_111 ?_
          refine lv_topl (fun y_42 ey_42 => ?_)
          replace hF := q_letX hF ey_42
          refine lv_goto (tgt := 117) hx hb dX12_spelled_112 (by decide) ?_
          exact q_retl E hr hlk hI ⟨rfl, (hF.trans hout)⟩ dX12_spelled_117
  · skip
    replace hF := q_ifp hF c_7
    refine lv_lload hx hb dX12_spelled_23 (lv_at hl 0 rfl) ?_
    refine lv_ldc2 (v := 32) hx hb E.2.2.1 (E.2.2.2.1 _ (q_in_t7 (i := 199) (by first | rfl | decide +kernel) rfl)) dX12_spelled_25 ?_
    refine lv_lmul hx hb dX12_spelled_28 ?_
    refine lv_topl (fun y_43 ey_43 => ?_)
    replace hF := q_letX hF ey_43
    refine lv_iload_n hx hb dX12_spelled_29 rfl (lv_at hl 3 rfl) ?_
    refine lv_i2l hx hb dX12_spelled_30 rfl ?_
    refine lv_topl (fun y_44 ey_44 => ?_)
    replace hF := q_letX hF ey_44
    refine lv_ladd hx hb dX12_spelled_31 ?_
    refine lv_topl (fun y_45 ey_45 => ?_)
    replace hF := q_letX hF ey_45
    refine lv_ldc2 (v := 96) hx hb E.2.2.1 (E.2.2.2.1 _ (q_in_t7 (i := 200) (by first | rfl | decide +kernel) rfl)) dX12_spelled_32 ?_
    refine lv_lsub hx hb dX12_spelled_35 ?_
    refine lv_topl (fun y_46 ey_46 => ?_)
    replace hF := q_letX hF ey_46
    refine lv_goto (tgt := 41) hx hb dX12_spelled_36 (by decide) ?_
    refine lv_lstore (lv' := [(6, .long y_46), (0, .int v0), (1, .int v1), (2, .int v2), (3, .int v3), (4, .int v4), (5, .int v5)]) hx hb dX12_spelled_41 hl (by decide) rfl (fun ls hl => ?_)
    refine lv_iload_n hx hb dX12_spelled_43 rfl (lv_at hl 4 rfl) ?_
    refine q_if_le (A := v3.toInt) E rfl (tgt := 63) dX12_spelled_44 (by decide) (fun c_47 => ?_) (fun c_47 => ?_)
    · skip
      replace hF := q_ifn hF (Int.not_lt.mpr c_47)
      refine lv_lload hx hb dX12_spelled_63 (lv_at hl 0 rfl) ?_
      refine lv_lstore (lv' := [(6, .long y_46), (0, .int v0), (1, .int v1), (2, .int v2), (3, .int v3), (4, .int v4), (5, .int v5)]) hx hb dX12_spelled_65 hl (by decide) rfl (fun ls hl => ?_)
      refine lv_iload hx hb dX12_spelled_67 (lv_at hl 5 rfl) ?_
      refine q_if_le (A := v4.toInt) E rfl (tgt := 89) dX12_spelled_69 (by decide) (fun c_48 => ?_) (fun c_48 => ?_)
      · skip
        replace hF := q_ifn hF (Int.not_lt.mpr c_48)
        refine lv_lload hx hb dX12_spelled_89 (lv_at hl 0 rfl) ?_
        refine lv_lstore (lv' := [(6, .long y_46), (0, .int v0), (1, .int v1), (2, .int v2), (3, .int v3), (4, .int v4), (5, .int v5)]) hx hb dX12_spelled_91 hl (by decide) rfl (fun ls hl => ?_)
        refine lv_iload hx hb dX12_spelled_93 (lv_at hl 6 rfl) ?_
        refine q_if_le (A := v5.toInt) E rfl (tgt := 115) dX12_spelled_95 (by decide) (fun c_49 => ?_) (fun c_49 => ?_)
        · skip
          replace hF := q_ifn hF (Int.not_lt.mpr c_49)
          refine lv_lload hx hb dX12_spelled_115 (lv_at hl 0 rfl) ?_
          exact q_retl E hr hlk hI ⟨rfl, (hF.trans hout)⟩ dX12_spelled_117
        · skip
          replace hF := q_ifp hF c_49
          refine lv_lload hx hb dX12_spelled_98 (lv_at hl 0 rfl) ?_
          refine lv_ldc2 (v := 32) hx hb E.2.2.1 (E.2.2.2.1 _ (q_in_t7 (i := 199) (by first | rfl | decide +kernel) rfl)) dX12_spelled_100 ?_
          refine lv_lmul hx hb dX12_spelled_103 ?_
          refine lv_topl (fun y_50 ey_50 => ?_)
          replace hF := q_letX hF ey_50
          refine lv_iload hx hb dX12_spelled_104 (lv_at hl 6 rfl) ?_
          refine lv_i2l hx hb dX12_spelled_106 rfl ?_
          refine lv_topl (fun y_51 ey_51 => ?_)
          replace hF := q_letX hF ey_51
          refine lv_ladd hx hb dX12_spelled_107 ?_
          refine lv_topl (fun y_52 ey_52 => ?_)
          replace hF := q_letX hF ey_52
          refine lv_ldc2 (v := 96) hx hb E.2.2.1 (E.2.2.2.1 _ (q_in_t7 (i := 200) (by first | rfl | decide +kernel) rfl)) dX12_spelled_108 ?_
          refine lv_lsub hx hb dX12_spelled_111 ?_
          refine lv_topl (fun y_53 ey_53 => ?_)
          replace hF := q_letX hF ey_53
          refine lv_goto (tgt := 117) hx hb dX12_spelled_112 (by decide) ?_
          exact q_retl E hr hlk hI ⟨rfl, (hF.trans hout)⟩ dX12_spelled_117
      · skip
        replace hF := q_ifp hF c_48
        refine lv_lload hx hb dX12_spelled_72 (lv_at hl 0 rfl) ?_
        refine lv_ldc2 (v := 32) hx hb E.2.2.1 (E.2.2.2.1 _ (q_in_t7 (i := 199) (by first | rfl | decide +kernel) rfl)) dX12_spelled_74 ?_
        refine lv_lmul hx hb dX12_spelled_77 ?_
        refine lv_topl (fun y_54 ey_54 => ?_)
        replace hF := q_letX hF ey_54
        refine lv_iload hx hb dX12_spelled_78 (lv_at hl 5 rfl) ?_
        refine lv_i2l hx hb dX12_spelled_80 rfl ?_
        refine lv_topl (fun y_55 ey_55 => ?_)
        replace hF := q_letX hF ey_55
        refine lv_ladd hx hb dX12_spelled_81 ?_
        refine lv_topl (fun y_56 ey_56 => ?_)
        replace hF := q_letX hF ey_56
        refine lv_ldc2 (v := 96) hx hb E.2.2.1 (E.2.2.2.1 _ (q_in_t7 (i := 200) (by first | rfl | decide +kernel) rfl)) dX12_spelled_82 ?_
        refine lv_lsub hx hb dX12_spelled_85 ?_
        refine lv_topl (fun y_57 ey_57 => ?_)
        replace hF := q_letX hF ey_57
        refine lv_goto (tgt := 91) hx hb dX12_spelled_86 (by decide) ?_
        refine lv_lstore (lv' := [(6, .long y_57), (0, .int v0), (1, .int v1), (2, .int v2), (3, .int v3), (4, .int v4), (5, .int v5)]) hx hb dX12_spelled_91 hl (by decide) rfl (fun ls hl => ?_)
        refine lv_iload hx hb dX12_spelled_93 (lv_at hl 6 rfl) ?_
        refine q_if_le (A := v5.toInt) E rfl (tgt := 115) dX12_spelled_95 (by decide) (fun c_58 => ?_) (fun c_58 => ?_)
        · skip
          replace hF := q_ifn hF (Int.not_lt.mpr c_58)
          refine lv_lload hx hb dX12_spelled_115 (lv_at hl 0 rfl) ?_
          exact q_retl E hr hlk hI ⟨rfl, (hF.trans hout)⟩ dX12_spelled_117
        · skip
          replace hF := q_ifp hF c_58
          refine lv_lload hx hb dX12_spelled_98 (lv_at hl 0 rfl) ?_
          refine lv_ldc2 (v := 32) hx hb E.2.2.1 (E.2.2.2.1 _ (q_in_t7 (i := 199) (by first | rfl | decide +kernel) rfl)) dX12_spelled_100 ?_
          refine lv_lmul hx hb dX12_spelled_103 ?_
          refine lv_topl (fun y_59 ey_59 => ?_)
          replace hF := q_letX hF ey_59
          refine lv_iload hx hb dX12_spelled_104 (lv_at hl 6 rfl) ?_
          refine lv_i2l hx hb dX12_spelled_106 rfl ?_
          refine lv_topl (fun y_60 ey_60 => ?_)
          replace hF := q_letX hF ey_60
          refine lv_ladd hx hb dX12_spelled_107 ?_
          refine lv_topl (fun y_61 ey_61 => ?_)
          replace hF := q_letX hF ey_61
          refine lv_ldc2 (v := 96) hx hb E.2.2.1 (E.2.2.2.1 _ (q_in_t7 (i := 200) (by first | rfl | decide +kernel) rfl)) dX12_spelled_108 ?_
          refine lv_lsub hx hb dX12_spelled_111 ?_
          refine lv_topl (fun y_62 ey_62 => ?_)
          replace hF := q_letX hF ey_62
          refine lv_goto (tgt := 117) hx hb dX12_spelled_112 (by decide) ?_
          exact q_retl E hr hlk hI ⟨rfl, (hF.trans hout)⟩ dX12_spelled_117
    · skip
      replace hF := q_ifp hF c_47
      refine lv_lload hx hb dX12_spelled_47 (lv_at hl 0 rfl) ?_
      refine lv_ldc2 (v := 32) hx hb E.2.2.1 (E.2.2.2.1 _ (q_in_t7 (i := 199) (by first | rfl | decide +kernel) rfl)) dX12_spelled_49 ?_
      refine lv_lmul hx hb dX12_spelled_52 ?_
      refine lv_topl (fun y_63 ey_63 => ?_)
      replace hF := q_letX hF ey_63
      refine lv_iload_n hx hb dX12_spelled_53 rfl (lv_at hl 4 rfl) ?_
      refine lv_i2l hx hb dX12_spelled_54 rfl ?_
      refine lv_topl (fun y_64 ey_64 => ?_)
      replace hF := q_letX hF ey_64
      refine lv_ladd hx hb dX12_spelled_55 ?_
      refine lv_topl (fun y_65 ey_65 => ?_)
      replace hF := q_letX hF ey_65
      refine lv_ldc2 (v := 96) hx hb E.2.2.1 (E.2.2.2.1 _ (q_in_t7 (i := 200) (by first | rfl | decide +kernel) rfl)) dX12_spelled_56 ?_
      refine lv_lsub hx hb dX12_spelled_59 ?_
      refine lv_topl (fun y_66 ey_66 => ?_)
      replace hF := q_letX hF ey_66
      refine lv_goto (tgt := 65) hx hb dX12_spelled_60 (by decide) ?_
      refine lv_lstore (lv' := [(6, .long y_66), (0, .int v0), (1, .int v1), (2, .int v2), (3, .int v3), (4, .int v4), (5, .int v5)]) hx hb dX12_spelled_65 hl (by decide) rfl (fun ls hl => ?_)
      refine lv_iload hx hb dX12_spelled_67 (lv_at hl 5 rfl) ?_
      refine q_if_le (A := v4.toInt) E rfl (tgt := 89) dX12_spelled_69 (by decide) (fun c_67 => ?_) (fun c_67 => ?_)
      · skip
        replace hF := q_ifn hF (Int.not_lt.mpr c_67)
        refine lv_lload hx hb dX12_spelled_89 (lv_at hl 0 rfl) ?_
        refine lv_lstore (lv' := [(6, .long y_66), (0, .int v0), (1, .int v1), (2, .int v2), (3, .int v3), (4, .int v4), (5, .int v5)]) hx hb dX12_spelled_91 hl (by decide) rfl (fun ls hl => ?_)
        refine lv_iload hx hb dX12_spelled_93 (lv_at hl 6 rfl) ?_
        refine q_if_le (A := v5.toInt) E rfl (tgt := 115) dX12_spelled_95 (by decide) (fun c_68 => ?_) (fun c_68 => ?_)
        · skip
          replace hF := q_ifn hF (Int.not_lt.mpr c_68)
          refine lv_lload hx hb dX12_spelled_115 (lv_at hl 0 rfl) ?_
          exact q_retl E hr hlk hI ⟨rfl, (hF.trans hout)⟩ dX12_spelled_117
        · skip
          replace hF := q_ifp hF c_68
          refine lv_lload hx hb dX12_spelled_98 (lv_at hl 0 rfl) ?_
          refine lv_ldc2 (v := 32) hx hb E.2.2.1 (E.2.2.2.1 _ (q_in_t7 (i := 199) (by first | rfl | decide +kernel) rfl)) dX12_spelled_100 ?_
          refine lv_lmul hx hb dX12_spelled_103 ?_
          refine lv_topl (fun y_69 ey_69 => ?_)
          replace hF := q_letX hF ey_69
          refine lv_iload hx hb dX12_spelled_104 (lv_at hl 6 rfl) ?_
          refine lv_i2l hx hb dX12_spelled_106 rfl ?_
          refine lv_topl (fun y_70 ey_70 => ?_)
          replace hF := q_letX hF ey_70
          refine lv_ladd hx hb dX12_spelled_107 ?_
          refine lv_topl (fun y_71 ey_71 => ?_)
          replace hF := q_letX hF ey_71
          refine lv_ldc2 (v := 96) hx hb E.2.2.1 (E.2.2.2.1 _ (q_in_t7 (i := 200) (by first | rfl | decide +kernel) rfl)) dX12_spelled_108 ?_
          refine lv_lsub hx hb dX12_spelled_111 ?_
          refine lv_topl (fun y_72 ey_72 => ?_)
          replace hF := q_letX hF ey_72
          refine lv_goto (tgt := 117) hx hb dX12_spelled_112 (by decide) ?_
          exact q_retl E hr hlk hI ⟨rfl, (hF.trans hout)⟩ dX12_spelled_117
      · skip
        replace hF := q_ifp hF c_67
        refine lv_lload hx hb dX12_spelled_72 (lv_at hl 0 rfl) ?_
        refine lv_ldc2 (v := 32) hx hb E.2.2.1 (E.2.2.2.1 _ (q_in_t7 (i := 199) (by first | rfl | decide +kernel) rfl)) dX12_spelled_74 ?_
        refine lv_lmul hx hb dX12_spelled_77 ?_
        refine lv_topl (fun y_73 ey_73 => ?_)
        replace hF := q_letX hF ey_73
        refine lv_iload hx hb dX12_spelled_78 (lv_at hl 5 rfl) ?_
        refine lv_i2l hx hb dX12_spelled_80 rfl ?_
        refine lv_topl (fun y_74 ey_74 => ?_)
        replace hF := q_letX hF ey_74
        refine lv_ladd hx hb dX12_spelled_81 ?_
        refine lv_topl (fun y_75 ey_75 => ?_)
        replace hF := q_letX hF ey_75
        refine lv_ldc2 (v := 96) hx hb E.2.2.1 (E.2.2.2.1 _ (q_in_t7 (i := 200) (by first | rfl | decide +kernel) rfl)) dX12_spelled_82 ?_
        refine lv_lsub hx hb dX12_spelled_85 ?_
        refine lv_topl (fun y_76 ey_76 => ?_)
        replace hF := q_letX hF ey_76
        refine lv_goto (tgt := 91) hx hb dX12_spelled_86 (by decide) ?_
        refine lv_lstore (lv' := [(6, .long y_76), (0, .int v0), (1, .int v1), (2, .int v2), (3, .int v3), (4, .int v4), (5, .int v5)]) hx hb dX12_spelled_91 hl (by decide) rfl (fun ls hl => ?_)
        refine lv_iload hx hb dX12_spelled_93 (lv_at hl 6 rfl) ?_
        refine q_if_le (A := v5.toInt) E rfl (tgt := 115) dX12_spelled_95 (by decide) (fun c_77 => ?_) (fun c_77 => ?_)
        · skip
          replace hF := q_ifn hF (Int.not_lt.mpr c_77)
          refine lv_lload hx hb dX12_spelled_115 (lv_at hl 0 rfl) ?_
          exact q_retl E hr hlk hI ⟨rfl, (hF.trans hout)⟩ dX12_spelled_117
        · skip
          replace hF := q_ifp hF c_77
          refine lv_lload hx hb dX12_spelled_98 (lv_at hl 0 rfl) ?_
          refine lv_ldc2 (v := 32) hx hb E.2.2.1 (E.2.2.2.1 _ (q_in_t7 (i := 199) (by first | rfl | decide +kernel) rfl)) dX12_spelled_100 ?_
          refine lv_lmul hx hb dX12_spelled_103 ?_
          refine lv_topl (fun y_78 ey_78 => ?_)
          replace hF := q_letX hF ey_78
          refine lv_iload hx hb dX12_spelled_104 (lv_at hl 6 rfl) ?_
          refine lv_i2l hx hb dX12_spelled_106 rfl ?_
          refine lv_topl (fun y_79 ey_79 => ?_)
          replace hF := q_letX hF ey_79
          refine lv_ladd hx hb dX12_spelled_107 ?_
          refine lv_topl (fun y_80 ey_80 => ?_)
          replace hF := q_letX hF ey_80
          refine lv_ldc2 (v := 96) hx hb E.2.2.1 (E.2.2.2.1 _ (q_in_t7 (i := 200) (by first | rfl | decide +kernel) rfl)) dX12_spelled_108 ?_
          refine lv_lsub hx hb dX12_spelled_111 ?_
          refine lv_topl (fun y_81 ey_81 => ?_)
          replace hF := q_letX hF ey_81
          refine lv_goto (tgt := 117) hx hb dX12_spelled_112 (by decide) ?_
          exact q_retl E hr hlk hI ⟨rfl, (hF.trans hout)⟩ dX12_spelled_117
end
