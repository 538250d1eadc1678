theorem q_inc {x z : Int32} (e : z = x + 1) (h : x.toInt < 2147483647) : z.toInt = x.toInt + 1 := by
  have h0 := q_rng x
  have h1 : (1 : Int32).toInt = 1 := rfl
  have h2 := q_add e (by rw [h1]; omega) (by rw [h1]; omega)
  rw [h2, h1]
theorem q_dec {x z : Int32} (e : z = x + (-1)) (h : -2147483648 < x.toInt) : z.toInt = x.toInt - 1 := by
  have h0 := q_rng x
  have h1 : (-1 : Int32).toInt = -1 := rfl
  have h2 := q_add e (by rw [h1]; omega) (by rw [h1]; omega)
  rw [h2, h1]
  omega
section QT
variable {p : Program} {l : Launch} {e : Env} {R : Room} {s : State} {m : MethodId} {args : Array Value} {below : List Frame} {meth : Method} {c : Code} {H : Heap} {locs : List Loc} {cells slots : Nat} {cc : ByteArray} {own : String} {X : XW} {n : Nat} {σ0 σ : ST} {pc : Nat} {ls : Array Slot} {rest st : List Value}
/-- a call on a String constant -/
theorem q_runT (E : q_E p c cc s m args own X) (hml : c.maxLocals = ls.size) (hI : q_I X n σ0 s.heap locs σ H) {As : List Value} {i index mL na f w : Nat} {y : MethodName} {bytes : ByteArray} {ret : Option FieldType} {Qc : Array Value → State → Outcome → State → Prop}
    (hM : Met l y (q_ws y bytes mL ret) (q_rm f w) (q_P X σ (.ref (q_sk X i) :: As)) Qc 0 0 (q_reg X)) (ok : q_okV own index "java/lang/String" y bytes mL ret na) (hi : i < 22) (hn : As.length = na) (hR : f + 1 ≤ R.frames ∧ 8 + (mL + 11) + w ≤ R.locals) (hcs : cells ≤ R.cells ∧ slots ≤ R.slots)
    (hst : st = As.reverse ++ .ref (q_sk X i) :: rest) (hW : (rest.map fun v => v.category).sum ≤ 8) (hdg : decode cc pc = .ok (.invokevirtual index, 3)) :
    va_Run p l e R s m args below meth c H locs cells slots 0 0 (F0 m pc ls st) rest (Qc (Value.ref (q_sk X i) :: As).toArray) (q_reg X) := by
  obtain ⟨o1, o2, o3, o4, o5, o6⟩ := ok
  refine va_runV (nL := ls.size) (q_fix E hml) hM (cwV na E.2.2.2.1 (q_goodIn fun w hw => ?_) rfl rfl rfl o6 hR) ⟨q_blind, vk_recv E.2.2.2.2.2.1 hi hI.S, (q_preS E hI (.ref (q_sk X i) :: As)).2⟩ rfl hn rfl hst (lv_room hW) hdg hcs
  unfold wsV at hw
  rcases List.mem_append.mp hw with h | h
  · simp only [List.mem_cons, List.not_mem_nil, or_false] at h
    rcases h with rfl | rfl | rfl | rfl
    · exact o1
    · exact o2
    · exact o3
    · exact o4
  · rcases List.mem_cons.mp h with rfl | h
    · exact o5
    · exact h
end QT
theorem q_in_all {C : String} {T : u_T} {N : Nat} (h : ∀ k, k < N → u_lay C T k ∈ q_tbl) : ∀ w ∈ u_ws C T N, w ∈ q_tbl := fun w hw => by
  obtain ⟨k, hk, e⟩ := List.mem_map.mp hw
  rw [← e]
  exact h k (List.mem_range.mp hk)
theorem q_inX0 : ∀ w ∈ u_ws RX0 TX0 15, w ∈ q_tbl := q_in_all (fun k hk => match k, hk with
  | 0, _ => q_in_t2 (i := 26) (by first | rfl | decide +kernel) rfl
  | 1, _ => q_in_t2 (i := 28) (by first | rfl | decide +kernel) rfl
  | 2, _ => q_in_t2 (i := 30) (by first | rfl | decide +kernel) rfl
  | 3, _ => q_in_t2 (i := 32) (by first | rfl | decide +kernel) rfl
  | 4, _ => q_in_t2 (i := 34) (by first | rfl | decide +kernel) rfl
  | 5, _ => q_in_t2 (i := 36) (by first | rfl | decide +kernel) rfl
  | 6, _ => q_in_t2 (i := 38) (by first | rfl | decide +kernel) rfl
  | 7, _ => q_in_t2 (i := 40) (by first | rfl | decide +kernel) rfl
  | 8, _ => q_in_t2 (i := 42) (by first | rfl | decide +kernel) rfl
  | 9, _ => q_in_t2 (i := 44) (by first | rfl | decide +kernel) rfl
  | 10, _ => q_in_t2 (i := 46) (by first | rfl | decide +kernel) rfl
  | 11, _ => q_in_t2 (i := 48) (by first | rfl | decide +kernel) rfl
  | 12, _ => q_in_t2 (i := 50) (by first | rfl | decide +kernel) rfl
  | 13, _ => q_in_t2 (i := 52) (by first | rfl | decide +kernel) rfl
  | 14, _ => q_in_t2 (i := 54) (by first | rfl | decide +kernel) rfl
  | k + 15, hk => absurd hk (by omega))
theorem q_inX1 : ∀ w ∈ u_ws RX1 TX1 7, w ∈ q_tbl := q_in_all (fun k hk => match k, hk with
  | 0, _ => q_in_t1 (i := 130) (by first | rfl | decide +kernel) rfl
  | 1, _ => q_in_t1 (i := 132) (by first | rfl | decide +kernel) rfl
  | 2, _ => q_in_t1 (i := 134) (by first | rfl | decide +kernel) rfl
  | 3, _ => q_in_t1 (i := 136) (by first | rfl | decide +kernel) rfl
  | 4, _ => q_in_t1 (i := 138) (by first | rfl | decide +kernel) rfl
  | 5, _ => q_in_t1 (i := 140) (by first | rfl | decide +kernel) rfl
  | 6, _ => q_in_t1 (i := 142) (by first | rfl | decide +kernel) rfl
  | k + 7, hk => absurd hk (by omega))
theorem q_inX2 : ∀ w ∈ u_ws RX2 TX2 6, w ∈ q_tbl := q_in_all (fun k hk => match k, hk with
  | 0, _ => q_in_t1 (i := 166) (by first | rfl | decide +kernel) rfl
  | 1, _ => q_in_t1 (i := 168) (by first | rfl | decide +kernel) rfl
  | 2, _ => q_in_t1 (i := 170) (by first | rfl | decide +kernel) rfl
  | 3, _ => q_in_t1 (i := 172) (by first | rfl | decide +kernel) rfl
  | 4, _ => q_in_t1 (i := 174) (by first | rfl | decide +kernel) rfl
  | 5, _ => q_in_t1 (i := 176) (by first | rfl | decide +kernel) rfl
  | k + 6, hk => absurd hk (by omega))
theorem q_inX4 : ∀ w ∈ u_ws RX4 TX4 11, w ∈ q_tbl := q_in_all (fun k hk => match k, hk with
  | 0, _ => q_in_t2 (i := 137) (by first | rfl | decide +kernel) rfl
  | 1, _ => q_in_t2 (i := 138) (by first | rfl | decide +kernel) rfl
  | 2, _ => q_in_t2 (i := 139) (by first | rfl | decide +kernel) rfl
  | 3, _ => q_in_t2 (i := 140) (by first | rfl | decide +kernel) rfl
  | 4, _ => q_in_t2 (i := 141) (by first | rfl | decide +kernel) rfl
  | 5, _ => q_in_t2 (i := 142) (by first | rfl | decide +kernel) rfl
  | 6, _ => q_in_t2 (i := 143) (by first | rfl | decide +kernel) rfl
  | 7, _ => q_in_t2 (i := 144) (by first | rfl | decide +kernel) rfl
  | 8, _ => q_in_t2 (i := 131) (by first | rfl | decide +kernel) rfl
  | 9, _ => q_in_t2 (i := 133) (by first | rfl | decide +kernel) rfl
  | 10, _ => q_in_t2 (i := 135) (by first | rfl | decide +kernel) rfl
  | k + 11, hk => absurd hk (by omega))
theorem q_inX5 : ∀ w ∈ u_ws RX5 TX5 1, w ∈ q_tbl := q_in_all (fun k hk => match k, hk with
  | 0, _ => q_in_t1 (i := 52) (by first | rfl | decide +kernel) rfl
  | k + 1, hk => absurd hk (by omega))
theorem q_inX6 : ∀ w ∈ u_ws RX6 TX6 8, w ∈ q_tbl := q_in_all (fun k hk => match k, hk with
  | 0, _ => q_in_t1 (i := 84) (by first | rfl | decide +kernel) rfl
  | 1, _ => q_in_t1 (i := 86) (by first | rfl | decide +kernel) rfl
  | 2, _ => q_in_t1 (i := 88) (by first | rfl | decide +kernel) rfl
  | 3, _ => q_in_t1 (i := 90) (by first | rfl | decide +kernel) rfl
  | 4, _ => q_in_t1 (i := 92) (by first | rfl | decide +kernel) rfl
  | 5, _ => q_in_t1 (i := 94) (by first | rfl | decide +kernel) rfl
  | 6, _ => q_in_t1 (i := 96) (by first | rfl | decide +kernel) rfl
  | 7, _ => q_in_t1 (i := 98) (by first | rfl | decide +kernel) rfl
  | k + 8, hk => absurd hk (by omega))
theorem q_inX7 : ∀ w ∈ u_ws RX7 TX7 8, w ∈ q_tbl := q_in_all (fun k hk => match k, hk with
  | 0, _ => q_in_t2 (i := 168) (by first | rfl | decide +kernel) rfl
  | 1, _ => q_in_t2 (i := 170) (by first | rfl | decide +kernel) rfl
  | 2, _ => q_in_t2 (i := 172) (by first | rfl | decide +kernel) rfl
  | 3, _ => q_in_t2 (i := 174) (by first | rfl | decide +kernel) rfl
  | 4, _ => q_in_t2 (i := 176) (by first | rfl | decide +kernel) rfl
  | 5, _ => q_in_t2 (i := 178) (by first | rfl | decide +kernel) rfl
  | 6, _ => q_in_t2 (i := 180) (by first | rfl | decide +kernel) rfl
  | 7, _ => q_in_t2 (i := 182) (by first | rfl | decide +kernel) rfl
  | k + 8, hk => absurd hk (by omega))
theorem q_inX8 : ∀ w ∈ u_ws RX8 TX8 8, w ∈ q_tbl := q_in_all (fun k hk => match k, hk with
  | 0, _ => q_in_t1 (i := 209) (by first | rfl | decide +kernel) rfl
  | 1, _ => q_in_t1 (i := 211) (by first | rfl | decide +kernel) rfl
  | 2, _ => q_in_t1 (i := 213) (by first | rfl | decide +kernel) rfl
  | 3, _ => q_in_t1 (i := 215) (by first | rfl | decide +kernel) rfl
  | 4, _ => q_in_t1 (i := 217) (by first | rfl | decide +kernel) rfl
  | 5, _ => q_in_t1 (i := 219) (by first | rfl | decide +kernel) rfl
  | 6, _ => q_in_t1 (i := 221) (by first | rfl | decide +kernel) rfl
  | 7, _ => q_in_t1 (i := 223) (by first | rfl | decide +kernel) rfl
  | k + 8, hk => absurd hk (by omega))
theorem q_inX9 : ∀ w ∈ u_ws RX9 TX9 12, w ∈ q_tbl := q_in_all (fun k hk => match k, hk with
  | 0, _ => q_in_t2 (i := 100) (by first | rfl | decide +kernel) rfl
  | 1, _ => q_in_t2 (i := 102) (by first | rfl | decide +kernel) rfl
  | 2, _ => q_in_t2 (i := 104) (by first | rfl | decide +kernel) rfl
  | 3, _ => q_in_t2 (i := 106) (by first | rfl | decide +kernel) rfl
  | 4, _ => q_in_t2 (i := 108) (by first | rfl | decide +kernel) rfl
  | 5, _ => q_in_t2 (i := 110) (by first | rfl | decide +kernel) rfl
  | 6, _ => q_in_t2 (i := 112) (by first | rfl | decide +kernel) rfl
  | 7, _ => q_in_t2 (i := 114) (by first | rfl | decide +kernel) rfl
  | 8, _ => q_in_t2 (i := 92) (by first | rfl | decide +kernel) rfl
  | 9, _ => q_in_t2 (i := 94) (by first | rfl | decide +kernel) rfl
  | 10, _ => q_in_t2 (i := 96) (by first | rfl | decide +kernel) rfl
  | 11, _ => q_in_t2 (i := 98) (by first | rfl | decide +kernel) rfl
  | k + 12, hk => absurd hk (by omega))
theorem q_inX10 : ∀ w ∈ u_ws RX10 TX10 3, w ∈ q_tbl := q_in_all (fun k hk => match k, hk with
  | 0, _ => q_in_t2 (i := 194) (by first | rfl | decide +kernel) rfl
  | 1, _ => q_in_t2 (i := 196) (by first | rfl | decide +kernel) rfl
  | 2, _ => q_in_t2 (i := 198) (by first | rfl | decide +kernel) rfl
  | k + 3, hk => absurd hk (by omega))
theorem q_inX11 : ∀ w ∈ u_ws RX11 TX11 17, w ∈ q_tbl := q_in_all (fun k hk => match k, hk with
  | 0, _ => q_in_t2 (i := 219) (by first | rfl | decide +kernel) rfl
  | 1, _ => q_in_t2 (i := 221) (by first | rfl | decide +kernel) rfl
  | 2, _ => q_in_t2 (i := 223) (by first | rfl | decide +kernel) rfl
  | 3, _ => q_in_t2 (i := 225) (by first | rfl | decide +kernel) rfl
  | 4, _ => q_in_t2 (i := 227) (by first | rfl | decide +kernel) rfl
  | 5, _ => q_in_t2 (i := 229) (by first | rfl | decide +kernel) rfl
  | 6, _ => q_in_t2 (i := 231) (by first | rfl | decide +kernel) rfl
  | 7, _ => q_in_t2 (i := 233) (by first | rfl | decide +kernel) rfl
  | 8, _ => q_in_t2 (i := 235) (by first | rfl | decide +kernel) rfl
  | 9, _ => q_in_t2 (i := 237) (by first | rfl | decide +kernel) rfl
  | 10, _ => q_in_t2 (i := 239) (by first | rfl | decide +kernel) rfl
  | 11, _ => q_in_t3 (i := 1) (by first | rfl | decide +kernel) rfl
  | 12, _ => q_in_t3 (i := 3) (by first | rfl | decide +kernel) rfl
  | 13, _ => q_in_t3 (i := 5) (by first | rfl | decide +kernel) rfl
  | 14, _ => q_in_t3 (i := 7) (by first | rfl | decide +kernel) rfl
  | 15, _ => q_in_t3 (i := 9) (by first | rfl | decide +kernel) rfl
  | 16, _ => q_in_t3 (i := 11) (by first | rfl | decide +kernel) rfl
  | k + 17, hk => absurd hk (by omega))
theorem q_inX12 : ∀ w ∈ u_ws RX12 TX12 46, w ∈ q_tbl := q_in_all (fun k hk => match k, hk with
  | 0, _ => q_in_t7 (i := 31) (by first | rfl | decide +kernel) rfl
  | 1, _ => q_in_t7 (i := 33) (by first | rfl | decide +kernel) rfl
  | 2, _ => q_in_t7 (i := 35) (by first | rfl | decide +kernel) rfl
  | 3, _ => q_in_t7 (i := 37) (by first | rfl | decide +kernel) rfl
  | 4, _ => q_in_t7 (i := 39) (by first | rfl | decide +kernel) rfl
  | 5, _ => q_in_t7 (i := 41) (by first | rfl | decide +kernel) rfl
  | 6, _ => q_in_t7 (i := 43) (by first | rfl | decide +kernel) rfl
  | 7, _ => q_in_t7 (i := 45) (by first | rfl | decide +kernel) rfl
  | 8, _ => q_in_t7 (i := 47) (by first | rfl | decide +kernel) rfl
  | 9, _ => q_in_t7 (i := 49) (by first | rfl | decide +kernel) rfl
  | 10, _ => q_in_t7 (i := 51) (by first | rfl | decide +kernel) rfl
  | 11, _ => q_in_t7 (i := 53) (by first | rfl | decide +kernel) rfl
  | 12, _ => q_in_t7 (i := 55) (by first | rfl | decide +kernel) rfl
  | 13, _ => q_in_t7 (i := 57) (by first | rfl | decide +kernel) rfl
  | 14, _ => q_in_t7 (i := 59) (by first | rfl | decide +kernel) rfl
  | 15, _ => q_in_t7 (i := 61) (by first | rfl | decide +kernel) rfl
  | 16, _ => q_in_t7 (i := 63) (by first | rfl | decide +kernel) rfl
  | 17, _ => q_in_t7 (i := 65) (by first | rfl | decide +kernel) rfl
  | 18, _ => q_in_t7 (i := 67) (by first | rfl | decide +kernel) rfl
  | 19, _ => q_in_t7 (i := 69) (by first | rfl | decide +kernel) rfl
  | 20, _ => q_in_t7 (i := 71) (by first | rfl | decide +kernel) rfl
  | 21, _ => q_in_t7 (i := 73) (by first | rfl | decide +kernel) rfl
  | 22, _ => q_in_t7 (i := 75) (by first | rfl | decide +kernel) rfl
  | 23, _ => q_in_t7 (i := 77) (by first | rfl | decide +kernel) rfl
  | 24, _ => q_in_t7 (i := 79) (by first | rfl | decide +kernel) rfl
  | 25, _ => q_in_t7 (i := 81) (by first | rfl | decide +kernel) rfl
  | 26, _ => q_in_t7 (i := 83) (by first | rfl | decide +kernel) rfl
  | 27, _ => q_in_t7 (i := 85) (by first | rfl | decide +kernel) rfl
  | 28, _ => q_in_t7 (i := 87) (by first | rfl | decide +kernel) rfl
  | 29, _ => q_in_t7 (i := 89) (by first | rfl | decide +kernel) rfl
  | 30, _ => q_in_t7 (i := 91) (by first | rfl | decide +kernel) rfl
  | 31, _ => q_in_t7 (i := 93) (by first | rfl | decide +kernel) rfl
  | 32, _ => q_in_t7 (i := 95) (by first | rfl | decide +kernel) rfl
  | 33, _ => q_in_t7 (i := 97) (by first | rfl | decide +kernel) rfl
  | 34, _ => q_in_t7 (i := 99) (by first | rfl | decide +kernel) rfl
  | 35, _ => q_in_t7 (i := 101) (by first | rfl | decide +kernel) rfl
  | 36, _ => q_in_t7 (i := 103) (by first | rfl | decide +kernel) rfl
  | 37, _ => q_in_t7 (i := 105) (by first | rfl | decide +kernel) rfl
  | 38, _ => q_in_t7 (i := 107) (by first | rfl | decide +kernel) rfl
  | 39, _ => q_in_t7 (i := 109) (by first | rfl | decide +kernel) rfl
  | 40, _ => q_in_t7 (i := 111) (by first | rfl | decide +kernel) rfl
  | 41, _ => q_in_t7 (i := 113) (by first | rfl | decide +kernel) rfl
  | 42, _ => q_in_t7 (i := 115) (by first | rfl | decide +kernel) rfl
  | 43, _ => q_in_t7 (i := 117) (by first | rfl | decide +kernel) rfl
  | 44, _ => q_in_t7 (i := 119) (by first | rfl | decide +kernel) rfl
  | 45, _ => q_in_t7 (i := 121) (by first | rfl | decide +kernel) rfl
  | k + 46, hk => absurd hk (by omega))
