/-! FROM 36z.cpy.lean.txt -/
section
theorem m_cpy_n {c c0 : Int → Int} {B D k n : Int} (h : ∀ j : Int, 0 ≤ j → c j = if D ≤ j ∧ j < D + k then c0 (B + (j - D)) else c0 j) (e : k = n) : ∀ j : Int, 0 ≤ j → c j = if D ≤ j ∧ j < D + n then c0 (B + (j - D)) else c0 j := by
  subst e
  exact h
theorem m_cpy40 {c c' : Int → Int} {z w : Int} (hz : z = 0) (hw : w = 4) (h : ∀ j : Int, 0 ≤ j → c' j = if 930 * z ≤ j ∧ j < 930 * z + 930 then c (930 * w + (j - 930 * z)) else c j) : (∀ j : Int, 0 ≤ j → j < 930 → c' j = c (3720 + j)) ∧ ∀ j : Int, 930 ≤ j → c' j = c j := by
  subst hz
  subst hw
  refine ⟨fun j a b => ?_, fun j a => ?_⟩
  · rw [h j a, if_pos (by omega)]
    have e : (930 : Int) * 4 + (j - 930 * 0) = 3720 + j := by omega
    rw [e]
  · rw [h j (by omega), if_neg (by omega)]
theorem m_zs {c c' : Int → Int} {b k v : Int} (h : ∀ j, b ≤ j → j < b + k → c j = 0) (e : ∀ j : Int, 0 ≤ j → c' j = if j = b + k then v else c j) (hv : v = 0) (hb : 0 ≤ b) : ∀ j, b ≤ j → j < b + (k + 1) → c' j = 0 := by
  intro j h0 h1
  rw [e j (by omega)]
  split
  · exact hv
  · exact h j h0 (by omega)
end
/-! FROM 37.table.a.lean.txt -/
section
section QS
variable {p : Program} {l : Launch} {e : Env} {R : Room} {s : State} {m : MethodId} {args : Array Value} {below : List Frame} {meth : Method} {c : Code} {H : Heap} {locs : List Loc} {cells slots : Nat} {Q : State → Prop} {cc : ByteArray} {X : XW} {n : Nat} {σ0 σ : ST} {H0 : Heap} {pc : Nat} {ls : Array Slot} {rest : List Value} {a : Nat}
theorem ps_X12_98_12 (E : q_E p c cc s m args RX12 X) (hI : q_I X n σ0 H0 locs σ H) (ha : q_kd X a = 12) {v : Int32} (hcl : n < 3) (hdg : decode cc pc = .ok (.putfield 98, 3)) (kk : ∀ (H1 : Heap) (locs1 : List Loc) (σ1 : ST), σ1 = q_si σ a 9 v → q_I X n σ0 H0 locs1 σ1 H1 → W p l e R s m args below meth c H1 locs1 cells slots Q (F0 m (pc + 3) ls rest)) : W p l e R s m args below meth c H locs cells slots Q (F0 m pc ls (.int v :: .ref a :: rest)) :=
  q_puti (ref := "CheatHeapModel") E hI ha ⟨rfl, by decide⟩ (show vwCl[11]? = some (RX12, TX12, 46) from rfl) q_inX12 tyX12_ok nmX12 (f := 9) (by decide) (q_in_t6 (i := 234) (by first | rfl | decide +kernel) rfl) (Or.inl rfl) rfl rfl hcl hdg (q_inU rfl) (Or.inl rfl) (fun H1 l1 h => kk H1 l1 _ rfl h)
theorem ps_X12_28_12 (E : q_E p c cc s m args RX12 X) (hI : q_I X n σ0 H0 locs σ H) (ha : q_kd X a = 12) {v : Int32} (hcl : n < 9) (hdg : decode cc pc = .ok (.putfield 28, 3)) (kk : ∀ (H1 : Heap) (locs1 : List Loc) (σ1 : ST), σ1 = q_si σ a 10 v → q_I X n σ0 H0 locs1 σ1 H1 → W p l e R s m args below meth c H1 locs1 cells slots Q (F0 m (pc + 3) ls rest)) : W p l e R s m args below meth c H locs cells slots Q (F0 m pc ls (.int v :: .ref a :: rest)) :=
  q_puti (ref := "CheatHeapModel") E hI ha ⟨rfl, by decide⟩ (show vwCl[11]? = some (RX12, TX12, 46) from rfl) q_inX12 tyX12_ok nmX12 (f := 10) (by decide) (q_in_t6 (i := 235) (by first | rfl | decide +kernel) rfl) (Or.inl rfl) rfl rfl hcl hdg (q_inU rfl) (Or.inl rfl) (fun H1 l1 h => kk H1 l1 _ rfl h)
theorem gs_X12_190_12 (E : q_E p c cc s m args RX12 X) (hI : q_I X n σ0 H0 locs σ H) (ha : q_kd X a = 12) (hdg : decode cc pc = .ok (.getfield 190, 3)) (kk : W p l e R s m args below meth c H locs cells slots Q (F0 m (pc + 3) ls (.int (σ.1 a 13) :: rest))) : W p l e R s m args below meth c H locs cells slots Q (F0 m pc ls (.ref a :: rest)) :=
  q_getf (ref := "CheatHeapModel") E hI ha ⟨rfl, by decide⟩ (show vwCl[11]? = some (RX12, TX12, 46) from rfl) q_inX12 (f := 13) (by decide) (q_in_t6 (i := 238) (by first | rfl | decide +kernel) rfl) (Or.inl rfl) rfl hdg kk
theorem ps_X12_32_12 (E : q_E p c cc s m args RX12 X) (hI : q_I X n σ0 H0 locs σ H) (ha : q_kd X a = 12) {v : Int32} (hcl : n < 9) (hdg : decode cc pc = .ok (.putfield 32, 3)) (kk : ∀ (H1 : Heap) (locs1 : List Loc) (σ1 : ST), σ1 = q_si σ a 11 v → q_I X n σ0 H0 locs1 σ1 H1 → W p l e R s m args below meth c H1 locs1 cells slots Q (F0 m (pc + 3) ls rest)) : W p l e R s m args below meth c H locs cells slots Q (F0 m pc ls (.int v :: .ref a :: rest)) :=
  q_puti (ref := "CheatHeapModel") E hI ha ⟨rfl, by decide⟩ (show vwCl[11]? = some (RX12, TX12, 46) from rfl) q_inX12 tyX12_ok nmX12 (f := 11) (by decide) (q_in_t6 (i := 236) (by first | rfl | decide +kernel) rfl) (Or.inl rfl) rfl rfl hcl hdg (q_inU rfl) (Or.inl rfl) (fun H1 l1 h => kk H1 l1 _ rfl h)
theorem kv_X12_239 : q_okV RX12 239 RX12 yX12_opens cX12_opens 3 (some .boolean) 2 := ⟨(q_in_t7 (i := 184) (by first | rfl | decide +kernel) rfl), (q_in_t7 (i := 186) (by first | rfl | decide +kernel) rfl), (q_in_p (i := 41) (by decide +kernel) rfl), (q_in_t1 (i := 14) (by first | rfl | decide +kernel) rfl), (q_in_t7 (i := 187) (by first | rfl | decide +kernel) rfl), ⟨rfl, by decide, by decide, rfl⟩⟩
theorem kv_X12_243 : q_okV RX12 243 RX12 yX12_isSign cX12_isSign 2 (some .boolean) 1 := ⟨(q_in_t8 (i := 2) (by first | rfl | decide +kernel) rfl), (q_in_t8 (i := 4) (by first | rfl | decide +kernel) rfl), (q_in_p (i := 52) (by decide +kernel) rfl), (q_in_t1 (i := 14) (by first | rfl | decide +kernel) rfl), (q_in_t8 (i := 5) (by first | rfl | decide +kernel) rfl), ⟨rfl, by decide, by decide, rfl⟩⟩
theorem kv_X12_258 : q_okV RX12 258 RX12 yX12_isWell cX12_isWell 1 (some .boolean) 0 := ⟨(q_in_t8 (i := 87) (by first | rfl | decide +kernel) rfl), (q_in_t8 (i := 89) (by first | rfl | decide +kernel) rfl), (q_in_p (i := 73) (by decide +kernel) rfl), (q_in_t1 (i := 14) (by first | rfl | decide +kernel) rfl), (q_in_t8 (i := 90) (by first | rfl | decide +kernel) rfl), ⟨rfl, by decide, by decide, rfl⟩⟩
theorem kv_X12_261 : q_okV RX12 261 RX12 yX12_copy cX12_copy 4 none 2 := ⟨(q_in_t8 (i := 91) (by first | rfl | decide +kernel) rfl), (q_in_t8 (i := 93) (by first | rfl | decide +kernel) rfl), (q_in_p (i := 74) (by decide +kernel) rfl), (q_in_t1 (i := 14) (by first | rfl | decide +kernel) rfl), (q_in_t8 (i := 94) (by first | rfl | decide +kernel) rfl), ⟨rfl, by decide, by decide, rfl⟩⟩
theorem kv_X12_255 : q_okV RX12 255 RX12 yX12_readHand cX12_readHand 6 none 0 := ⟨(q_in_t8 (i := 75) (by first | rfl | decide +kernel) rfl), (q_in_t8 (i := 77) (by first | rfl | decide +kernel) rfl), (q_in_p (i := 70) (by decide +kernel) rfl), (q_in_t1 (i := 14) (by first | rfl | decide +kernel) rfl), (q_in_t8 (i := 78) (by first | rfl | decide +kernel) rfl), ⟨rfl, by decide, by decide, rfl⟩⟩
theorem kv_X12_252 : q_okV RX12 252 RX12 yX12_readPlayer cX12_readPlayer 2 none 0 := ⟨(q_in_t8 (i := 31) (by first | rfl | decide +kernel) rfl), (q_in_t8 (i := 33) (by first | rfl | decide +kernel) rfl), (q_in_p (i := 59) (by decide +kernel) rfl), (q_in_t1 (i := 14) (by first | rfl | decide +kernel) rfl), (q_in_t8 (i := 34) (by first | rfl | decide +kernel) rfl), ⟨rfl, by decide, by decide, rfl⟩⟩
theorem kv_X12_249 : q_okV RX12 249 RX12 yX12_readMost cX12_readMost 1 none 0 := ⟨(q_in_t8 (i := 23) (by first | rfl | decide +kernel) rfl), (q_in_t8 (i := 25) (by first | rfl | decide +kernel) rfl), (q_in_p (i := 57) (by decide +kernel) rfl), (q_in_t1 (i := 14) (by first | rfl | decide +kernel) rfl), (q_in_t8 (i := 26) (by first | rfl | decide +kernel) rfl), ⟨rfl, by decide, by decide, rfl⟩⟩
theorem kv_X12_246 : q_okV RX12 246 RX12 yX12_readLaw cX12_readLaw 1 none 0 := ⟨(q_in_t8 (i := 10) (by first | rfl | decide +kernel) rfl), (q_in_t8 (i := 12) (by first | rfl | decide +kernel) rfl), (q_in_p (i := 54) (by decide +kernel) rfl), (q_in_t1 (i := 14) (by first | rfl | decide +kernel) rfl), (q_in_t8 (i := 13) (by first | rfl | decide +kernel) rfl), ⟨rfl, by decide, by decide, rfl⟩⟩
end QS
end
