section
section QS
variable {p : Program} {l : Launch} {e : Env} {R : Room} {s : State} {m : MethodId} {args : Array Value} {below : List Frame} {meth : Method} {c : Code} {H : Heap} {locs : List Loc} {cells slots : Nat} {Q : State → Prop} {cc : ByteArray} {X : XW} {n : Nat} {σ0 σ : ST} {H0 : Heap} {pc : Nat} {ls : Array Slot} {rest : List Value} {a : Nat}
theorem kv_X12_276 : q_okV RX12 276 RX12 yX12_handOf cX12_handOf 3 (some .int) 2 := ⟨(q_in_t8 (i := 139) (by first | rfl | decide +kernel) rfl), (q_in_t8 (i := 141) (by first | rfl | decide +kernel) rfl), (q_in_p (i := 82) (by decide +kernel) rfl), (q_in_t1 (i := 14) (by first | rfl | decide +kernel) rfl), (q_in_t8 (i := 142) (by first | rfl | decide +kernel) rfl), ⟨rfl, by decide, by decide, rfl⟩⟩
theorem ks_X12_279 : q_okS RX12 279 yX12_laid cX12_laid 1 (some .int) 1 := ⟨(q_in_t8 (i := 124) (by first | rfl | decide +kernel) rfl), (q_in_t8 (i := 125) (by first | rfl | decide +kernel) rfl), (q_in_t1 (i := 14) (by first | rfl | decide +kernel) rfl), (q_in_t8 (i := 126) (by first | rfl | decide +kernel) rfl), ⟨by decide, by decide, rfl⟩⟩
theorem kv_X12_296 : q_okV RX12 296 RX12 yX12_laidOf cX12_laidOf 7 (some .int) 2 := ⟨(q_in_t8 (i := 143) (by first | rfl | decide +kernel) rfl), (q_in_t8 (i := 145) (by first | rfl | decide +kernel) rfl), (q_in_p (i := 83) (by decide +kernel) rfl), (q_in_t1 (i := 14) (by first | rfl | decide +kernel) rfl), (q_in_t8 (i := 146) (by first | rfl | decide +kernel) rfl), ⟨rfl, by decide, by decide, rfl⟩⟩
end QS
end
