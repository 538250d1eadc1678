section
section QS
variable {p : Program} {l : Launch} {e : Env} {R : Room} {s : State} {m : MethodId} {args : Array Value} {below : List Frame} {meth : Method} {c : Code} {H : Heap} {locs : List Loc} {cells slots : Nat} {Q : State → Prop} {cc : ByteArray} {X : XW} {n : Nat} {σ0 σ : ST} {H0 : Heap} {pc : Nat} {ls : Array Slot} {rest : List Value} {a : Nat}
theorem kv_X12_200 : q_okV RX12 200 RX12 yX12_wrong cX12_wrong 1 none 0 := ⟨(q_in_t7 (i := 223) (by first | rfl | decide +kernel) rfl), (q_in_t7 (i := 225) (by first | rfl | decide +kernel) rfl), (q_in_p (i := 48) (by decide +kernel) rfl), (q_in_t1 (i := 14) (by first | rfl | decide +kernel) rfl), (q_in_t7 (i := 226) (by first | rfl | decide +kernel) rfl), ⟨rfl, by decide, by decide, rfl⟩⟩
theorem kv_X12_197 : q_okV RX12 197 RX12 yX12_next cX12_next 2 none 0 := ⟨(q_in_t7 (i := 188) (by first | rfl | decide +kernel) rfl), (q_in_t7 (i := 190) (by first | rfl | decide +kernel) rfl), (q_in_p (i := 42) (by decide +kernel) rfl), (q_in_t1 (i := 14) (by first | rfl | decide +kernel) rfl), (q_in_t7 (i := 191) (by first | rfl | decide +kernel) rfl), ⟨rfl, by decide, by decide, rfl⟩⟩
theorem ks_X12_94 : q_okS RX12 94 yX12_isIn cX12_isIn 6 (some .boolean) 3 := ⟨(q_in_t7 (i := 235) (by first | rfl | decide +kernel) rfl), (q_in_t7 (i := 236) (by first | rfl | decide +kernel) rfl), (q_in_t1 (i := 14) (by first | rfl | decide +kernel) rfl), (q_in_t7 (i := 237) (by first | rfl | decide +kernel) rfl), ⟨by decide, by decide, rfl⟩⟩
end QS
end
