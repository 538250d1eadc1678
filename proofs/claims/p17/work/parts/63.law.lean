/-! THE LAW: what holds at its start -/
theorem lw_t {i : Nat} {w : Cond} (h : tables_1[i]? = some w) : w ∈ lw_tbl := List.mem_append_right _ (List.mem_of_getElem? h)
theorem lw_t1 {i : Nat} {w : Cond} (h : tables_1_1[i]? = some w) : w ∈ lw_tbl := List.mem_append_right _ (List.mem_append_left _ (List.mem_of_getElem? h))
theorem lw_t2 {i : Nat} {w : Cond} (h : tables_1_2[i]? = some w) : w ∈ lw_tbl := List.mem_append_right _ (List.mem_append_right _ (List.mem_append_left _ (List.mem_of_getElem? h)))
theorem lw_t3 {i : Nat} {w : Cond} (h : tables_1_3[i]? = some w) : w ∈ lw_tbl := List.mem_append_right _ (List.mem_append_right _ (List.mem_append_right _ (List.mem_append_left _ (List.mem_of_getElem? h))))
theorem lw_t4 {i : Nat} {w : Cond} (h : tables_1_4[i]? = some w) : w ∈ lw_tbl := List.mem_append_right _ (List.mem_append_right _ (List.mem_append_right _ (List.mem_append_right _ (List.mem_append_left _ (List.mem_of_getElem? h)))))
theorem lw_t5 {i : Nat} {w : Cond} (h : tables_1_5[i]? = some w) : w ∈ lw_tbl := List.mem_append_right _ (List.mem_append_right _ (List.mem_append_right _ (List.mem_append_right _ (List.mem_append_right _ (List.mem_append_left _ (List.mem_of_getElem? h))))))
theorem lw_t6 {i : Nat} {w : Cond} (h : tables_1_6[i]? = some w) : w ∈ lw_tbl := List.mem_append_right _ (List.mem_append_right _ (List.mem_append_right _ (List.mem_append_right _ (List.mem_append_right _ (List.mem_append_right _ (List.mem_append_left _ (List.mem_of_getElem? h)))))))
theorem lw_t7 {i : Nat} {w : Cond} (h : tables_1_7[i]? = some w) : w ∈ lw_tbl := List.mem_append_right _ (List.mem_append_right _ (List.mem_append_right _ (List.mem_append_right _ (List.mem_append_right _ (List.mem_append_right _ (List.mem_append_right _ (List.mem_append_left _ (List.mem_of_getElem? h))))))))
theorem lw_t8 {i : Nat} {w : Cond} (h : tables_1_8[i]? = some w) : w ∈ lw_tbl := List.mem_append_right _ (List.mem_append_right _ (List.mem_append_right _ (List.mem_append_right _ (List.mem_append_right _ (List.mem_append_right _ (List.mem_append_right _ (List.mem_append_right _ (List.mem_append_left _ (List.mem_of_getElem? h)))))))))
theorem lw_t9 {i : Nat} {w : Cond} (h : tables_1_9[i]? = some w) : w ∈ lw_tbl := List.mem_append_right _ (List.mem_append_right _ (List.mem_append_right _ (List.mem_append_right _ (List.mem_append_right _ (List.mem_append_right _ (List.mem_append_right _ (List.mem_append_right _ (List.mem_append_right _ (List.mem_of_getElem? h)))))))))
def lw_nar : List Cond := flatC (Jvm.Cond.and given_1 narrow_1)
def lw_ts : List (String × Nat) := [("CheatHeap$TableReader", 55), ("CheatHeap$TableReader", 65), ("CheatHeap$TableReader", 80), ("CheatHeap$TableReader", 110), ("CheatHeap$TableReader", 114), ("CheatHeap$TableReader", 116), ("CheatHeap$TableReader", 88), ("CheatHeap$TableReader", 93), ("CheatHeap$Reader", 68), ("CheatHeap$TableReader", 134), ("CheatHeap$TableReader", 149), ("CheatHeap$TableReader", 98), ("CheatHeap$TableReader", 162), ("CheatHeap$RoundReader", 41), ("CheatHeap$RoundReader", 100), ("CheatHeap$RoundReader", 106), ("CheatHeap$RoundReader", 108), ("CheatHeap$RoundReader", 110), ("CheatHeap$RoundReader", 112), ("CheatHeap$RoundReader", 117), ("CheatHeap$RoundReader", 119), ("CheatHeap$RoundReader", 121)]
def lw_tm (i : Nat) : Term := Term.string (lw_ts.getD i ("", 0)).1 (lw_ts.getD i ("", 0)).2
def lw_bs : List Nat := [33, 42, 51, 60, 69, 81, 94, 108, 125, 242, 259, 279, 298, 316, 336, 407, 432, 458, 485, 514, 543, 574]
def lw_ps : List (List Nat) := [[0, 50, 58, 66, 77, 89, 102, 118, 234, 250, 269, 287, 304, 323, 344, 415, 440, 466, 494, 522, 552, 581], [50, 0, 59, 67, 78, 90, 103, 119, 235, 251, 270, 288, 305, 324, 345, 416, 441, 467, 495, 523, 553, 582], [58, 59, 0, 68, 79, 91, 104, 120, 236, 252, 271, 289, 306, 325, 346, 417, 442, 468, 496, 524, 554, 583], [66, 67, 68, 0, 80, 92, 105, 121, 237, 253, 272, 290, 307, 326, 347, 418, 443, 469, 497, 525, 555, 584], [77, 78, 79, 80, 0, 93, 106, 122, 238, 254, 273, 291, 308, 327, 348, 419, 444, 470, 498, 526, 556, 585], [89, 90, 91, 92, 93, 0, 107, 123, 239, 255, 274, 292, 309, 328, 349, 420, 445, 471, 499, 527, 557, 586], [102, 103, 104, 105, 106, 107, 0, 124, 240, 256, 275, 293, 310, 329, 350, 421, 446, 472, 500, 528, 558, 587], [118, 119, 120, 121, 122, 123, 124, 0, 241, 257, 276, 294, 311, 330, 351, 422, 447, 473, 501, 529, 559, 588], [234, 235, 236, 237, 238, 239, 240, 241, 0, 258, 277, 295, 312, 331, 352, 423, 448, 474, 502, 530, 560, 589], [250, 251, 252, 253, 254, 255, 256, 257, 258, 0, 278, 296, 313, 332, 353, 424, 449, 475, 503, 531, 561, 590], [269, 270, 271, 272, 273, 274, 275, 276, 277, 278, 0, 297, 314, 333, 354, 425, 450, 476, 504, 532, 562, 591], [287, 288, 289, 290, 291, 292, 293, 294, 295, 296, 297, 0, 315, 334, 355, 426, 451, 477, 505, 533, 563, 592], [304, 305, 306, 307, 308, 309, 310, 311, 312, 313, 314, 315, 0, 335, 356, 427, 452, 478, 506, 534, 564, 593], [323, 324, 325, 326, 327, 328, 329, 330, 331, 332, 333, 334, 335, 0, 357, 428, 453, 479, 507, 535, 565, 594], [344, 345, 346, 347, 348, 349, 350, 351, 352, 353, 354, 355, 356, 357, 0, 429, 454, 480, 508, 536, 566, 595], [415, 416, 417, 418, 419, 420, 421, 422, 423, 424, 425, 426, 427, 428, 429, 0, 457, 483, 511, 539, 569, 598], [440, 441, 442, 443, 444, 445, 446, 447, 448, 449, 450, 451, 452, 453, 454, 457, 0, 484, 512, 540, 570, 599], [466, 467, 468, 469, 470, 471, 472, 473, 474, 475, 476, 477, 478, 479, 480, 483, 484, 0, 513, 541, 571, 600], [494, 495, 496, 497, 498, 499, 500, 501, 502, 503, 504, 505, 506, 507, 508, 511, 512, 513, 0, 542, 572, 601], [522, 523, 524, 525, 526, 527, 528, 529, 530, 531, 532, 533, 534, 535, 536, 539, 540, 541, 542, 0, 573, 602], [552, 553, 554, 555, 556, 557, 558, 559, 560, 561, 562, 563, 564, 565, 566, 569, 570, 571, 572, 573, 0, 603], [581, 582, 583, 584, 585, 586, 587, 588, 589, 590, 591, 592, 593, 594, 595, 598, 599, 600, 601, 602, 603, 0]]
theorem lw_s0 : ∀ i, i < 22 → lw_nar[lw_bs.getD i 0]? = some (Cond.exactly (lw_tm i) "java/lang/String") := by decide +kernel
theorem lw_s1 : ∀ i, i < 22 → lw_nar[lw_bs.getD i 0 + 1]? = some (Cond.eq (.field (lw_tm i) "java/lang/String" "coder" "B") (.int 0)) := by decide +kernel
theorem lw_s2 : ∀ i, i < 22 → lw_nar[lw_bs.getD i 0 + 2]? = some (Cond.arrayOf (.field (lw_tm i) "java/lang/String" "value" "[B") .byte) := by decide +kernel
theorem lw_s3 : ∀ i, i < 22 → lw_nar[lw_bs.getD i 0 + 3]? = some (Cond.eq (.length (.field (lw_tm i) "java/lang/String" "value" "[B")) (.int (Int32.ofNat (q_slen.getD i 0)))) := by decide +kernel
theorem lw_s4 : ∀ i, i < 22 → ∀ j, j < q_slen.getD i 0 → lw_nar[lw_bs.getD i 0 + 4 + j]? = some (Cond.eq (.elem (.field (lw_tm i) "java/lang/String" "value" "[B") (.int (Int32.ofNat j))) (.int ((q_sbyt.getD i []).getD j 0))) := by decide +kernel
theorem lw_s5 : ∀ i, i < 22 → ∀ j, j < 22 → i < j → lw_nar[(lw_ps.getD i []).getD j 0]? = some (Cond.not (Cond.eq (lw_tm i) (lw_tm j))) := by decide +kernel
theorem lw_s6 : lw_nar[375]? = some (Cond.eq (lw_tm 9) (Term.string "CheatHeap$RoundReader" 102)) := by decide +kernel
theorem lw_s7 : lw_nar[401]? = some (Cond.eq (lw_tm 10) (Term.string "CheatHeap$RoundReader" 104)) := by decide +kernel
theorem lw_s8 : lw_nar[4]? = some (Cond.eq (.static "java/lang/String" "COMPACT_STRINGS" "Z") (.int 1)) := by decide +kernel
theorem lw_s9 : lw_nar[5]? = some (Cond.isRef (.static "jdk/internal/util/Preconditions" "SIOOBE_FORMATTER" "Ljava/util/function/BiFunction;")) := by decide +kernel
theorem lw_hs {args : Array Value} {s : State} (h : (Jvm.Cond.and given_1 narrow_1).before args s = true) {k : Nat} {w : Cond} (hk : lw_nar[k]? = some w) : w.before args s = true := flat_of_before _ h _ (List.mem_of_getElem? hk)
theorem lw_strs {args : Array Value} {s : State} {A : Nat → Prop} (hts : ∀ w ∈ lw_tbl, w.before args s = true) (hgv : (Jvm.Cond.and given_1 narrow_1).before args s = true) (hA : ∀ a : Nat, a < s.heap.size → ¬ A a) : ∃ adK adV : Nat → Nat, vk_S 22 q_slen q_sbyt adK adV A s s.heap ∧ ∀ r ∈ q_str, vk_R r.1 r.2.1 r.2.2.1 (adK r.2.2.2) s := by
  obtain ⟨adK, adV, hS, hev⟩ := vk_Sof (args := args) (s := s) (N := 22) (tm := lw_tm) (len := q_slen) (byt := q_sbyt) (A := A) (by decide) (fun i hi => lw_hs hgv (lw_s0 i hi)) (fun i hi => lw_hs hgv (lw_s1 i hi)) (fun i hi => lw_hs hgv (lw_s2 i hi)) (fun i hi => lw_hs hgv (lw_s3 i hi)) (fun i hi j hj => lw_hs hgv (lw_s4 i hi j hj)) (fun i j hi hj hij => by
    rcases Nat.lt_or_gt_of_ne hij with q | q
    · exact Or.inl (lw_hs hgv (lw_s5 i hi j hj q))
    · exact Or.inr (lw_hs hgv (lw_s5 j hj i hi q))) hA
  refine ⟨adK, adV, hS, ?_⟩
  intro r hr
  simp only [q_str, List.mem_cons, List.not_mem_nil, or_false] at hr
  rcases hr with rfl | rfl | rfl | rfl | rfl | rfl | rfl | rfl | rfl | rfl | rfl | rfl | rfl | rfl | rfl | rfl | rfl | rfl | rfl | rfl | rfl | rfl | rfl | rfl
  · exact vk_R.of (hts _ (lw_t3 (i := 173) (by first | rfl | decide +kernel))) (hev 0 (by decide))
  · exact vk_R.of (hts _ (lw_t4 (i := 12) (by first | rfl | decide +kernel))) (hev 1 (by decide))
  · exact vk_R.of (hts _ (lw_t4 (i := 23) (by first | rfl | decide +kernel))) (hev 2 (by decide))
  · exact vk_R.of (hts _ (lw_t4 (i := 40) (by first | rfl | decide +kernel))) (hev 3 (by decide))
  · exact vk_R.of (hts _ (lw_t4 (i := 41) (by first | rfl | decide +kernel))) (hev 4 (by decide))
  · exact vk_R.of (hts _ (lw_t4 (i := 42) (by first | rfl | decide +kernel))) (hev 5 (by decide))
  · exact vk_R.of (hts _ (lw_t4 (i := 43) (by first | rfl | decide +kernel))) (hev 6 (by decide))
  · exact vk_R.of (hts _ (lw_t4 (i := 48) (by first | rfl | decide +kernel))) (hev 7 (by decide))
  · exact vk_R.of (hts _ (lw_t4 (i := 63) (by first | rfl | decide +kernel))) (hev 8 (by decide))
  · exact vk_R.of (hts _ (lw_t4 (i := 86) (by first | rfl | decide +kernel))) (hev 9 (by decide))
  · exact vk_R.of (hts _ (lw_t4 (i := 92) (by first | rfl | decide +kernel))) (hev 10 (by decide))
  · exact vk_R.of (hts _ (lw_t4 (i := 93) (by first | rfl | decide +kernel))) (hev 11 (by decide))
  · exact vk_R.of (hts _ (lw_t4 (i := 106) (by first | rfl | decide +kernel))) (hev 12 (by decide))
  · exact vk_R.of (hts _ (lw_t4 (i := 168) (by first | rfl | decide +kernel))) (hev 13 (by decide))
  · exact vk_R.of (hts _ (lw_t4 (i := 200) (by first | rfl | decide +kernel))) (hev 14 (by decide))
  · exact vk_R.of (hts _ (lw_t4 (i := 201) (by first | rfl | decide +kernel))) (va_eqR (lw_hs hgv lw_s6) (hev 9 (by decide)))
  · exact vk_R.of (hts _ (lw_t4 (i := 202) (by first | rfl | decide +kernel))) (va_eqR (lw_hs hgv lw_s7) (hev 10 (by decide)))
  · exact vk_R.of (hts _ (lw_t4 (i := 203) (by first | rfl | decide +kernel))) (hev 15 (by decide))
  · exact vk_R.of (hts _ (lw_t4 (i := 204) (by first | rfl | decide +kernel))) (hev 16 (by decide))
  · exact vk_R.of (hts _ (lw_t4 (i := 205) (by first | rfl | decide +kernel))) (hev 17 (by decide))
  · exact vk_R.of (hts _ (lw_t4 (i := 213) (by first | rfl | decide +kernel))) (hev 18 (by decide))
  · exact vk_R.of (hts _ (lw_t4 (i := 214) (by first | rfl | decide +kernel))) (hev 19 (by decide))
  · exact vk_R.of (hts _ (lw_t4 (i := 215) (by first | rfl | decide +kernel))) (hev 20 (by decide))
  · exact vk_R.of (hts _ (lw_t4 (i := 216) (by first | rfl | decide +kernel))) (hev 21 (by decide))
theorem lw_tabs {args : Array Value} {s : State} (hts : ∀ w ∈ lw_tbl, w.before args s = true) : ∀ w ∈ q_tbl, w.before args s = true := by
  intro w hw
  rcases List.mem_append.mp hw with h | h
  · simp only [q_extra, List.mem_cons, List.not_mem_nil, or_false] at h
    rcases h with rfl | rfl | rfl | rfl
    · exact q_selpriv (x2 := yX3_advance) (hts _ (lw_t3 (i := 150) (by first | rfl | decide +kernel))) rfl ⟨by decide, by decide⟩ (hts _ (lw_t3 (i := 160) (by first | rfl | decide +kernel))) (hts _ (lw_t3 (i := 161) (by first | rfl | decide +kernel)))
    · exact q_selpriv (x2 := yX3_advance) (hts _ (lw_t3 (i := 151) (by first | rfl | decide +kernel))) rfl ⟨by decide, by decide⟩ (hts _ (lw_t3 (i := 160) (by first | rfl | decide +kernel))) (hts _ (lw_t3 (i := 161) (by first | rfl | decide +kernel)))
    · exact q_selpriv (x2 := yX3_advance) (hts _ (lw_t3 (i := 150) (by first | rfl | decide +kernel))) rfl ⟨by decide, by decide⟩ (hts _ (lw_t4 (i := 60) (by first | rfl | decide +kernel))) (hts _ (lw_t4 (i := 61) (by first | rfl | decide +kernel)))
    · exact q_selpriv (x2 := yX3_advance) (hts _ (lw_t3 (i := 151) (by first | rfl | decide +kernel))) rfl ⟨by decide, by decide⟩ (hts _ (lw_t4 (i := 60) (by first | rfl | decide +kernel))) (hts _ (lw_t4 (i := 61) (by first | rfl | decide +kernel)))
  · exact hts w (List.mem_filter.mp h).1
theorem lw_arrK {args : Array Value} {s : State} {t : FieldType} (ht : t = .byte ∨ t = .int ∨ t = .long) (h : (Cond.arrayClass t).before args s = true) : ∃ cA, ArrOfT s cA t ∧ va_RA s cA t := by
  obtain ⟨cA, kA, comp, h1, h2, h3⟩ := Cond.arrayClass_spec h
  refine ⟨cA, fun n z => ⟨fun k h => (by cases h), kA, h2, comp, h3⟩, ?_⟩
  rcases ht with rfl | rfl | rfl <;> exact h1
theorem lw_arrQ {args : Array Value} {s : State} {C : String} (h : (Cond.arrayOver (.object C)).before args s = true) : ∃ cA, ArrOfT s cA (.object C) ∧ va_RA s cA (.object C) := by
  obtain ⟨comp, c, k, h1, -, h3, h4, h5⟩ := Cond.arrayOver_spec h
  exact ⟨c, fun n z => ⟨fun k h => (by cases h), k, h3, comp, h4⟩, k, comp, h3, h4, h1, h5⟩
theorem lw_K0 {args : Array Value} {s : State} (hts : ∀ w ∈ lw_tbl, w.before args s = true) : ∃ D : DW, q_K0 D s := by
  obtain ⟨c0, i0, h0⟩ := u_known (C := RX0) (T := TX0) (N := 15) (n := 15) (lw_tabs hts) q_inX0 (hts _ (lw_t1 (i := 31) (by first | rfl | decide +kernel)))
  obtain ⟨c1, i1, h1⟩ := u_known (C := RX1) (T := TX1) (N := 7) (n := 7) (lw_tabs hts) q_inX1 (hts _ (lw_t1 (i := 102) (by first | rfl | decide +kernel)))
  obtain ⟨c2, i2, h2⟩ := u_known (C := RX2) (T := TX2) (N := 6) (n := 6) (lw_tabs hts) q_inX2 (hts _ (lw_t1 (i := 146) (by first | rfl | decide +kernel)))
  obtain ⟨c3, i3, h3⟩ := u_known (C := RX4) (T := TX4) (N := 11) (n := 11) (lw_tabs hts) q_inX4 (hts _ (lw_t2 (i := 118) (by first | rfl | decide +kernel)))
  obtain ⟨c4, i4, h4⟩ := u_known (C := RX5) (T := TX5) (N := 1) (n := 1) (lw_tabs hts) q_inX5 (hts _ (lw_t1 (i := 43) (by first | rfl | decide +kernel)))
  obtain ⟨c5, i5, h5⟩ := u_known (C := RX6) (T := TX6) (N := 8) (n := 8) (lw_tabs hts) q_inX6 (hts _ (lw_t1 (i := 37) (by first | rfl | decide +kernel)))
  obtain ⟨c6, i6, h6⟩ := u_known (C := RX7) (T := TX7) (N := 8) (n := 8) (lw_tabs hts) q_inX7 (hts _ (lw_t2 (i := 147) (by first | rfl | decide +kernel)))
  obtain ⟨c7, i7, h7⟩ := u_known (C := RX8) (T := TX8) (N := 8) (n := 8) (lw_tabs hts) q_inX8 (hts _ (lw_t1 (i := 180) (by first | rfl | decide +kernel)))
  obtain ⟨c8, i8, h8⟩ := u_known (C := RX9) (T := TX9) (N := 12) (n := 12) (lw_tabs hts) q_inX9 (hts _ (lw_t2 (i := 59) (by first | rfl | decide +kernel)))
  obtain ⟨c9, i9, h9⟩ := u_known (C := RX10) (T := TX10) (N := 3) (n := 3) (lw_tabs hts) q_inX10 (hts _ (lw_t2 (i := 185) (by first | rfl | decide +kernel)))
  obtain ⟨c10, i10, h10⟩ := u_known (C := RX11) (T := TX11) (N := 17) (n := 17) (lw_tabs hts) q_inX11 (hts _ (lw_t1 (i := 21) (by first | rfl | decide +kernel)))
  obtain ⟨c11, i11, h11⟩ := u_known (C := RX12) (T := TX12) (N := 46) (n := 46) (lw_tabs hts) q_inX12 (hts _ (lw_t6 (i := 220) (by first | rfl | decide +kernel)))
  obtain ⟨a0, g0⟩ := lw_arrK (t := .byte) (Or.inl rfl) (hts _ (lw_t1 (i := 55) (by first | rfl | decide +kernel)))
  obtain ⟨a1, g1⟩ := lw_arrK (t := .int) (Or.inr (Or.inl rfl)) (hts _ (lw_t1 (i := 56) (by first | rfl | decide +kernel)))
  obtain ⟨a2, g2⟩ := lw_arrK (t := .long) (Or.inr (Or.inr rfl)) (hts _ (lw_t2 (i := 201) (by first | rfl | decide +kernel)))
  obtain ⟨a3, g3⟩ := lw_arrQ (C := "CheatHeap$Tray") (hts _ (lw_t1 (i := 29) (by first | rfl | decide +kernel)))
  obtain ⟨a4, g4⟩ := lw_arrQ (C := "CheatHeap$Game") (hts _ (lw_t2 (i := 57) (by first | rfl | decide +kernel)))
  refine ⟨(((fun k => [c0, c1, c2, c3, c4, c5, c6, c7, c8, c9, c10, c11].getD k c0), (fun k => [i0, i1, i2, i3, i4, i5, i6, i7, i8, i9, i10, i11].getD k i0)), fun t => [a0, a1, a2, a3, a4].getD t a0), ⟨?_, ?_⟩, ?_, va_AO.of (hts _ (lw_t1 (i := 29) (by first | rfl | decide +kernel))), va_AO.of (hts _ (lw_t2 (i := 57) (by first | rfl | decide +kernel)))⟩
  · intro k q hq
    match k, hq with
    | 0, hq => obtain rfl := Option.some.inj hq; exact h0
    | 1, hq => obtain rfl := Option.some.inj hq; exact h1
    | 2, hq => obtain rfl := Option.some.inj hq; exact h2
    | 3, hq => obtain rfl := Option.some.inj hq; exact h3
    | 4, hq => obtain rfl := Option.some.inj hq; exact h4
    | 5, hq => obtain rfl := Option.some.inj hq; exact h5
    | 6, hq => obtain rfl := Option.some.inj hq; exact h6
    | 7, hq => obtain rfl := Option.some.inj hq; exact h7
    | 8, hq => obtain rfl := Option.some.inj hq; exact h8
    | 9, hq => obtain rfl := Option.some.inj hq; exact h9
    | 10, hq => obtain rfl := Option.some.inj hq; exact h10
    | 11, hq => obtain rfl := Option.some.inj hq; exact h11
    | k + 12, hq => exact absurd hq (by simp [vwCl])
  · intro k q hq
    match k, hq with
    | 0, hq => obtain rfl := Option.some.inj hq; exact g0
    | 1, hq => obtain rfl := Option.some.inj hq; exact g1
    | 2, hq => obtain rfl := Option.some.inj hq; exact g2
    | 3, hq => obtain rfl := Option.some.inj hq; exact g3
    | 4, hq => obtain rfl := Option.some.inj hq; exact g4
    | k + 5, hq => exact absurd hq (by simp [q_tyD])
  · intro r hr
    simp only [q_nest, List.mem_cons, List.not_mem_nil, or_false] at hr
    rcases hr with rfl | rfl | rfl | rfl | rfl | rfl | rfl | rfl | rfl | rfl | rfl | rfl | rfl | rfl
    · exact va_Nw.of rfl (hts _ (lw_t1 (i := 32) (by first | rfl | decide +kernel)))
    · exact va_Nw.of rfl (hts _ (lw_t1 (i := 38) (by first | rfl | decide +kernel)))
    · exact va_Nw.of rfl (hts _ (lw_t1 (i := 103) (by first | rfl | decide +kernel)))
    · exact va_Nw.of rfl (hts _ (lw_t1 (i := 147) (by first | rfl | decide +kernel)))
    · exact va_Nw.of rfl (hts _ (lw_t1 (i := 181) (by first | rfl | decide +kernel)))
    · exact va_Nw.of rfl (hts _ (lw_t2 (i := 60) (by first | rfl | decide +kernel)))
    · exact va_Nw.of rfl (hts _ (lw_t2 (i := 63) (by first | rfl | decide +kernel)))
    · exact va_Nw.of rfl (hts _ (lw_t2 (i := 68) (by first | rfl | decide +kernel)))
    · exact va_Nw.of rfl (hts _ (lw_t2 (i := 119) (by first | rfl | decide +kernel)))
    · exact va_Nw.of rfl (hts _ (lw_t2 (i := 122) (by first | rfl | decide +kernel)))
    · exact va_Nw.of rfl (hts _ (lw_t2 (i := 124) (by first | rfl | decide +kernel)))
    · exact va_Nw.of rfl (hts _ (lw_t2 (i := 148) (by first | rfl | decide +kernel)))
    · exact va_Nw.of rfl (hts _ (lw_t2 (i := 186) (by first | rfl | decide +kernel)))
    · exact va_Nw.of rfl (hts _ (lw_t5 (i := 211) (by first | rfl | decide +kernel)))
def lw_X0 (D : DW) (sk sv : Nat → Nat) : XW := (D, (fun _ => 0), (fun _ _ => 0), (fun _ => 0), sk, sv)
def lw_σ0 : ST := ((fun _ _ => 0), (fun _ _ => 0), fun _ => 0)
theorem lw_w0 {D : DW} {sk sv : Nat → Nat} {H : Heap} : q_w (lw_X0 D sk sv) lw_σ0 H :=
  ⟨⟨fun a f hf => absurd rfl hf, fun a ha => absurd rfl ha, fun a => (by show (0 : Nat) < 1000000; decide), fun a ha => absurd (show (0 : Nat) = 11 from ha) (by decide)⟩, fun a ha => absurd rfl ha, fun a f => q_inU (k := 0) (f := f) rfl, fun a ha => absurd (show (0 : Nat) = 4 ∨ (0 : Nat) = 9 from ha) (by decide), ⟨fun a f hf => absurd rfl hf, fun a f _ _ hf => absurd rfl hf, fun a f hf => absurd (show (0 : Nat) = 5 from hf) (by decide)⟩, fun a ha => absurd (show y_ik 0 = true from ha) (by decide)⟩
theorem m_S0 {c : Int → Int} {b : Int} {n : Nat} (h : ∀ j : Int, b ≤ j → j < b + (n : Int) → c j = 0) : m_S c b n = 0 := by
  induction n with
  | zero => rfl
  | succ n ih =>
    show m_S c b n + c (b + (n : Int)) = 0
    rw [ih (fun j h0 h1 => h j h0 (by omega)), h _ (by omega) (by omega)]
    rfl
theorem lw_init0 {c : Int → Int} (h : ∀ j : Int, 0 ≤ j → c j = if j = 6 then -1 else if j = 8 then -1 else if j = 4 then 4 else if j = 1 then 1 else if j = 0 then 2 else 0) : m_G c ∧ m_W c 0 := by
  have z : ∀ j : Int, 9 ≤ j → c j = 0 := fun j hj => by rw [h j (by omega), if_neg (by omega), if_neg (by omega), if_neg (by omega), if_neg (by omega), if_neg (by omega)]
  have e0 : c 0 = 2 := h 0 (by decide)
  have e2 : c 2 = 0 := h 2 (by decide)
  have e4 : c 4 = 4 := h 4 (by decide)
  have e5 : c 5 = 0 := h 5 (by decide)
  have e6 : c 6 = -1 := h 6 (by decide)
  have e7 : c 7 = 0 := h 7 (by decide)
  have e9 := z 9 (by decide)
  have e655 := z 655 (by decide)
  refine ⟨⟨?_, ?_, ?_, ?_, ?_, ?_⟩, ?_⟩
  · unfold m_H
    rw [e0, e2, e4, e5, e6, e7, e9]
    decide
  · intro p k h0 h1 h2 h3
    rw [z _ (by omega)]
    exact ⟨Int.le_refl 0, fun _ => rfl⟩
  · intro i h0 h1
    rw [e9] at h1
    omega
  · unfold m_T
    rw [m_S0 (fun j a b => z j (by omega)), e9]
    exact (by decide : (0 : Int) + 0 ≤ 80)
  · intro q
    rw [e7] at q
    exact absurd q (by decide)
  · refine ⟨by rw [e655]; decide, fun i h0 h1 => ?_⟩
    rw [e655] at h1
    omega
  · intro q h0 h1
    rw [z (28 + q) (by omega), z (22 + q) (by omega)]
    decide
theorem lw_m0 {X : XW} {σ : ST} {a : Nat} (h24 : σ.1 a 24 = 0) (h : ∀ j : Nat, σ.1 (q_rf X a 20) j = if j = 6 then -1 else if j = 8 then -1 else if j = 4 then 4 else if j = 1 then 1 else if j = 0 then 2 else 0) : m_M (m_c X σ a) (σ.1 a 24).toInt 0 := by
  have e : ∀ j : Int, 0 ≤ j → m_c X σ a j = if j = 6 then -1 else if j = 8 then -1 else if j = 4 then 4 else if j = 1 then 1 else if j = 0 then 2 else 0 := by
    intro j hj
    show (σ.1 (q_rf X a 20) j.toNat).toInt = _
    rw [h]
    by_cases q6 : j = 6
    · subst q6; rfl
    rw [if_neg (show ¬ j.toNat = 6 by omega), if_neg q6]
    by_cases q8 : j = 8
    · subst q8; rfl
    rw [if_neg (show ¬ j.toNat = 8 by omega), if_neg q8]
    by_cases q4 : j = 4
    · subst q4; rfl
    rw [if_neg (show ¬ j.toNat = 4 by omega), if_neg q4]
    by_cases q1 : j = 1
    · subst q1; rfl
    rw [if_neg (show ¬ j.toNat = 1 by omega), if_neg q1]
    by_cases q0 : j = 0
    · subst q0; rfl
    rw [if_neg (show ¬ j.toNat = 0 by omega), if_neg q0]
    rfl
  rw [h24]
  exact ⟨lw_init0 e, fun b h1 h2 => absurd (show b ≤ 0 from h2) (by omega)⟩
