/-! FROM 37z.round.lean.txt -/
section
/-! steps of a round, read -/
def m_oz (b : Int) (P : Prop) : Prop := b = 0 → P
theorem m_oz.mono {b b' : Int} {P P' : Prop} (h : m_oz b P) (hb : 0 ≤ b) (hb' : b ≤ b') (f : P → P') : m_oz b' P' := fun e => f (h (by omega))
def m_tst (c : Int → Int) (w : Int) : Prop := (0 ≤ c (w + 6) ∧ c (w + 6) ≤ 3) ∧ ((c (w + 6) = 0 ∨ c (w + 6) = 2) → 0 ≤ c (w + 1) ∧ c (w + 1) ≤ 5)
def m_t1 (c : Int → Int) (w : Int) : Prop := (c (w + 6) = 0 ∨ c (w + 6) = 2) → 0 ≤ c (w + 1) ∧ c (w + 1) ≤ 5
theorem m_t1.no {c : Int → Int} {w : Int} (h0 : c (w + 6) ≠ 0) (h2 : c (w + 6) ≠ 2) : m_t1 c w := fun h => by omega
theorem m_t1.yes {c : Int → Int} {w : Int} (h : 0 ≤ c (w + 1) ∧ c (w + 1) ≤ 5) : m_t1 c w := fun _ => h
theorem m_t1.k {c c' : Int → Int} {w : Int} (h : m_t1 c w) (h6 : c' (w + 6) = c (w + 6)) (h1 : c' (w + 1) = c (w + 1)) : m_t1 c' w := by
  unfold m_t1 at h ⊢
  rw [h6, h1]
  exact h
def m_rst (c : Int → Int) (w : Int) : Prop := ((c w = 1 ∨ c w = 2 ∨ (c w = 3 ∧ (c (w + 6) = 0 ∨ c (w + 6) = 2))) → 0 ≤ c (w + 1) ∧ c (w + 1) ≤ 5) ∧ (c w = 3 → 0 ≤ c (w + 6) ∧ c (w + 6) ≤ 3)
theorem m_rst.m0 {c : Int → Int} {w : Int} (h1 : c w ≠ 1) (h2 : c w ≠ 2) (h3 : c w ≠ 3) : m_rst c w := ⟨fun h => by omega, fun h => by omega⟩
theorem m_rst.m1 {c : Int → Int} {w : Int} (h3 : c w ≠ 3) (h : 0 ≤ c (w + 1) ∧ c (w + 1) ≤ 5) : m_rst c w := ⟨fun _ => h, fun h => by omega⟩
theorem m_rst.m3 {c : Int → Int} {w : Int} (h3 : c w = 3) (h : m_tst c w) : m_rst c w := ⟨fun q => h.2 (by omega), fun _ => h.1⟩
theorem m_rst.ext {c c' : Int → Int} {w : Int} (h : m_rst c w) (e : ∀ j : Int, c' j = c j) : m_rst c' w := by
  have : c' = c := funext e
  rw [this]; exact h
def m_lp (c : Int → Int) (w s n : Int) : Prop := (0 ≤ c w ∧ c w ≤ 5) ∧ m_rst c w ∧ ∀ t : Int, s + 1 ≤ t → t < n → m_stp c (4376 + 9 * t) t n
theorem m_lp.mk {c : Int → Int} {w s n : Int} (h : m_rst c w) (hk : 0 ≤ c w ∧ c w ≤ 5) (e : n = s + 1) : m_lp c w s n := ⟨hk, h, fun t h0 h1 => by omega⟩
theorem m_lp.ext {c c' : Int → Int} {w s n n' : Int} (h : m_lp c w s n) (e : ∀ j : Int, c' j = c j) (en : n' = n) : m_lp c' w s n' := by
  have : c' = c := funext e
  rw [this, en]; exact h
theorem m_stp.up {c : Int → Int} {w s n n' : Int} (h : m_stp c w s n) (hn : n ≤ n') : m_stp c w s n' := ⟨h.1, h.2.1, h.2.2.1, h.2.2.2.1, by have := h.2.2.2.2; omega⟩
theorem m_lp.step {c c' : Int → Int} {w s n n' : Int} (h : m_lp c w s n) (hk : ∀ j : Int, 0 ≤ j → j < 4376 + 9 * n → c' j = c j) (hm : ∀ t : Int, n ≤ t → t < n' → m_stp c' (4376 + 9 * t) t n') (hn : n ≤ n') (hw : w = 4376 + 9 * s) (hs : 0 ≤ s ∧ s < n) : m_lp c' w s n' := by
  obtain ⟨h1, h2, h3⟩ := h
  refine ⟨by rw [hk w (by omega) (by omega)]; exact h1, ?_, fun t t0 t1 => ?_⟩
  · unfold m_rst at h2 ⊢
    rw [hk w (by omega) (by omega), hk (w + 6) (by omega) (by omega), hk (w + 1) (by omega) (by omega)]
    exact h2
  · by_cases q : t < n
    · exact ((h3 t t0 q).ext (fun j a b => hk j (by omega) (by omega))).up hn
    · exact hm t (by omega) t1
theorem m_lp.done {c c' : Int → Int} {w s n v : Int} (h : m_lp c w s n) (e : ∀ j : Int, 0 ≤ j → c' j = if j = w + 8 then v else c j) (hv : v = n) (hw : w = 4376 + 9 * s) (hs : 0 ≤ s ∧ s < n) : ∀ t : Int, s ≤ t → t < n → m_stp c' (4376 + 9 * t) t n := by
  obtain ⟨h1, h2, h3⟩ := h
  intro t t0 t1
  by_cases q : t = s
  · subst q
    rw [← hw]
    unfold m_rst at h2
    unfold m_stp
    rw [e w (by omega), if_neg (by omega), e (w + 1) (by omega), if_neg (by omega), e (w + 6) (by omega), if_neg (by omega), e (w + 8) (by omega), if_pos rfl]
    exact ⟨h1, h2.1, h2.2, by omega, by omega⟩
  · exact (h3 t (by omega) t1).ext (fun j a b => by rw [e j (by omega), if_neg (by omega)])
/-- a round read to its end comes into the game -/
theorem m_G.round {c c' : Int → Int} {n : Int} (g : m_G c) (hst : ∀ s : Int, 0 ≤ s → s < n → m_stp c (4376 + 9 * s) s n) (hn : 0 ≤ n ∧ n ≤ 30) (e : ∀ j : Int, 0 ≤ j → c' j = if 656 ≤ j ∧ j < 656 + 9 * n then c (4376 + (j - 656)) else if j = 655 then n else c j) : m_G c' := by
  obtain ⟨hH, hD, hY, hT, hO, hQ⟩ := g
  have b9 : 0 ≤ c 9 ∧ c 9 ≤ 80 := hH.2.2.2.2.2.2.1
  have q : ∀ j : Int, 0 ≤ j → j < 655 → c' j = c j := fun j h0 h1 => by rw [e j h0, if_neg (by omega), if_neg (by omega)]
  have e9 : c' 9 = c 9 := q 9 (by decide) (by decide)
  have e0 : c' 0 = c 0 := q 0 (by decide) (by decide)
  have eN : c' 655 = n := by rw [e 655 (by decide), if_neg (by omega), if_pos rfl]
  refine ⟨?_, ?_, ?_, ?_, ?_, ?_⟩
  · unfold m_H at hH ⊢
    rw [q 0 (by decide) (by decide), q 2 (by decide) (by decide), q 4 (by decide) (by decide), q 5 (by decide) (by decide), q 6 (by decide) (by decide), q 7 (by decide) (by decide), q 9 (by decide) (by decide)]
    exact hH
  · intro p k h0 h1 h2 h3
    rw [q _ (by omega) (by omega), e0]
    exact hD p k h0 h1 h2 h3
  · intro i h0 h1
    rw [e9] at h1
    have w := hY i h0 h1
    rw [q (94 + 7 * i + 2) (by omega) (by omega)]
    refine ⟨w.1, fun t t0 t1 => ?_⟩
    rw [q (94 + 7 * i + 3 + t) (by omega) (by omega), e0]
    exact w.2 t t0 t1
  · unfold m_T at hT ⊢
    rw [m_S_ext (fun j a b => q j (by omega) (by omega)), e9, m_L_ext (fun i a b => q _ (by omega) (by omega))]
    exact hT
  · intro h7
    rw [q 7 (by decide) (by decide)] at h7
    have h8 : 1 ≤ c 9 := by have := hH.2.2.2.2.2.2.2.1; omega
    rw [e9, q (94 + 7 * (c 9 - 1)) (by omega) (by omega), q 6 (by decide) (by decide)]
    exact hO h7
  · refine ⟨by rw [eN]; exact hn, fun s h0 h1 => ?_⟩
    rw [eN] at h1 ⊢
    have w := hst s h0 h1
    have f : ∀ i : Int, 0 ≤ i → i < 9 → c' (656 + 9 * s + i) = c (4376 + 9 * s + i) := by
      intro i a b
      rw [e _ (by omega), if_pos (by omega)]
      have : (4376 : Int) + (656 + 9 * s + i - 656) = 4376 + 9 * s + i := by omega
      rw [this]
    have f0 := f 0 (by decide) (by decide)
    simp only [Int.add_zero] at f0
    unfold m_stp at w ⊢
    rw [f0, f 1 (by decide) (by decide), f 6 (by decide) (by decide), f 8 (by decide) (by decide)]
    exact w
/-- the steps copied, behind their number -/
theorem m_rd_done {c c0 c1 : Int → Int} {n k : Int} (h : ∀ j : Int, 0 ≤ j → c j = if 656 ≤ j ∧ j < 656 + k then c1 (4376 + (j - 656)) else c1 j) (e1 : ∀ j : Int, 0 ≤ j → c1 j = if j = 655 then n else c0 j) (hk : k = 9 * n) : ∀ j : Int, 0 ≤ j → c j = if 656 ≤ j ∧ j < 656 + 9 * n then c0 (4376 + (j - 656)) else if j = 655 then n else c0 j := by
  intro j hj
  subst hk
  rw [h j hj]
  by_cases q : 656 ≤ j ∧ j < 656 + 9 * n
  · rw [if_pos q, if_pos q, e1 _ (by omega), if_neg (by omega)]
  · rw [if_neg q, if_neg q, e1 j hj]
def m_rs (c : Int → Int) (n : Int) : Prop := ∀ s : Int, 0 ≤ s → s < n → m_stp c (4376 + 9 * s) s n
theorem m_rs.ext {c c' : Int → Int} {n n' : Int} (h : m_rs c n) (e : ∀ j : Int, 4376 ≤ j → c' j = c j) (en : n' = n) : m_rs c' n' := by
  subst en
  intro s h0 h1
  exact (h s h0 h1).ext (fun j a b => e j (by omega))
theorem m_rs.step {c c' : Int → Int} {n n' : Int} (h : m_rs c n) (hk : ∀ j : Int, 0 ≤ j → j < 4376 + 9 * n → c' j = c j) (hm : ∀ t : Int, n ≤ t → t < n' → m_stp c' (4376 + 9 * t) t n') (hn : n ≤ n') : m_rs c' n' := by
  intro t t0 t1
  by_cases q : t < n
  · exact ((h t t0 q).ext (fun j a b => hk j (by omega) (by omega))).up hn
  · exact hm t (by omega) t1
end
/-! FROM 38.round.a.lean.txt -/
section
section QS
variable {p : Program} {l : Launch} {e : Env} {R : Room} {s : State} {m : MethodId} {args : Array Value} {below : List Frame} {meth : Method} {c : Code} {H : Heap} {locs : List Loc} {cells slots : Nat} {Q : State → Prop} {cc : ByteArray} {X : XW} {n : Nat} {σ0 σ : ST} {H0 : Heap} {pc : Nat} {ls : Array Slot} {rest : List Value} {a : Nat}
theorem kv_X12_264 : q_okV RX12 264 RX12 yX12_readTest cX12_readTest 3 none 1 := ⟨(q_in_t8 (i := 107) (by first | rfl | decide +kernel) rfl), (q_in_t8 (i := 109) (by first | rfl | decide +kernel) rfl), (q_in_p (i := 77) (by decide +kernel) rfl), (q_in_t1 (i := 14) (by first | rfl | decide +kernel) rfl), (q_in_t8 (i := 110) (by first | rfl | decide +kernel) rfl), ⟨rfl, by decide, by decide, rfl⟩⟩
theorem gs_X12_267_12 (E : q_E p c cc s m args RX12 X) (hI : q_I X n σ0 H0 locs σ H) (ha : q_kd X a = 12) (hdg : decode cc pc = .ok (.getfield 267, 3)) (kk : W p l e R s m args below meth c H locs cells slots Q (F0 m (pc + 3) ls (.int (σ.1 a 27) :: rest))) : W p l e R s m args below meth c H locs cells slots Q (F0 m pc ls (.ref a :: rest)) :=
  q_getf (ref := "CheatHeapModel") E hI ha ⟨rfl, by decide⟩ (show vwCl[11]? = some (RX12, TX12, 46) from rfl) q_inX12 (f := 27) (by decide) (q_in_t7 (i := 12) (by first | rfl | decide +kernel) rfl) (Or.inl rfl) rfl hdg kk
theorem ps_X12_267_12 (E : q_E p c cc s m args RX12 X) (hI : q_I X n σ0 H0 locs σ H) (ha : q_kd X a = 12) {v : Int32} (hcl : n < 3) (hdg : decode cc pc = .ok (.putfield 267, 3)) (kk : ∀ (H1 : Heap) (locs1 : List Loc) (σ1 : ST), σ1 = q_si σ a 27 v → q_I X n σ0 H0 locs1 σ1 H1 → W p l e R s m args below meth c H1 locs1 cells slots Q (F0 m (pc + 3) ls rest)) : W p l e R s m args below meth c H locs cells slots Q (F0 m pc ls (.int v :: .ref a :: rest)) :=
  q_puti (ref := "CheatHeapModel") E hI ha ⟨rfl, by decide⟩ (show vwCl[11]? = some (RX12, TX12, 46) from rfl) q_inX12 tyX12_ok nmX12 (f := 27) (by decide) (q_in_t7 (i := 12) (by first | rfl | decide +kernel) rfl) (Or.inl rfl) rfl rfl hcl hdg (q_inU rfl) (Or.inl rfl) (fun H1 l1 h => kk H1 l1 _ rfl h)
theorem kv_X12_270 : q_okV RX12 270 RX12 yX12_readRest cX12_readRest 3 none 1 := ⟨(q_in_t8 (i := 103) (by first | rfl | decide +kernel) rfl), (q_in_t8 (i := 105) (by first | rfl | decide +kernel) rfl), (q_in_p (i := 76) (by decide +kernel) rfl), (q_in_t1 (i := 14) (by first | rfl | decide +kernel) rfl), (q_in_t8 (i := 106) (by first | rfl | decide +kernel) rfl), ⟨rfl, by decide, by decide, rfl⟩⟩
theorem kv_X12_273 : q_okV RX12 273 RX12 yX12_readStep cX12_readStep 5 none 1 := ⟨(q_in_t8 (i := 99) (by first | rfl | decide +kernel) rfl), (q_in_t8 (i := 101) (by first | rfl | decide +kernel) rfl), (q_in_p (i := 75) (by decide +kernel) rfl), (q_in_t1 (i := 14) (by first | rfl | decide +kernel) rfl), (q_in_t8 (i := 102) (by first | rfl | decide +kernel) rfl), ⟨rfl, by decide, by decide, rfl⟩⟩
end QS
end
