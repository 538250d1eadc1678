/-! cells kept but for those of S -/
def q_KS (S : Nat → Nat → Prop) (n : Nat) (X : XW) (σ σ' : ST) : Prop := ∀ b g, q_cl (q_kd X b) g ≤ n → ¬ S b g → σ'.1 b g = σ.1 b g
theorem q_KS.rf {S : Nat → Nat → Prop} {n : Nat} {X : XW} {σ : ST} : q_KS S n X σ σ := fun _ _ _ _ => rfl
theorem q_KS.si {S : Nat → Nat → Prop} {n : Nat} {X : XW} {σ τ τ' : ST} {a k f : Nat} {v : Int32} (h : q_KS S n X σ τ) (e : τ' = q_si τ a f v) (ha : q_kd X a = k) (hc : n < q_cl k f) : q_KS S n X σ τ' := by
  intro b g q hs
  rw [e]
  show (if b = a ∧ g = f then v else τ.1 b g) = _
  rw [if_neg]
  · exact h b g q hs
  · rintro ⟨rfl, rfl⟩
    rw [ha] at q
    omega
theorem q_KS.siS {S : Nat → Nat → Prop} {n : Nat} {X : XW} {σ τ τ' : ST} {a f : Nat} {v : Int32} (h : q_KS S n X σ τ) (e : τ' = q_si τ a f v) (hS : S a f) : q_KS S n X σ τ' := by
  intro b g q hs
  rw [e]
  show (if b = a ∧ g = f then v else τ.1 b g) = _
  rw [if_neg]
  · exact h b g q hs
  · rintro ⟨rfl, rfl⟩
    exact hs hS
theorem q_KS.sl {S : Nat → Nat → Prop} {n : Nat} {X : XW} {σ τ τ' : ST} {a f : Nat} {v : Int64} (h : q_KS S n X σ τ) (e : τ' = q_sl τ a f v) : q_KS S n X σ τ' := by
  intro b g q hs
  rw [e]
  exact h b g q hs
theorem q_KS.st {S : Nat → Nat → Prop} {n : Nat} {X : XW} {σ τ τ' : ST} {a v : Nat} (h : q_KS S n X σ τ) (e : τ' = q_st τ a v) : q_KS S n X σ τ' := by
  intro b g q hs
  rw [e]
  exact h b g q hs
theorem q_KS.K {S : Nat → Nat → Prop} {n n2 : Nat} {X : XW} {σ τ τ' : ST} (h : q_KS S n X σ τ) (h2 : q_K n2 X τ τ') (hn : n ≤ n2) : q_KS S n X σ τ' := by
  intro b g q hs
  rw [h2 b g (Nat.le_trans q hn)]
  exact h b g q hs
theorem q_KS.KS {S S2 : Nat → Nat → Prop} {n n2 : Nat} {X : XW} {σ τ τ' : ST} (h : q_KS S n X σ τ) (h2 : q_KS S2 n2 X τ τ') (hn : n ≤ n2) (hs2 : ∀ b g, S2 b g → S b g) : q_KS S n X σ τ' := by
  intro b g q hs
  rw [h2 b g (Nat.le_trans q hn) (fun z => hs (hs2 b g z))]
  exact h b g q hs
/-- a cell read behind a put -/
theorem q_rd {τ τ' : ST} {a f : Nat} {v : Int32} (e : τ' = q_si τ a f v) : τ'.1 a f = v := by
  rw [e]
  show (if a = a ∧ f = f then v else _) = v
  rw [if_pos ⟨rfl, rfl⟩]
theorem q_rdn {τ τ' : ST} {a b f g : Nat} {v : Int32} (e : τ' = q_si τ a f v) (h : b ≠ a ∨ g ≠ f) : τ'.1 b g = τ.1 b g := by
  rw [e]
  show (if b = a ∧ g = f then v else τ.1 b g) = _
  rw [if_neg]
  rintro ⟨h1, h2⟩
  rcases h with h | h
  · exact h h1
  · exact h h2
theorem q_rdl {τ τ' : ST} {a b f g : Nat} {v : Int64} (e : τ' = q_sl τ a f v) : τ'.1 b g = τ.1 b g := by rw [e]; rfl
section QZ
variable {p : Program} {l : Launch} {e : Env} {R : Room} {s : State} {m : MethodId} {args : Array Value} {below : List Frame} {meth : Method} {c : Code} {H : Heap} {locs : List Loc} {cells slots : Nat} {Q : State → Prop} {cc : ByteArray} {own : String} {X : XW} {n : Nat} {σ0 σ : ST} {pc : Nat} {ls : Array Slot} {rest : List Value} {a : Nat}
/-- a return that is narrowed to its own type -/
theorem q_retn (E : q_E p c cc s m args own X) {ty : FieldType} (hr : meth.sig.returnType = some ty) (hlk : meth.locks = false) (hI : q_I X n σ0 s.heap locs σ H) {post : Int32 → ST → Prop} {v : Int32} (hn : narrow ty (.int v) = .int v) (hp : post v σ) (hdg : decode cc pc = .ok (.ireturn, 1)) : W p l e R s m args below meth c H locs cells slots (MQ below (q_Qi X n σ0 post) args s cells slots (q_reg X)) (F0 m pc ls [.int v]) :=
  W.zret E.1 E.2.1 hr hn (fun t ht _ => ⟨⟨v, σ, rfl, hp, by show q_Post X n σ0 σ t.heap; rw [ht]; exact hI.post⟩, hI.S.F ht⟩) hI.S.2.2 hdg hlk
/-- System.arraycopy of longs, of one row into another or the same -/
theorem q_copyl (E : q_E p c cc s m args own X) (hml : c.maxLocals = ls.size) (hI : q_I X n σ0 s.heap locs σ H) {a0 index : Nat} (h0 : q_kd X a0 = 21) (h1 : q_kd X a = 21) (hlink : Cond.methodLink own index arraycopyName ∈ q_tbl) (hnat : Cond.native arraycopyName ∈ q_tbl) (hstat : Cond.static arraycopyName ∈ q_tbl) (hini : Cond.initialized "java/lang/System" ∈ q_tbl)
    {sp dp z : Int32} (g1 : 0 ≤ sp.toInt) (g2 : 0 ≤ dp.toInt) (g3 : 0 ≤ z.toInt) (g4 : sp.toInt + z.toInt ≤ 60) (g5 : dp.toInt + z.toInt ≤ 60) (hframes : 1 ≤ R.frames) (hlocals : (rest.map fun v => v.category).sum + (nativeFrameWords "java/lang/System" "arraycopy" 5 + 11) ≤ R.locals) (hdg : decode cc pc = .ok (.invokestatic index, 3)) (hcs : cells ≤ R.cells ∧ slots ≤ R.slots)
    (kk : ∀ (H1 : Heap) (locs1 : List Loc) (σ1 : ST), σ1 = (σ.1, (fun b g => if b = a then va_cpy (σ.2.1 a0) (σ.2.1 a) sp.toNatClampNeg dp.toNatClampNeg z.toNatClampNeg g else σ.2.1 b g, σ.2.2)) → q_I X n σ0 s.heap locs1 σ1 H1 → W p l e R s m args below meth c H1 locs1 cells slots Q (F0 m (pc + 3) ls rest)) : W p l e R s m args below meth c H locs cells slots Q (F0 m pc ls (.int z :: .int dp :: .ref a :: .int sp :: .ref a0 :: rest)) := by
  obtain ⟨hx, hb, hown, hts, ⟨hK, -, -⟩, -⟩ := E
  have e0 := q_arr hI h0 (by decide)
  have e1 := q_arr hI h1 (by decide)
  have l0 : q_ln X a0 = 60 := q_lnk hI h0 rfl (by decide)
  have l1 : q_ln X a = 60 := q_lnk hI h1 rfl (by decide)
  rw [l0] at e0
  rw [l1] at e1
  have nl : ∀ w : Int32, 0 ≤ w.toInt → ¬ w < 0 := fun w h => by rw [Int32.lt_iff_toInt_lt, q_z0]; omega
  have nn : ∀ w : Int32, 0 ≤ w.toInt → (w.toNatClampNeg : Int) = w.toInt := fun w h => by rw [q_cn]; omega
  have k4 : sp.toNatClampNeg + z.toNatClampNeg ≤ 60 := by have := nn sp g1; have := nn z g3; omega
  have k5 : dp.toNatClampNeg + z.toNatClampNeg ≤ 60 := by have := nn dp g2; have := nn z g3; omega
  have fin : ∀ (H1 : Heap) (locs1 : List Loc), H1[a]? = some (vp_cell (q_gA X 2) (60, .inr (.inl (va_cpy (σ.2.1 a0) (σ.2.1 a) sp.toNatClampNeg dp.toNatClampNeg z.toNatClampNeg)))) → (∀ q : Nat, q ≠ a → q_kd X q ≠ 0 → H1[q]? = H[q]?) → va_S (q_reg X) s.heap H1 locs1 → W p l e R s m args below meth c H1 locs1 cells slots Q (F0 m (pc + 3) ls rest) := by
    intro H1 locs1 c1 oq hS
    obtain ⟨i1, i2, i3, i4, i5, i6⟩ := hI
    refine kk H1 locs1 _ rfl ⟨i1, fun b hb => ?_, i3, i4, hS, fun b g q => i6 b g q⟩
    by_cases hba : b = a
    · subst hba
      refine ⟨fun h => absurd h (by omega), fun _ => ?_⟩
      have he : q_et 21 = 2 := rfl
      have hav : q_av X (σ.1, (fun d g => if d = b then va_cpy (σ.2.1 a0) (σ.2.1 b) sp.toNatClampNeg dp.toNatClampNeg z.toNatClampNeg g else σ.2.1 d g, σ.2.2)) 21 b = fun j => Value.long (va_cpy (σ.2.1 a0) (σ.2.1 b) sp.toNatClampNeg dp.toNatClampNeg z.toNatClampNeg j) := by
        funext g
        unfold q_av
        rw [he]
        simp
      rw [c1, l1, h1, he, hav, vp_cell_l]
    · exact (i2 b hb).ne (fun _ => rfl) (fun g => by show (if b = a then _ else _) = _; rw [if_neg hba]) rfl (oq b hba hb)
  have e0' : H[a0]? = some (arrV (q_gA X 2) 60 (fun j => .long (σ.2.1 a0 j))) := e0
  have e1' : H[a]? = some (arrV (q_gA X 2) 60 (fun j => .long (σ.2.1 a j))) := e1
  intro T hT Z
  obtain ⟨-, k0, hk0, cm0, hkk0⟩ := (q_kx_ty hK (t := 2) rfl) 60 (fun j => .long (σ.2.1 a0 j))
  obtain ⟨-, k1, hk1, cm1, hkk1⟩ := (q_kx_ty hK (t := 2) rfl) 60 (fun j => .long (σ.2.1 a j))
  obtain ⟨vm', Z', step⟩ := Z.arraycopy hx hown (hts _ hlink) (hts _ hnat) (hts _ hstat) (hts _ hini) (src := a0) (dst := a) (srcPos := sp) (destPos := dp) (n := z) (by rw [hT]; exact e0') (by rw [hT]; exact e1')
    (fun _ h => by cases h) (fun _ h => by cases h) (fun h => by cases h) (fun h => by cases h) hk0 hk1 hkk0 hkk1 rfl (nl _ g1) (nl _ g2) (nl _ g3)
    (by rw [arrV_size]; omega) (by rw [arrV_size]; omega)
    (fun vm₁ _ i hi => by
      have e : (arrV (q_gA X 2) 60 (fun j => .long (σ.2.1 a0 j))).slots.getD (sp.toNatClampNeg + i) .null = .long (σ.2.1 a0 (sp.toNatClampNeg + i)) := by
        rw [Array.getD_eq_getD_getElem?, arrV_read _ _ (by omega)]
        rfl
      rw [e]
      exact ⟨rfl, trivial⟩)
    (g := F0 m pc ls (.int z :: .int dp :: .ref a :: .int sp :: .ref a0 :: rest)) rfl (by rw [hml]) (rest := rest) rfl (by rw [hb]; exact hdg) hframes (by show 2 * 0 + _ + _ ≤ _; omega)
  have ec : copied (arrV (q_gA X 2) 60 (fun j => .long (σ.2.1 a0 j))) (arrV (q_gA X 2) 60 (fun j => .long (σ.2.1 a j))) sp dp z = arrV (q_gA X 2) 60 (fun j => .long (va_cpy (σ.2.1 a0) (σ.2.1 a) sp.toNatClampNeg dp.toNatClampNeg z.toNatClampNeg j)) := va_copied (fun z => .long z) (q_gA X 2) (q_gA X 2) (σ.2.1 a0) (σ.2.1 a) k4
  rw [ec] at Z' step
  have hl : a < H.size := (Array.getElem?_eq_some_iff.mp e1').1
  have hheap : ((T.setVm vm').setCell a (arrV (q_gA X 2) 60 (fun j => .long (va_cpy (σ.2.1 a0) (σ.2.1 a) sp.toNatClampNeg dp.toNatClampNeg z.toNatClampNeg j)))).heap = H.setIfInBounds a (arrV (q_gA X 2) 60 (fun j => .long (va_cpy (σ.2.1 a0) (σ.2.1 a) sp.toNatClampNeg dp.toNatClampNeg z.toNatClampNeg j))) := by rw [← hT]; rfl
  have oq : ∀ q : Nat, q ≠ a → (H.setIfInBounds a (arrV (q_gA X 2) 60 (fun j => .long (va_cpy (σ.2.1 a0) (σ.2.1 a) sp.toNatClampNeg dp.toNatClampNeg z.toNatClampNeg j))))[q]? = H[q]? := fun q hq => by simp [Array.getElem?_setIfInBounds, Ne.symm hq]
  obtain ⟨t, a1, b1⟩ := fin _ _ (show (H.setIfInBounds a _)[a]? = some _ by rw [vp_cell_l]; simp [Array.getElem?_setIfInBounds, hl]) (fun q g1 _ => oq q g1) ⟨by simp; exact hI.S.1, fun q g1 g2 => by
      rw [oq q (fun e => g2 (by rw [e]; show q_kd X a ≠ 0; omega))]
      exact hI.S.2.1 q g1 g2, fun q hq => by
      rcases List.mem_append.mp hq with h | h
      · exact hI.S.2.2 q h
      · obtain ⟨w, -, hw⟩ := List.mem_map.mp h
        rw [← hw]
        show q_kd X a ≠ 0
        omega⟩ _ hheap Z'
  exact ⟨t, step t a1, b1⟩
end QZ
theorem q_slen_lt (i : Nat) : q_slen.getD i 0 < 2 ^ 31 := by
  have h : ∀ j, j < 22 → q_slen.getD j 0 < 2 ^ 31 := by decide
  rcases Nat.lt_or_ge i 22 with hi | hi
  · exact h i hi
  · have e : q_slen.getD i 0 = 0 := by
      rw [List.getD_eq_getElem?_getD, List.getElem?_eq_none (by show 22 ≤ i; exact hi)]
      rfl
    rw [e]
    decide
theorem q_slen_le (i : Nat) : q_slen.getD i 0 ≤ 1000 := by
  have h : ∀ j, j < 22 → q_slen.getD j 0 ≤ 1000 := by decide
  rcases Nat.lt_or_ge i 22 with hi | hi
  · exact h i hi
  · have e : q_slen.getD i 0 = 0 := by
      rw [List.getD_eq_getElem?_getD, List.getElem?_eq_none (by show 22 ≤ i; exact hi)]
      rfl
    rw [e]
    decide
