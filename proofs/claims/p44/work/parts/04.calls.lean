theorem q_goodT : ∀ w ∈ q_tbl, (w.onTables && w.keeps) = true ∨ ∃ ty, w = .arrayClass ty := by
  intro w h
  rcases List.mem_append.mp h with h | h
  · simp only [q_extra, List.mem_cons, List.not_mem_nil, or_false] at h
    rcases h with rfl | rfl | rfl | rfl <;> exact Or.inl rfl
  · exact good_of_word (List.mem_filter.mp h).2
theorem q_goodIn {ws : List Cond} (h : ∀ w ∈ ws, w ∈ q_tbl) : GoodIn q_tbl ws := fun w hw => ⟨h w hw, q_goodT w (h w hw)⟩
/-- a word of the tables by its place -/
theorem q_in_t {i : Nat} {w : Cond} (h : tables_1[i]? = some w) (g : goodWord w = true) : w ∈ q_tbl := List.mem_append_right _ <| List.mem_filter.mpr ⟨List.mem_append_right _ (List.mem_of_getElem? h), g⟩
theorem q_in_m {w : Cond} (h : w ∈ tables_1) (g : goodWord w = true) : w ∈ q_tbl := List.mem_append_right _ <| List.mem_filter.mpr ⟨List.mem_append_right _ h, g⟩
theorem q_in_t1 {i : Nat} {w : Cond} (h : tables_1_1[i]? = some w) (g : goodWord w = true) : w ∈ q_tbl := q_in_m (List.mem_append_left _ (List.mem_of_getElem? h)) g
theorem q_in_t2 {i : Nat} {w : Cond} (h : tables_1_2[i]? = some w) (g : goodWord w = true) : w ∈ q_tbl := q_in_m (List.mem_append_right _ (List.mem_append_left _ (List.mem_of_getElem? h))) g
theorem q_in_t3 {i : Nat} {w : Cond} (h : tables_1_3[i]? = some w) (g : goodWord w = true) : w ∈ q_tbl := q_in_m (List.mem_append_right _ (List.mem_append_right _ (List.mem_append_left _ (List.mem_of_getElem? h)))) g
theorem q_in_t4 {i : Nat} {w : Cond} (h : tables_1_4[i]? = some w) (g : goodWord w = true) : w ∈ q_tbl := q_in_m (List.mem_append_right _ (List.mem_append_right _ (List.mem_append_right _ (List.mem_append_left _ (List.mem_of_getElem? h))))) g
theorem q_in_t5 {i : Nat} {w : Cond} (h : tables_1_5[i]? = some w) (g : goodWord w = true) : w ∈ q_tbl := q_in_m (List.mem_append_right _ (List.mem_append_right _ (List.mem_append_right _ (List.mem_append_right _ (List.mem_append_left _ (List.mem_of_getElem? h)))))) g
theorem q_in_t6 {i : Nat} {w : Cond} (h : tables_1_6[i]? = some w) (g : goodWord w = true) : w ∈ q_tbl := q_in_m (List.mem_append_right _ (List.mem_append_right _ (List.mem_append_right _ (List.mem_append_right _ (List.mem_append_right _ (List.mem_append_left _ (List.mem_of_getElem? h))))))) g
theorem q_in_t7 {i : Nat} {w : Cond} (h : tables_1_7[i]? = some w) (g : goodWord w = true) : w ∈ q_tbl := q_in_m (List.mem_append_right _ (List.mem_append_right _ (List.mem_append_right _ (List.mem_append_right _ (List.mem_append_right _ (List.mem_append_right _ (List.mem_append_left _ (List.mem_of_getElem? h)))))))) g
theorem q_in_t8 {i : Nat} {w : Cond} (h : tables_1_8[i]? = some w) (g : goodWord w = true) : w ∈ q_tbl := q_in_m (List.mem_append_right _ (List.mem_append_right _ (List.mem_append_right _ (List.mem_append_right _ (List.mem_append_right _ (List.mem_append_right _ (List.mem_append_right _ (List.mem_append_left _ (List.mem_of_getElem? h))))))))) g
theorem q_in_t9 {i : Nat} {w : Cond} (h : tables_1_9[i]? = some w) (g : goodWord w = true) : w ∈ q_tbl := q_in_m (List.mem_append_right _ (List.mem_append_right _ (List.mem_append_right _ (List.mem_append_right _ (List.mem_append_right _ (List.mem_append_right _ (List.mem_append_right _ (List.mem_append_right _ (List.mem_of_getElem? h))))))))) g
theorem q_in_p {i : Nat} {w : Cond} (h : (k2_sels lw_privs)[i]? = some w) (g : goodWord w = true) : w ∈ q_tbl := List.mem_append_right _ <| List.mem_filter.mpr ⟨List.mem_append_left _ (List.mem_of_getElem? h), g⟩
theorem q_in_x {i : Nat} {w : Cond} (h : q_extra[i]? = some w) : w ∈ q_tbl := List.mem_append_left _ (List.mem_of_getElem? h)
theorem q_KX.warm {X : XW} {s U : State} (hW : s.WarmedH U.vm) (h : q_KX X s) : q_KX X U := ⟨va_K.moved hW.alike h.1, fun r hr => va_Nw.warmM hW (h.2.1 r hr), fun r hr => vk_R.warm hW (h.2.2 r hr)⟩
theorem q_SW.kept {X : XW} {s U : State} {H H1 : Heap} (hvm : s.vm.Alike U.vm) (h : q_SW X s H) (hq : ∀ a : Nat, a < H.size → ¬ q_reg X a → H1[a]? = H[a]?) : q_SW X U H1 := ⟨(h.1.moved hvm).kept hq, (h.2.1.moved hvm).kept hq, (h.2.2.moved hvm).kept hq⟩
/-- what a call site says of the tables: an instance method of the class C itself -/
def q_okV (own : String) (index : Nat) (C : String) (y : MethodName) (bytes : ByteArray) (mL : Nat) (ret : Option FieldType) (n : Nat) : Prop :=
  Cond.methodLink own index y ∈ q_tbl ∧ Cond.instanceMethod y ∈ q_tbl ∧ Cond.selects C y y ∈ q_tbl ∧ Cond.initialized C ∈ q_tbl ∧ Cond.code y bytes mL ret ∈ q_tbl ∧ (y.cls = C ∧ y.cls ≠ "java/lang/invoke/MethodHandle" ∧ y.cls ≠ "java/lang/invoke/VarHandle" ∧ (parseMethodDescriptor y.desc).map (fun d => d.parameters.length) = some n)
/-- a static method -/
def q_okS (own : String) (index : Nat) (y : MethodName) (bytes : ByteArray) (mL : Nat) (ret : Option FieldType) (n : Nat) : Prop :=
  Cond.methodLink own index y ∈ q_tbl ∧ Cond.static y ∈ q_tbl ∧ Cond.initialized y.cls ∈ q_tbl ∧ Cond.code y bytes mL ret ∈ q_tbl ∧ (y.cls ≠ "java/lang/invoke/MethodHandle" ∧ y.cls ≠ "java/lang/invoke/VarHandle" ∧ (parseMethodDescriptor y.desc).map (fun d => d.parameters.length) = some n)
/-- an inherited method y, called by the name x, of a receiver of class C -/
def q_okU (own : String) (index : Nat) (C owner : String) (x y : MethodName) (bytes : ByteArray) (mL : Nat) (ret : Option FieldType) (n : Nat) : Prop :=
  Cond.methodLink own index x ∈ q_tbl ∧ Cond.sameMethod x.cls owner x.name x.desc ∈ q_tbl ∧ Cond.selects C x y ∈ q_tbl ∧ Cond.instanceMethod y ∈ q_tbl ∧ Cond.initialized y.cls ∈ q_tbl ∧ Cond.code y bytes mL ret ∈ q_tbl ∧ (owner ≠ "java/lang/invoke/MethodHandle" ∧ owner ≠ "java/lang/invoke/VarHandle" ∧ (parseMethodDescriptor x.desc).map (fun d => d.parameters.length) = some n) ∧ (x.name = y.name ∧ x.desc = y.desc ∧ owner = y.cls)
abbrev q_Qi (X : XW) (n : Nat) (σ : ST) (post : Int32 → ST → Prop) : Array Value → State → Outcome → State → Prop := va_Qi (S := ST) post (fun σ' t => q_Post X n σ σ' t.heap) (q_reg X)
abbrev q_Ql (X : XW) (n : Nat) (σ : ST) (post : Int64 → ST → Prop) : Array Value → State → Outcome → State → Prop := va_Ql (S := ST) post (fun σ' t => q_Post X n σ σ' t.heap) (q_reg X)
abbrev q_Qv (X : XW) (n : Nat) (σ : ST) (post : ST → Prop) : Array Value → State → Outcome → State → Prop := va_Qv (S := ST) post (fun σ' t => q_Post X n σ σ' t.heap) (q_reg X)
abbrev q_Qq (X : XW) (n : Nat) (σ : ST) (post : Option Nat → ST → Prop) : Array Value → State → Outcome → State → Prop := va_Qq (S := ST) post (fun σ' t => q_Post X n σ σ' t.heap) (q_reg X)
abbrev q_P (X : XW) (σ : ST) (av : List Value) : Array Value → State → Prop := va_Pc av (q_Pre X σ)
theorem q_blind {X : XW} {σ : ST} {av : List Value} : FrameBlind (q_P X σ av) := by
  rintro a U g mk ⟨h1, hT, hR, hB, hTT, hK, hW⟩
  exact ⟨h1, hT, hR, hB, hTT, ⟨va_K.moved (u := U) (U := U.calling g mk a) (Vm.Alike.refl U.vm) hK.1, fun r hr => va_Nw.same (u := U) (U := U.calling g mk a) rfl rfl (hK.2.1 r hr), fun r hr => vk_R.same (u := U) (U := U.calling g mk a) rfl (hK.2.2 r hr)⟩, q_SW.kept (s := U) (U := U.calling g mk a) (Vm.Alike.refl U.vm) hW (fun _ _ _ => rfl)⟩
/-- a method's proof begins -/
theorem q_met {l : Launch} {y : MethodName} {cc : ByteArray} {mL : Nat} {ret : Option FieldType} {rm : Room} {av : List Value} {X : XW} {σ : ST} {own : String} {Qc : Array Value → State → Outcome → State → Prop} (n : Nat) (hy : plainFor y = true) (ho : y.cls = own) (hlen : (lg_sl av).length ≤ mL)
    (body : ∀ (p : Program) (e : Env) (s : State) (m : MethodId) (below : List Frame) (meth : Method) (c : Code), q_E p c cc s m av.toArray own X → c.maxLocals = mL → meth.sig.returnType = ret → meth.locks = false → q_I X n σ s.heap [] σ s.heap → ∀ ls : Array Slot, lv_has ls mL (lv_args 0 av) → W p l e rm s m av.toArray below meth c s.heap [] 0 0 (MQ below Qc av.toArray s 0 0 (q_reg X)) (F0 m 0 ls [])) :
    Met l y (q_ws y cc mL ret) rm (q_P X σ av) Qc 0 0 (q_reg X) := by
  refine MetFree.of_bodySF (code := cc) (maxLocals := mL) (ret := ret) hy ?_ ?_
  · intro args s m h hn
    obtain ⟨meth, c, h1, h2, h3, h4, h5, h6, -, -⟩ := Cond.code_spec hn (atoms_spec (ws := q_ws y cc mL ret) h _ List.mem_cons_self)
    exact ⟨meth, c, h1, h2, h3, h4, h5, h6⟩
  intro p e s m args below meth c s₁ B hml hv _
  obtain ⟨rfl, hT, hR, hB, hTT, hK, hW⟩ := hv
  have hh0 : s₁.heap = s.heap := by rw [B.state]; rfl
  suffices hW9 : W p l e rm s m av.toArray below meth c s.heap [] 0 0 (MQ below Qc av.toArray s 0 0 (q_reg X)) (entryFrame m av.toArray mL) by
    obtain ⟨t, a1, o, b1, b2, b3⟩ := hW9 s₁ hh0 (Stand.of_body B)
    exact ⟨t, o, a1, b1, b2, ⟨b3.1, b3.2⟩⟩
  have hts := atoms_spec (ws := q_ws y cc mL ret) B.pre
  have hown : s.vm.findClass y.cls = some m.cls := findClass_of_methodNamed B.named
  rw [ho] at hown
  have hl := lv_entry av hlen
  rw [lg_entry_eq]
  generalize (lg_sl av ++ List.replicate (mL - (lg_sl av).length) Slot.unset).toArray = ls at hl ⊢
  exact body p e s m below meth c ⟨B.exec, B.bytes, hown, fun w hw => hts w (List.mem_cons_of_mem _ hw), hK, hW⟩ hml B.returns B.notSynchronized ⟨hT, hR, hB, hTT, va_S.rf, q_K.rf⟩ ls hl
theorem q_metQ {l : Launch} {y : MethodName} {cc : ByteArray} {mL : Nat} {ret : Option FieldType} {rm : Room} {av : List Value} {X : XW} {σ : ST} {own : String} {Qc : Array Value → State → Outcome → State → Prop} (n : Nat) (hy : plainFor y = true) (ho : y.cls = own) (hlen : (lg_sl av).length ≤ mL)
    (body : ∀ (QQ : Array Value → State → Outcome → State → Prop), QQ = Qc → ∀ (p : Program) (e : Env) (s : State) (m : MethodId) (below : List Frame) (meth : Method) (c : Code), q_E p c cc s m av.toArray own X → c.maxLocals = mL → meth.sig.returnType = ret → meth.locks = false → q_I X n σ s.heap [] σ s.heap → ∀ ls : Array Slot, lv_has ls mL (lv_args 0 av) → W p l e rm s m av.toArray below meth c s.heap [] 0 0 (MQ below QQ av.toArray s 0 0 (q_reg X)) (F0 m 0 ls [])) :
    Met l y (q_ws y cc mL ret) rm (q_P X σ av) Qc 0 0 (q_reg X) :=
  q_met n hy ho hlen (body Qc rfl)
section QC
variable {p : Program} {l : Launch} {e : Env} {R : Room} {s : State} {m : MethodId} {args : Array Value} {below : List Frame} {meth : Method} {c : Code} {H : Heap} {locs : List Loc} {cells slots : Nat} {Q : State → Prop} {cc : ByteArray} {own : String} {X : XW} {n n' : Nat} {σ0 σ : ST} {H0 : Heap} {pc : Nat} {ls : Array Slot} {rest st : List Value} {a : Array Value}
theorem q_I.S (hI : q_I X n σ0 H0 locs σ H) : va_S (q_reg X) H0 H locs := hI.2.2.2.2.1
theorem q_I.K (hI : q_I X n σ0 H0 locs σ H) : q_K n X σ0 σ := hI.2.2.2.2.2
theorem q_I.post (hI : q_I X n σ0 H0 locs σ H) : q_Post X n σ0 σ H := ⟨hI.2.1, hI.2.2.1, hI.2.2.2.1, hI.2.2.2.2.2⟩
/-- returns -/
theorem q_reti (E : q_E p c cc s m args own X) (hr : meth.sig.returnType = some .int) (hlk : meth.locks = false) (hI : q_I X n σ0 s.heap locs σ H) {post : Int32 → ST → Prop} {v : Int32} (hp : post v σ) (hdg : decode cc pc = .ok (.ireturn, 1)) : W p l e R s m args below meth c H locs cells slots (MQ below (q_Qi X n σ0 post) args s cells slots (q_reg X)) (F0 m pc ls [.int v]) :=
  W.iret E.1 E.2.1 hr (fun t ht _ => ⟨⟨v, σ, rfl, hp, by show q_Post X n σ0 σ t.heap; rw [ht]; exact hI.post⟩, hI.S.F ht⟩) hI.S.2.2 hdg hlk
theorem q_retz (E : q_E p c cc s m args own X) (hr : meth.sig.returnType = some .boolean) (hlk : meth.locks = false) (hI : q_I X n σ0 s.heap locs σ H) {post : Int32 → ST → Prop} {v : Int32} (h01 : 0 ≤ v.toInt ∧ v.toInt ≤ 1) (hp : post v σ) (hdg : decode cc pc = .ok (.ireturn, 1)) : W p l e R s m args below meth c H locs cells slots (MQ below (q_Qi X n σ0 post) args s cells slots (q_reg X)) (F0 m pc ls [.int v]) :=
  W.zret E.1 E.2.1 hr (q_nar0 (Or.inr ⟨rfl, h01⟩)).1 (fun t ht _ => ⟨⟨v, σ, rfl, hp, by show q_Post X n σ0 σ t.heap; rw [ht]; exact hI.post⟩, hI.S.F ht⟩) hI.S.2.2 hdg hlk
theorem q_retl (E : q_E p c cc s m args own X) (hr : meth.sig.returnType = some .long) (hlk : meth.locks = false) (hI : q_I X n σ0 s.heap locs σ H) {post : Int64 → ST → Prop} {v : Int64} (hp : post v σ) (hdg : decode cc pc = .ok (.lreturn, 1)) : W p l e R s m args below meth c H locs cells slots (MQ below (q_Ql X n σ0 post) args s cells slots (q_reg X)) (F0 m pc ls [.long v]) :=
  W.lret E.1 E.2.1 hr (fun t ht _ => ⟨⟨v, σ, rfl, hp, by show q_Post X n σ0 σ t.heap; rw [ht]; exact hI.post⟩, hI.S.F ht⟩) hI.S.2.2 hdg hlk
theorem q_retv (E : q_E p c cc s m args own X) (hr : meth.sig.returnType = none) (hlk : meth.locks = false) (hI : q_I X n σ0 s.heap locs σ H) {post : ST → Prop} (hp : post σ) (hdg : decode cc pc = .ok (.return_, 1)) : W p l e R s m args below meth c H locs cells slots (MQ below (q_Qv X n σ0 post) args s cells slots (q_reg X)) (F0 m pc ls []) :=
  W.vret E.1 E.2.1 hr (fun t ht _ => ⟨⟨σ, rfl, hp, by show q_Post X n σ0 σ t.heap; rw [ht]; exact hI.post⟩, hI.S.F ht⟩) hI.S.2.2 hdg hlk
theorem q_retq (E : q_E p c cc s m args own X) {nm : String} (hr : meth.sig.returnType = some (.object nm)) (hlk : meth.locks = false) (hI : q_I X n σ0 s.heap locs σ H) {post : Option Nat → ST → Prop} {r : Option Nat} {v : Value} (hv : v = va_rf r) (hp : post r σ) (hdg : decode cc pc = .ok (.areturn, 1)) : W p l e R s m args below meth c H locs cells slots (MQ below (q_Qq X n σ0 post) args s cells slots (q_reg X)) (F0 m pc ls [v]) := by
  subst hv
  exact W.aret E.1 E.2.1 hr (Or.inl ⟨_, rfl⟩) (va_rf_or r) (fun t ht _ => ⟨⟨r, σ, rfl, hp, by show q_Post X n σ0 σ t.heap; rw [ht]; exact hI.post⟩, hI.S.F ht⟩) hI.S.2.2 hdg hlk
/-- calls -/
theorem q_fix {nL : Nat} (E : q_E p c cc s m args own X) (hml : c.maxLocals = nL) : CallFix p m c cc nL s args q_tbl own := ⟨E.1, E.2.1, hml, E.2.2.1, E.2.2.2.1⟩
theorem q_preS (E : q_E p c cc s m args own X) (hI : q_I X n σ0 s.heap locs σ H) (As : List Value) : PreS s H (q_P X σ As) As :=
  ⟨q_blind, fun U hU hW => ⟨rfl, hI.1, by rw [hU]; exact hI.2.1, hI.2.2.1, hI.2.2.2.1, q_KX.warm hW E.2.2.2.2.1, by rw [hU]; exact q_SW.kept hW.alike E.2.2.2.2.2 hI.S.2.1⟩⟩
theorem q_preV (E : q_E p c cc s m args own X) (hI : q_I X n σ0 s.heap locs σ H) (As : List Value) {b k ci N : Nat} {C : String} {T : u_T} (hb : q_kd X b = k) (hk : k = ci + 1 ∧ k < 20) (hc : vwCl[ci]? = some (C, T, N)) : PreV s H C b (q_P X σ (.ref b :: As)) As := by
  refine ⟨q_blind, ?_, (q_preS E hI (.ref b :: As)).2⟩
  obtain ⟨cell, q1, q2, q3, q4⟩ := q_obj hI hb hk hc
  obtain ⟨hS, hfc, -⟩ := E.2.2.2.2.1.1.1 ci _ hc
  exact ⟨cell, q1, by rw [q3]; rfl, by rw [q2]; exact hfc⟩
theorem q_runV (E : q_E p c cc s m args own X) (hml : c.maxLocals = ls.size) (hI : q_I X n σ0 s.heap locs σ H) {As : List Value} {b k ci N index mL na f w : Nat} {C : String} {T : u_T} {y : MethodName} {bytes : ByteArray} {ret : Option FieldType} {Qc : Array Value → State → Outcome → State → Prop}
    (hM : Met l y (q_ws y bytes mL ret) (q_rm f w) (q_P X σ (.ref b :: As)) Qc 0 0 (q_reg X)) (ok : q_okV own index C y bytes mL ret na) (hb : q_kd X b = k) (hk : k = ci + 1 ∧ k < 20) (hc : vwCl[ci]? = some (C, T, N)) (hn : As.length = na) (hR : f + 1 ≤ R.frames ∧ 8 + (mL + 11) + w ≤ R.locals) (hcs : cells ≤ R.cells ∧ slots ≤ R.slots)
    (hst : st = As.reverse ++ .ref b :: rest) (hW : (rest.map fun v => v.category).sum ≤ 8) (hdg : decode cc pc = .ok (.invokevirtual index, 3)) :
    va_Run p l e R s m args below meth c H locs cells slots 0 0 (F0 m pc ls st) rest (Qc (Value.ref b :: As).toArray) (q_reg X) := by
  obtain ⟨o1, o2, o3, o4, o5, o6⟩ := ok
  refine va_runV (nL := ls.size) (q_fix E hml) hM (cwV na E.2.2.2.1 (q_goodIn fun w hw => ?_) rfl rfl rfl o6 hR) (q_preV E hI As hb hk hc) rfl hn rfl hst (lv_room hW) hdg hcs
  unfold wsV at hw
  rcases List.mem_append.mp hw with h | h
  · simp only [List.mem_cons, List.not_mem_nil, or_false] at h
    rcases h with rfl | rfl | rfl | rfl
    · exact o1
    · exact o2
    · exact o3
    · exact o4
  · rcases List.mem_cons.mp h with rfl | h
    · exact o5
    · exact h
theorem q_runS (E : q_E p c cc s m args own X) (hml : c.maxLocals = ls.size) (hI : q_I X n σ0 s.heap locs σ H) {As : List Value} {index mL na f w : Nat} {y : MethodName} {bytes : ByteArray} {ret : Option FieldType} {Qc : Array Value → State → Outcome → State → Prop}
    (hM : Met l y (q_ws y bytes mL ret) (q_rm f w) (q_P X σ As) Qc 0 0 (q_reg X)) (ok : q_okS own index y bytes mL ret na) (hn : As.length = na) (hR : f + 1 ≤ R.frames ∧ 8 + (mL + 11) + w ≤ R.locals) (hcs : cells ≤ R.cells ∧ slots ≤ R.slots)
    (hst : st = As.reverse ++ rest) (hW : (rest.map fun v => v.category).sum ≤ 8) (hdg : decode cc pc = .ok (.invokestatic index, 3)) :
    va_Run p l e R s m args below meth c H locs cells slots 0 0 (F0 m pc ls st) rest (Qc As.toArray) (q_reg X) := by
  obtain ⟨o1, o2, o3, o4, o5⟩ := ok
  refine va_runS (nL := ls.size) (q_fix E hml) hM (va_cwS na E.2.2.2.1 (q_goodIn fun w hw => ?_) rfl rfl rfl o5 hR) (q_preS E hI As) rfl hn rfl hst (lv_room hW) hdg hcs
  unfold va_wsS at hw
  rcases List.mem_append.mp hw with h | h
  · simp only [List.mem_cons, List.not_mem_nil, or_false] at h
    rcases h with rfl | rfl | rfl
    · exact o1
    · exact o2
    · exact o3
  · rcases List.mem_cons.mp h with rfl | h
    · exact o4
    · exact h
theorem q_ci {n2 : Nat} {post : Int32 → ST → Prop} (hr : va_Run p l e R s m args below meth c H locs cells slots 0 0 (F0 m pc ls st) rest (q_Qi X n2 σ post a) (q_reg X)) (hI : q_I X n σ0 H0 locs σ H) (hle : n ≤ n2)
    (kk : ∀ (r : Int32) (σ1 : ST) (H1 : Heap) (locs1 : List Loc), post r σ1 → q_K n2 X σ σ1 → q_I X n σ0 H0 locs1 σ1 H1 → W p l e R s m args below meth c H1 locs1 cells slots Q (F0 m (pc + 3) ls (.int r :: rest))) : W p l e R s m args below meth c H locs cells slots Q (F0 m pc ls st) := by
  refine va_calli hr hI.S (fun q _ h => h) (fun q h => h) (fun r u t H1 locs1 ht hal hp hB hz hk hS => ?_)
  obtain ⟨b1, b2, b3, b4⟩ := hB
  rw [ht] at b1
  exact kk r u H1 locs1 hp b4 ⟨hI.1, b1, b2, b3, hS, hI.K.tr (b4.le hle)⟩
theorem q_cl_ {n2 : Nat} {post : Int64 → ST → Prop} (hr : va_Run p l e R s m args below meth c H locs cells slots 0 0 (F0 m pc ls st) rest (q_Ql X n2 σ post a) (q_reg X)) (hI : q_I X n σ0 H0 locs σ H) (hle : n ≤ n2)
    (kk : ∀ (r : Int64) (σ1 : ST) (H1 : Heap) (locs1 : List Loc), post r σ1 → q_K n2 X σ σ1 → q_I X n σ0 H0 locs1 σ1 H1 → W p l e R s m args below meth c H1 locs1 cells slots Q (F0 m (pc + 3) ls (.long r :: rest))) : W p l e R s m args below meth c H locs cells slots Q (F0 m pc ls st) := by
  refine va_calll hr hI.S (fun q _ h => h) (fun q h => h) (fun r u t H1 locs1 ht hal hp hB hz hk hS => ?_)
  obtain ⟨b1, b2, b3, b4⟩ := hB
  rw [ht] at b1
  exact kk r u H1 locs1 hp b4 ⟨hI.1, b1, b2, b3, hS, hI.K.tr (b4.le hle)⟩
theorem q_cv {n2 : Nat} {post : ST → Prop} (hr : va_Run p l e R s m args below meth c H locs cells slots 0 0 (F0 m pc ls st) rest (q_Qv X n2 σ post a) (q_reg X)) (hI : q_I X n σ0 H0 locs σ H) (hle : n ≤ n2)
    (kk : ∀ (σ1 : ST) (H1 : Heap) (locs1 : List Loc), post σ1 → q_K n2 X σ σ1 → q_I X n σ0 H0 locs1 σ1 H1 → W p l e R s m args below meth c H1 locs1 cells slots Q (F0 m (pc + 3) ls rest)) : W p l e R s m args below meth c H locs cells slots Q (F0 m pc ls st) := by
  refine va_callv hr hI.S (fun q _ h => h) (fun q h => h) (fun u t H1 locs1 ht hal hp hB hz hk hS => ?_)
  obtain ⟨b1, b2, b3, b4⟩ := hB
  rw [ht] at b1
  exact kk u H1 locs1 hp b4 ⟨hI.1, b1, b2, b3, hS, hI.K.tr (b4.le hle)⟩
theorem q_cq {n2 : Nat} {post : Option Nat → ST → Prop} (hr : va_Run p l e R s m args below meth c H locs cells slots 0 0 (F0 m pc ls st) rest (q_Qq X n2 σ post a) (q_reg X)) (hI : q_I X n σ0 H0 locs σ H) (hle : n ≤ n2)
    (kk : ∀ (r : Option Nat) (σ1 : ST) (H1 : Heap) (locs1 : List Loc), post r σ1 → q_K n2 X σ σ1 → q_I X n σ0 H0 locs1 σ1 H1 → W p l e R s m args below meth c H1 locs1 cells slots Q (F0 m (pc + 3) ls (va_rf r :: rest))) : W p l e R s m args below meth c H locs cells slots Q (F0 m pc ls st) := by
  refine va_callq hr hI.S (fun q _ h => h) (fun q h => h) (fun r u t H1 locs1 ht hal hp hB hz hk hS => ?_)
  obtain ⟨b1, b2, b3, b4⟩ := hB
  rw [ht] at b1
  exact kk r u H1 locs1 hp b4 ⟨hI.1, b1, b2, b3, hS, hI.K.tr (b4.le hle)⟩
end QC
