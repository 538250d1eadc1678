theorem q_exi {A : Nat → Prop} {X X' : XW} {σ σ' : ST} {a f : Nat} (hx : q_ext A X X' σ σ') (ha : q_kd X a ≠ 0) : σ'.1 a f = σ.1 a f := (hx.2.2.2.1 a ha).2.2.2 f
theorem q_wcell {D : DW} {X : XW} {σ : ST} {H : Heap} {v k ci N : Nat} {C : String} {T : u_T} (hD : X.1 = D) (w : q_w X σ H) (hk : q_kd X v = k) (hci : k = ci + 1 ∧ k < 20) (hc : vwCl[ci]? = some (C, T, N)) : ∃ cv : Cell, H[v]? = some cv ∧ cv.cls = D.1.1 ci ∧ cv.vm = .none := by
  obtain ⟨rfl, h20⟩ := hci
  subst hD
  obtain ⟨r, h1, h2⟩ := (w.2.1 v (by rw [hk]; omega)).1 (by rw [hk]; exact h20)
  rw [hk] at h2
  exact t_cell h2
theorem q_arr_eq {c : ClassId} {n : Nat} {g g' : Nat → Value} (h : ∀ j, j < n → g j = g' j) : arrV c n g = arrV c n g' := by
  have e : (fun j : Fin n => g j.val) = fun j : Fin n => g' j.val := funext fun j => h j.1 j.2
  unfold arrV
  rw [e]
theorem q_bn12 (f : Nat) (h : 40 ≤ f) : q_bn 12 f = q_full := by
  unfold q_bn
  split <;> first | rfl | omega | (split <;> first | rfl | omega)
theorem q_hB2 {L : List Int32} (h : ∀ f, f < 40 → (q_bn 12 f).1 ≤ (L.getD f 0).toInt ∧ (L.getD f 0).toInt ≤ (q_bn 12 f).2) (f : Nat) : q_in (q_bn 12 f) (L.getD f 0) := by
  by_cases q : f < 40
  · exact h f q
  · exact q_inU (q_bn12 f (by omega))
