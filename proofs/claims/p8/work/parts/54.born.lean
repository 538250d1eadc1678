set_option maxRecDepth 100000 in
set_option maxHeartbeats 4000000 in
theorem n_X11 (l : Launch) (D : DW) (X : XW) (σ : ST) (h sz : Nat) : Met l yX11_init (q_ws yX11_init cX11_init 2 none) { frames := 5, cells := 0 + 1 + 1 + 1 + (0 + 1 + (0 + 1 + (0 + 1) + 1 + (0 + 1) + 1 + (0 + 1)) + 1 + (0 + 1 + (0 + 1) + 1 + (0 + 1) + 1 + (0 + 1) + 1 + (0 + 1) + 1 + (0 + 1) + 1 + (0 + 1) + 1 + (0 + 1)) + 1 + (0 + 1 + (0 + 1) + 1 + (0 + 1) + 1 + (0 + 1) + 1 + (0 + 1)) + 1 + (0 + 1 + (0 + 1) + 1 + (0 + 1) + 1 + (0 + 1) + 1 + (0 + 1) + 1 + (0 + 1)) + 1 + (0 + 1) + 1 + (0 + 1)) + 1 + (0 + 1 + (0 + 1 + (0 + 1) + 1 + (0 + 1) + 1 + (0 + 1)) + 1 + (0 + 1 + (0 + 1) + 1 + (0 + 1) + 1 + (0 + 1) + 1 + (0 + 1) + 1 + (0 + 1) + 1 + (0 + 1) + 1 + (0 + 1)) + 1 + (0 + 1 + (0 + 1) + 1 + (0 + 1) + 1 + (0 + 1) + 1 + (0 + 1)) + 1 + (0 + 1 + (0 + 1) + 1 + (0 + 1) + 1 + (0 + 1) + 1 + (0 + 1) + 1 + (0 + 1)) + 1 + (0 + 1) + 1 + (0 + 1)) + 1 + 1 + (0 + (0 + 1) + 1 + (0 + 1 + (0 + 1 + (0 + 1) + 1 + (0 + 1) + 1 + (0 + 1)) + 1 + (0 + 1 + (0 + 1) + 1 + (0 + 1) + 1 + (0 + 1) + 1 + (0 + 1) + 1 + (0 + 1) + 1 + (0 + 1) + 1 + (0 + 1)) + 1 + (0 + 1 + (0 + 1) + 1 + (0 + 1) + 1 + (0 + 1) + 1 + (0 + 1)) + 1 + (0 + 1 + (0 + 1) + 1 + (0 + 1) + 1 + (0 + 1) + 1 + (0 + 1) + 1 + (0 + 1)) + 1 + (0 + 1) + 1 + (0 + 1)) + 1 + (0 + 1)) + 1 + (0 + (0 + 1) + 1 + (0 + 1 + (0 + 1) + 1 + (0 + 1) + 1 + (0 + 1) + 1 + (0 + 1) + 1 + (0 + 1)) + 1 + (0 + 1)) + 1 + (0 + 1 + (0 + 1)) + 1 + (0 + 1 + (0 + 1)) + 1 + (0 + 1) + 1 + (0 + 1) + 1 + (0 + 1) + 1 + (0 + 1) + 1 + (0 + 1 + (0 + 1 + (0 + 1) + 1 + (0 + 1) + 1 + (0 + 1)) + 1 + (0 + 1 + (0 + 1) + 1 + (0 + 1) + 1 + (0 + 1) + 1 + (0 + 1) + 1 + (0 + 1) + 1 + (0 + 1) + 1 + (0 + 1)) + 1 + (0 + 1 + (0 + 1) + 1 + (0 + 1) + 1 + (0 + 1) + 1 + (0 + 1)) + 1 + (0 + 1 + (0 + 1) + 1 + (0 + 1) + 1 + (0 + 1) + 1 + (0 + 1) + 1 + (0 + 1)) + 1 + (0 + 1) + 1 + (0 + 1)) + 1 + (0 + 1 + (0 + 1 + (0 + 1) + 1 + (0 + 1) + 1 + (0 + 1)) + 1 + (0 + 1 + (0 + 1) + 1 + (0 + 1) + 1 + (0 + 1) + 1 + (0 + 1) + 1 + (0 + 1) + 1 + (0 + 1) + 1 + (0 + 1)) + 1 + (0 + 1 + (0 + 1) + 1 + (0 + 1) + 1 + (0 + 1) + 1 + (0 + 1)) + 1 + (0 + 1 + (0 + 1) + 1 + (0 + 1) + 1 + (0 + 1) + 1 + (0 + 1) + 1 + (0 + 1)) + 1 + (0 + 1) + 1 + (0 + 1)) + 1 + (0 + 1 + (0 + 1 + (0 + 1) + 1 + (0 + 1) + 1 + (0 + 1)) + 1 + (0 + 1 + (0 + 1) + 1 + (0 + 1) + 1 + (0 + 1) + 1 + (0 + 1) + 1 + (0 + 1) + 1 + (0 + 1) + 1 + (0 + 1)) + 1 + (0 + 1 + (0 + 1) + 1 + (0 + 1) + 1 + (0 + 1) + 1 + (0 + 1)) + 1 + (0 + 1 + (0 + 1) + 1 + (0 + 1) + 1 + (0 + 1) + 1 + (0 + 1) + 1 + (0 + 1)) + 1 + (0 + 1) + 1 + (0 + 1)), slots := 0 + 4 + 900 + 15 + (0 + 8 + (0 + 1 + (0 + 10) + 1 + (0 + 48) + 1 + (0 + 6)) + 7 + (0 + 1 + (0 + 60) + 1 + (0 + 60) + 1 + (0 + 6) + 1 + (0 + 6) + 1 + (0 + 6) + 1 + (0 + 6) + 1 + (0 + 6)) + 6 + (0 + 1 + (0 + 80) + 1 + (0 + 80) + 1 + (0 + 80) + 1 + (0 + 320)) + 8 + (0 + 1 + (0 + 60) + 1 + (0 + 60) + 1 + (0 + 60) + 1 + (0 + 60) + 1 + (0 + 60)) + 1 + (0 + 10) + 1 + (0 + 10)) + 15 + (0 + 8 + (0 + 1 + (0 + 10) + 1 + (0 + 48) + 1 + (0 + 6)) + 7 + (0 + 1 + (0 + 60) + 1 + (0 + 60) + 1 + (0 + 6) + 1 + (0 + 6) + 1 + (0 + 6) + 1 + (0 + 6) + 1 + (0 + 6)) + 6 + (0 + 1 + (0 + 80) + 1 + (0 + 80) + 1 + (0 + 80) + 1 + (0 + 320)) + 8 + (0 + 1 + (0 + 60) + 1 + (0 + 60) + 1 + (0 + 60) + 1 + (0 + 60) + 1 + (0 + 60)) + 1 + (0 + 10) + 1 + (0 + 10)) + 3 + 12 + (0 + (0 + 0) + 15 + (0 + 8 + (0 + 1 + (0 + 10) + 1 + (0 + 48) + 1 + (0 + 6)) + 7 + (0 + 1 + (0 + 60) + 1 + (0 + 60) + 1 + (0 + 6) + 1 + (0 + 6) + 1 + (0 + 6) + 1 + (0 + 6) + 1 + (0 + 6)) + 6 + (0 + 1 + (0 + 80) + 1 + (0 + 80) + 1 + (0 + 80) + 1 + (0 + 320)) + 8 + (0 + 1 + (0 + 60) + 1 + (0 + 60) + 1 + (0 + 60) + 1 + (0 + 60) + 1 + (0 + 60)) + 1 + (0 + 10) + 1 + (0 + 10)) + 1 + (0 + 6)) + 11 + (0 + (0 + 0) + 8 + (0 + 1 + (0 + 60) + 1 + (0 + 60) + 1 + (0 + 60) + 1 + (0 + 60) + 1 + (0 + 60)) + 1 + (0 + 3)) + 8 + (0 + 1 + (0 + 60)) + 8 + (0 + 1 + (0 + 60)) + 3 + (0 + 60) + 3 + (0 + 60) + 3 + (0 + 60) + 3 + (0 + 60) + 15 + (0 + 8 + (0 + 1 + (0 + 10) + 1 + (0 + 48) + 1 + (0 + 6)) + 7 + (0 + 1 + (0 + 60) + 1 + (0 + 60) + 1 + (0 + 6) + 1 + (0 + 6) + 1 + (0 + 6) + 1 + (0 + 6) + 1 + (0 + 6)) + 6 + (0 + 1 + (0 + 80) + 1 + (0 + 80) + 1 + (0 + 80) + 1 + (0 + 320)) + 8 + (0 + 1 + (0 + 60) + 1 + (0 + 60) + 1 + (0 + 60) + 1 + (0 + 60) + 1 + (0 + 60)) + 1 + (0 + 10) + 1 + (0 + 10)) + 15 + (0 + 8 + (0 + 1 + (0 + 10) + 1 + (0 + 48) + 1 + (0 + 6)) + 7 + (0 + 1 + (0 + 60) + 1 + (0 + 60) + 1 + (0 + 6) + 1 + (0 + 6) + 1 + (0 + 6) + 1 + (0 + 6) + 1 + (0 + 6)) + 6 + (0 + 1 + (0 + 80) + 1 + (0 + 80) + 1 + (0 + 80) + 1 + (0 + 320)) + 8 + (0 + 1 + (0 + 60) + 1 + (0 + 60) + 1 + (0 + 60) + 1 + (0 + 60) + 1 + (0 + 60)) + 1 + (0 + 10) + 1 + (0 + 10)) + 15 + (0 + 8 + (0 + 1 + (0 + 10) + 1 + (0 + 48) + 1 + (0 + 6)) + 7 + (0 + 1 + (0 + 60) + 1 + (0 + 60) + 1 + (0 + 6) + 1 + (0 + 6) + 1 + (0 + 6) + 1 + (0 + 6) + 1 + (0 + 6)) + 6 + (0 + 1 + (0 + 80) + 1 + (0 + 80) + 1 + (0 + 80) + 1 + (0 + 320)) + 8 + (0 + 1 + (0 + 60) + 1 + (0 + 60) + 1 + (0 + 60) + 1 + (0 + 60) + 1 + (0 + 60)) + 1 + (0 + 10) + 1 + (0 + 10)), locals := 105 } (q_PN D X σ h sz 10 17 (fun k => defaultValue (tyX11 k)) [.ref h]) (q_QN X σ h sz 11 (fun X' σ' => (σ'.1 h 5 = 0 ∧ σ'.1 h 11 = 0) ∧ (∀ i, i < 4 → σ'.1 (q_rf X' (q_rf X' h 3) i) 0 = 0 ∧ σ'.1 (q_rf X' (q_rf X' h 3) i) 1 = -1) ∧ ∀ i j, i < 4 → j < 4 → q_rf X' (q_rf X' h 3) i = q_rf X' (q_rf X' h 3) j → i = j)) (0 + 1 + 1 + 1 + (0 + 1 + (0 + 1 + (0 + 1) + 1 + (0 + 1) + 1 + (0 + 1)) + 1 + (0 + 1 + (0 + 1) + 1 + (0 + 1) + 1 + (0 + 1) + 1 + (0 + 1) + 1 + (0 + 1) + 1 + (0 + 1) + 1 + (0 + 1)) + 1 + (0 + 1 + (0 + 1) + 1 + (0 + 1) + 1 + (0 + 1) + 1 + (0 + 1)) + 1 + (0 + 1 + (0 + 1) + 1 + (0 + 1) + 1 + (0 + 1) + 1 + (0 + 1) + 1 + (0 + 1)) + 1 + (0 + 1) + 1 + (0 + 1)) + 1 + (0 + 1 + (0 + 1 + (0 + 1) + 1 + (0 + 1) + 1 + (0 + 1)) + 1 + (0 + 1 + (0 + 1) + 1 + (0 + 1) + 1 + (0 + 1) + 1 + (0 + 1) + 1 + (0 + 1) + 1 + (0 + 1) + 1 + (0 + 1)) + 1 + (0 + 1 + (0 + 1) + 1 + (0 + 1) + 1 + (0 + 1) + 1 + (0 + 1)) + 1 + (0 + 1 + (0 + 1) + 1 + (0 + 1) + 1 + (0 + 1) + 1 + (0 + 1) + 1 + (0 + 1)) + 1 + (0 + 1) + 1 + (0 + 1)) + 1 + 1 + (0 + (0 + 1) + 1 + (0 + 1 + (0 + 1 + (0 + 1) + 1 + (0 + 1) + 1 + (0 + 1)) + 1 + (0 + 1 + (0 + 1) + 1 + (0 + 1) + 1 + (0 + 1) + 1 + (0 + 1) + 1 + (0 + 1) + 1 + (0 + 1) + 1 + (0 + 1)) + 1 + (0 + 1 + (0 + 1) + 1 + (0 + 1) + 1 + (0 + 1) + 1 + (0 + 1)) + 1 + (0 + 1 + (0 + 1) + 1 + (0 + 1) + 1 + (0 + 1) + 1 + (0 + 1) + 1 + (0 + 1)) + 1 + (0 + 1) + 1 + (0 + 1)) + 1 + (0 + 1)) + 1 + (0 + (0 + 1) + 1 + (0 + 1 + (0 + 1) + 1 + (0 + 1) + 1 + (0 + 1) + 1 + (0 + 1) + 1 + (0 + 1)) + 1 + (0 + 1)) + 1 + (0 + 1 + (0 + 1)) + 1 + (0 + 1 + (0 + 1)) + 1 + (0 + 1) + 1 + (0 + 1) + 1 + (0 + 1) + 1 + (0 + 1) + 1 + (0 + 1 + (0 + 1 + (0 + 1) + 1 + (0 + 1) + 1 + (0 + 1)) + 1 + (0 + 1 + (0 + 1) + 1 + (0 + 1) + 1 + (0 + 1) + 1 + (0 + 1) + 1 + (0 + 1) + 1 + (0 + 1) + 1 + (0 + 1)) + 1 + (0 + 1 + (0 + 1) + 1 + (0 + 1) + 1 + (0 + 1) + 1 + (0 + 1)) + 1 + (0 + 1 + (0 + 1) + 1 + (0 + 1) + 1 + (0 + 1) + 1 + (0 + 1) + 1 + (0 + 1)) + 1 + (0 + 1) + 1 + (0 + 1)) + 1 + (0 + 1 + (0 + 1 + (0 + 1) + 1 + (0 + 1) + 1 + (0 + 1)) + 1 + (0 + 1 + (0 + 1) + 1 + (0 + 1) + 1 + (0 + 1) + 1 + (0 + 1) + 1 + (0 + 1) + 1 + (0 + 1) + 1 + (0 + 1)) + 1 + (0 + 1 + (0 + 1) + 1 + (0 + 1) + 1 + (0 + 1) + 1 + (0 + 1)) + 1 + (0 + 1 + (0 + 1) + 1 + (0 + 1) + 1 + (0 + 1) + 1 + (0 + 1) + 1 + (0 + 1)) + 1 + (0 + 1) + 1 + (0 + 1)) + 1 + (0 + 1 + (0 + 1 + (0 + 1) + 1 + (0 + 1) + 1 + (0 + 1)) + 1 + (0 + 1 + (0 + 1) + 1 + (0 + 1) + 1 + (0 + 1) + 1 + (0 + 1) + 1 + (0 + 1) + 1 + (0 + 1) + 1 + (0 + 1)) + 1 + (0 + 1 + (0 + 1) + 1 + (0 + 1) + 1 + (0 + 1) + 1 + (0 + 1)) + 1 + (0 + 1 + (0 + 1) + 1 + (0 + 1) + 1 + (0 + 1) + 1 + (0 + 1) + 1 + (0 + 1)) + 1 + (0 + 1) + 1 + (0 + 1))) (0 + 4 + 900 + 15 + (0 + 8 + (0 + 1 + (0 + 10) + 1 + (0 + 48) + 1 + (0 + 6)) + 7 + (0 + 1 + (0 + 60) + 1 + (0 + 60) + 1 + (0 + 6) + 1 + (0 + 6) + 1 + (0 + 6) + 1 + (0 + 6) + 1 + (0 + 6)) + 6 + (0 + 1 + (0 + 80) + 1 + (0 + 80) + 1 + (0 + 80) + 1 + (0 + 320)) + 8 + (0 + 1 + (0 + 60) + 1 + (0 + 60) + 1 + (0 + 60) + 1 + (0 + 60) + 1 + (0 + 60)) + 1 + (0 + 10) + 1 + (0 + 10)) + 15 + (0 + 8 + (0 + 1 + (0 + 10) + 1 + (0 + 48) + 1 + (0 + 6)) + 7 + (0 + 1 + (0 + 60) + 1 + (0 + 60) + 1 + (0 + 6) + 1 + (0 + 6) + 1 + (0 + 6) + 1 + (0 + 6) + 1 + (0 + 6)) + 6 + (0 + 1 + (0 + 80) + 1 + (0 + 80) + 1 + (0 + 80) + 1 + (0 + 320)) + 8 + (0 + 1 + (0 + 60) + 1 + (0 + 60) + 1 + (0 + 60) + 1 + (0 + 60) + 1 + (0 + 60)) + 1 + (0 + 10) + 1 + (0 + 10)) + 3 + 12 + (0 + (0 + 0) + 15 + (0 + 8 + (0 + 1 + (0 + 10) + 1 + (0 + 48) + 1 + (0 + 6)) + 7 + (0 + 1 + (0 + 60) + 1 + (0 + 60) + 1 + (0 + 6) + 1 + (0 + 6) + 1 + (0 + 6) + 1 + (0 + 6) + 1 + (0 + 6)) + 6 + (0 + 1 + (0 + 80) + 1 + (0 + 80) + 1 + (0 + 80) + 1 + (0 + 320)) + 8 + (0 + 1 + (0 + 60) + 1 + (0 + 60) + 1 + (0 + 60) + 1 + (0 + 60) + 1 + (0 + 60)) + 1 + (0 + 10) + 1 + (0 + 10)) + 1 + (0 + 6)) + 11 + (0 + (0 + 0) + 8 + (0 + 1 + (0 + 60) + 1 + (0 + 60) + 1 + (0 + 60) + 1 + (0 + 60) + 1 + (0 + 60)) + 1 + (0 + 3)) + 8 + (0 + 1 + (0 + 60)) + 8 + (0 + 1 + (0 + 60)) + 3 + (0 + 60) + 3 + (0 + 60) + 3 + (0 + 60) + 3 + (0 + 60) + 15 + (0 + 8 + (0 + 1 + (0 + 10) + 1 + (0 + 48) + 1 + (0 + 6)) + 7 + (0 + 1 + (0 + 60) + 1 + (0 + 60) + 1 + (0 + 6) + 1 + (0 + 6) + 1 + (0 + 6) + 1 + (0 + 6) + 1 + (0 + 6)) + 6 + (0 + 1 + (0 + 80) + 1 + (0 + 80) + 1 + (0 + 80) + 1 + (0 + 320)) + 8 + (0 + 1 + (0 + 60) + 1 + (0 + 60) + 1 + (0 + 60) + 1 + (0 + 60) + 1 + (0 + 60)) + 1 + (0 + 10) + 1 + (0 + 10)) + 15 + (0 + 8 + (0 + 1 + (0 + 10) + 1 + (0 + 48) + 1 + (0 + 6)) + 7 + (0 + 1 + (0 + 60) + 1 + (0 + 60) + 1 + (0 + 6) + 1 + (0 + 6) + 1 + (0 + 6) + 1 + (0 + 6) + 1 + (0 + 6)) + 6 + (0 + 1 + (0 + 80) + 1 + (0 + 80) + 1 + (0 + 80) + 1 + (0 + 320)) + 8 + (0 + 1 + (0 + 60) + 1 + (0 + 60) + 1 + (0 + 60) + 1 + (0 + 60) + 1 + (0 + 60)) + 1 + (0 + 10) + 1 + (0 + 10)) + 15 + (0 + 8 + (0 + 1 + (0 + 10) + 1 + (0 + 48) + 1 + (0 + 6)) + 7 + (0 + 1 + (0 + 60) + 1 + (0 + 60) + 1 + (0 + 6) + 1 + (0 + 6) + 1 + (0 + 6) + 1 + (0 + 6) + 1 + (0 + 6)) + 6 + (0 + 1 + (0 + 80) + 1 + (0 + 80) + 1 + (0 + 80) + 1 + (0 + 320)) + 8 + (0 + 1 + (0 + 60) + 1 + (0 + 60) + 1 + (0 + 60) + 1 + (0 + 60) + 1 + (0 + 60)) + 1 + (0 + 10) + 1 + (0 + 10))) (q_nw h sz) := by
  refine b_met (by decide +kernel) rfl rfl (Nat.le_of_ble_eq_true rfl) (fun p e s m below meth c E hml hr hlk hnm hsz hD hw0 h00 hob ls hl => ?_)
  subst hsz
  have hxx := E.1
  have hb := E.2.1
  have hl : lv_has ls 2 [(0, .ref h)] := hl
  have hS : va_S (q_nw h s.heap.size) s.heap s.heap [] := va_S.rf
  have hx0 : q_ext (q_nw h s.heap.size) X X σ σ := q_ext.rf
  have hAh : q_nw h s.heap.size h := Or.inl rfl
  have hlt := t_lt hob
  refine lv_aload_n hxx hb dX11_init_0 rfl (lv_at hl 0 rfl) ?_
  refine W.objInit hxx hb E.2.2.1 (E.2.2.2.1 _ bw_25) (E.2.2.2.1 _ bw_26) (E.2.2.2.1 _ bw_27) rfl (by rw [hml]; exact hl.1) rfl dX11_init_1 (Nat.le_of_ble_eq_true rfl) (Nat.le_of_ble_eq_true rfl) ?_
  refine W.eq (g2 := F0 m 4 ls []) rfl ?_
  refine lv_aload_n hxx hb dX11_init_4 rfl (lv_at hl 0 rfl) ?_
  refine lv_iconst (v := 0) hxx hb dX11_init_5 (by decide) ?_
  refine b_put E hS hAh hnm (f := 0) hob (show vwCl[10]? = some (RX11, TX11, 17) from rfl) q_inX11 tyX11_ok nmX11 (by decide) bw_442 rfl (fun _ => rfl) (tyX11_ok 0 (by decide)) rfl rfl dX11_init_6 (fun H1 locs1 z2 o3 b4 S5 => ?_)
  have w6 : q_w X σ H1 := hw0.kept (fun a ha => o3 a (fun e => ha (by rw [e]; exact h00)))
  have t7 := t_lt b4
  refine lv_aload_n hxx hb dX11_init_9 rfl (lv_at hl 0 rfl) ?_
  refine lv_lconst (v := 0) hxx hb dX11_init_10 (by decide) ?_
  refine b_put E S5 hAh hnm (f := 1) b4 (show vwCl[10]? = some (RX11, TX11, 17) from rfl) q_inX11 tyX11_ok nmX11 (by decide) bw_443 rfl (fun _ => rfl) (tyX11_ok 1 (by decide)) rfl rfl dX11_init_11 (fun H8 locs1 z9 o10 b11 S12 => ?_)
  have w13 : q_w X σ H8 := w6.kept (fun a ha => o10 a (fun e => ha (by rw [e]; exact h00)))
  have t14 := t_lt b11
  refine lv_aload_n hxx hb dX11_init_14 rfl (lv_at hl 0 rfl) ?_
  refine lv_lconst (v := 1) hxx hb dX11_init_15 (by decide) ?_
  refine b_put E S12 hAh hnm (f := 2) b11 (show vwCl[10]? = some (RX11, TX11, 17) from rfl) q_inX11 tyX11_ok nmX11 (by decide) bw_444 rfl (fun _ => rfl) (tyX11_ok 2 (by decide)) rfl rfl dX11_init_16 (fun H15 locs1 z16 o17 b18 S19 => ?_)
  have w20 : q_w X σ H15 := w13.kept (fun a ha => o17 a (fun e => ha (by rw [e]; exact h00)))
  have t21 := t_lt b18
  refine lv_aload_n hxx hb dX11_init_19 rfl (lv_at hl 0 rfl) ?_
  refine lv_iconst (v := 4) hxx hb dX11_init_20 (by decide) ?_
  refine b_newq E S19 bw_28 E.2.2.2.2.2.2.1 (t := 3) rfl (N' := 4) (by decide) (by decide) (by decide) (Nat.le_of_ble_eq_true rfl) (Nat.le_of_ble_eq_true rfl) dX11_init_21 (fun q22 H23 e24 z25 o26 r27 S28 => ?_)
  have w29 : q_w X σ H23 := w20.kept (fun a ha => o26 a (w20.lt ha))
  have b30 := b18.kept (o26 h t21)
  have t31 := t_lt b30
  have k32 : q_kd X q22 = 0 := w20.fresh (Nat.le_of_eq e24.symm)
  have g33 := S28.1
  refine b_put E S28 hAh hnm (f := 3) b30 (show vwCl[10]? = some (RX11, TX11, 17) from rfl) q_inX11 tyX11_ok nmX11 (by decide) bw_445 rfl (fun _ => rfl) (tyX11_ok 3 (by decide)) rfl rfl dX11_init_24 (fun H34 locs1 z35 o36 b37 S38 => ?_)
  have w39 : q_w X σ H34 := w29.kept (fun a ha => o36 a (fun e => ha (by rw [e]; exact h00)))
  have t40 := t_lt b37
  have r41 := (o36 q22 (by omega)).trans r27
  refine lv_aload_n hxx hb dX11_init_27 rfl (lv_at hl 0 rfl) ?_
  refine lv_sipush (v := 900) hxx hb dX11_init_28 (by decide) ?_
  refine b_newa E S38 bw_55 (t := 0) rfl (fun _ _ => rfl) (N' := 900) (by decide) (by decide) (by decide) (Nat.le_of_ble_eq_true rfl) (Nat.le_of_ble_eq_true rfl) dX11_init_31 (fun q42 H43 e44 z45 o46 r47 S48 => ?_)
  have w49 : q_w X σ H43 := w39.kept (fun a ha => o46 a (w39.lt ha))
  have b50 := b37.kept (o46 h t40)
  have t51 := t_lt b50
  have r52 := (o46 q22 (raw_lt r41)).trans r41
  have k53 : q_kd X q42 = 0 := w39.fresh (Nat.le_of_eq e44.symm)
  have g54 := S48.1
  refine b_put E S48 hAh hnm (f := 4) b50 (show vwCl[10]? = some (RX11, TX11, 17) from rfl) q_inX11 tyX11_ok nmX11 (by decide) bw_446 rfl (fun _ => rfl) (tyX11_ok 4 (by decide)) rfl rfl dX11_init_33 (fun H55 locs1 z56 o57 b58 S59 => ?_)
  have w60 : q_w X σ H55 := w49.kept (fun a ha => o57 a (fun e => ha (by rw [e]; exact h00)))
  have t61 := t_lt b58
  have r62 := (o57 q22 (by omega)).trans r52
  have r63 := (o57 q42 (by omega)).trans r47
  refine lv_aload_n hxx hb dX11_init_36 rfl (lv_at hl 0 rfl) ?_
  refine lv_iconst (v := 0) hxx hb dX11_init_37 (by decide) ?_
  refine b_put E S59 hAh hnm (f := 5) b58 (show vwCl[10]? = some (RX11, TX11, 17) from rfl) q_inX11 tyX11_ok nmX11 (by decide) bw_447 rfl (fun _ => rfl) (tyX11_ok 5 (by decide)) rfl rfl dX11_init_38 (fun H64 locs1 z65 o66 b67 S68 => ?_)
  have w69 : q_w X σ H64 := w60.kept (fun a ha => o66 a (fun e => ha (by rw [e]; exact h00)))
  have t70 := t_lt b67
  have r71 := (o66 q22 (by omega)).trans r62
  have r72 := (o66 q42 (by omega)).trans r63
  refine lv_aload_n hxx hb dX11_init_41 rfl (lv_at hl 0 rfl) ?_
  refine lv_iconst (v := (-1)) hxx hb dX11_init_42 (by decide) ?_
  refine b_put E S68 hAh hnm (f := 6) b67 (show vwCl[10]? = some (RX11, TX11, 17) from rfl) q_inX11 tyX11_ok nmX11 (by decide) bw_448 rfl (fun _ => rfl) (tyX11_ok 6 (by decide)) rfl rfl dX11_init_43 (fun H73 locs1 z74 o75 b76 S77 => ?_)
  have w78 : q_w X σ H73 := w69.kept (fun a ha => o75 a (fun e => ha (by rw [e]; exact h00)))
  have t79 := t_lt b76
  have r80 := (o75 q22 (by omega)).trans r71
  have r81 := (o75 q42 (by omega)).trans r72
  refine lv_aload_n hxx hb dX11_init_46 rfl (lv_at hl 0 rfl) ?_
  refine lv_iconst (v := (-1)) hxx hb dX11_init_47 (by decide) ?_
  refine b_put E S77 hAh hnm (f := 7) b76 (show vwCl[10]? = some (RX11, TX11, 17) from rfl) q_inX11 tyX11_ok nmX11 (by decide) bw_449 rfl (fun _ => rfl) (tyX11_ok 7 (by decide)) rfl rfl dX11_init_48 (fun H82 locs1 z83 o84 b85 S86 => ?_)
  have w87 : q_w X σ H82 := w78.kept (fun a ha => o84 a (fun e => ha (by rw [e]; exact h00)))
  have t88 := t_lt b85
  have r89 := (o84 q22 (by omega)).trans r80
  have r90 := (o84 q42 (by omega)).trans r81
  refine lv_aload_n hxx hb dX11_init_51 rfl (lv_at hl 0 rfl) ?_
  refine b_new E S86 bw_30 bw_31 bw_2 (show vwCl[0]? = some (RX0, TX0, 15) from rfl) q_inX0 tyX0 tyX0_ok (Nat.le_of_ble_eq_true rfl) (Nat.le_of_ble_eq_true rfl) dX11_init_52 (fun q91 H92 e93 z94 o95 b96 S97 => ?_)
  have w98 : q_w X σ H92 := w87.kept (fun a ha => o95 a (w87.lt ha))
  have b99 := b85.kept (o95 h t88)
  have t100 := t_lt b99
  have r101 := (o95 q22 (raw_lt r89)).trans r89
  have r102 := (o95 q42 (raw_lt r90)).trans r90
  have k103 : q_kd X q91 = 0 := w87.fresh (Nat.le_of_eq e93.symm)
  have g104 := S97.1
  refine lv_dup hxx hb dX11_init_55 rfl ?_
  have a115 : ∀ a, q_nw q91 H92.size a → q_nw h s.heap.size a := by
    rintro a (e | e)
    · exact Or.inr (by omega)
    · exact Or.inr (by omega)
  refine b_cv (b_runN (As := []) (rest := [.ref q91, .ref h]) E (hml.trans hl.1.symm) hD w98 k103 b96 rfl (n_X0 l D X σ q91 H92.size) bi_X11_41 rfl ⟨Nat.le_of_ble_eq_true rfl, Nat.le_of_ble_eq_true rfl⟩ ⟨Nat.le_of_ble_eq_true rfl, Nat.le_of_ble_eq_true rfl⟩ rfl (Nat.le_of_ble_eq_true rfl) dX11_init_56) S97 rfl a115 (fun X105 σ106 H107 locs1 x108 k109 p110 w111 z112 o113 S114 => ?_)
  have D116 : X105.1 = D := x108.1.trans hD
  have k117 : q_kd X105 h = 0 := x108.k0 h00 (by rintro (e | e) <;> omega)
  have b118 := b99.kept (o113 h t100 (by omega))
  have t119 := t_lt b118
  have x120 := hx0.tr x108 a115
  have r121 := (o113 q22 (raw_lt r101) (by omega)).trans r101
  have k122 : q_kd X105 q22 = 0 := x108.k0 k32 (by have := raw_lt r101; rintro (e | e) <;> omega)
  have r123 := (o113 q42 (raw_lt r102) (by omega)).trans r102
  have k124 : q_kd X105 q42 = 0 := x108.k0 k53 (by have := raw_lt r102; rintro (e | e) <;> omega)
  refine b_put E S114 hAh hnm (f := 8) b118 (show vwCl[10]? = some (RX11, TX11, 17) from rfl) q_inX11 tyX11_ok nmX11 (by decide) bw_450 rfl (fun _ => rfl) (tyX11_ok 8 (by decide)) rfl rfl dX11_init_59 (fun H125 locs1 z126 o127 b128 S129 => ?_)
  have w130 : q_w X105 σ106 H125 := w111.kept (fun a ha => o127 a (fun e => ha (by rw [e]; exact k117)))
  have t131 := t_lt b128
  have r132 := (o127 q22 (by omega)).trans r121
  have r133 := (o127 q42 (by omega)).trans r123
  refine lv_aload_n hxx hb dX11_init_62 rfl (lv_at hl 0 rfl) ?_
  refine b_new E S129 bw_30 bw_31 bw_2 (show vwCl[0]? = some (RX0, TX0, 15) from rfl) q_inX0 tyX0 tyX0_ok (Nat.le_of_ble_eq_true rfl) (Nat.le_of_ble_eq_true rfl) dX11_init_63 (fun q134 H135 e136 z137 o138 b139 S140 => ?_)
  have w141 : q_w X105 σ106 H135 := w130.kept (fun a ha => o138 a (w130.lt ha))
  have b142 := b128.kept (o138 h t131)
  have t143 := t_lt b142
  have r144 := (o138 q22 (raw_lt r132)).trans r132
  have r145 := (o138 q42 (raw_lt r133)).trans r133
  have k146 : q_kd X105 q134 = 0 := w130.fresh (Nat.le_of_eq e136.symm)
  have g147 := S140.1
  refine lv_dup hxx hb dX11_init_66 rfl ?_
  have a158 : ∀ a, q_nw q134 H135.size a → q_nw h s.heap.size a := by
    rintro a (e | e)
    · exact Or.inr (by omega)
    · exact Or.inr (by omega)
  refine b_cv (b_runN (As := []) (rest := [.ref q134, .ref h]) E (hml.trans hl.1.symm) D116 w141 k146 b139 rfl (n_X0 l D X105 σ106 q134 H135.size) bi_X11_41 rfl ⟨Nat.le_of_ble_eq_true rfl, Nat.le_of_ble_eq_true rfl⟩ ⟨Nat.le_of_ble_eq_true rfl, Nat.le_of_ble_eq_true rfl⟩ rfl (Nat.le_of_ble_eq_true rfl) dX11_init_67) S140 rfl a158 (fun X148 σ149 H150 locs1 x151 k152 p153 w154 z155 o156 S157 => ?_)
  have D159 : X148.1 = D := x151.1.trans D116
  have k160 : q_kd X148 h = 0 := x151.k0 k117 (by rintro (e | e) <;> omega)
  have b161 := b142.kept (o156 h t143 (by omega))
  have t162 := t_lt b161
  have x163 := x120.tr x151 a158
  have r164 := (o156 q22 (raw_lt r144) (by omega)).trans r144
  have k165 : q_kd X148 q22 = 0 := x151.k0 k122 (by have := raw_lt r144; rintro (e | e) <;> omega)
  have r166 := (o156 q42 (raw_lt r145) (by omega)).trans r145
  have k167 : q_kd X148 q42 = 0 := x151.k0 k124 (by have := raw_lt r145; rintro (e | e) <;> omega)
  have k168 := x151.kd k109 (by decide)
  refine b_put E S157 hAh hnm (f := 9) b161 (show vwCl[10]? = some (RX11, TX11, 17) from rfl) q_inX11 tyX11_ok nmX11 (by decide) bw_451 rfl (fun _ => rfl) (tyX11_ok 9 (by decide)) rfl rfl dX11_init_70 (fun H169 locs1 z170 o171 b172 S173 => ?_)
  have w174 : q_w X148 σ149 H169 := w154.kept (fun a ha => o171 a (fun e => ha (by rw [e]; exact k160)))
  have t175 := t_lt b172
  have r176 := (o171 q22 (by omega)).trans r164
  have r177 := (o171 q42 (by omega)).trans r166
  refine lv_aload_n hxx hb dX11_init_73 rfl (lv_at hl 0 rfl) ?_
  refine lv_iconst (v := 3) hxx hb dX11_init_74 (by decide) ?_
  refine b_newq E S173 bw_30 E.2.2.2.2.2.2.2 (t := 4) rfl (N' := 3) (by decide) (by decide) (by decide) (Nat.le_of_ble_eq_true rfl) (Nat.le_of_ble_eq_true rfl) dX11_init_75 (fun q178 H179 e180 z181 o182 r183 S184 => ?_)
  have w185 : q_w X148 σ149 H179 := w174.kept (fun a ha => o182 a (w174.lt ha))
  have b186 := b172.kept (o182 h t175)
  have t187 := t_lt b186
  have r188 := (o182 q22 (raw_lt r176)).trans r176
  have r189 := (o182 q42 (raw_lt r177)).trans r177
  have k190 : q_kd X148 q178 = 0 := w174.fresh (Nat.le_of_eq e180.symm)
  have g191 := S184.1
  refine b_put E S184 hAh hnm (f := 10) b186 (show vwCl[10]? = some (RX11, TX11, 17) from rfl) q_inX11 tyX11_ok nmX11 (by decide) bw_452 rfl (fun _ => rfl) (tyX11_ok 10 (by decide)) rfl rfl dX11_init_78 (fun H192 locs1 z193 o194 b195 S196 => ?_)
  have w197 : q_w X148 σ149 H192 := w185.kept (fun a ha => o194 a (fun e => ha (by rw [e]; exact k160)))
  have t198 := t_lt b195
  have r199 := (o194 q22 (by omega)).trans r188
  have r200 := (o194 q42 (by omega)).trans r189
  have r201 := (o194 q178 (by omega)).trans r183
  refine lv_aload_n hxx hb dX11_init_81 rfl (lv_at hl 0 rfl) ?_
  refine lv_iconst (v := 0) hxx hb dX11_init_82 (by decide) ?_
  refine b_put E S196 hAh hnm (f := 11) b195 (show vwCl[10]? = some (RX11, TX11, 17) from rfl) q_inX11 tyX11_ok nmX11 (by decide) bw_453 rfl (fun _ => rfl) (tyX11_ok 11 (by decide)) rfl rfl dX11_init_83 (fun H202 locs1 z203 o204 b205 S206 => ?_)
  have w207 : q_w X148 σ149 H202 := w197.kept (fun a ha => o204 a (fun e => ha (by rw [e]; exact k160)))
  have t208 := t_lt b205
  have r209 := (o204 q22 (by omega)).trans r199
  have r210 := (o204 q42 (by omega)).trans r200
  have r211 := (o204 q178 (by omega)).trans r201
  refine lv_aload_n hxx hb dX11_init_86 rfl (lv_at hl 0 rfl) ?_
  refine b_new E S206 bw_298 bw_299 bw_10 (show vwCl[8]? = some (RX9, TX9, 12) from rfl) q_inX9 tyX9 tyX9_ok (Nat.le_of_ble_eq_true rfl) (Nat.le_of_ble_eq_true rfl) dX11_init_87 (fun q212 H213 e214 z215 o216 b217 S218 => ?_)
  have w219 : q_w X148 σ149 H213 := w207.kept (fun a ha => o216 a (w207.lt ha))
  have b220 := b205.kept (o216 h t208)
  have t221 := t_lt b220
  have r222 := (o216 q22 (raw_lt r209)).trans r209
  have r223 := (o216 q42 (raw_lt r210)).trans r210
  have r224 := (o216 q178 (raw_lt r211)).trans r211
  have k225 : q_kd X148 q212 = 0 := w207.fresh (Nat.le_of_eq e214.symm)
  have g226 := S218.1
  refine lv_dup hxx hb dX11_init_90 rfl ?_
  have a237 : ∀ a, q_nw q212 H213.size a → q_nw h s.heap.size a := by
    rintro a (e | e)
    · exact Or.inr (by omega)
    · exact Or.inr (by omega)
  refine b_cv (b_runN (As := []) (rest := [.ref q212, .ref h]) E (hml.trans hl.1.symm) D159 w219 k225 b217 rfl (n_X9 l D X148 σ149 q212 H213.size) bi_X11_58 rfl ⟨Nat.le_of_ble_eq_true rfl, Nat.le_of_ble_eq_true rfl⟩ ⟨Nat.le_of_ble_eq_true rfl, Nat.le_of_ble_eq_true rfl⟩ rfl (Nat.le_of_ble_eq_true rfl) dX11_init_91) S218 rfl a237 (fun X227 σ228 H229 locs1 x230 k231 p232 w233 z234 o235 S236 => ?_)
  have D238 : X227.1 = D := x230.1.trans D159
  have k239 : q_kd X227 h = 0 := x230.k0 k160 (by rintro (e | e) <;> omega)
  have b240 := b220.kept (o235 h t221 (by omega))
  have t241 := t_lt b240
  have x242 := x163.tr x230 a237
  have r243 := (o235 q22 (raw_lt r222) (by omega)).trans r222
  have k244 : q_kd X227 q22 = 0 := x230.k0 k165 (by have := raw_lt r222; rintro (e | e) <;> omega)
  have r245 := (o235 q42 (raw_lt r223) (by omega)).trans r223
  have k246 : q_kd X227 q42 = 0 := x230.k0 k167 (by have := raw_lt r223; rintro (e | e) <;> omega)
  have r247 := (o235 q178 (raw_lt r224) (by omega)).trans r224
  have k248 : q_kd X227 q178 = 0 := x230.k0 k190 (by have := raw_lt r224; rintro (e | e) <;> omega)
  have k249 := x230.kd k168 (by decide)
  have k250 := x230.kd k152 (by decide)
  refine b_put E S236 hAh hnm (f := 12) b240 (show vwCl[10]? = some (RX11, TX11, 17) from rfl) q_inX11 tyX11_ok nmX11 (by decide) bw_454 rfl (fun _ => rfl) (tyX11_ok 12 (by decide)) rfl rfl dX11_init_94 (fun H251 locs1 z252 o253 b254 S255 => ?_)
  have w256 : q_w X227 σ228 H251 := w233.kept (fun a ha => o253 a (fun e => ha (by rw [e]; exact k239)))
  have t257 := t_lt b254
  have r258 := (o253 q22 (by omega)).trans r243
  have r259 := (o253 q42 (by omega)).trans r245
  have r260 := (o253 q178 (by omega)).trans r247
  refine lv_aload_n hxx hb dX11_init_97 rfl (lv_at hl 0 rfl) ?_
  refine b_new E S255 bw_357 bw_358 bw_11 (show vwCl[3]? = some (RX4, TX4, 11) from rfl) q_inX4 tyX4 tyX4_ok (Nat.le_of_ble_eq_true rfl) (Nat.le_of_ble_eq_true rfl) dX11_init_98 (fun q261 H262 e263 z264 o265 b266 S267 => ?_)
  have w268 : q_w X227 σ228 H262 := w256.kept (fun a ha => o265 a (w256.lt ha))
  have b269 := b254.kept (o265 h t257)
  have t270 := t_lt b269
  have r271 := (o265 q22 (raw_lt r258)).trans r258
  have r272 := (o265 q42 (raw_lt r259)).trans r259
  have r273 := (o265 q178 (raw_lt r260)).trans r260
  have k274 : q_kd X227 q261 = 0 := w256.fresh (Nat.le_of_eq e263.symm)
  have g275 := S267.1
  refine lv_dup hxx hb dX11_init_101 rfl ?_
  have a286 : ∀ a, q_nw q261 H262.size a → q_nw h s.heap.size a := by
    rintro a (e | e)
    · exact Or.inr (by omega)
    · exact Or.inr (by omega)
  refine b_cv (b_runN (As := []) (rest := [.ref q261, .ref h]) E (hml.trans hl.1.symm) D238 w268 k274 b266 rfl (n_X4 l D X227 σ228 q261 H262.size) bi_X11_65 rfl ⟨Nat.le_of_ble_eq_true rfl, Nat.le_of_ble_eq_true rfl⟩ ⟨Nat.le_of_ble_eq_true rfl, Nat.le_of_ble_eq_true rfl⟩ rfl (Nat.le_of_ble_eq_true rfl) dX11_init_102) S267 rfl a286 (fun X276 σ277 H278 locs1 x279 k280 p281 w282 z283 o284 S285 => ?_)
  have D287 : X276.1 = D := x279.1.trans D238
  have k288 : q_kd X276 h = 0 := x279.k0 k239 (by rintro (e | e) <;> omega)
  have b289 := b269.kept (o284 h t270 (by omega))
  have t290 := t_lt b289
  have x291 := x242.tr x279 a286
  have r292 := (o284 q22 (raw_lt r271) (by omega)).trans r271
  have k293 : q_kd X276 q22 = 0 := x279.k0 k244 (by have := raw_lt r271; rintro (e | e) <;> omega)
  have r294 := (o284 q42 (raw_lt r272) (by omega)).trans r272
  have k295 : q_kd X276 q42 = 0 := x279.k0 k246 (by have := raw_lt r272; rintro (e | e) <;> omega)
  have r296 := (o284 q178 (raw_lt r273) (by omega)).trans r273
  have k297 : q_kd X276 q178 = 0 := x279.k0 k248 (by have := raw_lt r273; rintro (e | e) <;> omega)
  have k298 := x279.kd k249 (by decide)
  have k299 := x279.kd k250 (by decide)
  have k300 := x279.kd k231 (by decide)
  refine b_put E S285 hAh hnm (f := 13) b289 (show vwCl[10]? = some (RX11, TX11, 17) from rfl) q_inX11 tyX11_ok nmX11 (by decide) bw_455 rfl (fun _ => rfl) (tyX11_ok 13 (by decide)) rfl rfl dX11_init_105 (fun H301 locs1 z302 o303 b304 S305 => ?_)
  have w306 : q_w X276 σ277 H301 := w282.kept (fun a ha => o303 a (fun e => ha (by rw [e]; exact k288)))
  have t307 := t_lt b304
  have r308 := (o303 q22 (by omega)).trans r292
  have r309 := (o303 q42 (by omega)).trans r294
  have r310 := (o303 q178 (by omega)).trans r296
  refine lv_aload_n hxx hb dX11_init_108 rfl (lv_at hl 0 rfl) ?_
  refine b_new E S305 bw_386 bw_387 bw_12 (show vwCl[6]? = some (RX7, TX7, 8) from rfl) q_inX7 tyX7 tyX7_ok (Nat.le_of_ble_eq_true rfl) (Nat.le_of_ble_eq_true rfl) dX11_init_109 (fun q311 H312 e313 z314 o315 b316 S317 => ?_)
  have w318 : q_w X276 σ277 H312 := w306.kept (fun a ha => o315 a (w306.lt ha))
  have b319 := b304.kept (o315 h t307)
  have t320 := t_lt b319
  have r321 := (o315 q22 (raw_lt r308)).trans r308
  have r322 := (o315 q42 (raw_lt r309)).trans r309
  have r323 := (o315 q178 (raw_lt r310)).trans r310
  have k324 : q_kd X276 q311 = 0 := w306.fresh (Nat.le_of_eq e313.symm)
  have g325 := S317.1
  refine lv_dup hxx hb dX11_init_112 rfl ?_
  have a336 : ∀ a, q_nw q311 H312.size a → q_nw h s.heap.size a := by
    rintro a (e | e)
    · exact Or.inr (by omega)
    · exact Or.inr (by omega)
  refine b_cv (b_runN (As := []) (rest := [.ref q311, .ref h]) E (hml.trans hl.1.symm) D287 w318 k324 b316 rfl (n_X7 l D X276 σ277 q311 H312.size) bi_X11_72 rfl ⟨Nat.le_of_ble_eq_true rfl, Nat.le_of_ble_eq_true rfl⟩ ⟨Nat.le_of_ble_eq_true rfl, Nat.le_of_ble_eq_true rfl⟩ rfl (Nat.le_of_ble_eq_true rfl) dX11_init_113) S317 rfl a336 (fun X326 σ327 H328 locs1 x329 k330 p331 w332 z333 o334 S335 => ?_)
  have D337 : X326.1 = D := x329.1.trans D287
  have k338 : q_kd X326 h = 0 := x329.k0 k288 (by rintro (e | e) <;> omega)
  have b339 := b319.kept (o334 h t320 (by omega))
  have t340 := t_lt b339
  have x341 := x291.tr x329 a336
  have r342 := (o334 q22 (raw_lt r321) (by omega)).trans r321
  have k343 : q_kd X326 q22 = 0 := x329.k0 k293 (by have := raw_lt r321; rintro (e | e) <;> omega)
  have r344 := (o334 q42 (raw_lt r322) (by omega)).trans r322
  have k345 : q_kd X326 q42 = 0 := x329.k0 k295 (by have := raw_lt r322; rintro (e | e) <;> omega)
  have r346 := (o334 q178 (raw_lt r323) (by omega)).trans r323
  have k347 : q_kd X326 q178 = 0 := x329.k0 k297 (by have := raw_lt r323; rintro (e | e) <;> omega)
  have k348 := x329.kd k298 (by decide)
  have k349 := x329.kd k299 (by decide)
  have k350 := x329.kd k300 (by decide)
  have k351 := x329.kd k280 (by decide)
  refine b_put E S335 hAh hnm (f := 14) b339 (show vwCl[10]? = some (RX11, TX11, 17) from rfl) q_inX11 tyX11_ok nmX11 (by decide) bw_456 rfl (fun _ => rfl) (tyX11_ok 14 (by decide)) rfl rfl dX11_init_116 (fun H352 locs1 z353 o354 b355 S356 => ?_)
  have w357 : q_w X326 σ327 H352 := w332.kept (fun a ha => o354 a (fun e => ha (by rw [e]; exact k338)))
  have t358 := t_lt b355
  have r359 := (o354 q22 (by omega)).trans r342
  have r360 := (o354 q42 (by omega)).trans r344
  have r361 := (o354 q178 (by omega)).trans r346
  refine lv_aload_n hxx hb dX11_init_119 rfl (lv_at hl 0 rfl) ?_
  refine b_new E S356 bw_386 bw_387 bw_12 (show vwCl[6]? = some (RX7, TX7, 8) from rfl) q_inX7 tyX7 tyX7_ok (Nat.le_of_ble_eq_true rfl) (Nat.le_of_ble_eq_true rfl) dX11_init_120 (fun q362 H363 e364 z365 o366 b367 S368 => ?_)
  have w369 : q_w X326 σ327 H363 := w357.kept (fun a ha => o366 a (w357.lt ha))
  have b370 := b355.kept (o366 h t358)
  have t371 := t_lt b370
  have r372 := (o366 q22 (raw_lt r359)).trans r359
  have r373 := (o366 q42 (raw_lt r360)).trans r360
  have r374 := (o366 q178 (raw_lt r361)).trans r361
  have k375 : q_kd X326 q362 = 0 := w357.fresh (Nat.le_of_eq e364.symm)
  have g376 := S368.1
  refine lv_dup hxx hb dX11_init_123 rfl ?_
  have a387 : ∀ a, q_nw q362 H363.size a → q_nw h s.heap.size a := by
    rintro a (e | e)
    · exact Or.inr (by omega)
    · exact Or.inr (by omega)
  refine b_cv (b_runN (As := []) (rest := [.ref q362, .ref h]) E (hml.trans hl.1.symm) D337 w369 k375 b367 rfl (n_X7 l D X326 σ327 q362 H363.size) bi_X11_72 rfl ⟨Nat.le_of_ble_eq_true rfl, Nat.le_of_ble_eq_true rfl⟩ ⟨Nat.le_of_ble_eq_true rfl, Nat.le_of_ble_eq_true rfl⟩ rfl (Nat.le_of_ble_eq_true rfl) dX11_init_124) S368 rfl a387 (fun X377 σ378 H379 locs1 x380 k381 p382 w383 z384 o385 S386 => ?_)
  have D388 : X377.1 = D := x380.1.trans D337
  have k389 : q_kd X377 h = 0 := x380.k0 k338 (by rintro (e | e) <;> omega)
  have b390 := b370.kept (o385 h t371 (by omega))
  have t391 := t_lt b390
  have x392 := x341.tr x380 a387
  have r393 := (o385 q22 (raw_lt r372) (by omega)).trans r372
  have k394 : q_kd X377 q22 = 0 := x380.k0 k343 (by have := raw_lt r372; rintro (e | e) <;> omega)
  have r395 := (o385 q42 (raw_lt r373) (by omega)).trans r373
  have k396 : q_kd X377 q42 = 0 := x380.k0 k345 (by have := raw_lt r373; rintro (e | e) <;> omega)
  have r397 := (o385 q178 (raw_lt r374) (by omega)).trans r374
  have k398 : q_kd X377 q178 = 0 := x380.k0 k347 (by have := raw_lt r374; rintro (e | e) <;> omega)
  have k399 := x380.kd k348 (by decide)
  have k400 := x380.kd k349 (by decide)
  have k401 := x380.kd k350 (by decide)
  have k402 := x380.kd k351 (by decide)
  have k403 := x380.kd k330 (by decide)
  refine b_put E S386 hAh hnm (f := 15) b390 (show vwCl[10]? = some (RX11, TX11, 17) from rfl) q_inX11 tyX11_ok nmX11 (by decide) bw_457 rfl (fun _ => rfl) (tyX11_ok 15 (by decide)) rfl rfl dX11_init_127 (fun H404 locs1 z405 o406 b407 S408 => ?_)
  have w409 : q_w X377 σ378 H404 := w383.kept (fun a ha => o406 a (fun e => ha (by rw [e]; exact k389)))
  have t410 := t_lt b407
  have r411 := (o406 q22 (by omega)).trans r393
  have r412 := (o406 q42 (by omega)).trans r395
  have r413 := (o406 q178 (by omega)).trans r397
  refine lv_aload_n hxx hb dX11_init_130 rfl (lv_at hl 0 rfl) ?_
  refine lv_iconst (v := 0) hxx hb dX11_init_131 (by decide) ?_
  refine b_put E S408 hAh hnm (f := 16) b407 (show vwCl[10]? = some (RX11, TX11, 17) from rfl) q_inX11 tyX11_ok nmX11 (by decide) bw_458 rfl (fun _ => rfl) (tyX11_ok 16 (by decide)) rfl rfl dX11_init_132 (fun H414 locs1 z415 o416 b417 S418 => ?_)
  have w419 : q_w X377 σ378 H414 := w409.kept (fun a ha => o416 a (fun e => ha (by rw [e]; exact k389)))
  have t420 := t_lt b417
  have r421 := (o416 q22 (by omega)).trans r411
  have r422 := (o416 q42 (by omega)).trans r412
  have r423 := (o416 q178 (by omega)).trans r413
  refine lv_iconst (v := 0) hxx hb dX11_init_135 (by decide) ?_
  refine lv_istore_n (lv' := [(1, .int 0), (0, .ref h)]) hxx hb dX11_init_136 rfl hl (by decide) rfl (fun ls hl => ?_)
  refine lv_iload_n hxx hb dX11_init_137 rfl (lv_at hl 0 rfl) ?_
  refine lv_iconst (v := 4) hxx hb dX11_init_138 (by decide) ?_
  refine lv_icmp_ge hxx hb dX11_init_139 (tgt := 161) (by decide) (fun q => absurd q (by decide)) (fun _ => ?_)
  refine lv_aload_n hxx hb dX11_init_142 rfl (lv_at hl 1 rfl) ?_
  refine b_get E (f := 3) b417 (show vwCl[10]? = some (RX11, TX11, 17) from rfl) q_inX11 (by decide) bw_445 rfl (v := .ref q22) rfl dX11_init_143 ?_
  refine lv_iload_n hxx hb dX11_init_146 rfl (lv_at hl 0 rfl) ?_
  refine b_new E S418 bw_28 bw_425 bw_13 (show vwCl[9]? = some (RX10, TX10, 3) from rfl) q_inX10 tyX10 tyX10_ok (Nat.le_of_ble_eq_true rfl) (Nat.le_of_ble_eq_true rfl) dX11_init_147 (fun q424 H425 e426 z427 o428 b429 S430 => ?_)
  have w431 : q_w X377 σ378 H425 := w419.kept (fun a ha => o428 a (w419.lt ha))
  have b432 := b417.kept (o428 h t420)
  have t433 := t_lt b432
  have r434 := (o428 q22 (raw_lt r421)).trans r421
  have r435 := (o428 q42 (raw_lt r422)).trans r422
  have r436 := (o428 q178 (raw_lt r423)).trans r423
  have k437 : q_kd X377 q424 = 0 := w419.fresh (Nat.le_of_eq e426.symm)
  have g438 := S430.1
  refine lv_dup hxx hb dX11_init_150 rfl ?_
  have a449 : ∀ a, q_nw q424 H425.size a → q_nw h s.heap.size a := by
    rintro a (e | e)
    · exact Or.inr (by omega)
    · exact Or.inr (by omega)
  refine b_cv (b_runN (As := []) (rest := [.ref q424, .int 0, .ref q22]) E (hml.trans hl.1.symm) D388 w431 k437 b429 rfl (n_X10 l D X377 σ378 q424 H425.size) bi_X11_84 rfl ⟨Nat.le_of_ble_eq_true rfl, Nat.le_of_ble_eq_true rfl⟩ ⟨Nat.le_of_ble_eq_true rfl, Nat.le_of_ble_eq_true rfl⟩ rfl (Nat.le_of_ble_eq_true rfl) dX11_init_151) S430 rfl a449 (fun X439 σ440 H441 locs1 x442 k443 p444 w445 z446 o447 S448 => ?_)
  have D450 : X439.1 = D := x442.1.trans D388
  have k451 : q_kd X439 h = 0 := x442.k0 k389 (by rintro (e | e) <;> omega)
  have b452 := b432.kept (o447 h t433 (by omega))
  have t453 := t_lt b452
  have x454 := x392.tr x442 a449
  have r455 := (o447 q22 (raw_lt r434) (by omega)).trans r434
  have k456 : q_kd X439 q22 = 0 := x442.k0 k394 (by have := raw_lt r434; rintro (e | e) <;> omega)
  have r457 := (o447 q42 (raw_lt r435) (by omega)).trans r435
  have k458 : q_kd X439 q42 = 0 := x442.k0 k396 (by have := raw_lt r435; rintro (e | e) <;> omega)
  have r459 := (o447 q178 (raw_lt r436) (by omega)).trans r436
  have k460 : q_kd X439 q178 = 0 := x442.k0 k398 (by have := raw_lt r436; rintro (e | e) <;> omega)
  have k461 := x442.kd k399 (by decide)
  have k462 := x442.kd k400 (by decide)
  have k463 := x442.kd k401 (by decide)
  have k464 := x442.kd k402 (by decide)
  have k465 := x442.kd k403 (by decide)
  have k466 := x442.kd k381 (by decide)
  have i467 : σ440.1 q424 0 = 0 := p444.1
  have i468 : σ440.1 q424 1 = -1 := p444.2
  refine b_aast E S448 (t := 3) (Or.inr (by have := raw_lt r455; omega)) rfl (show vwCl[9]? = some (RX10, TX10, 3) from rfl) r455 (q_wcell D450 w445 k443 ⟨rfl, by decide⟩ (show vwCl[9]? = some (RX10, TX10, 3) from rfl)) (by decide) (by decide) dX11_init_154 (fun H469 locs1 z470 o471 r472 S473 => ?_)
  have w474 : q_w X439 σ440 H469 := w445.kept (fun a ha => o471 a (fun e => ha (by rw [e]; exact k456)))
  have b475 := b452.kept (o471 h (by omega))
  have t476 := t_lt b475
  have r477 := (o471 q42 (by omega)).trans r457
  have r478 := (o471 q178 (by omega)).trans r459
  refine lv_iinc (v := 1) (lv' := [(1, .int 1), (0, .ref h)]) hxx hb dX11_init_155 hl (k := 0) rfl (by decide) (by decide) rfl (fun ls hl => ?_)
  refine lv_goto (tgt := 137) hxx hb dX11_init_158 (by decide) ?_
  refine lv_iload_n hxx hb dX11_init_137 rfl (lv_at hl 0 rfl) ?_
  refine lv_iconst (v := 4) hxx hb dX11_init_138 (by decide) ?_
  refine lv_icmp_ge hxx hb dX11_init_139 (tgt := 161) (by decide) (fun q => absurd q (by decide)) (fun _ => ?_)
  refine lv_aload_n hxx hb dX11_init_142 rfl (lv_at hl 1 rfl) ?_
  refine b_get E (f := 3) b475 (show vwCl[10]? = some (RX11, TX11, 17) from rfl) q_inX11 (by decide) bw_445 rfl (v := .ref q22) rfl dX11_init_143 ?_
  refine lv_iload_n hxx hb dX11_init_146 rfl (lv_at hl 0 rfl) ?_
  refine b_new E S473 bw_28 bw_425 bw_13 (show vwCl[9]? = some (RX10, TX10, 3) from rfl) q_inX10 tyX10 tyX10_ok (Nat.le_of_ble_eq_true rfl) (Nat.le_of_ble_eq_true rfl) dX11_init_147 (fun q479 H480 e481 z482 o483 b484 S485 => ?_)
  have w486 : q_w X439 σ440 H480 := w474.kept (fun a ha => o483 a (w474.lt ha))
  have b487 := b475.kept (o483 h t476)
  have t488 := t_lt b487
  have r489 := (o483 q22 (raw_lt r472)).trans r472
  have r490 := (o483 q42 (raw_lt r477)).trans r477
  have r491 := (o483 q178 (raw_lt r478)).trans r478
  have k492 : q_kd X439 q479 = 0 := w474.fresh (Nat.le_of_eq e481.symm)
  have g493 := S485.1
  have N494 : q424 ≠ q479 := fun z => by have w := k443; rw [z, k492] at w; exact absurd w (by decide)
  refine lv_dup hxx hb dX11_init_150 rfl ?_
  have a505 : ∀ a, q_nw q479 H480.size a → q_nw h s.heap.size a := by
    rintro a (e | e)
    · exact Or.inr (by omega)
    · exact Or.inr (by omega)
  refine b_cv (b_runN (As := []) (rest := [.ref q479, .int 1, .ref q22]) E (hml.trans hl.1.symm) D450 w486 k492 b484 rfl (n_X10 l D X439 σ440 q479 H480.size) bi_X11_84 rfl ⟨Nat.le_of_ble_eq_true rfl, Nat.le_of_ble_eq_true rfl⟩ ⟨Nat.le_of_ble_eq_true rfl, Nat.le_of_ble_eq_true rfl⟩ rfl (Nat.le_of_ble_eq_true rfl) dX11_init_151) S485 rfl a505 (fun X495 σ496 H497 locs1 x498 k499 p500 w501 z502 o503 S504 => ?_)
  have D506 : X495.1 = D := x498.1.trans D450
  have k507 : q_kd X495 h = 0 := x498.k0 k451 (by rintro (e | e) <;> omega)
  have b508 := b487.kept (o503 h t488 (by omega))
  have t509 := t_lt b508
  have x510 := x454.tr x498 a505
  have r511 := (o503 q22 (raw_lt r489) (by omega)).trans r489
  have k512 : q_kd X495 q22 = 0 := x498.k0 k456 (by have := raw_lt r489; rintro (e | e) <;> omega)
  have r513 := (o503 q42 (raw_lt r490) (by omega)).trans r490
  have k514 : q_kd X495 q42 = 0 := x498.k0 k458 (by have := raw_lt r490; rintro (e | e) <;> omega)
  have r515 := (o503 q178 (raw_lt r491) (by omega)).trans r491
  have k516 : q_kd X495 q178 = 0 := x498.k0 k460 (by have := raw_lt r491; rintro (e | e) <;> omega)
  have k517 := x498.kd k461 (by decide)
  have k518 := x498.kd k462 (by decide)
  have k519 := x498.kd k463 (by decide)
  have k520 := x498.kd k464 (by decide)
  have k521 := x498.kd k465 (by decide)
  have k522 := x498.kd k466 (by decide)
  have k523 := x498.kd k443 (by decide)
  have i524 : σ496.1 q424 0 = 0 := (q_exi x498 (by rw [k443]; decide)).trans i467
  have i525 : σ496.1 q424 1 = -1 := (q_exi x498 (by rw [k443]; decide)).trans i468
  have i526 : σ496.1 q479 0 = 0 := p500.1
  have i527 : σ496.1 q479 1 = -1 := p500.2
  refine b_aast E S504 (t := 3) (Or.inr (by have := raw_lt r511; omega)) rfl (show vwCl[9]? = some (RX10, TX10, 3) from rfl) r511 (q_wcell D506 w501 k499 ⟨rfl, by decide⟩ (show vwCl[9]? = some (RX10, TX10, 3) from rfl)) (by decide) (by decide) dX11_init_154 (fun H528 locs1 z529 o530 r531 S532 => ?_)
  have w533 : q_w X495 σ496 H528 := w501.kept (fun a ha => o530 a (fun e => ha (by rw [e]; exact k512)))
  have b534 := b508.kept (o530 h (by omega))
  have t535 := t_lt b534
  have r536 := (o530 q42 (by omega)).trans r513
  have r537 := (o530 q178 (by omega)).trans r515
  refine lv_iinc (v := 2) (lv' := [(1, .int 2), (0, .ref h)]) hxx hb dX11_init_155 hl (k := 0) rfl (by decide) (by decide) rfl (fun ls hl => ?_)
  refine lv_goto (tgt := 137) hxx hb dX11_init_158 (by decide) ?_
  refine lv_iload_n hxx hb dX11_init_137 rfl (lv_at hl 0 rfl) ?_
  refine lv_iconst (v := 4) hxx hb dX11_init_138 (by decide) ?_
  refine lv_icmp_ge hxx hb dX11_init_139 (tgt := 161) (by decide) (fun q => absurd q (by decide)) (fun _ => ?_)
  refine lv_aload_n hxx hb dX11_init_142 rfl (lv_at hl 1 rfl) ?_
  refine b_get E (f := 3) b534 (show vwCl[10]? = some (RX11, TX11, 17) from rfl) q_inX11 (by decide) bw_445 rfl (v := .ref q22) rfl dX11_init_143 ?_
  refine lv_iload_n hxx hb dX11_init_146 rfl (lv_at hl 0 rfl) ?_
  refine b_new E S532 bw_28 bw_425 bw_13 (show vwCl[9]? = some (RX10, TX10, 3) from rfl) q_inX10 tyX10 tyX10_ok (Nat.le_of_ble_eq_true rfl) (Nat.le_of_ble_eq_true rfl) dX11_init_147 (fun q538 H539 e540 z541 o542 b543 S544 => ?_)
  have w545 : q_w X495 σ496 H539 := w533.kept (fun a ha => o542 a (w533.lt ha))
  have b546 := b534.kept (o542 h t535)
  have t547 := t_lt b546
  have r548 := (o542 q22 (raw_lt r531)).trans r531
  have r549 := (o542 q42 (raw_lt r536)).trans r536
  have r550 := (o542 q178 (raw_lt r537)).trans r537
  have k551 : q_kd X495 q538 = 0 := w533.fresh (Nat.le_of_eq e540.symm)
  have g552 := S544.1
  have N553 : q424 ≠ q538 := fun z => by have w := k523; rw [z, k551] at w; exact absurd w (by decide)
  have N554 : q479 ≠ q538 := fun z => by have w := k499; rw [z, k551] at w; exact absurd w (by decide)
  refine lv_dup hxx hb dX11_init_150 rfl ?_
  have a565 : ∀ a, q_nw q538 H539.size a → q_nw h s.heap.size a := by
    rintro a (e | e)
    · exact Or.inr (by omega)
    · exact Or.inr (by omega)
  refine b_cv (b_runN (As := []) (rest := [.ref q538, .int 2, .ref q22]) E (hml.trans hl.1.symm) D506 w545 k551 b543 rfl (n_X10 l D X495 σ496 q538 H539.size) bi_X11_84 rfl ⟨Nat.le_of_ble_eq_true rfl, Nat.le_of_ble_eq_true rfl⟩ ⟨Nat.le_of_ble_eq_true rfl, Nat.le_of_ble_eq_true rfl⟩ rfl (Nat.le_of_ble_eq_true rfl) dX11_init_151) S544 rfl a565 (fun X555 σ556 H557 locs1 x558 k559 p560 w561 z562 o563 S564 => ?_)
  have D566 : X555.1 = D := x558.1.trans D506
  have k567 : q_kd X555 h = 0 := x558.k0 k507 (by rintro (e | e) <;> omega)
  have b568 := b546.kept (o563 h t547 (by omega))
  have t569 := t_lt b568
  have x570 := x510.tr x558 a565
  have r571 := (o563 q22 (raw_lt r548) (by omega)).trans r548
  have k572 : q_kd X555 q22 = 0 := x558.k0 k512 (by have := raw_lt r548; rintro (e | e) <;> omega)
  have r573 := (o563 q42 (raw_lt r549) (by omega)).trans r549
  have k574 : q_kd X555 q42 = 0 := x558.k0 k514 (by have := raw_lt r549; rintro (e | e) <;> omega)
  have r575 := (o563 q178 (raw_lt r550) (by omega)).trans r550
  have k576 : q_kd X555 q178 = 0 := x558.k0 k516 (by have := raw_lt r550; rintro (e | e) <;> omega)
  have k577 := x558.kd k517 (by decide)
  have k578 := x558.kd k518 (by decide)
  have k579 := x558.kd k519 (by decide)
  have k580 := x558.kd k520 (by decide)
  have k581 := x558.kd k521 (by decide)
  have k582 := x558.kd k522 (by decide)
  have k583 := x558.kd k523 (by decide)
  have k584 := x558.kd k499 (by decide)
  have i585 : σ556.1 q424 0 = 0 := (q_exi x558 (by rw [k523]; decide)).trans i524
  have i586 : σ556.1 q424 1 = -1 := (q_exi x558 (by rw [k523]; decide)).trans i525
  have i587 : σ556.1 q479 0 = 0 := (q_exi x558 (by rw [k499]; decide)).trans i526
  have i588 : σ556.1 q479 1 = -1 := (q_exi x558 (by rw [k499]; decide)).trans i527
  have i589 : σ556.1 q538 0 = 0 := p560.1
  have i590 : σ556.1 q538 1 = -1 := p560.2
  refine b_aast E S564 (t := 3) (Or.inr (by have := raw_lt r571; omega)) rfl (show vwCl[9]? = some (RX10, TX10, 3) from rfl) r571 (q_wcell D566 w561 k559 ⟨rfl, by decide⟩ (show vwCl[9]? = some (RX10, TX10, 3) from rfl)) (by decide) (by decide) dX11_init_154 (fun H591 locs1 z592 o593 r594 S595 => ?_)
  have w596 : q_w X555 σ556 H591 := w561.kept (fun a ha => o593 a (fun e => ha (by rw [e]; exact k572)))
  have b597 := b568.kept (o593 h (by omega))
  have t598 := t_lt b597
  have r599 := (o593 q42 (by omega)).trans r573
  have r600 := (o593 q178 (by omega)).trans r575
  refine lv_iinc (v := 3) (lv' := [(1, .int 3), (0, .ref h)]) hxx hb dX11_init_155 hl (k := 0) rfl (by decide) (by decide) rfl (fun ls hl => ?_)
  refine lv_goto (tgt := 137) hxx hb dX11_init_158 (by decide) ?_
  refine lv_iload_n hxx hb dX11_init_137 rfl (lv_at hl 0 rfl) ?_
  refine lv_iconst (v := 4) hxx hb dX11_init_138 (by decide) ?_
  refine lv_icmp_ge hxx hb dX11_init_139 (tgt := 161) (by decide) (fun q => absurd q (by decide)) (fun _ => ?_)
  refine lv_aload_n hxx hb dX11_init_142 rfl (lv_at hl 1 rfl) ?_
  refine b_get E (f := 3) b597 (show vwCl[10]? = some (RX11, TX11, 17) from rfl) q_inX11 (by decide) bw_445 rfl (v := .ref q22) rfl dX11_init_143 ?_
  refine lv_iload_n hxx hb dX11_init_146 rfl (lv_at hl 0 rfl) ?_
  refine b_new E S595 bw_28 bw_425 bw_13 (show vwCl[9]? = some (RX10, TX10, 3) from rfl) q_inX10 tyX10 tyX10_ok (Nat.le_of_ble_eq_true rfl) (Nat.le_of_ble_eq_true rfl) dX11_init_147 (fun q601 H602 e603 z604 o605 b606 S607 => ?_)
  have w608 : q_w X555 σ556 H602 := w596.kept (fun a ha => o605 a (w596.lt ha))
  have b609 := b597.kept (o605 h t598)
  have t610 := t_lt b609
  have r611 := (o605 q22 (raw_lt r594)).trans r594
  have r612 := (o605 q42 (raw_lt r599)).trans r599
  have r613 := (o605 q178 (raw_lt r600)).trans r600
  have k614 : q_kd X555 q601 = 0 := w596.fresh (Nat.le_of_eq e603.symm)
  have g615 := S607.1
  have N616 : q424 ≠ q601 := fun z => by have w := k583; rw [z, k614] at w; exact absurd w (by decide)
  have N617 : q479 ≠ q601 := fun z => by have w := k584; rw [z, k614] at w; exact absurd w (by decide)
  have N618 : q538 ≠ q601 := fun z => by have w := k559; rw [z, k614] at w; exact absurd w (by decide)
  refine lv_dup hxx hb dX11_init_150 rfl ?_
  have a629 : ∀ a, q_nw q601 H602.size a → q_nw h s.heap.size a := by
    rintro a (e | e)
    · exact Or.inr (by omega)
    · exact Or.inr (by omega)
  refine b_cv (b_runN (As := []) (rest := [.ref q601, .int 3, .ref q22]) E (hml.trans hl.1.symm) D566 w608 k614 b606 rfl (n_X10 l D X555 σ556 q601 H602.size) bi_X11_84 rfl ⟨Nat.le_of_ble_eq_true rfl, Nat.le_of_ble_eq_true rfl⟩ ⟨Nat.le_of_ble_eq_true rfl, Nat.le_of_ble_eq_true rfl⟩ rfl (Nat.le_of_ble_eq_true rfl) dX11_init_151) S607 rfl a629 (fun X619 σ620 H621 locs1 x622 k623 p624 w625 z626 o627 S628 => ?_)
  have D630 : X619.1 = D := x622.1.trans D566
  have k631 : q_kd X619 h = 0 := x622.k0 k567 (by rintro (e | e) <;> omega)
  have b632 := b609.kept (o627 h t610 (by omega))
  have t633 := t_lt b632
  have x634 := x570.tr x622 a629
  have r635 := (o627 q22 (raw_lt r611) (by omega)).trans r611
  have k636 : q_kd X619 q22 = 0 := x622.k0 k572 (by have := raw_lt r611; rintro (e | e) <;> omega)
  have r637 := (o627 q42 (raw_lt r612) (by omega)).trans r612
  have k638 : q_kd X619 q42 = 0 := x622.k0 k574 (by have := raw_lt r612; rintro (e | e) <;> omega)
  have r639 := (o627 q178 (raw_lt r613) (by omega)).trans r613
  have k640 : q_kd X619 q178 = 0 := x622.k0 k576 (by have := raw_lt r613; rintro (e | e) <;> omega)
  have k641 := x622.kd k577 (by decide)
  have k642 := x622.kd k578 (by decide)
  have k643 := x622.kd k579 (by decide)
  have k644 := x622.kd k580 (by decide)
  have k645 := x622.kd k581 (by decide)
  have k646 := x622.kd k582 (by decide)
  have k647 := x622.kd k583 (by decide)
  have k648 := x622.kd k584 (by decide)
  have k649 := x622.kd k559 (by decide)
  have i650 : σ620.1 q424 0 = 0 := (q_exi x622 (by rw [k583]; decide)).trans i585
  have i651 : σ620.1 q424 1 = -1 := (q_exi x622 (by rw [k583]; decide)).trans i586
  have i652 : σ620.1 q479 0 = 0 := (q_exi x622 (by rw [k584]; decide)).trans i587
  have i653 : σ620.1 q479 1 = -1 := (q_exi x622 (by rw [k584]; decide)).trans i588
  have i654 : σ620.1 q538 0 = 0 := (q_exi x622 (by rw [k559]; decide)).trans i589
  have i655 : σ620.1 q538 1 = -1 := (q_exi x622 (by rw [k559]; decide)).trans i590
  have i656 : σ620.1 q601 0 = 0 := p624.1
  have i657 : σ620.1 q601 1 = -1 := p624.2
  refine b_aast E S628 (t := 3) (Or.inr (by have := raw_lt r635; omega)) rfl (show vwCl[9]? = some (RX10, TX10, 3) from rfl) r635 (q_wcell D630 w625 k623 ⟨rfl, by decide⟩ (show vwCl[9]? = some (RX10, TX10, 3) from rfl)) (by decide) (by decide) dX11_init_154 (fun H658 locs1 z659 o660 r661 S662 => ?_)
  have w663 : q_w X619 σ620 H658 := w625.kept (fun a ha => o660 a (fun e => ha (by rw [e]; exact k636)))
  have b664 := b632.kept (o660 h (by omega))
  have t665 := t_lt b664
  have r666 := (o660 q42 (by omega)).trans r637
  have r667 := (o660 q178 (by omega)).trans r639
  refine lv_iinc (v := 4) (lv' := [(1, .int 4), (0, .ref h)]) hxx hb dX11_init_155 hl (k := 0) rfl (by decide) (by decide) rfl (fun ls hl => ?_)
  refine lv_goto (tgt := 137) hxx hb dX11_init_158 (by decide) ?_
  refine lv_iload_n hxx hb dX11_init_137 rfl (lv_at hl 0 rfl) ?_
  refine lv_iconst (v := 4) hxx hb dX11_init_138 (by decide) ?_
  refine lv_icmp_ge hxx hb dX11_init_139 (tgt := 161) (by decide) (fun _ => ?_) (fun q => absurd (by decide) q)
  refine lv_iconst (v := 0) hxx hb dX11_init_161 (by decide) ?_
  refine lv_istore_n (lv' := [(1, .int 0), (0, .ref h)]) hxx hb dX11_init_162 rfl hl (by decide) rfl (fun ls hl => ?_)
  refine lv_iload_n hxx hb dX11_init_163 rfl (lv_at hl 0 rfl) ?_
  refine lv_iconst (v := 3) hxx hb dX11_init_164 (by decide) ?_
  refine lv_icmp_ge hxx hb dX11_init_165 (tgt := 187) (by decide) (fun q => absurd q (by decide)) (fun _ => ?_)
  refine lv_aload_n hxx hb dX11_init_168 rfl (lv_at hl 1 rfl) ?_
  refine b_get E (f := 10) b664 (show vwCl[10]? = some (RX11, TX11, 17) from rfl) q_inX11 (by decide) bw_452 rfl (v := .ref q178) rfl dX11_init_169 ?_
  refine lv_iload_n hxx hb dX11_init_172 rfl (lv_at hl 0 rfl) ?_
  refine b_new E S662 bw_30 bw_31 bw_2 (show vwCl[0]? = some (RX0, TX0, 15) from rfl) q_inX0 tyX0 tyX0_ok (Nat.le_of_ble_eq_true rfl) (Nat.le_of_ble_eq_true rfl) dX11_init_173 (fun q668 H669 e670 z671 o672 b673 S674 => ?_)
  have w675 : q_w X619 σ620 H669 := w663.kept (fun a ha => o672 a (w663.lt ha))
  have b676 := b664.kept (o672 h t665)
  have t677 := t_lt b676
  have r678 := (o672 q22 (raw_lt r661)).trans r661
  have r679 := (o672 q42 (raw_lt r666)).trans r666
  have r680 := (o672 q178 (raw_lt r667)).trans r667
  have k681 : q_kd X619 q668 = 0 := w663.fresh (Nat.le_of_eq e670.symm)
  have g682 := S674.1
  refine lv_dup hxx hb dX11_init_176 rfl ?_
  have a693 : ∀ a, q_nw q668 H669.size a → q_nw h s.heap.size a := by
    rintro a (e | e)
    · exact Or.inr (by omega)
    · exact Or.inr (by omega)
  refine b_cv (b_runN (As := []) (rest := [.ref q668, .int 0, .ref q178]) E (hml.trans hl.1.symm) D630 w675 k681 b673 rfl (n_X0 l D X619 σ620 q668 H669.size) bi_X11_41 rfl ⟨Nat.le_of_ble_eq_true rfl, Nat.le_of_ble_eq_true rfl⟩ ⟨Nat.le_of_ble_eq_true rfl, Nat.le_of_ble_eq_true rfl⟩ rfl (Nat.le_of_ble_eq_true rfl) dX11_init_177) S674 rfl a693 (fun X683 σ684 H685 locs1 x686 k687 p688 w689 z690 o691 S692 => ?_)
  have D694 : X683.1 = D := x686.1.trans D630
  have k695 : q_kd X683 h = 0 := x686.k0 k631 (by rintro (e | e) <;> omega)
  have b696 := b676.kept (o691 h t677 (by omega))
  have t697 := t_lt b696
  have x698 := x634.tr x686 a693
  have r699 := (o691 q22 (raw_lt r678) (by omega)).trans r678
  have k700 : q_kd X683 q22 = 0 := x686.k0 k636 (by have := raw_lt r678; rintro (e | e) <;> omega)
  have r701 := (o691 q42 (raw_lt r679) (by omega)).trans r679
  have k702 : q_kd X683 q42 = 0 := x686.k0 k638 (by have := raw_lt r679; rintro (e | e) <;> omega)
  have r703 := (o691 q178 (raw_lt r680) (by omega)).trans r680
  have k704 : q_kd X683 q178 = 0 := x686.k0 k640 (by have := raw_lt r680; rintro (e | e) <;> omega)
  have k705 := x686.kd k641 (by decide)
  have k706 := x686.kd k642 (by decide)
  have k707 := x686.kd k643 (by decide)
  have k708 := x686.kd k644 (by decide)
  have k709 := x686.kd k645 (by decide)
  have k710 := x686.kd k646 (by decide)
  have k711 := x686.kd k647 (by decide)
  have k712 := x686.kd k648 (by decide)
  have k713 := x686.kd k649 (by decide)
  have k714 := x686.kd k623 (by decide)
  have i715 : σ684.1 q424 0 = 0 := (q_exi x686 (by rw [k647]; decide)).trans i650
  have i716 : σ684.1 q424 1 = -1 := (q_exi x686 (by rw [k647]; decide)).trans i651
  have i717 : σ684.1 q479 0 = 0 := (q_exi x686 (by rw [k648]; decide)).trans i652
  have i718 : σ684.1 q479 1 = -1 := (q_exi x686 (by rw [k648]; decide)).trans i653
  have i719 : σ684.1 q538 0 = 0 := (q_exi x686 (by rw [k649]; decide)).trans i654
  have i720 : σ684.1 q538 1 = -1 := (q_exi x686 (by rw [k649]; decide)).trans i655
  have i721 : σ684.1 q601 0 = 0 := (q_exi x686 (by rw [k623]; decide)).trans i656
  have i722 : σ684.1 q601 1 = -1 := (q_exi x686 (by rw [k623]; decide)).trans i657
  refine b_aast E S692 (t := 4) (Or.inr (by have := raw_lt r703; omega)) rfl (show vwCl[0]? = some (RX0, TX0, 15) from rfl) r703 (q_wcell D694 w689 k687 ⟨rfl, by decide⟩ (show vwCl[0]? = some (RX0, TX0, 15) from rfl)) (by decide) (by decide) dX11_init_180 (fun H723 locs1 z724 o725 r726 S727 => ?_)
  have w728 : q_w X683 σ684 H723 := w689.kept (fun a ha => o725 a (fun e => ha (by rw [e]; exact k704)))
  have b729 := b696.kept (o725 h (by omega))
  have t730 := t_lt b729
  have r731 := (o725 q22 (by omega)).trans r699
  have r732 := (o725 q42 (by omega)).trans r701
  refine lv_iinc (v := 1) (lv' := [(1, .int 1), (0, .ref h)]) hxx hb dX11_init_181 hl (k := 0) rfl (by decide) (by decide) rfl (fun ls hl => ?_)
  refine lv_goto (tgt := 163) hxx hb dX11_init_184 (by decide) ?_
  refine lv_iload_n hxx hb dX11_init_163 rfl (lv_at hl 0 rfl) ?_
  refine lv_iconst (v := 3) hxx hb dX11_init_164 (by decide) ?_
  refine lv_icmp_ge hxx hb dX11_init_165 (tgt := 187) (by decide) (fun q => absurd q (by decide)) (fun _ => ?_)
  refine lv_aload_n hxx hb dX11_init_168 rfl (lv_at hl 1 rfl) ?_
  refine b_get E (f := 10) b729 (show vwCl[10]? = some (RX11, TX11, 17) from rfl) q_inX11 (by decide) bw_452 rfl (v := .ref q178) rfl dX11_init_169 ?_
  refine lv_iload_n hxx hb dX11_init_172 rfl (lv_at hl 0 rfl) ?_
  refine b_new E S727 bw_30 bw_31 bw_2 (show vwCl[0]? = some (RX0, TX0, 15) from rfl) q_inX0 tyX0 tyX0_ok (Nat.le_of_ble_eq_true rfl) (Nat.le_of_ble_eq_true rfl) dX11_init_173 (fun q733 H734 e735 z736 o737 b738 S739 => ?_)
  have w740 : q_w X683 σ684 H734 := w728.kept (fun a ha => o737 a (w728.lt ha))
  have b741 := b729.kept (o737 h t730)
  have t742 := t_lt b741
  have r743 := (o737 q22 (raw_lt r731)).trans r731
  have r744 := (o737 q42 (raw_lt r732)).trans r732
  have r745 := (o737 q178 (raw_lt r726)).trans r726
  have k746 : q_kd X683 q733 = 0 := w728.fresh (Nat.le_of_eq e735.symm)
  have g747 := S739.1
  refine lv_dup hxx hb dX11_init_176 rfl ?_
  have a758 : ∀ a, q_nw q733 H734.size a → q_nw h s.heap.size a := by
    rintro a (e | e)
    · exact Or.inr (by omega)
    · exact Or.inr (by omega)
  refine b_cv (b_runN (As := []) (rest := [.ref q733, .int 1, .ref q178]) E (hml.trans hl.1.symm) D694 w740 k746 b738 rfl (n_X0 l D X683 σ684 q733 H734.size) bi_X11_41 rfl ⟨Nat.le_of_ble_eq_true rfl, Nat.le_of_ble_eq_true rfl⟩ ⟨Nat.le_of_ble_eq_true rfl, Nat.le_of_ble_eq_true rfl⟩ rfl (Nat.le_of_ble_eq_true rfl) dX11_init_177) S739 rfl a758 (fun X748 σ749 H750 locs1 x751 k752 p753 w754 z755 o756 S757 => ?_)
  have D759 : X748.1 = D := x751.1.trans D694
  have k760 : q_kd X748 h = 0 := x751.k0 k695 (by rintro (e | e) <;> omega)
  have b761 := b741.kept (o756 h t742 (by omega))
  have t762 := t_lt b761
  have x763 := x698.tr x751 a758
  have r764 := (o756 q22 (raw_lt r743) (by omega)).trans r743
  have k765 : q_kd X748 q22 = 0 := x751.k0 k700 (by have := raw_lt r743; rintro (e | e) <;> omega)
  have r766 := (o756 q42 (raw_lt r744) (by omega)).trans r744
  have k767 : q_kd X748 q42 = 0 := x751.k0 k702 (by have := raw_lt r744; rintro (e | e) <;> omega)
  have r768 := (o756 q178 (raw_lt r745) (by omega)).trans r745
  have k769 : q_kd X748 q178 = 0 := x751.k0 k704 (by have := raw_lt r745; rintro (e | e) <;> omega)
  have k770 := x751.kd k705 (by decide)
  have k771 := x751.kd k706 (by decide)
  have k772 := x751.kd k707 (by decide)
  have k773 := x751.kd k708 (by decide)
  have k774 := x751.kd k709 (by decide)
  have k775 := x751.kd k710 (by decide)
  have k776 := x751.kd k711 (by decide)
  have k777 := x751.kd k712 (by decide)
  have k778 := x751.kd k713 (by decide)
  have k779 := x751.kd k714 (by decide)
  have k780 := x751.kd k687 (by decide)
  have i781 : σ749.1 q424 0 = 0 := (q_exi x751 (by rw [k711]; decide)).trans i715
  have i782 : σ749.1 q424 1 = -1 := (q_exi x751 (by rw [k711]; decide)).trans i716
  have i783 : σ749.1 q479 0 = 0 := (q_exi x751 (by rw [k712]; decide)).trans i717
  have i784 : σ749.1 q479 1 = -1 := (q_exi x751 (by rw [k712]; decide)).trans i718
  have i785 : σ749.1 q538 0 = 0 := (q_exi x751 (by rw [k713]; decide)).trans i719
  have i786 : σ749.1 q538 1 = -1 := (q_exi x751 (by rw [k713]; decide)).trans i720
  have i787 : σ749.1 q601 0 = 0 := (q_exi x751 (by rw [k714]; decide)).trans i721
  have i788 : σ749.1 q601 1 = -1 := (q_exi x751 (by rw [k714]; decide)).trans i722
  refine b_aast E S757 (t := 4) (Or.inr (by have := raw_lt r768; omega)) rfl (show vwCl[0]? = some (RX0, TX0, 15) from rfl) r768 (q_wcell D759 w754 k752 ⟨rfl, by decide⟩ (show vwCl[0]? = some (RX0, TX0, 15) from rfl)) (by decide) (by decide) dX11_init_180 (fun H789 locs1 z790 o791 r792 S793 => ?_)
  have w794 : q_w X748 σ749 H789 := w754.kept (fun a ha => o791 a (fun e => ha (by rw [e]; exact k769)))
  have b795 := b761.kept (o791 h (by omega))
  have t796 := t_lt b795
  have r797 := (o791 q22 (by omega)).trans r764
  have r798 := (o791 q42 (by omega)).trans r766
  refine lv_iinc (v := 2) (lv' := [(1, .int 2), (0, .ref h)]) hxx hb dX11_init_181 hl (k := 0) rfl (by decide) (by decide) rfl (fun ls hl => ?_)
  refine lv_goto (tgt := 163) hxx hb dX11_init_184 (by decide) ?_
  refine lv_iload_n hxx hb dX11_init_163 rfl (lv_at hl 0 rfl) ?_
  refine lv_iconst (v := 3) hxx hb dX11_init_164 (by decide) ?_
  refine lv_icmp_ge hxx hb dX11_init_165 (tgt := 187) (by decide) (fun q => absurd q (by decide)) (fun _ => ?_)
  refine lv_aload_n hxx hb dX11_init_168 rfl (lv_at hl 1 rfl) ?_
  refine b_get E (f := 10) b795 (show vwCl[10]? = some (RX11, TX11, 17) from rfl) q_inX11 (by decide) bw_452 rfl (v := .ref q178) rfl dX11_init_169 ?_
  refine lv_iload_n hxx hb dX11_init_172 rfl (lv_at hl 0 rfl) ?_
  refine b_new E S793 bw_30 bw_31 bw_2 (show vwCl[0]? = some (RX0, TX0, 15) from rfl) q_inX0 tyX0 tyX0_ok (Nat.le_of_ble_eq_true rfl) (Nat.le_of_ble_eq_true rfl) dX11_init_173 (fun q799 H800 e801 z802 o803 b804 S805 => ?_)
  have w806 : q_w X748 σ749 H800 := w794.kept (fun a ha => o803 a (w794.lt ha))
  have b807 := b795.kept (o803 h t796)
  have t808 := t_lt b807
  have r809 := (o803 q22 (raw_lt r797)).trans r797
  have r810 := (o803 q42 (raw_lt r798)).trans r798
  have r811 := (o803 q178 (raw_lt r792)).trans r792
  have k812 : q_kd X748 q799 = 0 := w794.fresh (Nat.le_of_eq e801.symm)
  have g813 := S805.1
  refine lv_dup hxx hb dX11_init_176 rfl ?_
  have a824 : ∀ a, q_nw q799 H800.size a → q_nw h s.heap.size a := by
    rintro a (e | e)
    · exact Or.inr (by omega)
    · exact Or.inr (by omega)
  refine b_cv (b_runN (As := []) (rest := [.ref q799, .int 2, .ref q178]) E (hml.trans hl.1.symm) D759 w806 k812 b804 rfl (n_X0 l D X748 σ749 q799 H800.size) bi_X11_41 rfl ⟨Nat.le_of_ble_eq_true rfl, Nat.le_of_ble_eq_true rfl⟩ ⟨Nat.le_of_ble_eq_true rfl, Nat.le_of_ble_eq_true rfl⟩ rfl (Nat.le_of_ble_eq_true rfl) dX11_init_177) S805 rfl a824 (fun X814 σ815 H816 locs1 x817 k818 p819 w820 z821 o822 S823 => ?_)
  have D825 : X814.1 = D := x817.1.trans D759
  have k826 : q_kd X814 h = 0 := x817.k0 k760 (by rintro (e | e) <;> omega)
  have b827 := b807.kept (o822 h t808 (by omega))
  have t828 := t_lt b827
  have x829 := x763.tr x817 a824
  have r830 := (o822 q22 (raw_lt r809) (by omega)).trans r809
  have k831 : q_kd X814 q22 = 0 := x817.k0 k765 (by have := raw_lt r809; rintro (e | e) <;> omega)
  have r832 := (o822 q42 (raw_lt r810) (by omega)).trans r810
  have k833 : q_kd X814 q42 = 0 := x817.k0 k767 (by have := raw_lt r810; rintro (e | e) <;> omega)
  have r834 := (o822 q178 (raw_lt r811) (by omega)).trans r811
  have k835 : q_kd X814 q178 = 0 := x817.k0 k769 (by have := raw_lt r811; rintro (e | e) <;> omega)
  have k836 := x817.kd k770 (by decide)
  have k837 := x817.kd k771 (by decide)
  have k838 := x817.kd k772 (by decide)
  have k839 := x817.kd k773 (by decide)
  have k840 := x817.kd k774 (by decide)
  have k841 := x817.kd k775 (by decide)
  have k842 := x817.kd k776 (by decide)
  have k843 := x817.kd k777 (by decide)
  have k844 := x817.kd k778 (by decide)
  have k845 := x817.kd k779 (by decide)
  have k846 := x817.kd k780 (by decide)
  have k847 := x817.kd k752 (by decide)
  have i848 : σ815.1 q424 0 = 0 := (q_exi x817 (by rw [k776]; decide)).trans i781
  have i849 : σ815.1 q424 1 = -1 := (q_exi x817 (by rw [k776]; decide)).trans i782
  have i850 : σ815.1 q479 0 = 0 := (q_exi x817 (by rw [k777]; decide)).trans i783
  have i851 : σ815.1 q479 1 = -1 := (q_exi x817 (by rw [k777]; decide)).trans i784
  have i852 : σ815.1 q538 0 = 0 := (q_exi x817 (by rw [k778]; decide)).trans i785
  have i853 : σ815.1 q538 1 = -1 := (q_exi x817 (by rw [k778]; decide)).trans i786
  have i854 : σ815.1 q601 0 = 0 := (q_exi x817 (by rw [k779]; decide)).trans i787
  have i855 : σ815.1 q601 1 = -1 := (q_exi x817 (by rw [k779]; decide)).trans i788
  refine b_aast E S823 (t := 4) (Or.inr (by have := raw_lt r834; omega)) rfl (show vwCl[0]? = some (RX0, TX0, 15) from rfl) r834 (q_wcell D825 w820 k818 ⟨rfl, by decide⟩ (show vwCl[0]? = some (RX0, TX0, 15) from rfl)) (by decide) (by decide) dX11_init_180 (fun H856 locs1 z857 o858 r859 S860 => ?_)
  have w861 : q_w X814 σ815 H856 := w820.kept (fun a ha => o858 a (fun e => ha (by rw [e]; exact k835)))
  have b862 := b827.kept (o858 h (by omega))
  have t863 := t_lt b862
  have r864 := (o858 q22 (by omega)).trans r830
  have r865 := (o858 q42 (by omega)).trans r832
  refine lv_iinc (v := 3) (lv' := [(1, .int 3), (0, .ref h)]) hxx hb dX11_init_181 hl (k := 0) rfl (by decide) (by decide) rfl (fun ls hl => ?_)
  refine lv_goto (tgt := 163) hxx hb dX11_init_184 (by decide) ?_
  refine lv_iload_n hxx hb dX11_init_163 rfl (lv_at hl 0 rfl) ?_
  refine lv_iconst (v := 3) hxx hb dX11_init_164 (by decide) ?_
  refine lv_icmp_ge hxx hb dX11_init_165 (tgt := 187) (by decide) (fun _ => ?_) (fun q => absurd (by decide) q)
  have y870 := raw_lt r864
  obtain ⟨X866, dX866⟩ : ∃ Y, Y = q_xg X814 q22 23 4 (fun j => ([q424, q479, q538, q601] : List Nat).getD j 0) := ⟨_, rfl⟩
  obtain ⟨σ867, dσ867⟩ : ∃ τ, τ = q_sg σ815 q22 (fun _ => 0) (fun _ => 0) 0 := ⟨_, rfl⟩
  have x868 : q_ext (fun a => a = q22) X814 X866 σ815 σ867 := by rw [dX866, dσ867]; exact q_ext.add k831
  have r871 : H856[q22]? = some (arrV (D.2 3) 4 (fun j => .ref (([q424, q479, q538, q601] : List Nat).getD j 0))) := by
    rw [r864]
    exact congrArg some (q_arr_eq (fun j hj => match j, hj with | 0, _ => rfl | 1, _ => rfl | 2, _ => rfl | 3, _ => rfl | (n + 4), hj => absurd hj (by omega)))
  have w869 : q_w X866 σ867 H856 := by
    rw [dX866, dσ867]
    exact w861.add k831 (q_hrk (fun f _ hf => match f, hf with | 0, _ => k842 | 1, _ => k843 | 2, _ => k844 | 3, _ => k845 | (n + 4), hf => absurd (by unfold q_rk; rfl) hf)) (fun _ => rfl) (by decide) (fun q => absurd q (by decide)) (fun f => q_inU rfl) (fun q => by rcases q with q | q <;> exact absurd q (by decide)) (q_cfA D825 (by decide) (t0 := 3) rfl r871 (fun j => rfl))
  have D872 : X866.1 = D := x868.1.trans D825
  have k873 : q_kd X866 q22 = 23 := by rw [dX866]; exact q_xg_h
  have n874 : q_ln X866 q22 = 4 := by rw [dX866]; exact if_pos rfl
  have x875 := x829.tr x868 (fun a e => Or.inr (by rw [e]; omega))
  have k876 := x868.kd k836 (by decide)
  have k877 := x868.kd k837 (by decide)
  have k878 := x868.kd k838 (by decide)
  have k879 := x868.kd k839 (by decide)
  have k880 := x868.kd k840 (by decide)
  have k881 := x868.kd k841 (by decide)
  have k882 := x868.kd k842 (by decide)
  have k883 := x868.kd k843 (by decide)
  have k884 := x868.kd k844 (by decide)
  have k885 := x868.kd k845 (by decide)
  have k886 := x868.kd k846 (by decide)
  have k887 := x868.kd k847 (by decide)
  have k888 := x868.kd k818 (by decide)
  have k889 : q_kd X866 q42 = 0 := x868.k0 k833 (by omega)
  have k890 : q_kd X866 q178 = 0 := x868.k0 k835 (by omega)
  have k891 : q_kd X866 h = 0 := x868.k0 k826 (by omega)
  have i892 : σ867.1 q424 0 = 0 := (q_exi x868 (by rw [k842]; decide)).trans i848
  have i893 : σ867.1 q424 1 = -1 := (q_exi x868 (by rw [k842]; decide)).trans i849
  have i894 : σ867.1 q479 0 = 0 := (q_exi x868 (by rw [k843]; decide)).trans i850
  have i895 : σ867.1 q479 1 = -1 := (q_exi x868 (by rw [k843]; decide)).trans i851
  have i896 : σ867.1 q538 0 = 0 := (q_exi x868 (by rw [k844]; decide)).trans i852
  have i897 : σ867.1 q538 1 = -1 := (q_exi x868 (by rw [k844]; decide)).trans i853
  have i898 : σ867.1 q601 0 = 0 := (q_exi x868 (by rw [k845]; decide)).trans i854
  have i899 : σ867.1 q601 1 = -1 := (q_exi x868 (by rw [k845]; decide)).trans i855
  have j900 : ∀ j, q_rf X866 q22 j = ([q424, q479, q538, q601] : List Nat).getD j 0 := fun j => by rw [dX866]; exact if_pos rfl
  have y905 := raw_lt r865
  obtain ⟨X901, dX901⟩ : ∃ Y, Y = q_xg X866 q42 22 900 (fun _ => 0) := ⟨_, rfl⟩
  obtain ⟨σ902, dσ902⟩ : ∃ τ, τ = q_sg σ867 q42 (fun _ => 0 : Nat → Int32) (fun _ => 0) 0 := ⟨_, rfl⟩
  have x903 : q_ext (fun a => a = q42) X866 X901 σ867 σ902 := by rw [dX901, dσ902]; exact q_ext.add k889
  have w904 : q_w X901 σ902 H856 := by
    rw [dX901, dσ902]
    exact w869.add k889 (fun f hf => absurd rfl hf) (fun q => absurd rfl q) (by decide) (fun q => absurd q (by decide)) (fun f => q_inU rfl) (fun q => by rcases q with q | q <;> exact absurd q (by decide)) (q_cfA D872 (by decide) (t0 := 0) rfl r865 (fun j => rfl))
  have D906 : X901.1 = D := x903.1.trans D872
  have k907 : q_kd X901 q42 = 22 := by rw [dX901]; exact q_xg_h
  have n908 : q_ln X901 q42 = 900 := by rw [dX901]; exact if_pos rfl
  have x909 := x875.tr x903 (fun a e => Or.inr (by rw [e]; omega))
  have k910 := x903.kd k876 (by decide)
  have k911 := x903.kd k877 (by decide)
  have k912 := x903.kd k878 (by decide)
  have k913 := x903.kd k879 (by decide)
  have k914 := x903.kd k880 (by decide)
  have k915 := x903.kd k881 (by decide)
  have k916 := x903.kd k882 (by decide)
  have k917 := x903.kd k883 (by decide)
  have k918 := x903.kd k884 (by decide)
  have k919 := x903.kd k885 (by decide)
  have k920 := x903.kd k886 (by decide)
  have k921 := x903.kd k887 (by decide)
  have k922 := x903.kd k888 (by decide)
  have k923 := x903.kd k873 (by decide)
  have k924 : q_kd X901 q178 = 0 := x903.k0 k890 (by omega)
  have k925 : q_kd X901 h = 0 := x903.k0 k891 (by omega)
  have i926 : σ902.1 q424 0 = 0 := (q_exi x903 (by rw [k882]; decide)).trans i892
  have i927 : σ902.1 q424 1 = -1 := (q_exi x903 (by rw [k882]; decide)).trans i893
  have i928 : σ902.1 q479 0 = 0 := (q_exi x903 (by rw [k883]; decide)).trans i894
  have i929 : σ902.1 q479 1 = -1 := (q_exi x903 (by rw [k883]; decide)).trans i895
  have i930 : σ902.1 q538 0 = 0 := (q_exi x903 (by rw [k884]; decide)).trans i896
  have i931 : σ902.1 q538 1 = -1 := (q_exi x903 (by rw [k884]; decide)).trans i897
  have i932 : σ902.1 q601 0 = 0 := (q_exi x903 (by rw [k885]; decide)).trans i898
  have i933 : σ902.1 q601 1 = -1 := (q_exi x903 (by rw [k885]; decide)).trans i899
  have n934 : q_ln X901 q22 = 4 := (x903.2.2.2.1 q22 (by rw [k873]; decide)).2.1.trans n874
  have j935 : ∀ j, q_rf X901 q22 j = ([q424, q479, q538, q601] : List Nat).getD j 0 := fun j => ((x903.2.2.2.1 q22 (by rw [k873]; decide)).2.2.1 j).trans (j900 j)
  have y940 := raw_lt r859
  obtain ⟨X936, dX936⟩ : ∃ Y, Y = q_xg X901 q178 24 3 (fun j => ([q668, q733, q799] : List Nat).getD j 0) := ⟨_, rfl⟩
  obtain ⟨σ937, dσ937⟩ : ∃ τ, τ = q_sg σ902 q178 (fun _ => 0) (fun _ => 0) 0 := ⟨_, rfl⟩
  have x938 : q_ext (fun a => a = q178) X901 X936 σ902 σ937 := by rw [dX936, dσ937]; exact q_ext.add k924
  have r941 : H856[q178]? = some (arrV (D.2 4) 3 (fun j => .ref (([q668, q733, q799] : List Nat).getD j 0))) := by
    rw [r859]
    exact congrArg some (q_arr_eq (fun j hj => match j, hj with | 0, _ => rfl | 1, _ => rfl | 2, _ => rfl | (n + 3), hj => absurd hj (by omega)))
  have w939 : q_w X936 σ937 H856 := by
    rw [dX936, dσ937]
    exact w904.add k924 (q_hrk (fun f _ hf => match f, hf with | 0, _ => k920 | 1, _ => k921 | 2, _ => k922 | (n + 3), hf => absurd (by unfold q_rk; rfl) hf)) (fun _ => rfl) (by decide) (fun q => absurd q (by decide)) (fun f => q_inU rfl) (fun q => by rcases q with q | q <;> exact absurd q (by decide)) (q_cfA D906 (by decide) (t0 := 4) rfl r941 (fun j => rfl))
  have D942 : X936.1 = D := x938.1.trans D906
  have k943 : q_kd X936 q178 = 24 := by rw [dX936]; exact q_xg_h
  have n944 : q_ln X936 q178 = 3 := by rw [dX936]; exact if_pos rfl
  have x945 := x909.tr x938 (fun a e => Or.inr (by rw [e]; omega))
  have k946 := x938.kd k910 (by decide)
  have k947 := x938.kd k911 (by decide)
  have k948 := x938.kd k912 (by decide)
  have k949 := x938.kd k913 (by decide)
  have k950 := x938.kd k914 (by decide)
  have k951 := x938.kd k915 (by decide)
  have k952 := x938.kd k916 (by decide)
  have k953 := x938.kd k917 (by decide)
  have k954 := x938.kd k918 (by decide)
  have k955 := x938.kd k919 (by decide)
  have k956 := x938.kd k920 (by decide)
  have k957 := x938.kd k921 (by decide)
  have k958 := x938.kd k922 (by decide)
  have k959 := x938.kd k923 (by decide)
  have k960 := x938.kd k907 (by decide)
  have k961 : q_kd X936 h = 0 := x938.k0 k925 (by omega)
  have i962 : σ937.1 q424 0 = 0 := (q_exi x938 (by rw [k916]; decide)).trans i926
  have i963 : σ937.1 q424 1 = -1 := (q_exi x938 (by rw [k916]; decide)).trans i927
  have i964 : σ937.1 q479 0 = 0 := (q_exi x938 (by rw [k917]; decide)).trans i928
  have i965 : σ937.1 q479 1 = -1 := (q_exi x938 (by rw [k917]; decide)).trans i929
  have i966 : σ937.1 q538 0 = 0 := (q_exi x938 (by rw [k918]; decide)).trans i930
  have i967 : σ937.1 q538 1 = -1 := (q_exi x938 (by rw [k918]; decide)).trans i931
  have i968 : σ937.1 q601 0 = 0 := (q_exi x938 (by rw [k919]; decide)).trans i932
  have i969 : σ937.1 q601 1 = -1 := (q_exi x938 (by rw [k919]; decide)).trans i933
  have n970 : q_ln X936 q22 = 4 := (x938.2.2.2.1 q22 (by rw [k923]; decide)).2.1.trans n934
  have n971 : q_ln X936 q42 = 900 := (x938.2.2.2.1 q42 (by rw [k907]; decide)).2.1.trans n908
  have j972 : ∀ j, q_rf X936 q178 j = ([q668, q733, q799] : List Nat).getD j 0 := fun j => by rw [dX936]; exact if_pos rfl
  have j973 : ∀ j, q_rf X936 q22 j = ([q424, q479, q538, q601] : List Nat).getD j 0 := fun j => ((x938.2.2.2.1 q22 (by rw [k923]; decide)).2.2.1 j).trans (j935 j)
  obtain ⟨X974, dX974⟩ : ∃ Y, Y = q_xg X936 h 11 0 (fun f => ([0, 0, 0, q22, q42, 0, 0, 0, q91, q134, q178, 0, q212, q261, q311, q362, 0] : List Nat).getD f 0) := ⟨_, rfl⟩
  obtain ⟨σ975, dσ975⟩ : ∃ τ, τ = q_sg σ937 h (fun f => ([0, 0, 0, 0, 0, 0, (-1), (-1), 0, 0, 0, 0, 0, 0, 0, 0, 0] : List Int32).getD f 0) (fun f => ([0, 0, 1, 0, 0, 0, 0, 0, 0, 0, 0, 0, 0, 0, 0, 0, 0] : List Int64).getD f 0) 0 := ⟨_, rfl⟩
  have x976 : q_ext (fun a => a = h) X936 X974 σ937 σ975 := by rw [dX974, dσ975]; exact q_ext.add k961
  have hrk : ∀ f, f < 40 → q_rk 11 f ≠ 0 → q_kd X936 (([0, 0, 0, q22, q42, 0, 0, 0, q91, q134, q178, 0, q212, q261, q311, q362, 0] : List Nat).getD f 0) = q_rk 11 f := fun f h40 hf => match f, h40, hf with | 0, _, hf => absurd rfl hf | 1, _, hf => absurd rfl hf | 2, _, hf => absurd rfl hf | 3, _, _ => k959 | 4, _, _ => k960 | 5, _, hf => absurd rfl hf | 6, _, hf => absurd rfl hf | 7, _, hf => absurd rfl hf | 8, _, _ => k946 | 9, _, _ => k947 | 10, _, _ => k943 | 11, _, hf => absurd rfl hf | 12, _, _ => k948 | 13, _, _ => k949 | 14, _, _ => k950 | 15, _, _ => k951 | 16, _, hf => absurd rfl hf | 17, _, hf => absurd rfl hf | 18, _, hf => absurd rfl hf | 19, _, hf => absurd rfl hf | 20, _, hf => absurd rfl hf | 21, _, hf => absurd rfl hf | 22, _, hf => absurd rfl hf | 23, _, hf => absurd rfl hf | 24, _, hf => absurd rfl hf | 25, _, hf => absurd rfl hf | 26, _, hf => absurd rfl hf | 27, _, hf => absurd rfl hf | 28, _, hf => absurd rfl hf | 29, _, hf => absurd rfl hf | 30, _, hf => absurd rfl hf | 31, _, hf => absurd rfl hf | 32, _, hf => absurd rfl hf | 33, _, hf => absurd rfl hf | 34, _, hf => absurd rfl hf | 35, _, hf => absurd rfl hf | 36, _, hf => absurd rfl hf | 37, _, hf => absurd rfl hf | 38, _, hf => absurd rfl hf | 39, _, hf => absurd rfl hf | (n + 40), h40, _ => absurd h40 (by omega)
  have hB : ∀ f, f < 40 → (q_bn 11 f).1 ≤ ((([0, 0, 0, 0, 0, 0, (-1), (-1), 0, 0, 0, 0, 0, 0, 0, 0, 0] : List Int32).getD f 0).toInt) ∧ (([0, 0, 0, 0, 0, 0, (-1), (-1), 0, 0, 0, 0, 0, 0, 0, 0, 0] : List Int32).getD f 0).toInt ≤ (q_bn 11 f).2 := by decide +kernel
  have w977 : q_w X974 σ975 H856 := by
    rw [dX974, dσ975]
    exact w939.add k961 (q_hrk hrk) (fun q => absurd rfl q) (by decide) (fun _ => ⟨n971, (show q_kd X936 q42 ≠ 0 by rw [k960]; decide)⟩) (q_hB hB (by decide)) (fun q => by rcases q with q | q <;> exact absurd q (by decide)) (q_cfO D942 ⟨rfl, by decide⟩ (show vwCl[10]? = some (RX11, TX11, 17) from rfl) b862 (fun f hf => match f, hf with | 0, _ => rfl | 1, _ => rfl | 2, _ => rfl | 3, _ => rfl | 4, _ => rfl | 5, _ => rfl | 6, _ => rfl | 7, _ => rfl | 8, _ => rfl | 9, _ => rfl | 10, _ => rfl | 11, _ => rfl | 12, _ => rfl | 13, _ => rfl | 14, _ => rfl | 15, _ => rfl | 16, _ => rfl | (n + 17), hf => absurd hf (by omega)))
  have k978 : q_kd X974 h = 11 := by rw [dX974]; exact q_xg_h
  have x979 := x945.tr x976 (fun a e => Or.inl e)
  have k980 := x976.kd k946 (by decide)
  have k981 := x976.kd k947 (by decide)
  have k982 := x976.kd k948 (by decide)
  have k983 := x976.kd k949 (by decide)
  have k984 := x976.kd k950 (by decide)
  have k985 := x976.kd k951 (by decide)
  have k986 := x976.kd k952 (by decide)
  have k987 := x976.kd k953 (by decide)
  have k988 := x976.kd k954 (by decide)
  have k989 := x976.kd k955 (by decide)
  have k990 := x976.kd k956 (by decide)
  have k991 := x976.kd k957 (by decide)
  have k992 := x976.kd k958 (by decide)
  have k993 := x976.kd k959 (by decide)
  have k994 := x976.kd k960 (by decide)
  have k995 := x976.kd k943 (by decide)
  have i996 : σ975.1 q424 0 = 0 := (q_exi x976 (by rw [k952]; decide)).trans i962
  have i997 : σ975.1 q424 1 = -1 := (q_exi x976 (by rw [k952]; decide)).trans i963
  have i998 : σ975.1 q479 0 = 0 := (q_exi x976 (by rw [k953]; decide)).trans i964
  have i999 : σ975.1 q479 1 = -1 := (q_exi x976 (by rw [k953]; decide)).trans i965
  have i1000 : σ975.1 q538 0 = 0 := (q_exi x976 (by rw [k954]; decide)).trans i966
  have i1001 : σ975.1 q538 1 = -1 := (q_exi x976 (by rw [k954]; decide)).trans i967
  have i1002 : σ975.1 q601 0 = 0 := (q_exi x976 (by rw [k955]; decide)).trans i968
  have i1003 : σ975.1 q601 1 = -1 := (q_exi x976 (by rw [k955]; decide)).trans i969
  have ht3 : q_rf X974 h 3 = q22 := by rw [dX974]; exact if_pos rfl
  have htj : ∀ j, q_rf X974 q22 j = ([q424, q479, q538, q601] : List Nat).getD j 0 := fun j => ((x976.2.2.2.1 q22 (by rw [k959]; decide)).2.2.1 j).trans (j973 j)
  have htr : ∀ i, i < 4 → σ975.1 (q_rf X974 (q_rf X974 h 3) i) 0 = 0 ∧ σ975.1 (q_rf X974 (q_rf X974 h 3) i) 1 = -1 := by
    intro i hi
    rw [ht3, htj]
    exact match i, hi with | 0, _ => ⟨i996, i997⟩ | 1, _ => ⟨i998, i999⟩ | 2, _ => ⟨i1000, i1001⟩ | 3, _ => ⟨i1002, i1003⟩ | (n + 4), hi => absurd hi (by omega)
  have hds : ∀ i j, i < 4 → j < 4 → q_rf X974 (q_rf X974 h 3) i = q_rf X974 (q_rf X974 h 3) j → i = j := by
    intro i j hi hj
    rw [ht3, htj, htj]
    exact match i, j, hi, hj with | 0, 0, _, _ => fun _ => rfl | 0, 1, _, _ => fun z => absurd (show q424 = q479 from z) N494 | 0, 2, _, _ => fun z => absurd (show q424 = q538 from z) N553 | 0, 3, _, _ => fun z => absurd (show q424 = q601 from z) N616 | 1, 0, _, _ => fun z => absurd (show q479 = q424 from z) (Ne.symm N494) | 1, 1, _, _ => fun _ => rfl | 1, 2, _, _ => fun z => absurd (show q479 = q538 from z) N554 | 1, 3, _, _ => fun z => absurd (show q479 = q601 from z) N617 | 2, 0, _, _ => fun z => absurd (show q538 = q424 from z) (Ne.symm N553) | 2, 1, _, _ => fun z => absurd (show q538 = q479 from z) (Ne.symm N554) | 2, 2, _, _ => fun _ => rfl | 2, 3, _, _ => fun z => absurd (show q538 = q601 from z) N618 | 3, 0, _, _ => fun z => absurd (show q601 = q424 from z) (Ne.symm N616) | 3, 1, _, _ => fun z => absurd (show q601 = q479 from z) (Ne.symm N617) | 3, 2, _, _ => fun z => absurd (show q601 = q538 from z) (Ne.symm N618) | 3, 3, _, _ => fun _ => rfl | (n + 4), _, hi, _ => absurd hi (by omega) | _, (n + 4), _, hj => absurd hj (by omega)
  exact b_ret E hr hlk S860 x979 k978 ⟨⟨by rw [dσ975]; exact if_pos rfl, by rw [dσ975]; exact if_pos rfl⟩, htr, hds⟩ w977 dX11_init_187
