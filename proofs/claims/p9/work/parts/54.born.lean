set_option maxRecDepth 100000 in
set_option maxHeartbeats 4000000 in
theorem n_X11 (l : Launch) (D : DW) (X : XW) (σ : ST) (h sz : Nat) : Met l yX11_init (q_ws yX11_init cX11_init 2 none) { frames := 5, cells := 0 + 1 + 1 + 1 + (0 + 1 + (0 + 1 + (0 + 1) + 1 + (0 + 1) + 1 + (0 + 1)) + 1 + (0 + 1 + (0 + 1) + 1 + (0 + 1) + 1 + (0 + 1) + 1 + (0 + 1) + 1 + (0 + 1) + 1 + (0 + 1) + 1 + (0 + 1)) + 1 + (0 + 1 + (0 + 1) + 1 + (0 + 1) + 1 + (0 + 1) + 1 + (0 + 1)) + 1 + (0 + 1 + (0 + 1) + 1 + (0 + 1) + 1 + (0 + 1) + 1 + (0 + 1) + 1 + (0 + 1)) + 1 + (0 + 1) + 1 + (0 + 1)) + 1 + (0 + 1 + (0 + 1 + (0 + 1) + 1 + (0 + 1) + 1 + (0 + 1)) + 1 + (0 + 1 + (0 + 1) + 1 + (0 + 1) + 1 + (0 + 1) + 1 + (0 + 1) + 1 + (0 + 1) + 1 + (0 + 1) + 1 + (0 + 1)) + 1 + (0 + 1 + (0 + 1) + 1 + (0 + 1) + 1 + (0 + 1) + 1 + (0 + 1)) + 1 + (0 + 1 + (0 + 1) + 1 + (0 + 1) + 1 + (0 + 1) + 1 + (0 + 1) + 1 + (0 + 1)) + 1 + (0 + 1) + 1 + (0 + 1)) + 1 + 1 + (0 + (0 + 1) + 1 + (0 + 1 + (0 + 1 + (0 + 1) + 1 + (0 + 1) + 1 + (0 + 1)) + 1 + (0 + 1 + (0 + 1) + 1 + (0 + 1) + 1 + (0 + 1) + 1 + (0 + 1) + 1 + (0 + 1) + 1 + (0 + 1) + 1 + (0 + 1)) + 1 + (0 + 1 + (0 + 1) + 1 + (0 + 1) + 1 + (0 + 1) + 1 + (0 + 1)) + 1 + (0 + 1 + (0 + 1) + 1 + (0 + 1) + 1 + (0 + 1) + 1 + (0 + 1) + 1 + (0 + 1)) + 1 + (0 + 1) + 1 + (0 + 1)) + 1 + (0 + 1)) + 1 + (0 + (0 + 1) + 1 + (0 + 1 + (0 + 1) + 1 + (0 + 1) + 1 + (0 + 1) + 1 + (0 + 1) + 1 + (0 + 1)) + 1 + (0 + 1)) + 1 + (0 + 1 + (0 + 1)) + 1 + (0 + 1 + (0 + 1)) + 1 + (0 + 1) + 1 + (0 + 1) + 1 + (0 + 1) + 1 + (0 + 1) + 1 + (0 + 1 + (0 + 1 + (0 + 1) + 1 + (0 + 1) + 1 + (0 + 1)) + 1 + (0 + 1 + (0 + 1) + 1 + (0 + 1) + 1 + (0 + 1) + 1 + (0 + 1) + 1 + (0 + 1) + 1 + (0 + 1) + 1 + (0 + 1)) + 1 + (0 + 1 + (0 + 1) + 1 + (0 + 1) + 1 + (0 + 1) + 1 + (0 + 1)) + 1 + (0 + 1 + (0 + 1) + 1 + (0 + 1) + 1 + (0 + 1) + 1 + (0 + 1) + 1 + (0 + 1)) + 1 + (0 + 1) + 1 + (0 + 1)) + 1 + (0 + 1 + (0 + 1 + (0 + 1) + 1 + (0 + 1) + 1 + (0 + 1)) + 1 + (0 + 1 + (0 + 1) + 1 + (0 + 1) + 1 + (0 + 1) + 1 + (0 + 1) + 1 + (0 + 1) + 1 + (0 + 1) + 1 + (0 + 1)) + 1 + (0 + 1 + (0 + 1) + 1 + (0 + 1) + 1 + (0 + 1) + 1 + (0 + 1)) + 1 + (0 + 1 + (0 + 1) + 1 + (0 + 1) + 1 + (0 + 1) + 1 + (0 + 1) + 1 + (0 + 1)) + 1 + (0 + 1) + 1 + (0 + 1)) + 1 + (0 + 1 + (0 + 1 + (0 + 1) + 1 + (0 + 1) + 1 + (0 + 1)) + 1 + (0 + 1 + (0 + 1) + 1 + (0 + 1) + 1 + (0 + 1) + 1 + (0 + 1) + 1 + (0 + 1) + 1 + (0 + 1) + 1 + (0 + 1)) + 1 + (0 + 1 + (0 + 1) + 1 + (0 + 1) + 1 + (0 + 1) + 1 + (0 + 1)) + 1 + (0 + 1 + (0 + 1) + 1 + (0 + 1) + 1 + (0 + 1) + 1 + (0 + 1) + 1 + (0 + 1)) + 1 + (0 + 1) + 1 + (0 + 1)), slots := 0 + 4 + 900 + 15 + (0 + 8 + (0 + 1 + (0 + 10) + 1 + (0 + 48) + 1 + (0 + 6)) + 7 + (0 + 1 + (0 + 60) + 1 + (0 + 60) + 1 + (0 + 6) + 1 + (0 + 6) + 1 + (0 + 6) + 1 + (0 + 6) + 1 + (0 + 6)) + 6 + (0 + 1 + (0 + 80) + 1 + (0 + 80) + 1 + (0 + 80) + 1 + (0 + 320)) + 8 + (0 + 1 + (0 + 60) + 1 + (0 + 60) + 1 + (0 + 60) + 1 + (0 + 60) + 1 + (0 + 60)) + 1 + (0 + 10) + 1 + (0 + 10)) + 15 + (0 + 8 + (0 + 1 + (0 + 10) + 1 + (0 + 48) + 1 + (0 + 6)) + 7 + (0 + 1 + (0 + 60) + 1 + (0 + 60) + 1 + (0 + 6) + 1 + (0 + 6) + 1 + (0 + 6) + 1 + (0 + 6) + 1 + (0 + 6)) + 6 + (0 + 1 + (0 + 80) + 1 + (0 + 80) + 1 + (0 + 80) + 1 + (0 + 320)) + 8 + (0 + 1 + (0 + 60) + 1 + (0 + 60) + 1 + (0 + 60) + 1 + (0 + 60) + 1 + (0 + 60)) + 1 + (0 + 10) + 1 + (0 + 10)) + 3 + 12 + (0 + (0 + 0) + 15 + (0 + 8 + (0 + 1 + (0 + 10) + 1 + (0 + 48) + 1 + (0 + 6)) + 7 + (0 + 1 + (0 + 60) + 1 + (0 + 60) + 1 + (0 + 6) + 1 + (0 + 6) + 1 + (0 + 6) + 1 + (0 + 6) + 1 + (0 + 6)) + 6 + (0 + 1 + (0 + 80) + 1 + (0 + 80) + 1 + (0 + 80) + 1 + (0 + 320)) + 8 + (0 + 1 + (0 + 60) + 1 + (0 + 60) + 1 + (0 + 60) + 1 + (0 + 60) + 1 + (0 + 60)) + 1 + (0 + 10) + 1 + (0 + 10)) + 1 + (0 + 6)) + 11 + (0 + (0 + 0) + 8 + (0 + 1 + (0 + 60) + 1 + (0 + 60) + 1 + (0 + 60) + 1 + (0 + 60) + 1 + (0 + 60)) + 1 + (0 + 3)) + 8 + (0 + 1 + (0 + 60)) + 8 + (0 + 1 + (0 + 60)) + 3 + (0 + 60) + 3 + (0 + 60) + 3 + (0 + 60) + 3 + (0 + 60) + 15 + (0 + 8 + (0 + 1 + (0 + 10) + 1 + (0 + 48) + 1 + (0 + 6)) + 7 + (0 + 1 + (0 + 60) + 1 + (0 + 60) + 1 + (0 + 6) + 1 + (0 + 6) + 1 + (0 + 6) + 1 + (0 + 6) + 1 + (0 + 6)) + 6 + (0 + 1 + (0 + 80) + 1 + (0 + 80) + 1 + (0 + 80) + 1 + (0 + 320)) + 8 + (0 + 1 + (0 + 60) + 1 + (0 + 60) + 1 + (0 + 60) + 1 + (0 + 60) + 1 + (0 + 60)) + 1 + (0 + 10) + 1 + (0 + 10)) + 15 + (0 + 8 + (0 + 1 + (0 + 10) + 1 + (0 + 48) + 1 + (0 + 6)) + 7 + (0 + 1 + (0 + 60) + 1 + (0 + 60) + 1 + (0 + 6) + 1 + (0 + 6) + 1 + (0 + 6) + 1 + (0 + 6) + 1 + (0 + 6)) + 6 + (0 + 1 + (0 + 80) + 1 + (0 + 80) + 1 + (0 + 80) + 1 + (0 + 320)) + 8 + (0 + 1 + (0 + 60) + 1 + (0 + 60) + 1 + (0 + 60) + 1 + (0 + 60) + 1 + (0 + 60)) + 1 + (0 + 10) + 1 + (0 + 10)) + 15 + (0 + 8 + (0 + 1 + (0 + 10) + 1 + (0 + 48) + 1 + (0 + 6)) + 7 + (0 + 1 + (0 + 60) + 1 + (0 + 60) + 1 + (0 + 6) + 1 + (0 + 6) + 1 + (0 + 6) + 1 + (0 + 6) + 1 + (0 + 6)) + 6 + (0 + 1 + (0 + 80) + 1 + (0 + 80) + 1 + (0 + 80) + 1 + (0 + 320)) + 8 + (0 + 1 + (0 + 60) + 1 + (0 + 60) + 1 + (0 + 60) + 1 + (0 + 60) + 1 + (0 + 60)) + 1 + (0 + 10) + 1 + (0 + 10)), locals := 105 } (q_PN D X σ h sz 10 17 (fun k => defaultValue (tyX11 k)) [.ref h]) (q_QN X σ h sz 11 (fun X' σ' => (σ'.1 h 5 = 0 ∧ σ'.1 h 11 = 0) ∧ ∀ i, i < 4 → σ'.1 (q_rf X' (q_rf X' h 3) i) 0 = 0 ∧ σ'.1 (q_rf X' (q_rf X' h 3) i) 1 = -1)) (0 + 1 + 1 + 1 + (0 + 1 + (0 + 1 + (0 + 1) + 1 + (0 + 1) + 1 + (0 + 1)) + 1 + (0 + 1 + (0 + 1) + 1 + (0 + 1) + 1 + (0 + 1) + 1 + (0 + 1) + 1 + (0 + 1) + 1 + (0 + 1) + 1 + (0 + 1)) + 1 + (0 + 1 + (0 + 1) + 1 + (0 + 1) + 1 + (0 + 1) + 1 + (0 + 1)) + 1 + (0 + 1 + (0 + 1) + 1 + (0 + 1) + 1 + (0 + 1) + 1 + (0 + 1) + 1 + (0 + 1)) + 1 + (0 + 1) + 1 + (0 + 1)) + 1 + (0 + 1 + (0 + 1 + (0 + 1) + 1 + (0 + 1) + 1 + (0 + 1)) + 1 + (0 + 1 + (0 + 1) + 1 + (0 + 1) + 1 + (0 + 1) + 1 + (0 + 1) + 1 + (0 + 1) + 1 + (0 + 1) + 1 + (0 + 1)) + 1 + (0 + 1 + (0 + 1) + 1 + (0 + 1) + 1 + (0 + 1) + 1 + (0 + 1)) + 1 + (0 + 1 + (0 + 1) + 1 + (0 + 1) + 1 + (0 + 1) + 1 + (0 + 1) + 1 + (0 + 1)) + 1 + (0 + 1) + 1 + (0 + 1)) + 1 + 1 + (0 + (0 + 1) + 1 + (0 + 1 + (0 + 1 + (0 + 1) + 1 + (0 + 1) + 1 + (0 + 1)) + 1 + (0 + 1 + (0 + 1) + 1 + (0 + 1) + 1 + (0 + 1) + 1 + (0 + 1) + 1 + (0 + 1) + 1 + (0 + 1) + 1 + (0 + 1)) + 1 + (0 + 1 + (0 + 1) + 1 + (0 + 1) + 1 + (0 + 1) + 1 + (0 + 1)) + 1 + (0 + 1 + (0 + 1) + 1 + (0 + 1) + 1 + (0 + 1) + 1 + (0 + 1) + 1 + (0 + 1)) + 1 + (0 + 1) + 1 + (0 + 1)) + 1 + (0 + 1)) + 1 + (0 + (0 + 1) + 1 + (0 + 1 + (0 + 1) + 1 + (0 + 1) + 1 + (0 + 1) + 1 + (0 + 1) + 1 + (0 + 1)) + 1 + (0 + 1)) + 1 + (0 + 1 + (0 + 1)) + 1 + (0 + 1 + (0 + 1)) + 1 + (0 + 1) + 1 + (0 + 1) + 1 + (0 + 1) + 1 + (0 + 1) + 1 + (0 + 1 + (0 + 1 + (0 + 1) + 1 + (0 + 1) + 1 + (0 + 1)) + 1 + (0 + 1 + (0 + 1) + 1 + (0 + 1) + 1 + (0 + 1) + 1 + (0 + 1) + 1 + (0 + 1) + 1 + (0 + 1) + 1 + (0 + 1)) + 1 + (0 + 1 + (0 + 1) + 1 + (0 + 1) + 1 + (0 + 1) + 1 + (0 + 1)) + 1 + (0 + 1 + (0 + 1) + 1 + (0 + 1) + 1 + (0 + 1) + 1 + (0 + 1) + 1 + (0 + 1)) + 1 + (0 + 1) + 1 + (0 + 1)) + 1 + (0 + 1 + (0 + 1 + (0 + 1) + 1 + (0 + 1) + 1 + (0 + 1)) + 1 + (0 + 1 + (0 + 1) + 1 + (0 + 1) + 1 + (0 + 1) + 1 + (0 + 1) + 1 + (0 + 1) + 1 + (0 + 1) + 1 + (0 + 1)) + 1 + (0 + 1 + (0 + 1) + 1 + (0 + 1) + 1 + (0 + 1) + 1 + (0 + 1)) + 1 + (0 + 1 + (0 + 1) + 1 + (0 + 1) + 1 + (0 + 1) + 1 + (0 + 1) + 1 + (0 + 1)) + 1 + (0 + 1) + 1 + (0 + 1)) + 1 + (0 + 1 + (0 + 1 + (0 + 1) + 1 + (0 + 1) + 1 + (0 + 1)) + 1 + (0 + 1 + (0 + 1) + 1 + (0 + 1) + 1 + (0 + 1) + 1 + (0 + 1) + 1 + (0 + 1) + 1 + (0 + 1) + 1 + (0 + 1)) + 1 + (0 + 1 + (0 + 1) + 1 + (0 + 1) + 1 + (0 + 1) + 1 + (0 + 1)) + 1 + (0 + 1 + (0 + 1) + 1 + (0 + 1) + 1 + (0 + 1) + 1 + (0 + 1) + 1 + (0 + 1)) + 1 + (0 + 1) + 1 + (0 + 1))) (0 + 4 + 900 + 15 + (0 + 8 + (0 + 1 + (0 + 10) + 1 + (0 + 48) + 1 + (0 + 6)) + 7 + (0 + 1 + (0 + 60) + 1 + (0 + 60) + 1 + (0 + 6) + 1 + (0 + 6) + 1 + (0 + 6) + 1 + (0 + 6) + 1 + (0 + 6)) + 6 + (0 + 1 + (0 + 80) + 1 + (0 + 80) + 1 + (0 + 80) + 1 + (0 + 320)) + 8 + (0 + 1 + (0 + 60) + 1 + (0 + 60) + 1 + (0 + 60) + 1 + (0 + 60) + 1 + (0 + 60)) + 1 + (0 + 10) + 1 + (0 + 10)) + 15 + (0 + 8 + (0 + 1 + (0 + 10) + 1 + (0 + 48) + 1 + (0 + 6)) + 7 + (0 + 1 + (0 + 60) + 1 + (0 + 60) + 1 + (0 + 6) + 1 + (0 + 6) + 1 + (0 + 6) + 1 + (0 + 6) + 1 + (0 + 6)) + 6 + (0 + 1 + (0 + 80) + 1 + (0 + 80) + 1 + (0 + 80) + 1 + (0 + 320)) + 8 + (0 + 1 + (0 + 60) + 1 + (0 + 60) + 1 + (0 + 60) + 1 + (0 + 60) + 1 + (0 + 60)) + 1 + (0 + 10) + 1 + (0 + 10)) + 3 + 12 + (0 + (0 + 0) + 15 + (0 + 8 + (0 + 1 + (0 + 10) + 1 + (0 + 48) + 1 + (0 + 6)) + 7 + (0 + 1 + (0 + 60) + 1 + (0 + 60) + 1 + (0 + 6) + 1 + (0 + 6) + 1 + (0 + 6) + 1 + (0 + 6) + 1 + (0 + 6)) + 6 + (0 + 1 + (0 + 80) + 1 + (0 + 80) + 1 + (0 + 80) + 1 + (0 + 320)) + 8 + (0 + 1 + (0 + 60) + 1 + (0 + 60) + 1 + (0 + 60) + 1 + (0 + 60) + 1 + (0 + 60)) + 1 + (0 + 10) + 1 + (0 + 10)) + 1 + (0 + 6)) + 11 + (0 + (0 + 0) + 8 + (0 + 1 + (0 + 60) + 1 + (0 + 60) + 1 + (0 + 60) + 1 + (0 + 60) + 1 + (0 + 60)) + 1 + (0 + 3)) + 8 + (0 + 1 + (0 + 60)) + 8 + (0 + 1 + (0 + 60)) + 3 + (0 + 60) + 3 + (0 + 60) + 3 + (0 + 60) + 3 + (0 + 60) + 15 + (0 + 8 + (0 + 1 + (0 + 10) + 1 + (0 + 48) + 1 + (0 + 6)) + 7 + (0 + 1 + (0 + 60) + 1 + (0 + 60) + 1 + (0 + 6) + 1 + (0 + 6) + 1 + (0 + 6) + 1 + (0 + 6) + 1 + (0 + 6)) + 6 + (0 + 1 + (0 + 80) + 1 + (0 + 80) + 1 + (0 + 80) + 1 + (0 + 320)) + 8 + (0 + 1 + (0 + 60) + 1 + (0 + 60) + 1 + (0 + 60) + 1 + (0 + 60) + 1 + (0 + 60)) + 1 + (0 + 10) + 1 + (0 + 10)) + 15 + (0 + 8 + (0 + 1 + (0 + 10) + 1 + (0 + 48) + 1 + (0 + 6)) + 7 + (0 + 1 + (0 + 60) + 1 + (0 + 60) + 1 + (0 + 6) + 1 + (0 + 6) + 1 + (0 + 6) + 1 + (0 + 6) + 1 + (0 + 6)) + 6 + (0 + 1 + (0 + 80) + 1 + (0 + 80) + 1 + (0 + 80) + 1 + (0 + 320)) + 8 + (0 + 1 + (0 + 60) + 1 + (0 + 60) + 1 + (0 + 60) + 1 + (0 + 60) + 1 + (0 + 60)) + 1 + (0 + 10) + 1 + (0 + 10)) + 15 + (0 + 8 + (0 + 1 + (0 + 10) + 1 + (0 + 48) + 1 + (0 + 6)) + 7 + (0 + 1 + (0 + 60) + 1 + (0 + 60) + 1 + (0 + 6) + 1 + (0 + 6) + 1 + (0 + 6) + 1 + (0 + 6) + 1 + (0 + 6)) + 6 + (0 + 1 + (0 + 80) + 1 + (0 + 80) + 1 + (0 + 80) + 1 + (0 + 320)) + 8 + (0 + 1 + (0 + 60) + 1 + (0 + 60) + 1 + (0 + 60) + 1 + (0 + 60) + 1 + (0 + 60)) + 1 + (0 + 10) + 1 + (0 + 10))) (q_nw h sz) := by
  refine b_met (by decide +kernel) rfl rfl (Nat.le_of_ble_eq_true rfl) (fun p e s m below meth c E hml hr hlk hnm hsz hD hw0 h00 hob ls hl => ?_)
  subst hsz
  have hxx := E.1
  have hb := E.2.1
  have hl : lv_has ls 2 [(0, .ref h)] := hl
  have hS : va_S (q_nw h s.heap.size) s.heap s.heap [] := va_S.rf
  have hx0 : q_ext (q_nw h s.heap.size) X X σ σ := q_ext.rf
  have hAh : q_nw h s.heap.size h := Or.inl rfl
  have hlt := t_lt hob
  refine lv_aload_n hxx hb dX11_init_0 rfl (lv_at hl 0 rfl) ?_
  refine W.objInit hxx hb E.2.2.1 (E.2.2.2.1 _ bw_25) (E.2.2.2.1 _ bw_26) (E.2.2.2.1 _ bw_27) rfl (by rw [hml]; exact hl.1) rfl dX11_init_1 (Nat.le_of_ble_eq_true rfl) (Nat.le_of_ble_eq_true rfl) ?_
  refine W.eq (g2 := F0 m 4 ls []) rfl ?_
  refine lv_aload_n hxx hb dX11_init_4 rfl (lv_at hl 0 rfl) ?_
  refine lv_iconst (v := 0) hxx hb dX11_init_5 (by decide) ?_
  refine b_put E hS hAh hnm (f := 0) hob (show vwCl[10]? = some (RX11, TX11, 17) from rfl) q_inX11 tyX11_ok nmX11 (by decide) bw_442 rfl (fun _ => rfl) (tyX11_ok 0 (by decide)) rfl rfl dX11_init_6 (fun H1 locs1 z2 o3 b4 S5 => ?_)
  have w6 : q_w X σ H1 := hw0.kept (fun a ha => o3 a (fun e => ha (by rw [e]; exact h00)))
  have t7 := t_lt b4
  refine lv_aload_n hxx hb dX11_init_9 rfl (lv_at hl 0 rfl) ?_
  refine lv_lconst (v := 0) hxx hb dX11_init_10 (by decide) ?_
  refine b_put E S5 hAh hnm (f := 1) b4 (show vwCl[10]? = some (RX11, TX11, 17) from rfl) q_inX11 tyX11_ok nmX11 (by decide) bw_443 rfl (fun _ => rfl) (tyX11_ok 1 (by decide)) rfl rfl dX11_init_11 (fun H8 locs1 z9 o10 b11 S12 => ?_)
  have w13 : q_w X σ H8 := w6.kept (fun a ha => o10 a (fun e => ha (by rw [e]; exact h00)))
  have t14 := t_lt b11
  refine lv_aload_n hxx hb dX11_init_14 rfl (lv_at hl 0 rfl) ?_
  refine lv_lconst (v := 1) hxx hb dX11_init_15 (by decide) ?_
  refine b_put E S12 hAh hnm (f := 2) b11 (show vwCl[10]? = some (RX11, TX11, 17) from rfl) q_inX11 tyX11_ok nmX11 (by decide) bw_444 rfl (fun _ => rfl) (tyX11_ok 2 (by decide)) rfl rfl dX11_init_16 (fun H15 locs1 z16 o17 b18 S19 => ?_)
  have w20 : q_w X σ H15 := w13.kept (fun a ha => o17 a (fun e => ha (by rw [e]; exact h00)))
  have t21 := t_lt b18
  refine lv_aload_n hxx hb dX11_init_19 rfl (lv_at hl 0 rfl) ?_
  refine lv_iconst (v := 4) hxx hb dX11_init_20 (by decide) ?_
  refine b_newq E S19 bw_28 E.2.2.2.2.2.2.1 (t := 3) rfl (N' := 4) (by decide) (by decide) (by decide) (Nat.le_of_ble_eq_true rfl) (Nat.le_of_ble_eq_true rfl) dX11_init_21 (fun q22 H23 e24 z25 o26 r27 S28 => ?_)
  have w29 : q_w X σ H23 := w20.kept (fun a ha => o26 a (w20.lt ha))
  have b30 := b18.kept (o26 h t21)
  have t31 := t_lt b30
  have k32 : q_kd X q22 = 0 := w20.fresh (Nat.le_of_eq e24.symm)
  have g33 := S28.1
  refine b_put E S28 hAh hnm (f := 3) b30 (show vwCl[10]? = some (RX11, TX11, 17) from rfl) q_inX11 tyX11_ok nmX11 (by decide) bw_445 rfl (fun _ => rfl) (tyX11_ok 3 (by decide)) rfl rfl dX11_init_24 (fun H34 locs1 z35 o36 b37 S38 => ?_)
  have w39 : q_w X σ H34 := w29.kept (fun a ha => o36 a (fun e => ha (by rw [e]; exact h00)))
  have t40 := t_lt b37
  have r41 := (o36 q22 (by omega)).trans r27
  refine lv_aload_n hxx hb dX11_init_27 rfl (lv_at hl 0 rfl) ?_
  refine lv_sipush (v := 900) hxx hb dX11_init_28 (by decide) ?_
  refine b_newa E S38 bw_55 (t := 0) rfl (fun _ _ => rfl) (N' := 900) (by decide) (by decide) (by decide) (Nat.le_of_ble_eq_true rfl) (Nat.le_of_ble_eq_true rfl) dX11_init_31 (fun q42 H43 e44 z45 o46 r47 S48 => ?_)
  have w49 : q_w X σ H43 := w39.kept (fun a ha => o46 a (w39.lt ha))
  have b50 := b37.kept (o46 h t40)
  have t51 := t_lt b50
  have r52 := (o46 q22 (raw_lt r41)).trans r41
  have k53 : q_kd X q42 = 0 := w39.fresh (Nat.le_of_eq e44.symm)
  have g54 := S48.1
  refine b_put E S48 hAh hnm (f := 4) b50 (show vwCl[10]? = some (RX11, TX11, 17) from rfl) q_inX11 tyX11_ok nmX11 (by decide) bw_446 rfl (fun _ => rfl) (tyX11_ok 4 (by decide)) rfl rfl dX11_init_33 (fun H55 locs1 z56 o57 b58 S59 => ?_)
  have w60 : q_w X σ H55 := w49.kept (fun a ha => o57 a (fun e => ha (by rw [e]; exact h00)))
  have t61 := t_lt b58
  have r62 := (o57 q22 (by omega)).trans r52
  have r63 := (o57 q42 (by omega)).trans r47
  refine lv_aload_n hxx hb dX11_init_36 rfl (lv_at hl 0 rfl) ?_
  refine lv_iconst (v := 0) hxx hb dX11_init_37 (by decide) ?_
  refine b_put E S59 hAh hnm (f := 5) b58 (show vwCl[10]? = some (RX11, TX11, 17) from rfl) q_inX11 tyX11_ok nmX11 (by decide) bw_447 rfl (fun _ => rfl) (tyX11_ok 5 (by decide)) rfl rfl dX11_init_38 (fun H64 locs1 z65 o66 b67 S68 => ?_)
  have w69 : q_w X σ H64 := w60.kept (fun a ha => o66 a (fun e => ha (by rw [e]; exact h00)))
  have t70 := t_lt b67
  have r71 := (o66 q22 (by omega)).trans r62
  have r72 := (o66 q42 (by omega)).trans r63
  refine lv_aload_n hxx hb dX11_init_41 rfl (lv_at hl 0 rfl) ?_
  refine lv_iconst (v := (-1)) hxx hb dX11_init_42 (by decide) ?_
  refine b_put E S68 hAh hnm (f := 6) b67 (show vwCl[10]? = some (RX11, TX11, 17) from rfl) q_inX11 tyX11_ok nmX11 (by decide) bw_448 rfl (fun _ => rfl) (tyX11_ok 6 (by decide)) rfl rfl dX11_init_43 (fun H73 locs1 z74 o75 b76 S77 => ?_)
  have w78 : q_w X σ H73 := w69.kept (fun a ha => o75 a (fun e => ha (by rw [e]; exact h00)))
  have t79 := t_lt b76
  have r80 := (o75 q22 (by omega)).trans r71
  have r81 := (o75 q42 (by omega)).trans r72
  refine lv_aload_n hxx hb dX11_init_46 rfl (lv_at hl 0 rfl) ?_
  refine lv_iconst (v := (-1)) hxx hb dX11_init_47 (by decide) ?_
  refine b_put E S77 hAh hnm (f := 7) b76 (show vwCl[10]? = some (RX11, TX11, 17) from rfl) q_inX11 tyX11_ok nmX11 (by decide) bw_449 rfl (fun _ => rfl) (tyX11_ok 7 (by decide)) rfl rfl dX11_init_48 (fun H82 locs1 z83 o84 b85 S86 => ?_)
  have w87 : q_w X σ H82 := w78.kept (fun a ha => o84 a (fun e => ha (by rw [e]; exact h00)))
  have t88 := t_lt b85
  have r89 := (o84 q22 (by omega)).trans r80
  have r90 := (o84 q42 (by omega)).trans r81
  refine lv_aload_n hxx hb dX11_init_51 rfl (lv_at hl 0 rfl) ?_
  refine b_new E S86 bw_30 bw_31 bw_2 (show vwCl[0]? = some (RX0, TX0, 15) from rfl) q_inX0 tyX0 tyX0_ok (Nat.le_of_ble_eq_true rfl) (Nat.le_of_ble_eq_true rfl) dX11_init_52 (fun q91 H92 e93 z94 o95 b96 S97 => ?_)
  have w98 : q_w X σ H92 := w87.kept (fun a ha => o95 a (w87.lt ha))
  have b99 := b85.kept (o95 h t88)
  have t100 := t_lt b99
  have r101 := (o95 q22 (raw_lt r89)).trans r89
  have r102 := (o95 q42 (raw_lt r90)).trans r90
  have k103 : q_kd X q91 = 0 := w87.fresh (Nat.le_of_eq e93.symm)
  have g104 := S97.1
  refine lv_dup hxx hb dX11_init_55 rfl ?_
  have a115 : ∀ a, q_nw q91 H92.size a → q_nw h s.heap.size a := by
    rintro a (e | e)
    · exact Or.inr (by omega)
    · exact Or.inr (by omega)
  refine b_cv (b_runN (As := []) (rest := [.ref q91, .ref h]) E (hml.trans hl.1.symm) hD w98 k103 b96 rfl (n_X0 l D X σ q91 H92.size) bi_X11_41 rfl ⟨Nat.le_of_ble_eq_true rfl, Nat.le_of_ble_eq_true rfl⟩ ⟨Nat.le_of_ble_eq_true rfl, Nat.le_of_ble_eq_true rfl⟩ rfl (Nat.le_of_ble_eq_true rfl) dX11_init_56) S97 rfl a115 (fun X105 σ106 H107 locs1 x108 k109 p110 w111 z112 o113 S114 => ?_)
  have D116 : X105.1 = D := x108.1.trans hD
  have k117 : q_kd X105 h = 0 := x108.k0 h00 (by rintro (e | e) <;> omega)
  have b118 := b99.kept (o113 h t100 (by omega))
  have t119 := t_lt b118
  have x120 := hx0.tr x108 a115
  have r121 := (o113 q22 (raw_lt r101) (by omega)).trans r101
  have k122 : q_kd X105 q22 = 0 := x108.k0 k32 (by have := raw_lt r101; rintro (e | e) <;> omega)
  have r123 := (o113 q42 (raw_lt r102) (by omega)).trans r102
  have k124 : q_kd X105 q42 = 0 := x108.k0 k53 (by have := raw_lt r102; rintro (e | e) <;> omega)
  refine b_put E S114 hAh hnm (f := 8) b118 (show vwCl[10]? = some (RX11, TX11, 17) from rfl) q_inX11 tyX11_ok nmX11 (by decide) bw_450 rfl (fun _ => rfl) (tyX11_ok 8 (by decide)) rfl rfl dX11_init_59 (fun H125 locs1 z126 o127 b128 S129 => ?_)
  have w130 : q_w X105 σ106 H125 := w111.kept (fun a ha => o127 a (fun e => ha (by rw [e]; exact k117)))
  have t131 := t_lt b128
  have r132 := (o127 q22 (by omega)).trans r121
  have r133 := (o127 q42 (by omega)).trans r123
  refine lv_aload_n hxx hb dX11_init_62 rfl (lv_at hl 0 rfl) ?_
  refine b_new E S129 bw_30 bw_31 bw_2 (show vwCl[0]? = some (RX0, TX0, 15) from rfl) q_inX0 tyX0 tyX0_ok (Nat.le_of_ble_eq_true rfl) (Nat.le_of_ble_eq_true rfl) dX11_init_63 (fun q134 H135 e136 z137 o138 b139 S140 => ?_)
  have w141 : q_w X105 σ106 H135 := w130.kept (fun a ha => o138 a (w130.lt ha))
  have b142 := b128.kept (o138 h t131)
  have t143 := t_lt b142
  have r144 := (o138 q22 (raw_lt r132)).trans r132
  have r145 := (o138 q42 (raw_lt r133)).trans r133
  have k146 : q_kd X105 q134 = 0 := w130.fresh (Nat.le_of_eq e136.symm)
  have g147 := S140.1
  refine lv_dup hxx hb dX11_init_66 rfl ?_
  have a158 : ∀ a, q_nw q134 H135.size a → q_nw h s.heap.size a := by
    rintro a (e | e)
    · exact Or.inr (by omega)
    · exact Or.inr (by omega)
  refine b_cv (b_runN (As := []) (rest := [.ref q134, .ref h]) E (hml.trans hl.1.symm) D116 w141 k146 b139 rfl (n_X0 l D X105 σ106 q134 H135.size) bi_X11_41 rfl ⟨Nat.le_of_ble_eq_true rfl, Nat.le_of_ble_eq_true rfl⟩ ⟨Nat.le_of_ble_eq_true rfl, Nat.le_of_ble_eq_true rfl⟩ rfl (Nat.le_of_ble_eq_true rfl) dX11_init_67) S140 rfl a158 (fun X148 σ149 H150 locs1 x151 k152 p153 w154 z155 o156 S157 => ?_)
  have D159 : X148.1 = D := x151.1.trans D116
  have k160 : q_kd X148 h = 0 := x151.k0 k117 (by rintro (e | e) <;> omega)
  have b161 := b142.kept (o156 h t143 (by omega))
  have t162 := t_lt b161
  have x163 := x120.tr x151 a158
  have r164 := (o156 q22 (raw_lt r144) (by omega)).trans r144
  have k165 : q_kd X148 q22 = 0 := x151.k0 k122 (by have := raw_lt r144; rintro (e | e) <;> omega)
  have r166 := (o156 q42 (raw_lt r145) (by omega)).trans r145
  have k167 : q_kd X148 q42 = 0 := x151.k0 k124 (by have := raw_lt r145; rintro (e | e) <;> omega)
  have k168 := x151.kd k109 (by decide)
  refine b_put E S157 hAh hnm (f := 9) b161 (show vwCl[10]? = some (RX11, TX11, 17) from rfl) q_inX11 tyX11_ok nmX11 (by decide) bw_451 rfl (fun _ => rfl) (tyX11_ok 9 (by decide)) rfl rfl dX11_init_70 (fun H169 locs1 z170 o171 b172 S173 => ?_)
  have w174 : q_w X148 σ149 H169 := w154.kept (fun a ha => o171 a (fun e => ha (by rw [e]; exact k160)))
  have t175 := t_lt b172
  have r176 := (o171 q22 (by omega)).trans r164
  have r177 := (o171 q42 (by omega)).trans r166
  refine lv_aload_n hxx hb dX11_init_73 rfl (lv_at hl 0 rfl) ?_
  refine lv_iconst (v := 3) hxx hb dX11_init_74 (by decide) ?_
  refine b_newq E S173 bw_30 E.2.2.2.2.2.2.2 (t := 4) rfl (N' := 3) (by decide) (by decide) (by decide) (Nat.le_of_ble_eq_true rfl) (Nat.le_of_ble_eq_true rfl) dX11_init_75 (fun q178 H179 e180 z181 o182 r183 S184 => ?_)
  have w185 : q_w X148 σ149 H179 := w174.kept (fun a ha => o182 a (w174.lt ha))
  have b186 := b172.kept (o182 h t175)
  have t187 := t_lt b186
  have r188 := (o182 q22 (raw_lt r176)).trans r176
  have r189 := (o182 q42 (raw_lt r177)).trans r177
  have k190 : q_kd X148 q178 = 0 := w174.fresh (Nat.le_of_eq e180.symm)
  have g191 := S184.1
  refine b_put E S184 hAh hnm (f := 10) b186 (show vwCl[10]? = some (RX11, TX11, 17) from rfl) q_inX11 tyX11_ok nmX11 (by decide) bw_452 rfl (fun _ => rfl) (tyX11_ok 10 (by decide)) rfl rfl dX11_init_78 (fun H192 locs1 z193 o194 b195 S196 => ?_)
  have w197 : q_w X148 σ149 H192 := w185.kept (fun a ha => o194 a (fun e => ha (by rw [e]; exact k160)))
  have t198 := t_lt b195
  have r199 := (o194 q22 (by omega)).trans r188
  have r200 := (o194 q42 (by omega)).trans r189
  have r201 := (o194 q178 (by omega)).trans r183
  refine lv_aload_n hxx hb dX11_init_81 rfl (lv_at hl 0 rfl) ?_
  refine lv_iconst (v := 0) hxx hb dX11_init_82 (by decide) ?_
  refine b_put E S196 hAh hnm (f := 11) b195 (show vwCl[10]? = some (RX11, TX11, 17) from rfl) q_inX11 tyX11_ok nmX11 (by decide) bw_453 rfl (fun _ => rfl) (tyX11_ok 11 (by decide)) rfl rfl dX11_init_83 (fun H202 locs1 z203 o204 b205 S206 => ?_)
  have w207 : q_w X148 σ149 H202 := w197.kept (fun a ha => o204 a (fun e => ha (by rw [e]; exact k160)))
  have t208 := t_lt b205
  have r209 := (o204 q22 (by omega)).trans r199
  have r210 := (o204 q42 (by omega)).trans r200
  have r211 := (o204 q178 (by omega)).trans r201
  refine lv_aload_n hxx hb dX11_init_86 rfl (lv_at hl 0 rfl) ?_
  refine b_new E S206 bw_298 bw_299 bw_10 (show vwCl[8]? = some (RX9, TX9, 12) from rfl) q_inX9 tyX9 tyX9_ok (Nat.le_of_ble_eq_true rfl) (Nat.le_of_ble_eq_true rfl) dX11_init_87 (fun q212 H213 e214 z215 o216 b217 S218 => ?_)
  have w219 : q_w X148 σ149 H213 := w207.kept (fun a ha => o216 a (w207.lt ha))
  have b220 := b205.kept (o216 h t208)
  have t221 := t_lt b220
  have r222 := (o216 q22 (raw_lt r209)).trans r209
  have r223 := (o216 q42 (raw_lt r210)).trans r210
  have r224 := (o216 q178 (raw_lt r211)).trans r211
  have k225 : q_kd X148 q212 = 0 := w207.fresh (Nat.le_of_eq e214.symm)
  have g226 := S218.1
  refine lv_dup hxx hb dX11_init_90 rfl ?_
  have a237 : ∀ a, q_nw q212 H213.size a → q_nw h s.heap.size a := by
    rintro a (e | e)
    · exact Or.inr (by omega)
    · exact Or.inr (by omega)
  refine b_cv (b_runN (As := []) (rest := [.ref q212, .ref h]) E (hml.trans hl.1.symm) D159 w219 k225 b217 rfl (n_X9 l D X148 σ149 q212 H213.size) bi_X11_58 rfl ⟨Nat.le_of_ble_eq_true rfl, Nat.le_of_ble_eq_true rfl⟩ ⟨Nat.le_of_ble_eq_true rfl, Nat.le_of_ble_eq_true rfl⟩ rfl (Nat.le_of_ble_eq_true rfl) dX11_init_91) S218 rfl a237 (fun X227 σ228 H229 locs1 x230 k231 p232 w233 z234 o235 S236 => ?_)
  have D238 : X227.1 = D := x230.1.trans D159
  have k239 : q_kd X227 h = 0 := x230.k0 k160 (by rintro (e | e) <;> omega)
  have b240 := b220.kept (o235 h t221 (by omega))
  have t241 := t_lt b240
  have x242 := x163.tr x230 a237
  have r243 := (o235 q22 (raw_lt r222) (by omega)).trans r222
  have k244 : q_kd X227 q22 = 0 := x230.k0 k165 (by have := raw_lt r222; rintro (e | e) <;> omega)
  have r245 := (o235 q42 (raw_lt r223) (by omega)).trans r223
  have k246 : q_kd X227 q42 = 0 := x230.k0 k167 (by have := raw_lt r223; rintro (e | e) <;> omega)
  have r247 := (o235 q178 (raw_lt r224) (by omega)).trans r224
  have k248 : q_kd X227 q178 = 0 := x230.k0 k190 (by have := raw_lt r224; rintro (e | e) <;> omega)
  have k249 := x230.kd k168 (by decide)
  have k250 := x230.kd k152 (by decide)
  refine b_put E S236 hAh hnm (f := 12) b240 (show vwCl[10]? = some (RX11, TX11, 17) from rfl) q_inX11 tyX11_ok nmX11 (by decide) bw_454 rfl (fun _ => rfl) (tyX11_ok 12 (by decide)) rfl rfl dX11_init_94 (fun H251 locs1 z252 o253 b254 S255 => ?_)
  have w256 : q_w X227 σ228 H251 := w233.kept (fun a ha => o253 a (fun e => ha (by rw [e]; exact k239)))
  have t257 := t_lt b254
  have r258 := (o253 q22 (by omega)).trans r243
  have r259 := (o253 q42 (by omega)).trans r245
  have r260 := (o253 q178 (by omega)).trans r247
  refine lv_aload_n hxx hb dX11_init_97 rfl (lv_at hl 0 rfl) ?_
  refine b_new E S255 bw_357 bw_358 bw_11 (show vwCl[3]? = some (RX4, TX4, 11) from rfl) q_inX4 tyX4 tyX4_ok (Nat.le_of_ble_eq_true rfl) (Nat.le_of_ble_eq_true rfl) dX11_init_98 (fun q261 H262 e263 z264 o265 b266 S267 => ?_)
  have w268 : q_w X227 σ228 H262 := w256.kept (fun a ha => o265 a (w256.lt ha))
  have b269 := b254.kept (o265 h t257)
  have t270 := t_lt b269
  have r271 := (o265 q22 (raw_lt r258)).trans r258
  have r272 := (o265 q42 (raw_lt r259)).trans r259
  have r273 := (o265 q178 (raw_lt r260)).trans r260
  have k274 : q_kd X227 q261 = 0 := w256.fresh (Nat.le_of_eq e263.symm)
  have g275 := S267.1
  refine lv_dup hxx hb dX11_init_101 rfl ?_
  have a286 : ∀ a, q_nw q261 H262.size a → q_nw h s.heap.size a := by
    rintro a (e | e)
    · exact Or.inr (by omega)
    · exact Or.inr (by omega)
  refine b_cv (b_runN (As := []) (rest := [.ref q261, .ref h]) E (hml.trans hl.1.symm) D238 w268 k274 b266 rfl (n_X4 l D X227 σ228 q261 H262.size) bi_X11_65 rfl ⟨Nat.le_of_ble_eq_true rfl, Nat.le_of_ble_eq_true rfl⟩ ⟨Nat.le_of_ble_eq_true rfl, Nat.le_of_ble_eq_true rfl⟩ rfl (Nat.le_of_ble_eq_true rfl) dX11_init_102) S267 rfl a286 (fun X276 σ277 H278 locs1 x279 k280 p281 w282 z283 o284 S285 => ?_)
  have D287 : X276.1 = D := x279.1.trans D238
  have k288 : q_kd X276 h = 0 := x279.k0 k239 (by rintro (e | e) <;> omega)
  have b289 := b269.kept (o284 h t270 (by omega))
  have t290 := t_lt b289
  have x291 := x242.tr x279 a286
  have r292 := (o284 q22 (raw_lt r271) (by omega)).trans r271
  have k293 : q_kd X276 q22 = 0 := x279.k0 k244 (by have := raw_lt r271; rintro (e | e) <;> omega)
  have r294 := (o284 q42 (raw_lt r272) (by omega)).trans r272
  have k295 : q_kd X276 q42 = 0 := x279.k0 k246 (by have := raw_lt r272; rintro (e | e) <;> omega)
  have r296 := (o284 q178 (raw_lt r273) (by omega)).trans r273
  have k297 : q_kd X276 q178 = 0 := x279.k0 k248 (by have := raw_lt r273; rintro (e | e) <;> omega)
  have k298 := x279.kd k249 (by decide)
  have k299 := x279.kd k250 (by decide)
  have k300 := x279.kd k231 (by decide)
  refine b_put E S285 hAh hnm (f := 13) b289 (show vwCl[10]? = some (RX11, TX11, 17) from rfl) q_inX11 tyX11_ok nmX11 (by decide) bw_455 rfl (fun _ => rfl) (tyX11_ok 13 (by decide)) rfl rfl dX11_init_105 (fun H301 locs1 z302 o303 b304 S305 => ?_)
  have w306 : q_w X276 σ277 H301 := w282.kept (fun a ha => o303 a (fun e => ha (by rw [e]; exact k288)))
  have t307 := t_lt b304
  have r308 := (o303 q22 (by omega)).trans r292
  have r309 := (o303 q42 (by omega)).trans r294
  have r310 := (o303 q178 (by omega)).trans r296
  refine lv_aload_n hxx hb dX11_init_108 rfl (lv_at hl 0 rfl) ?_
  refine b_new E S305 bw_386 bw_387 bw_12 (show vwCl[6]? = some (RX7, TX7, 8) from rfl) q_inX7 tyX7 tyX7_ok (Nat.le_of_ble_eq_true rfl) (Nat.le_of_ble_eq_true rfl) dX11_init_109 (fun q311 H312 e313 z314 o315 b316 S317 => ?_)
  have w318 : q_w X276 σ277 H312 := w306.kept (fun a ha => o315 a (w306.lt ha))
  have b319 := b304.kept (o315 h t307)
  have t320 := t_lt b319
  have r321 := (o315 q22 (raw_lt r308)).trans r308
  have r322 := (o315 q42 (raw_lt r309)).trans r309
  have r323 := (o315 q178 (raw_lt r310)).trans r310
  have k324 : q_kd X276 q311 = 0 := w306.fresh (Nat.le_of_eq e313.symm)
  have g325 := S317.1
  refine lv_dup hxx hb dX11_init_112 rfl ?_
  have a336 : ∀ a, q_nw q311 H312.size a → q_nw h s.heap.size a := by
    rintro a (e | e)
    · exact Or.inr (by omega)
    · exact Or.inr (by omega)
  refine b_cv (b_runN (As := []) (rest := [.ref q311, .ref h]) E (hml.trans hl.1.symm) D287 w318 k324 b316 rfl (n_X7 l D X276 σ277 q311 H312.size) bi_X11_72 rfl ⟨Nat.le_of_ble_eq_true rfl, Nat.le_of_ble_eq_true rfl⟩ ⟨Nat.le_of_ble_eq_true rfl, Nat.le_of_ble_eq_true rfl⟩ rfl (Nat.le_of_ble_eq_true rfl) dX11_init_113) S317 rfl a336 (fun X326 σ327 H328 locs1 x329 k330 p331 w332 z333 o334 S335 => ?_)
  have D337 : X326.1 = D := x329.1.trans D287
  have k338 : q_kd X326 h = 0 := x329.k0 k288 (by rintro (e | e) <;> omega)
  have b339 := b319.kept (o334 h t320 (by omega))
  have t340 := t_lt b339
  have x341 := x291.tr x329 a336
  have r342 := (o334 q22 (raw_lt r321) (by omega)).trans r321
  have k343 : q_kd X326 q22 = 0 := x329.k0 k293 (by have := raw_lt r321; rintro (e | e) <;> omega)
  have r344 := (o334 q42 (raw_lt r322) (by omega)).trans r322
  have k345 : q_kd X326 q42 = 0 := x329.k0 k295 (by have := raw_lt r322; rintro (e | e) <;> omega)
  have r346 := (o334 q178 (raw_lt r323) (by omega)).trans r323
  have k347 : q_kd X326 q178 = 0 := x329.k0 k297 (by have := raw_lt r323; rintro (e | e) <;> omega)
  have k348 := x329.kd k298 (by decide)
  have k349 := x329.kd k299 (by decide)
  have k350 := x329.kd k300 (by decide)
  have k351 := x329.kd k280 (by decide)
  refine b_put E S335 hAh hnm (f := 14) b339 (show vwCl[10]? = some (RX11, TX11, 17) from rfl) q_inX11 tyX11_ok nmX11 (by decide) bw_456 rfl (fun _ => rfl) (tyX11_ok 14 (by decide)) rfl rfl dX11_init_116 (fun H352 locs1 z353 o354 b355 S356 => ?_)
  have w357 : q_w X326 σ327 H352 := w332.kept (fun a ha => o354 a (fun e => ha (by rw [e]; exact k338)))
  have t358 := t_lt b355
  have r359 := (o354 q22 (by omega)).trans r342
  have r360 := (o354 q42 (by omega)).trans r344
  have r361 := (o354 q178 (by omega)).trans r346
  refine lv_aload_n hxx hb dX11_init_119 rfl (lv_at hl 0 rfl) ?_
  refine b_new E S356 bw_386 bw_387 bw_12 (show vwCl[6]? = some (RX7, TX7, 8) from rfl) q_inX7 tyX7 tyX7_ok (Nat.le_of_ble_eq_true rfl) (Nat.le_of_ble_eq_true rfl) dX11_init_120 (fun q362 H363 e364 z365 o366 b367 S368 => ?_)
  have w369 : q_w X326 σ327 H363 := w357.kept (fun a ha => o366 a (w357.lt ha))
  have b370 := b355.kept (o366 h t358)
  have t371 := t_lt b370
  have r372 := (o366 q22 (raw_lt r359)).trans r359
  have r373 := (o366 q42 (raw_lt r360)).trans r360
  have r374 := (o366 q178 (raw_lt r361)).trans r361
  have k375 : q_kd X326 q362 = 0 := w357.fresh (Nat.le_of_eq e364.symm)
  have g376 := S368.1
  refine lv_dup hxx hb dX11_init_123 rfl ?_
  have a387 : ∀ a, q_nw q362 H363.size a → q_nw h s.heap.size a := by
    rintro a (e | e)
    · exact Or.inr (by omega)
    · exact Or.inr (by omega)
  refine b_cv (b_runN (As := []) (rest := [.ref q362, .ref h]) E (hml.trans hl.1.symm) D337 w369 k375 b367 rfl (n_X7 l D X326 σ327 q362 H363.size) bi_X11_72 rfl ⟨Nat.le_of_ble_eq_true rfl, Nat.le_of_ble_eq_true rfl⟩ ⟨Nat.le_of_ble_eq_true rfl, Nat.le_of_ble_eq_true rfl⟩ rfl (Nat.le_of_ble_eq_true rfl) dX11_init_124) S368 rfl a387 (fun X377 σ378 H379 locs1 x380 k381 p382 w383 z384 o385 S386 => ?_)
  have D388 : X377.1 = D := x380.1.trans D337
  have k389 : q_kd X377 h = 0 := x380.k0 k338 (by rintro (e | e) <;> omega)
  have b390 := b370.kept (o385 h t371 (by omega))
  have t391 := t_lt b390
  have x392 := x341.tr x380 a387
  have r393 := (o385 q22 (raw_lt r372) (by omega)).trans r372
  have k394 : q_kd X377 q22 = 0 := x380.k0 k343 (by have := raw_lt r372; rintro (e | e) <;> omega)
  have r395 := (o385 q42 (raw_lt r373) (by omega)).trans r373
  have k396 : q_kd X377 q42 = 0 := x380.k0 k345 (by have := raw_lt r373; rintro (e | e) <;> omega)
  have r397 := (o385 q178 (raw_lt r374) (by omega)).trans r374
  have k398 : q_kd X377 q178 = 0 := x380.k0 k347 (by have := raw_lt r374; rintro (e | e) <;> omega)
  have k399 := x380.kd k348 (by decide)
  have k400 := x380.kd k349 (by decide)
  have k401 := x380.kd k350 (by decide)
  have k402 := x380.kd k351 (by decide)
  have k403 := x380.kd k330 (by decide)
  refine b_put E S386 hAh hnm (f := 15) b390 (show vwCl[10]? = some (RX11, TX11, 17) from rfl) q_inX11 tyX11_ok nmX11 (by decide) bw_457 rfl (fun _ => rfl) (tyX11_ok 15 (by decide)) rfl rfl dX11_init_127 (fun H404 locs1 z405 o406 b407 S408 => ?_)
  have w409 : q_w X377 σ378 H404 := w383.kept (fun a ha => o406 a (fun e => ha (by rw [e]; exact k389)))
  have t410 := t_lt b407
  have r411 := (o406 q22 (by omega)).trans r393
  have r412 := (o406 q42 (by omega)).trans r395
  have r413 := (o406 q178 (by omega)).trans r397
  refine lv_aload_n hxx hb dX11_init_130 rfl (lv_at hl 0 rfl) ?_
  refine lv_iconst (v := 0) hxx hb dX11_init_131 (by decide) ?_
  refine b_put E S408 hAh hnm (f := 16) b407 (show vwCl[10]? = some (RX11, TX11, 17) from rfl) q_inX11 tyX11_ok nmX11 (by decide) bw_458 rfl (fun _ => rfl) (tyX11_ok 16 (by decide)) rfl rfl dX11_init_132 (fun H414 locs1 z415 o416 b417 S418 => ?_)
  have w419 : q_w X377 σ378 H414 := w409.kept (fun a ha => o416 a (fun e => ha (by rw [e]; exact k389)))
  have t420 := t_lt b417
  have r421 := (o416 q22 (by omega)).trans r411
  have r422 := (o416 q42 (by omega)).trans r412
  have r423 := (o416 q178 (by omega)).trans r413
  refine lv_iconst (v := 0) hxx hb dX11_init_135 (by decide) ?_
  refine lv_istore_n (lv' := [(1, .int 0), (0, .ref h)]) hxx hb dX11_init_136 rfl hl (by decide) rfl (fun ls hl => ?_)
  refine lv_iload_n hxx hb dX11_init_137 rfl (lv_at hl 0 rfl) ?_
  refine lv_iconst (v := 4) hxx hb dX11_init_138 (by decide) ?_
  refine lv_icmp_ge hxx hb dX11_init_139 (tgt := 161) (by decide) (fun q => absurd q (by decide)) (fun _ => ?_)
  refine lv_aload_n hxx hb dX11_init_142 rfl (lv_at hl 1 rfl) ?_
  refine b_get E (f := 3) b417 (show vwCl[10]? = some (RX11, TX11, 17) from rfl) q_inX11 (by decide) bw_445 rfl (v := .ref q22) rfl dX11_init_143 ?_
  refine lv_iload_n hxx hb dX11_init_146 rfl (lv_at hl 0 rfl) ?_
  refine b_new E S418 bw_28 bw_425 bw_13 (show vwCl[9]? = some (RX10, TX10, 3) from rfl) q_inX10 tyX10 tyX10_ok (Nat.le_of_ble_eq_true rfl) (Nat.le_of_ble_eq_true rfl) dX11_init_147 (fun q424 H425 e426 z427 o428 b429 S430 => ?_)
  have w431 : q_w X377 σ378 H425 := w419.kept (fun a ha => o428 a (w419.lt ha))
  have b432 := b417.kept (o428 h t420)
  have t433 := t_lt b432
  have r434 := (o428 q22 (raw_lt r421)).trans r421
  have r435 := (o428 q42 (raw_lt r422)).trans r422
  have r436 := (o428 q178 (raw_lt r423)).trans r423
  have k437 : q_kd X377 q424 = 0 := w419.fresh (Nat.le_of_eq e426.symm)
  have g438 := S430.1
  refine lv_dup hxx hb dX11_init_150 rfl ?_
  have a449 : ∀ a, q_nw q424 H425.size a → q_nw h s.heap.size a := by
    rintro a (e | e)
    · exact Or.inr (by omega)
    · exact Or.inr (by omega)
  refine b_cv (b_runN (As := []) (rest := [.ref q424, .int 0, .ref q22]) E (hml.trans hl.1.symm) D388 w431 k437 b429 rfl (n_X10 l D X377 σ378 q424 H425.size) bi_X11_84 rfl ⟨Nat.le_of_ble_eq_true rfl, Nat.le_of_ble_eq_true rfl⟩ ⟨Nat.le_of_ble_eq_true rfl, Nat.le_of_ble_eq_true rfl⟩ rfl (Nat.le_of_ble_eq_true rfl) dX11_init_151) S430 rfl a449 (fun X439 σ440 H441 locs1 x442 k443 p444 w445 z446 o447 S448 => ?_)
  have D450 : X439.1 = D := x442.1.trans D388
  have k451 : q_kd X439 h = 0 := x442.k0 k389 (by rintro (e | e) <;> omega)
  have b452 := b432.kept (o447 h t433 (by omega))
  have t453 := t_lt b452
  have x454 := x392.tr x442 a449
  have r455 := (o447 q22 (raw_lt r434) (by omega)).trans r434
  have k456 : q_kd X439 q22 = 0 := x442.k0 k394 (by have := raw_lt r434; rintro (e | e) <;> omega)
  have r457 := (o447 q42 (raw_lt r435) (by omega)).trans r435
  have k458 : q_kd X439 q42 = 0 := x442.k0 k396 (by have := raw_lt r435; rintro (e | e) <;> omega)
  have r459 := (o447 q178 (raw_lt r436) (by omega)).trans r436
  have k460 : q_kd X439 q178 = 0 := x442.k0 k398 (by have := raw_lt r436; rintro (e | e) <;> omega)
  have k461 := x442.kd k399 (by decide)
  have k462 := x442.kd k400 (by decide)
  have k463 := x442.kd k401 (by decide)
  have k464 := x442.kd k402 (by decide)
  have k465 := x442.kd k403 (by decide)
  have k466 := x442.kd k381 (by decide)
  have i467 : σ440.1 q424 0 = 0 := p444.1
  have i468 : σ440.1 q424 1 = -1 := p444.2
  refine b_aast E S448 (t := 3) (Or.inr (by have := raw_lt r455; omega)) rfl (show vwCl[9]? = some (RX10, TX10, 3) from rfl) r455 (q_wcell D450 w445 k443 ⟨rfl, by decide⟩ (show vwCl[9]? = some (RX10, TX10, 3) from rfl)) (by decide) (by decide) dX11_init_154 (fun H469 locs1 z470 o471 r472 S473 => ?_)
  have w474 : q_w X439 σ440 H469 := w445.kept (fun a ha => o471 a (fun e => ha (by rw [e]; exact k456)))
  have b475 := b452.kept (o471 h (by omega))
  have t476 := t_lt b475
  have r477 := (o471 q42 (by omega)).trans r457
  have r478 := (o471 q178 (by omega)).trans r459
  refine lv_iinc (v := 1) (lv' := [(1, .int 1), (0, .ref h)]) hxx hb dX11_init_155 hl (k := 0) rfl (by decide) (by decide) rfl (fun ls hl => ?_)
  refine lv_goto (tgt := 137) hxx hb dX11_init_158 (by decide) ?_
  refine lv_iload_n hxx hb dX11_init_137 rfl (lv_at hl 0 rfl) ?_
  refine lv_iconst (v := 4) hxx hb dX11_init_138 (by decide) ?_
  refine lv_icmp_ge hxx hb dX11_init_139 (tgt := 161) (by decide) (fun q => absurd q (by decide)) (fun _ => ?_)
  refine lv_aload_n hxx hb dX11_init_142 rfl (lv_at hl 1 rfl) ?_
  refine b_get E (f := 3) b475 (show vwCl[10]? = some (RX11, TX11, 17) from rfl) q_inX11 (by decide) bw_445 rfl (v := .ref q22) rfl dX11_init_143 ?_
  refine lv_iload_n hxx hb dX11_init_146 rfl (lv_at hl 0 rfl) ?_
  refine b_new E S473 bw_28 bw_425 bw_13 (show vwCl[9]? = some (RX10, TX10, 3) from rfl) q_inX10 tyX10 tyX10_ok (Nat.le_of_ble_eq_true rfl) (Nat.le_of_ble_eq_true rfl) dX11_init_147 (fun q479 H480 e481 z482 o483 b484 S485 => ?_)
  have w486 : q_w X439 σ440 H480 := w474.kept (fun a ha => o483 a (w474.lt ha))
  have b487 := b475.kept (o483 h t476)
  have t488 := t_lt b487
  have r489 := (o483 q22 (raw_lt r472)).trans r472
  have r490 := (o483 q42 (raw_lt r477)).trans r477
  have r491 := (o483 q178 (raw_lt r478)).trans r478
  have k492 : q_kd X439 q479 = 0 := w474.fresh (Nat.le_of_eq e481.symm)
  have g493 := S485.1
  refine lv_dup hxx hb dX11_init_150 rfl ?_
  have a504 : ∀ a, q_nw q479 H480.size a → q_nw h s.heap.size a := by
    rintro a (e | e)
    · exact Or.inr (by omega)
    · exact Or.inr (by omega)
  refine b_cv (b_runN (As := []) (rest := [.ref q479, .int 1, .ref q22]) E (hml.trans hl.1.symm) D450 w486 k492 b484 rfl (n_X10 l D X439 σ440 q479 H480.size) bi_X11_84 rfl ⟨Nat.le_of_ble_eq_true rfl, Nat.le_of_ble_eq_true rfl⟩ ⟨Nat.le_of_ble_eq_true rfl, Nat.le_of_ble_eq_true rfl⟩ rfl (Nat.le_of_ble_eq_true rfl) dX11_init_151) S485 rfl a504 (fun X494 σ495 H496 locs1 x497 k498 p499 w500 z501 o502 S503 => ?_)
  have D505 : X494.1 = D := x497.1.trans D450
  have k506 : q_kd X494 h = 0 := x497.k0 k451 (by rintro (e | e) <;> omega)
  have b507 := b487.kept (o502 h t488 (by omega))
  have t508 := t_lt b507
  have x509 := x454.tr x497 a504
  have r510 := (o502 q22 (raw_lt r489) (by omega)).trans r489
  have k511 : q_kd X494 q22 = 0 := x497.k0 k456 (by have := raw_lt r489; rintro (e | e) <;> omega)
  have r512 := (o502 q42 (raw_lt r490) (by omega)).trans r490
  have k513 : q_kd X494 q42 = 0 := x497.k0 k458 (by have := raw_lt r490; rintro (e | e) <;> omega)
  have r514 := (o502 q178 (raw_lt r491) (by omega)).trans r491
  have k515 : q_kd X494 q178 = 0 := x497.k0 k460 (by have := raw_lt r491; rintro (e | e) <;> omega)
  have k516 := x497.kd k461 (by decide)
  have k517 := x497.kd k462 (by decide)
  have k518 := x497.kd k463 (by decide)
  have k519 := x497.kd k464 (by decide)
  have k520 := x497.kd k465 (by decide)
  have k521 := x497.kd k466 (by decide)
  have k522 := x497.kd k443 (by decide)
  have i523 : σ495.1 q424 0 = 0 := (q_exi x497 (by rw [k443]; decide)).trans i467
  have i524 : σ495.1 q424 1 = -1 := (q_exi x497 (by rw [k443]; decide)).trans i468
  have i525 : σ495.1 q479 0 = 0 := p499.1
  have i526 : σ495.1 q479 1 = -1 := p499.2
  refine b_aast E S503 (t := 3) (Or.inr (by have := raw_lt r510; omega)) rfl (show vwCl[9]? = some (RX10, TX10, 3) from rfl) r510 (q_wcell D505 w500 k498 ⟨rfl, by decide⟩ (show vwCl[9]? = some (RX10, TX10, 3) from rfl)) (by decide) (by decide) dX11_init_154 (fun H527 locs1 z528 o529 r530 S531 => ?_)
  have w532 : q_w X494 σ495 H527 := w500.kept (fun a ha => o529 a (fun e => ha (by rw [e]; exact k511)))
  have b533 := b507.kept (o529 h (by omega))
  have t534 := t_lt b533
  have r535 := (o529 q42 (by omega)).trans r512
  have r536 := (o529 q178 (by omega)).trans r514
  refine lv_iinc (v := 2) (lv' := [(1, .int 2), (0, .ref h)]) hxx hb dX11_init_155 hl (k := 0) rfl (by decide) (by decide) rfl (fun ls hl => ?_)
  refine lv_goto (tgt := 137) hxx hb dX11_init_158 (by decide) ?_
  refine lv_iload_n hxx hb dX11_init_137 rfl (lv_at hl 0 rfl) ?_
  refine lv_iconst (v := 4) hxx hb dX11_init_138 (by decide) ?_
  refine lv_icmp_ge hxx hb dX11_init_139 (tgt := 161) (by decide) (fun q => absurd q (by decide)) (fun _ => ?_)
  refine lv_aload_n hxx hb dX11_init_142 rfl (lv_at hl 1 rfl) ?_
  refine b_get E (f := 3) b533 (show vwCl[10]? = some (RX11, TX11, 17) from rfl) q_inX11 (by decide) bw_445 rfl (v := .ref q22) rfl dX11_init_143 ?_
  refine lv_iload_n hxx hb dX11_init_146 rfl (lv_at hl 0 rfl) ?_
  refine b_new E S531 bw_28 bw_425 bw_13 (show vwCl[9]? = some (RX10, TX10, 3) from rfl) q_inX10 tyX10 tyX10_ok (Nat.le_of_ble_eq_true rfl) (Nat.le_of_ble_eq_true rfl) dX11_init_147 (fun q537 H538 e539 z540 o541 b542 S543 => ?_)
  have w544 : q_w X494 σ495 H538 := w532.kept (fun a ha => o541 a (w532.lt ha))
  have b545 := b533.kept (o541 h t534)
  have t546 := t_lt b545
  have r547 := (o541 q22 (raw_lt r530)).trans r530
  have r548 := (o541 q42 (raw_lt r535)).trans r535
  have r549 := (o541 q178 (raw_lt r536)).trans r536
  have k550 : q_kd X494 q537 = 0 := w532.fresh (Nat.le_of_eq e539.symm)
  have g551 := S543.1
  refine lv_dup hxx hb dX11_init_150 rfl ?_
  have a562 : ∀ a, q_nw q537 H538.size a → q_nw h s.heap.size a := by
    rintro a (e | e)
    · exact Or.inr (by omega)
    · exact Or.inr (by omega)
  refine b_cv (b_runN (As := []) (rest := [.ref q537, .int 2, .ref q22]) E (hml.trans hl.1.symm) D505 w544 k550 b542 rfl (n_X10 l D X494 σ495 q537 H538.size) bi_X11_84 rfl ⟨Nat.le_of_ble_eq_true rfl, Nat.le_of_ble_eq_true rfl⟩ ⟨Nat.le_of_ble_eq_true rfl, Nat.le_of_ble_eq_true rfl⟩ rfl (Nat.le_of_ble_eq_true rfl) dX11_init_151) S543 rfl a562 (fun X552 σ553 H554 locs1 x555 k556 p557 w558 z559 o560 S561 => ?_)
  have D563 : X552.1 = D := x555.1.trans D505
  have k564 : q_kd X552 h = 0 := x555.k0 k506 (by rintro (e | e) <;> omega)
  have b565 := b545.kept (o560 h t546 (by omega))
  have t566 := t_lt b565
  have x567 := x509.tr x555 a562
  have r568 := (o560 q22 (raw_lt r547) (by omega)).trans r547
  have k569 : q_kd X552 q22 = 0 := x555.k0 k511 (by have := raw_lt r547; rintro (e | e) <;> omega)
  have r570 := (o560 q42 (raw_lt r548) (by omega)).trans r548
  have k571 : q_kd X552 q42 = 0 := x555.k0 k513 (by have := raw_lt r548; rintro (e | e) <;> omega)
  have r572 := (o560 q178 (raw_lt r549) (by omega)).trans r549
  have k573 : q_kd X552 q178 = 0 := x555.k0 k515 (by have := raw_lt r549; rintro (e | e) <;> omega)
  have k574 := x555.kd k516 (by decide)
  have k575 := x555.kd k517 (by decide)
  have k576 := x555.kd k518 (by decide)
  have k577 := x555.kd k519 (by decide)
  have k578 := x555.kd k520 (by decide)
  have k579 := x555.kd k521 (by decide)
  have k580 := x555.kd k522 (by decide)
  have k581 := x555.kd k498 (by decide)
  have i582 : σ553.1 q424 0 = 0 := (q_exi x555 (by rw [k522]; decide)).trans i523
  have i583 : σ553.1 q424 1 = -1 := (q_exi x555 (by rw [k522]; decide)).trans i524
  have i584 : σ553.1 q479 0 = 0 := (q_exi x555 (by rw [k498]; decide)).trans i525
  have i585 : σ553.1 q479 1 = -1 := (q_exi x555 (by rw [k498]; decide)).trans i526
  have i586 : σ553.1 q537 0 = 0 := p557.1
  have i587 : σ553.1 q537 1 = -1 := p557.2
  refine b_aast E S561 (t := 3) (Or.inr (by have := raw_lt r568; omega)) rfl (show vwCl[9]? = some (RX10, TX10, 3) from rfl) r568 (q_wcell D563 w558 k556 ⟨rfl, by decide⟩ (show vwCl[9]? = some (RX10, TX10, 3) from rfl)) (by decide) (by decide) dX11_init_154 (fun H588 locs1 z589 o590 r591 S592 => ?_)
  have w593 : q_w X552 σ553 H588 := w558.kept (fun a ha => o590 a (fun e => ha (by rw [e]; exact k569)))
  have b594 := b565.kept (o590 h (by omega))
  have t595 := t_lt b594
  have r596 := (o590 q42 (by omega)).trans r570
  have r597 := (o590 q178 (by omega)).trans r572
  refine lv_iinc (v := 3) (lv' := [(1, .int 3), (0, .ref h)]) hxx hb dX11_init_155 hl (k := 0) rfl (by decide) (by decide) rfl (fun ls hl => ?_)
  refine lv_goto (tgt := 137) hxx hb dX11_init_158 (by decide) ?_
  refine lv_iload_n hxx hb dX11_init_137 rfl (lv_at hl 0 rfl) ?_
  refine lv_iconst (v := 4) hxx hb dX11_init_138 (by decide) ?_
  refine lv_icmp_ge hxx hb dX11_init_139 (tgt := 161) (by decide) (fun q => absurd q (by decide)) (fun _ => ?_)
  refine lv_aload_n hxx hb dX11_init_142 rfl (lv_at hl 1 rfl) ?_
  refine b_get E (f := 3) b594 (show vwCl[10]? = some (RX11, TX11, 17) from rfl) q_inX11 (by decide) bw_445 rfl (v := .ref q22) rfl dX11_init_143 ?_
  refine lv_iload_n hxx hb dX11_init_146 rfl (lv_at hl 0 rfl) ?_
  refine b_new E S592 bw_28 bw_425 bw_13 (show vwCl[9]? = some (RX10, TX10, 3) from rfl) q_inX10 tyX10 tyX10_ok (Nat.le_of_ble_eq_true rfl) (Nat.le_of_ble_eq_true rfl) dX11_init_147 (fun q598 H599 e600 z601 o602 b603 S604 => ?_)
  have w605 : q_w X552 σ553 H599 := w593.kept (fun a ha => o602 a (w593.lt ha))
  have b606 := b594.kept (o602 h t595)
  have t607 := t_lt b606
  have r608 := (o602 q22 (raw_lt r591)).trans r591
  have r609 := (o602 q42 (raw_lt r596)).trans r596
  have r610 := (o602 q178 (raw_lt r597)).trans r597
  have k611 : q_kd X552 q598 = 0 := w593.fresh (Nat.le_of_eq e600.symm)
  have g612 := S604.1
  refine lv_dup hxx hb dX11_init_150 rfl ?_
  have a623 : ∀ a, q_nw q598 H599.size a → q_nw h s.heap.size a := by
    rintro a (e | e)
    · exact Or.inr (by omega)
    · exact Or.inr (by omega)
  refine b_cv (b_runN (As := []) (rest := [.ref q598, .int 3, .ref q22]) E (hml.trans hl.1.symm) D563 w605 k611 b603 rfl (n_X10 l D X552 σ553 q598 H599.size) bi_X11_84 rfl ⟨Nat.le_of_ble_eq_true rfl, Nat.le_of_ble_eq_true rfl⟩ ⟨Nat.le_of_ble_eq_true rfl, Nat.le_of_ble_eq_true rfl⟩ rfl (Nat.le_of_ble_eq_true rfl) dX11_init_151) S604 rfl a623 (fun X613 σ614 H615 locs1 x616 k617 p618 w619 z620 o621 S622 => ?_)
  have D624 : X613.1 = D := x616.1.trans D563
  have k625 : q_kd X613 h = 0 := x616.k0 k564 (by rintro (e | e) <;> omega)
  have b626 := b606.kept (o621 h t607 (by omega))
  have t627 := t_lt b626
  have x628 := x567.tr x616 a623
  have r629 := (o621 q22 (raw_lt r608) (by omega)).trans r608
  have k630 : q_kd X613 q22 = 0 := x616.k0 k569 (by have := raw_lt r608; rintro (e | e) <;> omega)
  have r631 := (o621 q42 (raw_lt r609) (by omega)).trans r609
  have k632 : q_kd X613 q42 = 0 := x616.k0 k571 (by have := raw_lt r609; rintro (e | e) <;> omega)
  have r633 := (o621 q178 (raw_lt r610) (by omega)).trans r610
  have k634 : q_kd X613 q178 = 0 := x616.k0 k573 (by have := raw_lt r610; rintro (e | e) <;> omega)
  have k635 := x616.kd k574 (by decide)
  have k636 := x616.kd k575 (by decide)
  have k637 := x616.kd k576 (by decide)
  have k638 := x616.kd k577 (by decide)
  have k639 := x616.kd k578 (by decide)
  have k640 := x616.kd k579 (by decide)
  have k641 := x616.kd k580 (by decide)
  have k642 := x616.kd k581 (by decide)
  have k643 := x616.kd k556 (by decide)
  have i644 : σ614.1 q424 0 = 0 := (q_exi x616 (by rw [k580]; decide)).trans i582
  have i645 : σ614.1 q424 1 = -1 := (q_exi x616 (by rw [k580]; decide)).trans i583
  have i646 : σ614.1 q479 0 = 0 := (q_exi x616 (by rw [k581]; decide)).trans i584
  have i647 : σ614.1 q479 1 = -1 := (q_exi x616 (by rw [k581]; decide)).trans i585
  have i648 : σ614.1 q537 0 = 0 := (q_exi x616 (by rw [k556]; decide)).trans i586
  have i649 : σ614.1 q537 1 = -1 := (q_exi x616 (by rw [k556]; decide)).trans i587
  have i650 : σ614.1 q598 0 = 0 := p618.1
  have i651 : σ614.1 q598 1 = -1 := p618.2
  refine b_aast E S622 (t := 3) (Or.inr (by have := raw_lt r629; omega)) rfl (show vwCl[9]? = some (RX10, TX10, 3) from rfl) r629 (q_wcell D624 w619 k617 ⟨rfl, by decide⟩ (show vwCl[9]? = some (RX10, TX10, 3) from rfl)) (by decide) (by decide) dX11_init_154 (fun H652 locs1 z653 o654 r655 S656 => ?_)
  have w657 : q_w X613 σ614 H652 := w619.kept (fun a ha => o654 a (fun e => ha (by rw [e]; exact k630)))
  have b658 := b626.kept (o654 h (by omega))
  have t659 := t_lt b658
  have r660 := (o654 q42 (by omega)).trans r631
  have r661 := (o654 q178 (by omega)).trans r633
  refine lv_iinc (v := 4) (lv' := [(1, .int 4), (0, .ref h)]) hxx hb dX11_init_155 hl (k := 0) rfl (by decide) (by decide) rfl (fun ls hl => ?_)
  refine lv_goto (tgt := 137) hxx hb dX11_init_158 (by decide) ?_
  refine lv_iload_n hxx hb dX11_init_137 rfl (lv_at hl 0 rfl) ?_
  refine lv_iconst (v := 4) hxx hb dX11_init_138 (by decide) ?_
  refine lv_icmp_ge hxx hb dX11_init_139 (tgt := 161) (by decide) (fun _ => ?_) (fun q => absurd (by decide) q)
  refine lv_iconst (v := 0) hxx hb dX11_init_161 (by decide) ?_
  refine lv_istore_n (lv' := [(1, .int 0), (0, .ref h)]) hxx hb dX11_init_162 rfl hl (by decide) rfl (fun ls hl => ?_)
  refine lv_iload_n hxx hb dX11_init_163 rfl (lv_at hl 0 rfl) ?_
  refine lv_iconst (v := 3) hxx hb dX11_init_164 (by decide) ?_
  refine lv_icmp_ge hxx hb dX11_init_165 (tgt := 187) (by decide) (fun q => absurd q (by decide)) (fun _ => ?_)
  refine lv_aload_n hxx hb dX11_init_168 rfl (lv_at hl 1 rfl) ?_
  refine b_get E (f := 10) b658 (show vwCl[10]? = some (RX11, TX11, 17) from rfl) q_inX11 (by decide) bw_452 rfl (v := .ref q178) rfl dX11_init_169 ?_
  refine lv_iload_n hxx hb dX11_init_172 rfl (lv_at hl 0 rfl) ?_
  refine b_new E S656 bw_30 bw_31 bw_2 (show vwCl[0]? = some (RX0, TX0, 15) from rfl) q_inX0 tyX0 tyX0_ok (Nat.le_of_ble_eq_true rfl) (Nat.le_of_ble_eq_true rfl) dX11_init_173 (fun q662 H663 e664 z665 o666 b667 S668 => ?_)
  have w669 : q_w X613 σ614 H663 := w657.kept (fun a ha => o666 a (w657.lt ha))
  have b670 := b658.kept (o666 h t659)
  have t671 := t_lt b670
  have r672 := (o666 q22 (raw_lt r655)).trans r655
  have r673 := (o666 q42 (raw_lt r660)).trans r660
  have r674 := (o666 q178 (raw_lt r661)).trans r661
  have k675 : q_kd X613 q662 = 0 := w657.fresh (Nat.le_of_eq e664.symm)
  have g676 := S668.1
  refine lv_dup hxx hb dX11_init_176 rfl ?_
  have a687 : ∀ a, q_nw q662 H663.size a → q_nw h s.heap.size a := by
    rintro a (e | e)
    · exact Or.inr (by omega)
    · exact Or.inr (by omega)
  refine b_cv (b_runN (As := []) (rest := [.ref q662, .int 0, .ref q178]) E (hml.trans hl.1.symm) D624 w669 k675 b667 rfl (n_X0 l D X613 σ614 q662 H663.size) bi_X11_41 rfl ⟨Nat.le_of_ble_eq_true rfl, Nat.le_of_ble_eq_true rfl⟩ ⟨Nat.le_of_ble_eq_true rfl, Nat.le_of_ble_eq_true rfl⟩ rfl (Nat.le_of_ble_eq_true rfl) dX11_init_177) S668 rfl a687 (fun X677 σ678 H679 locs1 x680 k681 p682 w683 z684 o685 S686 => ?_)
  have D688 : X677.1 = D := x680.1.trans D624
  have k689 : q_kd X677 h = 0 := x680.k0 k625 (by rintro (e | e) <;> omega)
  have b690 := b670.kept (o685 h t671 (by omega))
  have t691 := t_lt b690
  have x692 := x628.tr x680 a687
  have r693 := (o685 q22 (raw_lt r672) (by omega)).trans r672
  have k694 : q_kd X677 q22 = 0 := x680.k0 k630 (by have := raw_lt r672; rintro (e | e) <;> omega)
  have r695 := (o685 q42 (raw_lt r673) (by omega)).trans r673
  have k696 : q_kd X677 q42 = 0 := x680.k0 k632 (by have := raw_lt r673; rintro (e | e) <;> omega)
  have r697 := (o685 q178 (raw_lt r674) (by omega)).trans r674
  have k698 : q_kd X677 q178 = 0 := x680.k0 k634 (by have := raw_lt r674; rintro (e | e) <;> omega)
  have k699 := x680.kd k635 (by decide)
  have k700 := x680.kd k636 (by decide)
  have k701 := x680.kd k637 (by decide)
  have k702 := x680.kd k638 (by decide)
  have k703 := x680.kd k639 (by decide)
  have k704 := x680.kd k640 (by decide)
  have k705 := x680.kd k641 (by decide)
  have k706 := x680.kd k642 (by decide)
  have k707 := x680.kd k643 (by decide)
  have k708 := x680.kd k617 (by decide)
  have i709 : σ678.1 q424 0 = 0 := (q_exi x680 (by rw [k641]; decide)).trans i644
  have i710 : σ678.1 q424 1 = -1 := (q_exi x680 (by rw [k641]; decide)).trans i645
  have i711 : σ678.1 q479 0 = 0 := (q_exi x680 (by rw [k642]; decide)).trans i646
  have i712 : σ678.1 q479 1 = -1 := (q_exi x680 (by rw [k642]; decide)).trans i647
  have i713 : σ678.1 q537 0 = 0 := (q_exi x680 (by rw [k643]; decide)).trans i648
  have i714 : σ678.1 q537 1 = -1 := (q_exi x680 (by rw [k643]; decide)).trans i649
  have i715 : σ678.1 q598 0 = 0 := (q_exi x680 (by rw [k617]; decide)).trans i650
  have i716 : σ678.1 q598 1 = -1 := (q_exi x680 (by rw [k617]; decide)).trans i651
  refine b_aast E S686 (t := 4) (Or.inr (by have := raw_lt r697; omega)) rfl (show vwCl[0]? = some (RX0, TX0, 15) from rfl) r697 (q_wcell D688 w683 k681 ⟨rfl, by decide⟩ (show vwCl[0]? = some (RX0, TX0, 15) from rfl)) (by decide) (by decide) dX11_init_180 (fun H717 locs1 z718 o719 r720 S721 => ?_)
  have w722 : q_w X677 σ678 H717 := w683.kept (fun a ha => o719 a (fun e => ha (by rw [e]; exact k698)))
  have b723 := b690.kept (o719 h (by omega))
  have t724 := t_lt b723
  have r725 := (o719 q22 (by omega)).trans r693
  have r726 := (o719 q42 (by omega)).trans r695
  refine lv_iinc (v := 1) (lv' := [(1, .int 1), (0, .ref h)]) hxx hb dX11_init_181 hl (k := 0) rfl (by decide) (by decide) rfl (fun ls hl => ?_)
  refine lv_goto (tgt := 163) hxx hb dX11_init_184 (by decide) ?_
  refine lv_iload_n hxx hb dX11_init_163 rfl (lv_at hl 0 rfl) ?_
  refine lv_iconst (v := 3) hxx hb dX11_init_164 (by decide) ?_
  refine lv_icmp_ge hxx hb dX11_init_165 (tgt := 187) (by decide) (fun q => absurd q (by decide)) (fun _ => ?_)
  refine lv_aload_n hxx hb dX11_init_168 rfl (lv_at hl 1 rfl) ?_
  refine b_get E (f := 10) b723 (show vwCl[10]? = some (RX11, TX11, 17) from rfl) q_inX11 (by decide) bw_452 rfl (v := .ref q178) rfl dX11_init_169 ?_
  refine lv_iload_n hxx hb dX11_init_172 rfl (lv_at hl 0 rfl) ?_
  refine b_new E S721 bw_30 bw_31 bw_2 (show vwCl[0]? = some (RX0, TX0, 15) from rfl) q_inX0 tyX0 tyX0_ok (Nat.le_of_ble_eq_true rfl) (Nat.le_of_ble_eq_true rfl) dX11_init_173 (fun q727 H728 e729 z730 o731 b732 S733 => ?_)
  have w734 : q_w X677 σ678 H728 := w722.kept (fun a ha => o731 a (w722.lt ha))
  have b735 := b723.kept (o731 h t724)
  have t736 := t_lt b735
  have r737 := (o731 q22 (raw_lt r725)).trans r725
  have r738 := (o731 q42 (raw_lt r726)).trans r726
  have r739 := (o731 q178 (raw_lt r720)).trans r720
  have k740 : q_kd X677 q727 = 0 := w722.fresh (Nat.le_of_eq e729.symm)
  have g741 := S733.1
  refine lv_dup hxx hb dX11_init_176 rfl ?_
  have a752 : ∀ a, q_nw q727 H728.size a → q_nw h s.heap.size a := by
    rintro a (e | e)
    · exact Or.inr (by omega)
    · exact Or.inr (by omega)
  refine b_cv (b_runN (As := []) (rest := [.ref q727, .int 1, .ref q178]) E (hml.trans hl.1.symm) D688 w734 k740 b732 rfl (n_X0 l D X677 σ678 q727 H728.size) bi_X11_41 rfl ⟨Nat.le_of_ble_eq_true rfl, Nat.le_of_ble_eq_true rfl⟩ ⟨Nat.le_of_ble_eq_true rfl, Nat.le_of_ble_eq_true rfl⟩ rfl (Nat.le_of_ble_eq_true rfl) dX11_init_177) S733 rfl a752 (fun X742 σ743 H744 locs1 x745 k746 p747 w748 z749 o750 S751 => ?_)
  have D753 : X742.1 = D := x745.1.trans D688
  have k754 : q_kd X742 h = 0 := x745.k0 k689 (by rintro (e | e) <;> omega)
  have b755 := b735.kept (o750 h t736 (by omega))
  have t756 := t_lt b755
  have x757 := x692.tr x745 a752
  have r758 := (o750 q22 (raw_lt r737) (by omega)).trans r737
  have k759 : q_kd X742 q22 = 0 := x745.k0 k694 (by have := raw_lt r737; rintro (e | e) <;> omega)
  have r760 := (o750 q42 (raw_lt r738) (by omega)).trans r738
  have k761 : q_kd X742 q42 = 0 := x745.k0 k696 (by have := raw_lt r738; rintro (e | e) <;> omega)
  have r762 := (o750 q178 (raw_lt r739) (by omega)).trans r739
  have k763 : q_kd X742 q178 = 0 := x745.k0 k698 (by have := raw_lt r739; rintro (e | e) <;> omega)
  have k764 := x745.kd k699 (by decide)
  have k765 := x745.kd k700 (by decide)
  have k766 := x745.kd k701 (by decide)
  have k767 := x745.kd k702 (by decide)
  have k768 := x745.kd k703 (by decide)
  have k769 := x745.kd k704 (by decide)
  have k770 := x745.kd k705 (by decide)
  have k771 := x745.kd k706 (by decide)
  have k772 := x745.kd k707 (by decide)
  have k773 := x745.kd k708 (by decide)
  have k774 := x745.kd k681 (by decide)
  have i775 : σ743.1 q424 0 = 0 := (q_exi x745 (by rw [k705]; decide)).trans i709
  have i776 : σ743.1 q424 1 = -1 := (q_exi x745 (by rw [k705]; decide)).trans i710
  have i777 : σ743.1 q479 0 = 0 := (q_exi x745 (by rw [k706]; decide)).trans i711
  have i778 : σ743.1 q479 1 = -1 := (q_exi x745 (by rw [k706]; decide)).trans i712
  have i779 : σ743.1 q537 0 = 0 := (q_exi x745 (by rw [k707]; decide)).trans i713
  have i780 : σ743.1 q537 1 = -1 := (q_exi x745 (by rw [k707]; decide)).trans i714
  have i781 : σ743.1 q598 0 = 0 := (q_exi x745 (by rw [k708]; decide)).trans i715
  have i782 : σ743.1 q598 1 = -1 := (q_exi x745 (by rw [k708]; decide)).trans i716
  refine b_aast E S751 (t := 4) (Or.inr (by have := raw_lt r762; omega)) rfl (show vwCl[0]? = some (RX0, TX0, 15) from rfl) r762 (q_wcell D753 w748 k746 ⟨rfl, by decide⟩ (show vwCl[0]? = some (RX0, TX0, 15) from rfl)) (by decide) (by decide) dX11_init_180 (fun H783 locs1 z784 o785 r786 S787 => ?_)
  have w788 : q_w X742 σ743 H783 := w748.kept (fun a ha => o785 a (fun e => ha (by rw [e]; exact k763)))
  have b789 := b755.kept (o785 h (by omega))
  have t790 := t_lt b789
  have r791 := (o785 q22 (by omega)).trans r758
  have r792 := (o785 q42 (by omega)).trans r760
  refine lv_iinc (v := 2) (lv' := [(1, .int 2), (0, .ref h)]) hxx hb dX11_init_181 hl (k := 0) rfl (by decide) (by decide) rfl (fun ls hl => ?_)
  refine lv_goto (tgt := 163) hxx hb dX11_init_184 (by decide) ?_
  refine lv_iload_n hxx hb dX11_init_163 rfl (lv_at hl 0 rfl) ?_
  refine lv_iconst (v := 3) hxx hb dX11_init_164 (by decide) ?_
  refine lv_icmp_ge hxx hb dX11_init_165 (tgt := 187) (by decide) (fun q => absurd q (by decide)) (fun _ => ?_)
  refine lv_aload_n hxx hb dX11_init_168 rfl (lv_at hl 1 rfl) ?_
  refine b_get E (f := 10) b789 (show vwCl[10]? = some (RX11, TX11, 17) from rfl) q_inX11 (by decide) bw_452 rfl (v := .ref q178) rfl dX11_init_169 ?_
  refine lv_iload_n hxx hb dX11_init_172 rfl (lv_at hl 0 rfl) ?_
  refine b_new E S787 bw_30 bw_31 bw_2 (show vwCl[0]? = some (RX0, TX0, 15) from rfl) q_inX0 tyX0 tyX0_ok (Nat.le_of_ble_eq_true rfl) (Nat.le_of_ble_eq_true rfl) dX11_init_173 (fun q793 H794 e795 z796 o797 b798 S799 => ?_)
  have w800 : q_w X742 σ743 H794 := w788.kept (fun a ha => o797 a (w788.lt ha))
  have b801 := b789.kept (o797 h t790)
  have t802 := t_lt b801
  have r803 := (o797 q22 (raw_lt r791)).trans r791
  have r804 := (o797 q42 (raw_lt r792)).trans r792
  have r805 := (o797 q178 (raw_lt r786)).trans r786
  have k806 : q_kd X742 q793 = 0 := w788.fresh (Nat.le_of_eq e795.symm)
  have g807 := S799.1
  refine lv_dup hxx hb dX11_init_176 rfl ?_
  have a818 : ∀ a, q_nw q793 H794.size a → q_nw h s.heap.size a := by
    rintro a (e | e)
    · exact Or.inr (by omega)
    · exact Or.inr (by omega)
  refine b_cv (b_runN (As := []) (rest := [.ref q793, .int 2, .ref q178]) E (hml.trans hl.1.symm) D753 w800 k806 b798 rfl (n_X0 l D X742 σ743 q793 H794.size) bi_X11_41 rfl ⟨Nat.le_of_ble_eq_true rfl, Nat.le_of_ble_eq_true rfl⟩ ⟨Nat.le_of_ble_eq_true rfl, Nat.le_of_ble_eq_true rfl⟩ rfl (Nat.le_of_ble_eq_true rfl) dX11_init_177) S799 rfl a818 (fun X808 σ809 H810 locs1 x811 k812 p813 w814 z815 o816 S817 => ?_)
  have D819 : X808.1 = D := x811.1.trans D753
  have k820 : q_kd X808 h = 0 := x811.k0 k754 (by rintro (e | e) <;> omega)
  have b821 := b801.kept (o816 h t802 (by omega))
  have t822 := t_lt b821
  have x823 := x757.tr x811 a818
  have r824 := (o816 q22 (raw_lt r803) (by omega)).trans r803
  have k825 : q_kd X808 q22 = 0 := x811.k0 k759 (by have := raw_lt r803; rintro (e | e) <;> omega)
  have r826 := (o816 q42 (raw_lt r804) (by omega)).trans r804
  have k827 : q_kd X808 q42 = 0 := x811.k0 k761 (by have := raw_lt r804; rintro (e | e) <;> omega)
  have r828 := (o816 q178 (raw_lt r805) (by omega)).trans r805
  have k829 : q_kd X808 q178 = 0 := x811.k0 k763 (by have := raw_lt r805; rintro (e | e) <;> omega)
  have k830 := x811.kd k764 (by decide)
  have k831 := x811.kd k765 (by decide)
  have k832 := x811.kd k766 (by decide)
  have k833 := x811.kd k767 (by decide)
  have k834 := x811.kd k768 (by decide)
  have k835 := x811.kd k769 (by decide)
  have k836 := x811.kd k770 (by decide)
  have k837 := x811.kd k771 (by decide)
  have k838 := x811.kd k772 (by decide)
  have k839 := x811.kd k773 (by decide)
  have k840 := x811.kd k774 (by decide)
  have k841 := x811.kd k746 (by decide)
  have i842 : σ809.1 q424 0 = 0 := (q_exi x811 (by rw [k770]; decide)).trans i775
  have i843 : σ809.1 q424 1 = -1 := (q_exi x811 (by rw [k770]; decide)).trans i776
  have i844 : σ809.1 q479 0 = 0 := (q_exi x811 (by rw [k771]; decide)).trans i777
  have i845 : σ809.1 q479 1 = -1 := (q_exi x811 (by rw [k771]; decide)).trans i778
  have i846 : σ809.1 q537 0 = 0 := (q_exi x811 (by rw [k772]; decide)).trans i779
  have i847 : σ809.1 q537 1 = -1 := (q_exi x811 (by rw [k772]; decide)).trans i780
  have i848 : σ809.1 q598 0 = 0 := (q_exi x811 (by rw [k773]; decide)).trans i781
  have i849 : σ809.1 q598 1 = -1 := (q_exi x811 (by rw [k773]; decide)).trans i782
  refine b_aast E S817 (t := 4) (Or.inr (by have := raw_lt r828; omega)) rfl (show vwCl[0]? = some (RX0, TX0, 15) from rfl) r828 (q_wcell D819 w814 k812 ⟨rfl, by decide⟩ (show vwCl[0]? = some (RX0, TX0, 15) from rfl)) (by decide) (by decide) dX11_init_180 (fun H850 locs1 z851 o852 r853 S854 => ?_)
  have w855 : q_w X808 σ809 H850 := w814.kept (fun a ha => o852 a (fun e => ha (by rw [e]; exact k829)))
  have b856 := b821.kept (o852 h (by omega))
  have t857 := t_lt b856
  have r858 := (o852 q22 (by omega)).trans r824
  have r859 := (o852 q42 (by omega)).trans r826
  refine lv_iinc (v := 3) (lv' := [(1, .int 3), (0, .ref h)]) hxx hb dX11_init_181 hl (k := 0) rfl (by decide) (by decide) rfl (fun ls hl => ?_)
  refine lv_goto (tgt := 163) hxx hb dX11_init_184 (by decide) ?_
  refine lv_iload_n hxx hb dX11_init_163 rfl (lv_at hl 0 rfl) ?_
  refine lv_iconst (v := 3) hxx hb dX11_init_164 (by decide) ?_
  refine lv_icmp_ge hxx hb dX11_init_165 (tgt := 187) (by decide) (fun _ => ?_) (fun q => absurd (by decide) q)
  have y864 := raw_lt r858
  obtain ⟨X860, dX860⟩ : ∃ Y, Y = q_xg X808 q22 23 4 (fun j => ([q424, q479, q537, q598] : List Nat).getD j 0) := ⟨_, rfl⟩
  obtain ⟨σ861, dσ861⟩ : ∃ τ, τ = q_sg σ809 q22 (fun _ => 0) (fun _ => 0) 0 := ⟨_, rfl⟩
  have x862 : q_ext (fun a => a = q22) X808 X860 σ809 σ861 := by rw [dX860, dσ861]; exact q_ext.add k825
  have r865 : H850[q22]? = some (arrV (D.2 3) 4 (fun j => .ref (([q424, q479, q537, q598] : List Nat).getD j 0))) := by
    rw [r858]
    exact congrArg some (q_arr_eq (fun j hj => match j, hj with | 0, _ => rfl | 1, _ => rfl | 2, _ => rfl | 3, _ => rfl | (n + 4), hj => absurd hj (by omega)))
  have w863 : q_w X860 σ861 H850 := by
    rw [dX860, dσ861]
    exact w855.add k825 (q_hrk (fun f _ hf => match f, hf with | 0, _ => k836 | 1, _ => k837 | 2, _ => k838 | 3, _ => k839 | (n + 4), hf => absurd (by unfold q_rk; rfl) hf)) (fun _ => rfl) (by decide) (fun q => absurd q (by decide)) (fun f => q_inU rfl) (fun q => by rcases q with q | q <;> exact absurd q (by decide)) (q_cfA D819 (by decide) (t0 := 3) rfl r865 (fun j => rfl))
  have D866 : X860.1 = D := x862.1.trans D819
  have k867 : q_kd X860 q22 = 23 := by rw [dX860]; exact q_xg_h
  have n868 : q_ln X860 q22 = 4 := by rw [dX860]; exact if_pos rfl
  have x869 := x823.tr x862 (fun a e => Or.inr (by rw [e]; omega))
  have k870 := x862.kd k830 (by decide)
  have k871 := x862.kd k831 (by decide)
  have k872 := x862.kd k832 (by decide)
  have k873 := x862.kd k833 (by decide)
  have k874 := x862.kd k834 (by decide)
  have k875 := x862.kd k835 (by decide)
  have k876 := x862.kd k836 (by decide)
  have k877 := x862.kd k837 (by decide)
  have k878 := x862.kd k838 (by decide)
  have k879 := x862.kd k839 (by decide)
  have k880 := x862.kd k840 (by decide)
  have k881 := x862.kd k841 (by decide)
  have k882 := x862.kd k812 (by decide)
  have k883 : q_kd X860 q42 = 0 := x862.k0 k827 (by omega)
  have k884 : q_kd X860 q178 = 0 := x862.k0 k829 (by omega)
  have k885 : q_kd X860 h = 0 := x862.k0 k820 (by omega)
  have i886 : σ861.1 q424 0 = 0 := (q_exi x862 (by rw [k836]; decide)).trans i842
  have i887 : σ861.1 q424 1 = -1 := (q_exi x862 (by rw [k836]; decide)).trans i843
  have i888 : σ861.1 q479 0 = 0 := (q_exi x862 (by rw [k837]; decide)).trans i844
  have i889 : σ861.1 q479 1 = -1 := (q_exi x862 (by rw [k837]; decide)).trans i845
  have i890 : σ861.1 q537 0 = 0 := (q_exi x862 (by rw [k838]; decide)).trans i846
  have i891 : σ861.1 q537 1 = -1 := (q_exi x862 (by rw [k838]; decide)).trans i847
  have i892 : σ861.1 q598 0 = 0 := (q_exi x862 (by rw [k839]; decide)).trans i848
  have i893 : σ861.1 q598 1 = -1 := (q_exi x862 (by rw [k839]; decide)).trans i849
  have j894 : ∀ j, q_rf X860 q22 j = ([q424, q479, q537, q598] : List Nat).getD j 0 := fun j => by rw [dX860]; exact if_pos rfl
  have y899 := raw_lt r859
  obtain ⟨X895, dX895⟩ : ∃ Y, Y = q_xg X860 q42 22 900 (fun _ => 0) := ⟨_, rfl⟩
  obtain ⟨σ896, dσ896⟩ : ∃ τ, τ = q_sg σ861 q42 (fun _ => 0 : Nat → Int32) (fun _ => 0) 0 := ⟨_, rfl⟩
  have x897 : q_ext (fun a => a = q42) X860 X895 σ861 σ896 := by rw [dX895, dσ896]; exact q_ext.add k883
  have w898 : q_w X895 σ896 H850 := by
    rw [dX895, dσ896]
    exact w863.add k883 (fun f hf => absurd rfl hf) (fun q => absurd rfl q) (by decide) (fun q => absurd q (by decide)) (fun f => q_inU rfl) (fun q => by rcases q with q | q <;> exact absurd q (by decide)) (q_cfA D866 (by decide) (t0 := 0) rfl r859 (fun j => rfl))
  have D900 : X895.1 = D := x897.1.trans D866
  have k901 : q_kd X895 q42 = 22 := by rw [dX895]; exact q_xg_h
  have n902 : q_ln X895 q42 = 900 := by rw [dX895]; exact if_pos rfl
  have x903 := x869.tr x897 (fun a e => Or.inr (by rw [e]; omega))
  have k904 := x897.kd k870 (by decide)
  have k905 := x897.kd k871 (by decide)
  have k906 := x897.kd k872 (by decide)
  have k907 := x897.kd k873 (by decide)
  have k908 := x897.kd k874 (by decide)
  have k909 := x897.kd k875 (by decide)
  have k910 := x897.kd k876 (by decide)
  have k911 := x897.kd k877 (by decide)
  have k912 := x897.kd k878 (by decide)
  have k913 := x897.kd k879 (by decide)
  have k914 := x897.kd k880 (by decide)
  have k915 := x897.kd k881 (by decide)
  have k916 := x897.kd k882 (by decide)
  have k917 := x897.kd k867 (by decide)
  have k918 : q_kd X895 q178 = 0 := x897.k0 k884 (by omega)
  have k919 : q_kd X895 h = 0 := x897.k0 k885 (by omega)
  have i920 : σ896.1 q424 0 = 0 := (q_exi x897 (by rw [k876]; decide)).trans i886
  have i921 : σ896.1 q424 1 = -1 := (q_exi x897 (by rw [k876]; decide)).trans i887
  have i922 : σ896.1 q479 0 = 0 := (q_exi x897 (by rw [k877]; decide)).trans i888
  have i923 : σ896.1 q479 1 = -1 := (q_exi x897 (by rw [k877]; decide)).trans i889
  have i924 : σ896.1 q537 0 = 0 := (q_exi x897 (by rw [k878]; decide)).trans i890
  have i925 : σ896.1 q537 1 = -1 := (q_exi x897 (by rw [k878]; decide)).trans i891
  have i926 : σ896.1 q598 0 = 0 := (q_exi x897 (by rw [k879]; decide)).trans i892
  have i927 : σ896.1 q598 1 = -1 := (q_exi x897 (by rw [k879]; decide)).trans i893
  have n928 : q_ln X895 q22 = 4 := (x897.2.2.2.1 q22 (by rw [k867]; decide)).2.1.trans n868
  have j929 : ∀ j, q_rf X895 q22 j = ([q424, q479, q537, q598] : List Nat).getD j 0 := fun j => ((x897.2.2.2.1 q22 (by rw [k867]; decide)).2.2.1 j).trans (j894 j)
  have y934 := raw_lt r853
  obtain ⟨X930, dX930⟩ : ∃ Y, Y = q_xg X895 q178 24 3 (fun j => ([q662, q727, q793] : List Nat).getD j 0) := ⟨_, rfl⟩
  obtain ⟨σ931, dσ931⟩ : ∃ τ, τ = q_sg σ896 q178 (fun _ => 0) (fun _ => 0) 0 := ⟨_, rfl⟩
  have x932 : q_ext (fun a => a = q178) X895 X930 σ896 σ931 := by rw [dX930, dσ931]; exact q_ext.add k918
  have r935 : H850[q178]? = some (arrV (D.2 4) 3 (fun j => .ref (([q662, q727, q793] : List Nat).getD j 0))) := by
    rw [r853]
    exact congrArg some (q_arr_eq (fun j hj => match j, hj with | 0, _ => rfl | 1, _ => rfl | 2, _ => rfl | (n + 3), hj => absurd hj (by omega)))
  have w933 : q_w X930 σ931 H850 := by
    rw [dX930, dσ931]
    exact w898.add k918 (q_hrk (fun f _ hf => match f, hf with | 0, _ => k914 | 1, _ => k915 | 2, _ => k916 | (n + 3), hf => absurd (by unfold q_rk; rfl) hf)) (fun _ => rfl) (by decide) (fun q => absurd q (by decide)) (fun f => q_inU rfl) (fun q => by rcases q with q | q <;> exact absurd q (by decide)) (q_cfA D900 (by decide) (t0 := 4) rfl r935 (fun j => rfl))
  have D936 : X930.1 = D := x932.1.trans D900
  have k937 : q_kd X930 q178 = 24 := by rw [dX930]; exact q_xg_h
  have n938 : q_ln X930 q178 = 3 := by rw [dX930]; exact if_pos rfl
  have x939 := x903.tr x932 (fun a e => Or.inr (by rw [e]; omega))
  have k940 := x932.kd k904 (by decide)
  have k941 := x932.kd k905 (by decide)
  have k942 := x932.kd k906 (by decide)
  have k943 := x932.kd k907 (by decide)
  have k944 := x932.kd k908 (by decide)
  have k945 := x932.kd k909 (by decide)
  have k946 := x932.kd k910 (by decide)
  have k947 := x932.kd k911 (by decide)
  have k948 := x932.kd k912 (by decide)
  have k949 := x932.kd k913 (by decide)
  have k950 := x932.kd k914 (by decide)
  have k951 := x932.kd k915 (by decide)
  have k952 := x932.kd k916 (by decide)
  have k953 := x932.kd k917 (by decide)
  have k954 := x932.kd k901 (by decide)
  have k955 : q_kd X930 h = 0 := x932.k0 k919 (by omega)
  have i956 : σ931.1 q424 0 = 0 := (q_exi x932 (by rw [k910]; decide)).trans i920
  have i957 : σ931.1 q424 1 = -1 := (q_exi x932 (by rw [k910]; decide)).trans i921
  have i958 : σ931.1 q479 0 = 0 := (q_exi x932 (by rw [k911]; decide)).trans i922
  have i959 : σ931.1 q479 1 = -1 := (q_exi x932 (by rw [k911]; decide)).trans i923
  have i960 : σ931.1 q537 0 = 0 := (q_exi x932 (by rw [k912]; decide)).trans i924
  have i961 : σ931.1 q537 1 = -1 := (q_exi x932 (by rw [k912]; decide)).trans i925
  have i962 : σ931.1 q598 0 = 0 := (q_exi x932 (by rw [k913]; decide)).trans i926
  have i963 : σ931.1 q598 1 = -1 := (q_exi x932 (by rw [k913]; decide)).trans i927
  have n964 : q_ln X930 q22 = 4 := (x932.2.2.2.1 q22 (by rw [k917]; decide)).2.1.trans n928
  have n965 : q_ln X930 q42 = 900 := (x932.2.2.2.1 q42 (by rw [k901]; decide)).2.1.trans n902
  have j966 : ∀ j, q_rf X930 q178 j = ([q662, q727, q793] : List Nat).getD j 0 := fun j => by rw [dX930]; exact if_pos rfl
  have j967 : ∀ j, q_rf X930 q22 j = ([q424, q479, q537, q598] : List Nat).getD j 0 := fun j => ((x932.2.2.2.1 q22 (by rw [k917]; decide)).2.2.1 j).trans (j929 j)
  obtain ⟨X968, dX968⟩ : ∃ Y, Y = q_xg X930 h 11 0 (fun f => ([0, 0, 0, q22, q42, 0, 0, 0, q91, q134, q178, 0, q212, q261, q311, q362, 0] : List Nat).getD f 0) := ⟨_, rfl⟩
  obtain ⟨σ969, dσ969⟩ : ∃ τ, τ = q_sg σ931 h (fun f => ([0, 0, 0, 0, 0, 0, (-1), (-1), 0, 0, 0, 0, 0, 0, 0, 0, 0] : List Int32).getD f 0) (fun f => ([0, 0, 1, 0, 0, 0, 0, 0, 0, 0, 0, 0, 0, 0, 0, 0, 0] : List Int64).getD f 0) 0 := ⟨_, rfl⟩
  have x970 : q_ext (fun a => a = h) X930 X968 σ931 σ969 := by rw [dX968, dσ969]; exact q_ext.add k955
  have hrk : ∀ f, f < 40 → q_rk 11 f ≠ 0 → q_kd X930 (([0, 0, 0, q22, q42, 0, 0, 0, q91, q134, q178, 0, q212, q261, q311, q362, 0] : List Nat).getD f 0) = q_rk 11 f := fun f h40 hf => match f, h40, hf with | 0, _, hf => absurd rfl hf | 1, _, hf => absurd rfl hf | 2, _, hf => absurd rfl hf | 3, _, _ => k953 | 4, _, _ => k954 | 5, _, hf => absurd rfl hf | 6, _, hf => absurd rfl hf | 7, _, hf => absurd rfl hf | 8, _, _ => k940 | 9, _, _ => k941 | 10, _, _ => k937 | 11, _, hf => absurd rfl hf | 12, _, _ => k942 | 13, _, _ => k943 | 14, _, _ => k944 | 15, _, _ => k945 | 16, _, hf => absurd rfl hf | 17, _, hf => absurd rfl hf | 18, _, hf => absurd rfl hf | 19, _, hf => absurd rfl hf | 20, _, hf => absurd rfl hf | 21, _, hf => absurd rfl hf | 22, _, hf => absurd rfl hf | 23, _, hf => absurd rfl hf | 24, _, hf => absurd rfl hf | 25, _, hf => absurd rfl hf | 26, _, hf => absurd rfl hf | 27, _, hf => absurd rfl hf | 28, _, hf => absurd rfl hf | 29, _, hf => absurd rfl hf | 30, _, hf => absurd rfl hf | 31, _, hf => absurd rfl hf | 32, _, hf => absurd rfl hf | 33, _, hf => absurd rfl hf | 34, _, hf => absurd rfl hf | 35, _, hf => absurd rfl hf | 36, _, hf => absurd rfl hf | 37, _, hf => absurd rfl hf | 38, _, hf => absurd rfl hf | 39, _, hf => absurd rfl hf | (n + 40), h40, _ => absurd h40 (by omega)
  have hB : ∀ f, f < 40 → (q_bn 11 f).1 ≤ ((([0, 0, 0, 0, 0, 0, (-1), (-1), 0, 0, 0, 0, 0, 0, 0, 0, 0] : List Int32).getD f 0).toInt) ∧ (([0, 0, 0, 0, 0, 0, (-1), (-1), 0, 0, 0, 0, 0, 0, 0, 0, 0] : List Int32).getD f 0).toInt ≤ (q_bn 11 f).2 := by decide +kernel
  have w971 : q_w X968 σ969 H850 := by
    rw [dX968, dσ969]
    exact w933.add k955 (q_hrk hrk) (fun q => absurd rfl q) (by decide) (fun _ => ⟨n965, (show q_kd X930 q42 ≠ 0 by rw [k954]; decide)⟩) (q_hB hB (by decide)) (fun q => by rcases q with q | q <;> exact absurd q (by decide)) (q_cfO D936 ⟨rfl, by decide⟩ (show vwCl[10]? = some (RX11, TX11, 17) from rfl) b856 (fun f hf => match f, hf with | 0, _ => rfl | 1, _ => rfl | 2, _ => rfl | 3, _ => rfl | 4, _ => rfl | 5, _ => rfl | 6, _ => rfl | 7, _ => rfl | 8, _ => rfl | 9, _ => rfl | 10, _ => rfl | 11, _ => rfl | 12, _ => rfl | 13, _ => rfl | 14, _ => rfl | 15, _ => rfl | 16, _ => rfl | (n + 17), hf => absurd hf (by omega)))
  have k972 : q_kd X968 h = 11 := by rw [dX968]; exact q_xg_h
  have x973 := x939.tr x970 (fun a e => Or.inl e)
  have k974 := x970.kd k940 (by decide)
  have k975 := x970.kd k941 (by decide)
  have k976 := x970.kd k942 (by decide)
  have k977 := x970.kd k943 (by decide)
  have k978 := x970.kd k944 (by decide)
  have k979 := x970.kd k945 (by decide)
  have k980 := x970.kd k946 (by decide)
  have k981 := x970.kd k947 (by decide)
  have k982 := x970.kd k948 (by decide)
  have k983 := x970.kd k949 (by decide)
  have k984 := x970.kd k950 (by decide)
  have k985 := x970.kd k951 (by decide)
  have k986 := x970.kd k952 (by decide)
  have k987 := x970.kd k953 (by decide)
  have k988 := x970.kd k954 (by decide)
  have k989 := x970.kd k937 (by decide)
  have i990 : σ969.1 q424 0 = 0 := (q_exi x970 (by rw [k946]; decide)).trans i956
  have i991 : σ969.1 q424 1 = -1 := (q_exi x970 (by rw [k946]; decide)).trans i957
  have i992 : σ969.1 q479 0 = 0 := (q_exi x970 (by rw [k947]; decide)).trans i958
  have i993 : σ969.1 q479 1 = -1 := (q_exi x970 (by rw [k947]; decide)).trans i959
  have i994 : σ969.1 q537 0 = 0 := (q_exi x970 (by rw [k948]; decide)).trans i960
  have i995 : σ969.1 q537 1 = -1 := (q_exi x970 (by rw [k948]; decide)).trans i961
  have i996 : σ969.1 q598 0 = 0 := (q_exi x970 (by rw [k949]; decide)).trans i962
  have i997 : σ969.1 q598 1 = -1 := (q_exi x970 (by rw [k949]; decide)).trans i963
  have ht3 : q_rf X968 h 3 = q22 := by rw [dX968]; exact if_pos rfl
  have htj : ∀ j, q_rf X968 q22 j = ([q424, q479, q537, q598] : List Nat).getD j 0 := fun j => ((x970.2.2.2.1 q22 (by rw [k953]; decide)).2.2.1 j).trans (j967 j)
  have htr : ∀ i, i < 4 → σ969.1 (q_rf X968 (q_rf X968 h 3) i) 0 = 0 ∧ σ969.1 (q_rf X968 (q_rf X968 h 3) i) 1 = -1 := by
    intro i hi
    rw [ht3, htj]
    exact match i, hi with | 0, _ => ⟨i990, i991⟩ | 1, _ => ⟨i992, i993⟩ | 2, _ => ⟨i994, i995⟩ | 3, _ => ⟨i996, i997⟩ | (n + 4), hi => absurd hi (by omega)
  exact b_ret E hr hlk S854 x973 k972 ⟨⟨by rw [dσ969]; exact if_pos rfl, by rw [dσ969]; exact if_pos rfl⟩, htr⟩ w971 dX11_init_187
