/-! THE CLASS'S GAMES AS ROWS OF NUMBERS -/
/-- a label for each object: 8192 for each game, 16 for each step of the way -/
def y_lc (L f : Nat) : Nat := if L = 1 ∧ f = 8 then 8193 else if L = 1 ∧ f = 9 then 16385 else if L = 26 then 8192 * (f + 3) + 1 else if L = 28 ∧ f = 8 then 49153 else L + 15 * (L % 8192) + f
def y_rl (k f : Nat) : Nat := match k with
  | 1 => match f with | 8 => 10 | 10 => 10 | _ => 0
  | 2 => match f with | 0 => 60 | 1 => 60 | 2 => 6 | 3 => 6 | 4 => 6 | 5 => 6 | 6 => 6 | _ => 0
  | 3 => match f with | 2 => 80 | 3 => 80 | 4 => 80 | 5 => 320 | _ => 0
  | 4 => match f with | 9 => 3 | _ => 0
  | 6 => match f with | 5 => 10 | 6 => 48 | 7 => 6 | _ => 0
  | 7 => match f with | 7 => 60 | _ => 0
  | 8 => match f with | 3 => 60 | 4 => 60 | 5 => 60 | 6 => 60 | 7 => 60 | _ => 0
  | 9 => match f with | 11 => 6 | _ => 0
  | _ => 0
/-- the objects and rows of a game: 0 game, 1 rules, 2 pile, 3 script, 4 dealt, 5 names, 6 nameLength, 7 held, 8 laid, 9 cards, 10 lying, 11 doubting, 12 shown, 13 untrue, 14 layer, 15 kindSaid, 16 size, 17 card, 18 action, 19 mate, 20 who, 21 comparison, 22 number, 23 wants, 24 rest -/
def y_gA (X : XW) (g id : Nat) : Nat := match id with
  | 0 => g
  | 1 => q_rf X g 0
  | 2 => q_rf X g 2
  | 3 => q_rf X g 3
  | 4 => q_rf X (q_rf X (q_rf X g 0) 5) 0
  | 5 => q_rf X (q_rf X (q_rf X g 0) 6) 0
  | 6 => q_rf X (q_rf X (q_rf X g 0) 7) 0
  | 7 => q_rf X (q_rf X (q_rf X g 1) 0) 0
  | 8 => q_rf X (q_rf X (q_rf X g 1) 1) 0
  | 9 => q_rf X (q_rf X (q_rf X g 1) 2) 0
  | 10 => q_rf X (q_rf X (q_rf X g 1) 3) 0
  | 11 => q_rf X (q_rf X (q_rf X g 1) 4) 0
  | 12 => q_rf X (q_rf X (q_rf X g 1) 5) 0
  | 13 => q_rf X (q_rf X (q_rf X g 1) 6) 0
  | 14 => q_rf X (q_rf X (q_rf X g 2) 2) 0
  | 15 => q_rf X (q_rf X (q_rf X g 2) 3) 0
  | 16 => q_rf X (q_rf X (q_rf X g 2) 4) 0
  | 17 => q_rf X (q_rf X (q_rf X g 2) 5) 0
  | 18 => q_rf X (q_rf X (q_rf X g 3) 3) 0
  | 19 => q_rf X (q_rf X (q_rf X g 3) 4) 0
  | 20 => q_rf X (q_rf X (q_rf X g 3) 5) 0
  | 21 => q_rf X (q_rf X (q_rf X g 3) 6) 0
  | 22 => q_rf X (q_rf X (q_rf X g 3) 7) 0
  | 23 => q_rf X (q_rf X g 8) 0
  | 24 => q_rf X (q_rf X g 10) 0
  | _ => q_rf X g 0
def y_co (id : Nat) : Nat := match id with | 0 => 1 | 1 => 16 | 2 => 18 | 3 => 19 | 4 => 4176 | 5 => 4192 | 6 => 4208 | 7 => 4352 | 8 => 4368 | 9 => 4384 | 10 => 4400 | 11 => 4416 | 12 => 4432 | 13 => 4448 | 14 => 4640 | 15 => 4656 | 16 => 4672 | 17 => 4688 | 18 => 4912 | 19 => 4928 | 20 => 4944 | 21 => 4960 | 22 => 4976 | 23 => 384 | 24 => 416 | _ => 0
def y_ki (id : Nat) : Nat := match id with | 0 => 1 | 1 => 6 | 2 => 3 | 3 => 8 | _ => 20
def y_gn (id : Nat) : Nat := match id with | 0 => 0 | 1 => 0 | 2 => 0 | 3 => 0 | 4 => 10 | 5 => 48 | 6 => 6 | 7 => 60 | 8 => 60 | 9 => 6 | 10 => 6 | 11 => 6 | 12 => 6 | 13 => 6 | 14 => 80 | 15 => 80 | 16 => 80 | 17 => 320 | 18 => 60 | 19 => 60 | 20 => 60 | 21 => 60 | 22 => 60 | 23 => 10 | 24 => 10 | _ => 0
def y_S (X : XW) (lb : Nat → Nat) : Prop := q_T X ∧ (∀ a f, q_rk (q_kd X a) f ≠ 0 → lb (q_rf X a f) = y_lc (lb a) f) ∧ ∀ a f, q_rk (q_kd X a) f = 5 → q_ln X (q_rf X (q_rf X a f) 0) = y_rl (q_kd X a) f
/-- g is the root of game o -/
def y_G (X : XW) (lb : Nat → Nat) (g o : Nat) : Prop := q_kd X g = 1 ∧ lb g = 8192 * o + 1 ∧ 1 ≤ o
theorem y_lcI {L o c f c' : Nat} (h : L = 8192 * o + c) (ho : 1 ≤ o) (hc : (decide (c < 8192) && (c + 15 * c + f == c')) = true) : y_lc L f = 8192 * o + c' := by
  have h1 : c < 8192 ∧ c + 15 * c + f = c' := by simpa using hc
  unfold y_lc
  rw [if_neg (by omega), if_neg (by omega), if_neg (by omega), if_neg (by omega)]
  omega
set_option maxHeartbeats 4000000 in
theorem y_gf {X : XW} {lb : Nat → Nat} {g o : Nat} (S : y_S X lb) (G : y_G X lb g o) : ∀ id, id < 25 → lb (y_gA X g id) = 8192 * o + y_co id ∧ q_kd X (y_gA X g id) = y_ki id ∧ (4 ≤ id → q_ln X (y_gA X g id) = y_gn id) := by
  obtain ⟨T, L, N⟩ := S
  obtain ⟨gk, gl, go⟩ := G
  have k_ : q_kd X g = 1 := gk
  have l_ : lb g = 8192 * o + 1 := gl
  have k_0 : q_kd X (q_rf X g 0) = 6 := (T.1 (g) 0 (by rw [k_]; decide)).trans (by rw [k_]; rfl)
  have l_0 : lb (q_rf X g 0) = 8192 * o + 16 := (L (g) 0 (by rw [k_]; decide)).trans (y_lcI l_ go (by decide))
  have k_1 : q_kd X (q_rf X g 1) = 2 := (T.1 (g) 1 (by rw [k_]; decide)).trans (by rw [k_]; rfl)
  have l_1 : lb (q_rf X g 1) = 8192 * o + 17 := (L (g) 1 (by rw [k_]; decide)).trans (y_lcI l_ go (by decide))
  have k_2 : q_kd X (q_rf X g 2) = 3 := (T.1 (g) 2 (by rw [k_]; decide)).trans (by rw [k_]; rfl)
  have l_2 : lb (q_rf X g 2) = 8192 * o + 18 := (L (g) 2 (by rw [k_]; decide)).trans (y_lcI l_ go (by decide))
  have k_3 : q_kd X (q_rf X g 3) = 8 := (T.1 (g) 3 (by rw [k_]; decide)).trans (by rw [k_]; rfl)
  have l_3 : lb (q_rf X g 3) = 8192 * o + 19 := (L (g) 3 (by rw [k_]; decide)).trans (y_lcI l_ go (by decide))
  have k_8 : q_kd X (q_rf X g 8) = 5 := (T.1 (g) 8 (by rw [k_]; decide)).trans (by rw [k_]; rfl)
  have l_8 : lb (q_rf X g 8) = 8192 * o + 24 := (L (g) 8 (by rw [k_]; decide)).trans (y_lcI l_ go (by decide))
  have k_10 : q_kd X (q_rf X g 10) = 5 := (T.1 (g) 10 (by rw [k_]; decide)).trans (by rw [k_]; rfl)
  have l_10 : lb (q_rf X g 10) = 8192 * o + 26 := (L (g) 10 (by rw [k_]; decide)).trans (y_lcI l_ go (by decide))
  have k_0_5 : q_kd X (q_rf X (q_rf X g 0) 5) = 5 := (T.1 (q_rf X g 0) 5 (by rw [k_0]; decide)).trans (by rw [k_0]; rfl)
  have l_0_5 : lb (q_rf X (q_rf X g 0) 5) = 8192 * o + 261 := (L (q_rf X g 0) 5 (by rw [k_0]; decide)).trans (y_lcI l_0 go (by decide))
  have k_0_6 : q_kd X (q_rf X (q_rf X g 0) 6) = 5 := (T.1 (q_rf X g 0) 6 (by rw [k_0]; decide)).trans (by rw [k_0]; rfl)
  have l_0_6 : lb (q_rf X (q_rf X g 0) 6) = 8192 * o + 262 := (L (q_rf X g 0) 6 (by rw [k_0]; decide)).trans (y_lcI l_0 go (by decide))
  have k_0_7 : q_kd X (q_rf X (q_rf X g 0) 7) = 5 := (T.1 (q_rf X g 0) 7 (by rw [k_0]; decide)).trans (by rw [k_0]; rfl)
  have l_0_7 : lb (q_rf X (q_rf X g 0) 7) = 8192 * o + 263 := (L (q_rf X g 0) 7 (by rw [k_0]; decide)).trans (y_lcI l_0 go (by decide))
  have k_1_0 : q_kd X (q_rf X (q_rf X g 1) 0) = 5 := (T.1 (q_rf X g 1) 0 (by rw [k_1]; decide)).trans (by rw [k_1]; rfl)
  have l_1_0 : lb (q_rf X (q_rf X g 1) 0) = 8192 * o + 272 := (L (q_rf X g 1) 0 (by rw [k_1]; decide)).trans (y_lcI l_1 go (by decide))
  have k_1_1 : q_kd X (q_rf X (q_rf X g 1) 1) = 5 := (T.1 (q_rf X g 1) 1 (by rw [k_1]; decide)).trans (by rw [k_1]; rfl)
  have l_1_1 : lb (q_rf X (q_rf X g 1) 1) = 8192 * o + 273 := (L (q_rf X g 1) 1 (by rw [k_1]; decide)).trans (y_lcI l_1 go (by decide))
  have k_1_2 : q_kd X (q_rf X (q_rf X g 1) 2) = 5 := (T.1 (q_rf X g 1) 2 (by rw [k_1]; decide)).trans (by rw [k_1]; rfl)
  have l_1_2 : lb (q_rf X (q_rf X g 1) 2) = 8192 * o + 274 := (L (q_rf X g 1) 2 (by rw [k_1]; decide)).trans (y_lcI l_1 go (by decide))
  have k_1_3 : q_kd X (q_rf X (q_rf X g 1) 3) = 5 := (T.1 (q_rf X g 1) 3 (by rw [k_1]; decide)).trans (by rw [k_1]; rfl)
  have l_1_3 : lb (q_rf X (q_rf X g 1) 3) = 8192 * o + 275 := (L (q_rf X g 1) 3 (by rw [k_1]; decide)).trans (y_lcI l_1 go (by decide))
  have k_1_4 : q_kd X (q_rf X (q_rf X g 1) 4) = 5 := (T.1 (q_rf X g 1) 4 (by rw [k_1]; decide)).trans (by rw [k_1]; rfl)
  have l_1_4 : lb (q_rf X (q_rf X g 1) 4) = 8192 * o + 276 := (L (q_rf X g 1) 4 (by rw [k_1]; decide)).trans (y_lcI l_1 go (by decide))
  have k_1_5 : q_kd X (q_rf X (q_rf X g 1) 5) = 5 := (T.1 (q_rf X g 1) 5 (by rw [k_1]; decide)).trans (by rw [k_1]; rfl)
  have l_1_5 : lb (q_rf X (q_rf X g 1) 5) = 8192 * o + 277 := (L (q_rf X g 1) 5 (by rw [k_1]; decide)).trans (y_lcI l_1 go (by decide))
  have k_1_6 : q_kd X (q_rf X (q_rf X g 1) 6) = 5 := (T.1 (q_rf X g 1) 6 (by rw [k_1]; decide)).trans (by rw [k_1]; rfl)
  have l_1_6 : lb (q_rf X (q_rf X g 1) 6) = 8192 * o + 278 := (L (q_rf X g 1) 6 (by rw [k_1]; decide)).trans (y_lcI l_1 go (by decide))
  have k_2_2 : q_kd X (q_rf X (q_rf X g 2) 2) = 5 := (T.1 (q_rf X g 2) 2 (by rw [k_2]; decide)).trans (by rw [k_2]; rfl)
  have l_2_2 : lb (q_rf X (q_rf X g 2) 2) = 8192 * o + 290 := (L (q_rf X g 2) 2 (by rw [k_2]; decide)).trans (y_lcI l_2 go (by decide))
  have k_2_3 : q_kd X (q_rf X (q_rf X g 2) 3) = 5 := (T.1 (q_rf X g 2) 3 (by rw [k_2]; decide)).trans (by rw [k_2]; rfl)
  have l_2_3 : lb (q_rf X (q_rf X g 2) 3) = 8192 * o + 291 := (L (q_rf X g 2) 3 (by rw [k_2]; decide)).trans (y_lcI l_2 go (by decide))
  have k_2_4 : q_kd X (q_rf X (q_rf X g 2) 4) = 5 := (T.1 (q_rf X g 2) 4 (by rw [k_2]; decide)).trans (by rw [k_2]; rfl)
  have l_2_4 : lb (q_rf X (q_rf X g 2) 4) = 8192 * o + 292 := (L (q_rf X g 2) 4 (by rw [k_2]; decide)).trans (y_lcI l_2 go (by decide))
  have k_2_5 : q_kd X (q_rf X (q_rf X g 2) 5) = 5 := (T.1 (q_rf X g 2) 5 (by rw [k_2]; decide)).trans (by rw [k_2]; rfl)
  have l_2_5 : lb (q_rf X (q_rf X g 2) 5) = 8192 * o + 293 := (L (q_rf X g 2) 5 (by rw [k_2]; decide)).trans (y_lcI l_2 go (by decide))
  have k_3_3 : q_kd X (q_rf X (q_rf X g 3) 3) = 5 := (T.1 (q_rf X g 3) 3 (by rw [k_3]; decide)).trans (by rw [k_3]; rfl)
  have l_3_3 : lb (q_rf X (q_rf X g 3) 3) = 8192 * o + 307 := (L (q_rf X g 3) 3 (by rw [k_3]; decide)).trans (y_lcI l_3 go (by decide))
  have k_3_4 : q_kd X (q_rf X (q_rf X g 3) 4) = 5 := (T.1 (q_rf X g 3) 4 (by rw [k_3]; decide)).trans (by rw [k_3]; rfl)
  have l_3_4 : lb (q_rf X (q_rf X g 3) 4) = 8192 * o + 308 := (L (q_rf X g 3) 4 (by rw [k_3]; decide)).trans (y_lcI l_3 go (by decide))
  have k_3_5 : q_kd X (q_rf X (q_rf X g 3) 5) = 5 := (T.1 (q_rf X g 3) 5 (by rw [k_3]; decide)).trans (by rw [k_3]; rfl)
  have l_3_5 : lb (q_rf X (q_rf X g 3) 5) = 8192 * o + 309 := (L (q_rf X g 3) 5 (by rw [k_3]; decide)).trans (y_lcI l_3 go (by decide))
  have k_3_6 : q_kd X (q_rf X (q_rf X g 3) 6) = 5 := (T.1 (q_rf X g 3) 6 (by rw [k_3]; decide)).trans (by rw [k_3]; rfl)
  have l_3_6 : lb (q_rf X (q_rf X g 3) 6) = 8192 * o + 310 := (L (q_rf X g 3) 6 (by rw [k_3]; decide)).trans (y_lcI l_3 go (by decide))
  have k_3_7 : q_kd X (q_rf X (q_rf X g 3) 7) = 5 := (T.1 (q_rf X g 3) 7 (by rw [k_3]; decide)).trans (by rw [k_3]; rfl)
  have l_3_7 : lb (q_rf X (q_rf X g 3) 7) = 8192 * o + 311 := (L (q_rf X g 3) 7 (by rw [k_3]; decide)).trans (y_lcI l_3 go (by decide))
  have k_8_0 : q_kd X (q_rf X (q_rf X g 8) 0) = 20 := (T.1 (q_rf X g 8) 0 (by rw [k_8]; decide)).trans (by rw [k_8]; rfl)
  have l_8_0 : lb (q_rf X (q_rf X g 8) 0) = 8192 * o + 384 := (L (q_rf X g 8) 0 (by rw [k_8]; decide)).trans (y_lcI l_8 go (by decide))
  have k_10_0 : q_kd X (q_rf X (q_rf X g 10) 0) = 20 := (T.1 (q_rf X g 10) 0 (by rw [k_10]; decide)).trans (by rw [k_10]; rfl)
  have l_10_0 : lb (q_rf X (q_rf X g 10) 0) = 8192 * o + 416 := (L (q_rf X g 10) 0 (by rw [k_10]; decide)).trans (y_lcI l_10 go (by decide))
  have k_0_5_0 : q_kd X (q_rf X (q_rf X (q_rf X g 0) 5) 0) = 20 := (T.1 (q_rf X (q_rf X g 0) 5) 0 (by rw [k_0_5]; decide)).trans (by rw [k_0_5]; rfl)
  have l_0_5_0 : lb (q_rf X (q_rf X (q_rf X g 0) 5) 0) = 8192 * o + 4176 := (L (q_rf X (q_rf X g 0) 5) 0 (by rw [k_0_5]; decide)).trans (y_lcI l_0_5 go (by decide))
  have k_0_6_0 : q_kd X (q_rf X (q_rf X (q_rf X g 0) 6) 0) = 20 := (T.1 (q_rf X (q_rf X g 0) 6) 0 (by rw [k_0_6]; decide)).trans (by rw [k_0_6]; rfl)
  have l_0_6_0 : lb (q_rf X (q_rf X (q_rf X g 0) 6) 0) = 8192 * o + 4192 := (L (q_rf X (q_rf X g 0) 6) 0 (by rw [k_0_6]; decide)).trans (y_lcI l_0_6 go (by decide))
  have k_0_7_0 : q_kd X (q_rf X (q_rf X (q_rf X g 0) 7) 0) = 20 := (T.1 (q_rf X (q_rf X g 0) 7) 0 (by rw [k_0_7]; decide)).trans (by rw [k_0_7]; rfl)
  have l_0_7_0 : lb (q_rf X (q_rf X (q_rf X g 0) 7) 0) = 8192 * o + 4208 := (L (q_rf X (q_rf X g 0) 7) 0 (by rw [k_0_7]; decide)).trans (y_lcI l_0_7 go (by decide))
  have k_1_0_0 : q_kd X (q_rf X (q_rf X (q_rf X g 1) 0) 0) = 20 := (T.1 (q_rf X (q_rf X g 1) 0) 0 (by rw [k_1_0]; decide)).trans (by rw [k_1_0]; rfl)
  have l_1_0_0 : lb (q_rf X (q_rf X (q_rf X g 1) 0) 0) = 8192 * o + 4352 := (L (q_rf X (q_rf X g 1) 0) 0 (by rw [k_1_0]; decide)).trans (y_lcI l_1_0 go (by decide))
  have k_1_1_0 : q_kd X (q_rf X (q_rf X (q_rf X g 1) 1) 0) = 20 := (T.1 (q_rf X (q_rf X g 1) 1) 0 (by rw [k_1_1]; decide)).trans (by rw [k_1_1]; rfl)
  have l_1_1_0 : lb (q_rf X (q_rf X (q_rf X g 1) 1) 0) = 8192 * o + 4368 := (L (q_rf X (q_rf X g 1) 1) 0 (by rw [k_1_1]; decide)).trans (y_lcI l_1_1 go (by decide))
  have k_1_2_0 : q_kd X (q_rf X (q_rf X (q_rf X g 1) 2) 0) = 20 := (T.1 (q_rf X (q_rf X g 1) 2) 0 (by rw [k_1_2]; decide)).trans (by rw [k_1_2]; rfl)
  have l_1_2_0 : lb (q_rf X (q_rf X (q_rf X g 1) 2) 0) = 8192 * o + 4384 := (L (q_rf X (q_rf X g 1) 2) 0 (by rw [k_1_2]; decide)).trans (y_lcI l_1_2 go (by decide))
  have k_1_3_0 : q_kd X (q_rf X (q_rf X (q_rf X g 1) 3) 0) = 20 := (T.1 (q_rf X (q_rf X g 1) 3) 0 (by rw [k_1_3]; decide)).trans (by rw [k_1_3]; rfl)
  have l_1_3_0 : lb (q_rf X (q_rf X (q_rf X g 1) 3) 0) = 8192 * o + 4400 := (L (q_rf X (q_rf X g 1) 3) 0 (by rw [k_1_3]; decide)).trans (y_lcI l_1_3 go (by decide))
  have k_1_4_0 : q_kd X (q_rf X (q_rf X (q_rf X g 1) 4) 0) = 20 := (T.1 (q_rf X (q_rf X g 1) 4) 0 (by rw [k_1_4]; decide)).trans (by rw [k_1_4]; rfl)
  have l_1_4_0 : lb (q_rf X (q_rf X (q_rf X g 1) 4) 0) = 8192 * o + 4416 := (L (q_rf X (q_rf X g 1) 4) 0 (by rw [k_1_4]; decide)).trans (y_lcI l_1_4 go (by decide))
  have k_1_5_0 : q_kd X (q_rf X (q_rf X (q_rf X g 1) 5) 0) = 20 := (T.1 (q_rf X (q_rf X g 1) 5) 0 (by rw [k_1_5]; decide)).trans (by rw [k_1_5]; rfl)
  have l_1_5_0 : lb (q_rf X (q_rf X (q_rf X g 1) 5) 0) = 8192 * o + 4432 := (L (q_rf X (q_rf X g 1) 5) 0 (by rw [k_1_5]; decide)).trans (y_lcI l_1_5 go (by decide))
  have k_1_6_0 : q_kd X (q_rf X (q_rf X (q_rf X g 1) 6) 0) = 20 := (T.1 (q_rf X (q_rf X g 1) 6) 0 (by rw [k_1_6]; decide)).trans (by rw [k_1_6]; rfl)
  have l_1_6_0 : lb (q_rf X (q_rf X (q_rf X g 1) 6) 0) = 8192 * o + 4448 := (L (q_rf X (q_rf X g 1) 6) 0 (by rw [k_1_6]; decide)).trans (y_lcI l_1_6 go (by decide))
  have k_2_2_0 : q_kd X (q_rf X (q_rf X (q_rf X g 2) 2) 0) = 20 := (T.1 (q_rf X (q_rf X g 2) 2) 0 (by rw [k_2_2]; decide)).trans (by rw [k_2_2]; rfl)
  have l_2_2_0 : lb (q_rf X (q_rf X (q_rf X g 2) 2) 0) = 8192 * o + 4640 := (L (q_rf X (q_rf X g 2) 2) 0 (by rw [k_2_2]; decide)).trans (y_lcI l_2_2 go (by decide))
  have k_2_3_0 : q_kd X (q_rf X (q_rf X (q_rf X g 2) 3) 0) = 20 := (T.1 (q_rf X (q_rf X g 2) 3) 0 (by rw [k_2_3]; decide)).trans (by rw [k_2_3]; rfl)
  have l_2_3_0 : lb (q_rf X (q_rf X (q_rf X g 2) 3) 0) = 8192 * o + 4656 := (L (q_rf X (q_rf X g 2) 3) 0 (by rw [k_2_3]; decide)).trans (y_lcI l_2_3 go (by decide))
  have k_2_4_0 : q_kd X (q_rf X (q_rf X (q_rf X g 2) 4) 0) = 20 := (T.1 (q_rf X (q_rf X g 2) 4) 0 (by rw [k_2_4]; decide)).trans (by rw [k_2_4]; rfl)
  have l_2_4_0 : lb (q_rf X (q_rf X (q_rf X g 2) 4) 0) = 8192 * o + 4672 := (L (q_rf X (q_rf X g 2) 4) 0 (by rw [k_2_4]; decide)).trans (y_lcI l_2_4 go (by decide))
  have k_2_5_0 : q_kd X (q_rf X (q_rf X (q_rf X g 2) 5) 0) = 20 := (T.1 (q_rf X (q_rf X g 2) 5) 0 (by rw [k_2_5]; decide)).trans (by rw [k_2_5]; rfl)
  have l_2_5_0 : lb (q_rf X (q_rf X (q_rf X g 2) 5) 0) = 8192 * o + 4688 := (L (q_rf X (q_rf X g 2) 5) 0 (by rw [k_2_5]; decide)).trans (y_lcI l_2_5 go (by decide))
  have k_3_3_0 : q_kd X (q_rf X (q_rf X (q_rf X g 3) 3) 0) = 20 := (T.1 (q_rf X (q_rf X g 3) 3) 0 (by rw [k_3_3]; decide)).trans (by rw [k_3_3]; rfl)
  have l_3_3_0 : lb (q_rf X (q_rf X (q_rf X g 3) 3) 0) = 8192 * o + 4912 := (L (q_rf X (q_rf X g 3) 3) 0 (by rw [k_3_3]; decide)).trans (y_lcI l_3_3 go (by decide))
  have k_3_4_0 : q_kd X (q_rf X (q_rf X (q_rf X g 3) 4) 0) = 20 := (T.1 (q_rf X (q_rf X g 3) 4) 0 (by rw [k_3_4]; decide)).trans (by rw [k_3_4]; rfl)
  have l_3_4_0 : lb (q_rf X (q_rf X (q_rf X g 3) 4) 0) = 8192 * o + 4928 := (L (q_rf X (q_rf X g 3) 4) 0 (by rw [k_3_4]; decide)).trans (y_lcI l_3_4 go (by decide))
  have k_3_5_0 : q_kd X (q_rf X (q_rf X (q_rf X g 3) 5) 0) = 20 := (T.1 (q_rf X (q_rf X g 3) 5) 0 (by rw [k_3_5]; decide)).trans (by rw [k_3_5]; rfl)
  have l_3_5_0 : lb (q_rf X (q_rf X (q_rf X g 3) 5) 0) = 8192 * o + 4944 := (L (q_rf X (q_rf X g 3) 5) 0 (by rw [k_3_5]; decide)).trans (y_lcI l_3_5 go (by decide))
  have k_3_6_0 : q_kd X (q_rf X (q_rf X (q_rf X g 3) 6) 0) = 20 := (T.1 (q_rf X (q_rf X g 3) 6) 0 (by rw [k_3_6]; decide)).trans (by rw [k_3_6]; rfl)
  have l_3_6_0 : lb (q_rf X (q_rf X (q_rf X g 3) 6) 0) = 8192 * o + 4960 := (L (q_rf X (q_rf X g 3) 6) 0 (by rw [k_3_6]; decide)).trans (y_lcI l_3_6 go (by decide))
  have k_3_7_0 : q_kd X (q_rf X (q_rf X (q_rf X g 3) 7) 0) = 20 := (T.1 (q_rf X (q_rf X g 3) 7) 0 (by rw [k_3_7]; decide)).trans (by rw [k_3_7]; rfl)
  have l_3_7_0 : lb (q_rf X (q_rf X (q_rf X g 3) 7) 0) = 8192 * o + 4976 := (L (q_rf X (q_rf X g 3) 7) 0 (by rw [k_3_7]; decide)).trans (y_lcI l_3_7 go (by decide))
  exact fun id h => match id, h with
    | 0, _ => ⟨l_, k_, fun h => absurd h (by decide)⟩
    | 1, _ => ⟨l_0, k_0, fun h => absurd h (by decide)⟩
    | 2, _ => ⟨l_2, k_2, fun h => absurd h (by decide)⟩
    | 3, _ => ⟨l_3, k_3, fun h => absurd h (by decide)⟩
    | 4, _ => ⟨l_0_5_0, k_0_5_0, fun _ => (N (q_rf X g 0) 5 (by rw [k_0]; decide)).trans (by rw [k_0]; rfl)⟩
    | 5, _ => ⟨l_0_6_0, k_0_6_0, fun _ => (N (q_rf X g 0) 6 (by rw [k_0]; decide)).trans (by rw [k_0]; rfl)⟩
    | 6, _ => ⟨l_0_7_0, k_0_7_0, fun _ => (N (q_rf X g 0) 7 (by rw [k_0]; decide)).trans (by rw [k_0]; rfl)⟩
    | 7, _ => ⟨l_1_0_0, k_1_0_0, fun _ => (N (q_rf X g 1) 0 (by rw [k_1]; decide)).trans (by rw [k_1]; rfl)⟩
    | 8, _ => ⟨l_1_1_0, k_1_1_0, fun _ => (N (q_rf X g 1) 1 (by rw [k_1]; decide)).trans (by rw [k_1]; rfl)⟩
    | 9, _ => ⟨l_1_2_0, k_1_2_0, fun _ => (N (q_rf X g 1) 2 (by rw [k_1]; decide)).trans (by rw [k_1]; rfl)⟩
    | 10, _ => ⟨l_1_3_0, k_1_3_0, fun _ => (N (q_rf X g 1) 3 (by rw [k_1]; decide)).trans (by rw [k_1]; rfl)⟩
    | 11, _ => ⟨l_1_4_0, k_1_4_0, fun _ => (N (q_rf X g 1) 4 (by rw [k_1]; decide)).trans (by rw [k_1]; rfl)⟩
    | 12, _ => ⟨l_1_5_0, k_1_5_0, fun _ => (N (q_rf X g 1) 5 (by rw [k_1]; decide)).trans (by rw [k_1]; rfl)⟩
    | 13, _ => ⟨l_1_6_0, k_1_6_0, fun _ => (N (q_rf X g 1) 6 (by rw [k_1]; decide)).trans (by rw [k_1]; rfl)⟩
    | 14, _ => ⟨l_2_2_0, k_2_2_0, fun _ => (N (q_rf X g 2) 2 (by rw [k_2]; decide)).trans (by rw [k_2]; rfl)⟩
    | 15, _ => ⟨l_2_3_0, k_2_3_0, fun _ => (N (q_rf X g 2) 3 (by rw [k_2]; decide)).trans (by rw [k_2]; rfl)⟩
    | 16, _ => ⟨l_2_4_0, k_2_4_0, fun _ => (N (q_rf X g 2) 4 (by rw [k_2]; decide)).trans (by rw [k_2]; rfl)⟩
    | 17, _ => ⟨l_2_5_0, k_2_5_0, fun _ => (N (q_rf X g 2) 5 (by rw [k_2]; decide)).trans (by rw [k_2]; rfl)⟩
    | 18, _ => ⟨l_3_3_0, k_3_3_0, fun _ => (N (q_rf X g 3) 3 (by rw [k_3]; decide)).trans (by rw [k_3]; rfl)⟩
    | 19, _ => ⟨l_3_4_0, k_3_4_0, fun _ => (N (q_rf X g 3) 4 (by rw [k_3]; decide)).trans (by rw [k_3]; rfl)⟩
    | 20, _ => ⟨l_3_5_0, k_3_5_0, fun _ => (N (q_rf X g 3) 5 (by rw [k_3]; decide)).trans (by rw [k_3]; rfl)⟩
    | 21, _ => ⟨l_3_6_0, k_3_6_0, fun _ => (N (q_rf X g 3) 6 (by rw [k_3]; decide)).trans (by rw [k_3]; rfl)⟩
    | 22, _ => ⟨l_3_7_0, k_3_7_0, fun _ => (N (q_rf X g 3) 7 (by rw [k_3]; decide)).trans (by rw [k_3]; rfl)⟩
    | 23, _ => ⟨l_8_0, k_8_0, fun _ => (N (g) 8 (by rw [k_]; decide)).trans (by rw [k_]; rfl)⟩
    | 24, _ => ⟨l_10_0, k_10_0, fun _ => (N (g) 10 (by rw [k_]; decide)).trans (by rw [k_]; rfl)⟩
    | (n + 25), h => absurd h (by omega)
