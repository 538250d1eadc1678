/-! TEXTS: tokens of a row of bytes B, the first n of them -/
def tx_D (B : Int → Int) (n p : Int) : Int := if 0 ≤ p ∧ p < n then B p else 0
def tx_run (P : Int → Prop) (n b e : Int) : Prop := b ≤ e ∧ (∀ j, b ≤ j → j < e → j < n ∧ P j) ∧ ¬ (e < n ∧ P e)
def tx_nv (B : Int → Int) (b : Int) : Nat → Int
  | 0 => 0
  | k + 1 => tx_nv B b k * 10 + B (b + (k : Int)) - 48
/-- a word's number, 5 bits a letter -/
def tx_wv (B : Int → Int) (b : Int) : Nat → Int
  | 0 => 0
  | k + 1 => tx_wv B b k * 32 + B (b + (k : Int)) - 96
def tx_bl (x : Int) : Prop := x = 10 ∨ x = 32
def tx_le (x : Int) : Prop := 97 ≤ x ∧ x ≤ 122
def tx_di (x : Int) : Prop := 48 ≤ x ∧ x ≤ 57
def tx_sg (x : Int) : Prop := x = 59 ∨ x = 60 ∨ x = 62 ∨ x = 61
/-- the token that begins at b -/
def tx_cls (B : Int → Int) (n b e ty val : Int) : Prop :=
  (n ≤ b ∧ ty = 0 ∧ e = b) ∨
   (b < n ∧ tx_le (B b) ∧ ty = 1 ∧ tx_run (fun j => tx_le (B j)) n b e) ∨
   (b < n ∧ tx_di (B b) ∧ tx_run (fun j => tx_di (B j)) n b e ∧ (4 < e - b ∧ ty = 4 ∨ e - b ≤ 4 ∧ ty = 2 ∧ val = tx_nv B b (e - b).toNat)) ∨
   (b < n ∧ ¬ tx_le (B b) ∧ ¬ tx_di (B b) ∧ e = b + 1 ∧ (tx_sg (B b) ∧ ty = 3 ∨ ¬ tx_sg (B b) ∧ ty = 4))
/-- the token behind place p -/
def tx_tok (B : Int → Int) (n p b e ty val : Int) : Prop := tx_run (fun j => tx_bl (B j)) n p b ∧ tx_cls B n b e ty val
theorem tx_run_u {P : Int → Prop} {n b e e' : Int} (h : tx_run P n b e) (h' : tx_run P n b e') : e = e' := by
  obtain ⟨h1, h2, h3⟩ := h
  obtain ⟨k1, k2, k3⟩ := h'
  rcases Int.lt_trichotomy e e' with q | q | q
  · exact absurd (k2 e h1 q) h3
  · exact q
  · exact absurd (h2 e' k1 q) k3
theorem tx_run_ne {P : Int → Prop} {n b e : Int} (h : tx_run P n b e) (hb : b < n ∧ P b) : b < e := by
  obtain ⟨h1, h2, h3⟩ := h
  rcases Int.lt_or_le b e with q | q
  · exact q
  · have : b = e := by omega
    subst this
    exact absurd hb h3
theorem tx_run_le {P : Int → Prop} {n b e : Int} (h : tx_run P n b e) (hb : b ≤ n) : e ≤ n := by
  rcases Int.lt_or_le n e with q | q
  · have := (h.2.1 n hb q).1
    omega
  · exact q
theorem tx_tok_b {B : Int → Int} {n p b e ty val : Int} (h : tx_tok B n p b e ty val) (hp : 0 ≤ p ∧ p ≤ n) : p ≤ b ∧ b ≤ n ∧ b ≤ e ∧ e ≤ n ∧ 0 ≤ ty ∧ ty ≤ 4 ∧ (ty ≠ 0 → b < e) ∧ (ty = 0 ↔ b = n) := by
  obtain ⟨h1, h2⟩ := h
  have a1 := h1.1
  have a2 := tx_run_le h1 hp.2
  rcases h2 with ⟨q1, q2, q3⟩ | ⟨q1, q2, q3, q4⟩ | ⟨q1, q2, q3, q4⟩ | ⟨q1, q2, q3, q4, q5⟩
  · omega
  · have b1 := tx_run_le q4 (by omega)
    have b2 := tx_run_ne q4 ⟨q1, q2⟩
    omega
  · have b1 := tx_run_le q3 (by omega)
    have b2 := tx_run_ne q3 ⟨q1, q2⟩
    omega
  · omega
/-- there is one token behind a place -/
theorem tx_tok_u {B : Int → Int} {n p b e ty val b' e' ty' val' : Int} (h : tx_tok B n p b e ty val) (h' : tx_tok B n p b' e' ty' val') : b' = b ∧ e' = e ∧ ty' = ty ∧ (ty = 2 → val' = val) := by
  obtain ⟨h1, h2⟩ := h
  obtain ⟨k1, k2⟩ := h'
  have e1 := tx_run_u k1 h1
  subst e1
  have nd : ∀ x, tx_le x → tx_di x → False := fun x a c => by unfold tx_le at a; unfold tx_di at c; omega
  rcases h2 with ⟨q1, q2, q3⟩ | ⟨q1, q2, q3, q4⟩ | ⟨q1, q2, q3, q4⟩ | ⟨q1, q2, q3, q4, q5⟩
  · rcases k2 with ⟨r1, r2, r3⟩ | ⟨r1, r2, r3, r4⟩ | ⟨r1, r2, r3, r4⟩ | ⟨r1, r2, r3, r4, r5⟩ <;> omega
  · rcases k2 with ⟨r1, r2, r3⟩ | ⟨r1, r2, r3, r4⟩ | ⟨r1, r2, r3, r4⟩ | ⟨r1, r2, r3, r4, r5⟩
    · omega
    · exact ⟨rfl, tx_run_u r4 q4, by omega, by omega⟩
    · exact (nd _ q2 r2).elim
    · exact absurd q2 r2
  · rcases k2 with ⟨r1, r2, r3⟩ | ⟨r1, r2, r3, r4⟩ | ⟨r1, r2, r3, r4⟩ | ⟨r1, r2, r3, r4, r5⟩
    · omega
    · exact (nd _ r2 q2).elim
    · have e2 := tx_run_u r3 q3
      subst e2
      rcases q4 with ⟨s1, s2⟩ | ⟨s1, s2, s3⟩
      · rcases r4 with ⟨t1, t2⟩ | ⟨t1, t2, t3⟩ <;> omega
      · rcases r4 with ⟨t1, t2⟩ | ⟨t1, t2, t3⟩
        · omega
        · exact ⟨rfl, rfl, by omega, fun _ => by rw [s3, t3]⟩
    · exact absurd q2 r3
  · rcases k2 with ⟨r1, r2, r3⟩ | ⟨r1, r2, r3, r4⟩ | ⟨r1, r2, r3, r4⟩ | ⟨r1, r2, r3, r4, r5⟩
    · omega
    · exact absurd r2 q2
    · exact absurd r2 q3
    · rcases q5 with ⟨s1, s2⟩ | ⟨s1, s2⟩
      · rcases r5 with ⟨t1, t2⟩ | ⟨t1, t2⟩
        · omega
        · exact absurd s1 t1
      · rcases r5 with ⟨t1, t2⟩ | ⟨t1, t2⟩
        · exact absurd t1 s1
        · omega
/-! cells kept but for those of S -/
def tk (S : Nat → Nat → Prop) (σ τ : ST) : Prop := (∀ b f, ¬ S b f → τ.1 b f = σ.1 b f) ∧ τ.2 = σ.2
theorem tk.rf {S : Nat → Nat → Prop} {σ : ST} : tk S σ σ := ⟨fun _ _ _ => rfl, rfl⟩
theorem tk.tr {S : Nat → Nat → Prop} {σ τ τ' : ST} (h : tk S σ τ) (h' : tk S τ τ') : tk S σ τ' := ⟨fun b f q => (h'.1 b f q).trans (h.1 b f q), h'.2.trans h.2⟩
theorem tk.mono {S S' : Nat → Nat → Prop} {σ τ : ST} (h : tk S σ τ) (hs : ∀ b f, S b f → S' b f) : tk S' σ τ := ⟨fun b f q => h.1 b f (fun z => q (hs b f z)), h.2⟩
theorem tk.si {S : Nat → Nat → Prop} {σ τ : ST} (h : tk S σ τ) {a f : Nat} (v : Int32) (hs : S a f) : tk S σ (q_si τ a f v) := by
  refine ⟨fun b g q => ?_, h.2⟩
  show (if b = a ∧ g = f then v else τ.1 b g) = _
  rw [if_neg]
  · exact h.1 b g q
  · rintro ⟨rfl, rfl⟩
    exact q hs
theorem si_eq (τ : ST) (a f : Nat) (v : Int32) : (q_si τ a f v).1 a f = v := by
  show (if a = a ∧ f = f then v else _) = v
  rw [if_pos ⟨rfl, rfl⟩]
theorem si_f {τ : ST} {a f : Nat} {v : Int32} {g : Nat} (h : g ≠ f) (b : Nat) : (q_si τ a f v).1 b g = τ.1 b g := by
  show (if b = a ∧ g = f then v else τ.1 b g) = _
  rw [if_neg (fun q => h q.2)]
