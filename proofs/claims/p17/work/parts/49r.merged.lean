/-! FROM 49r.rdround.lean.txt -/
/-! A ROUND BEING READ: the class's reader R with its script -/
def rdA (X : XW) (R id : Nat) : Nat := match id with
  | 0 => q_rf X R 8
  | 1 => q_rf X (q_rf X (q_rf X R 8) 3) 0
  | 2 => q_rf X (q_rf X (q_rf X R 8) 4) 0
  | 3 => q_rf X (q_rf X (q_rf X R 8) 5) 0
  | 4 => q_rf X (q_rf X (q_rf X R 8) 6) 0
  | 5 => q_rf X (q_rf X (q_rf X R 8) 7) 0
  | 6 => q_rf X (q_rf X R 9) 0
  | _ => q_rf X R 8
def rdL (id : Nat) : Nat := match id with | 0 => 472 | 1 => 120880 | 2 => 120896 | 3 => 120912 | 4 => 120928 | 5 => 120944 | 6 => 7568 | _ => 0
def rdN (id : Nat) : Nat := match id with | 6 => 3 | _ => 60
def rd_D (X : XW) (lb : Nat → Nat) (R T : Nat) : Prop := q_kd X R = 4 ∧ lb R = 29 ∧ q_kd X T = 22 ∧ lb T = 20 ∧ ∀ id, id < 7 → lb (rdA X R id) = rdL id ∧ (1 ≤ id → q_ln X (rdA X R id) = rdN id ∧ q_kd X (rdA X R id) = 20)
theorem rd_Dmk {X : XW} {lb : Nat → Nat} {C : Nat} (S : y_S X lb) (hC : q_kd X C = 11) (h1 : lb C = 1) : rd_D X lb (q_rf X C 13) (q_rf X C 4) := by
  obtain ⟨T, L, N⟩ := id S
  have kR : q_kd X (q_rf X C 13) = 4 := (T.1 C 13 (by rw [hC]; decide)).trans (by rw [hC]; rfl)
  have lR : lb (q_rf X C 13) = 29 := (L C 13 (by rw [hC]; decide)).trans (by rw [h1]; decide)
  have kT : q_kd X (q_rf X C 4) = 22 := (T.1 C 4 (by rw [hC]; decide)).trans (by rw [hC]; rfl)
  have lT : lb (q_rf X C 4) = 20 := (L C 4 (by rw [hC]; decide)).trans (by rw [h1]; decide)
  have kS : q_kd X (q_rf X (q_rf X C 13) 8) = 8 := (T.1 _ 8 (by rw [kR]; decide)).trans (by rw [kR]; rfl)
  have lS : lb (q_rf X (q_rf X C 13) 8) = 472 := (L _ 8 (by rw [kR]; decide)).trans (by rw [lR]; decide)
  have kO : q_kd X (q_rf X (q_rf X C 13) 9) = 5 := (T.1 _ 9 (by rw [kR]; decide)).trans (by rw [kR]; rfl)
  have lO : lb (q_rf X (q_rf X C 13) 9) = 473 := (L _ 9 (by rw [kR]; decide)).trans (by rw [lR]; decide)
  refine ⟨kR, lR, kT, lT, fun id hid => ?_⟩
  have row : ∀ f, f = 3 ∨ f = 4 ∨ f = 5 ∨ f = 6 ∨ f = 7 → lb (q_rf X (q_rf X (q_rf X (q_rf X C 13) 8) f) 0) = 120832 + 16 * f ∧ q_ln X (q_rf X (q_rf X (q_rf X (q_rf X C 13) 8) f) 0) = 60 ∧ q_kd X (q_rf X (q_rf X (q_rf X (q_rf X C 13) 8) f) 0) = 20 := by
    intro f hf
    have kr : q_kd X (q_rf X (q_rf X (q_rf X C 13) 8) f) = 5 := (T.1 _ f (by rw [kS]; rcases hf with e | e | e | e | e <;> subst e <;> decide)).trans (by rw [kS]; rcases hf with e | e | e | e | e <;> subst e <;> rfl)
    have lr : lb (q_rf X (q_rf X (q_rf X C 13) 8) f) = 7552 + f := (L _ f (by rw [kS]; rcases hf with e | e | e | e | e <;> subst e <;> decide)).trans (by rw [lS]; rcases hf with e | e | e | e | e <;> subst e <;> decide)
    refine ⟨(L _ 0 (by rw [kr]; decide)).trans (by rw [lr]; rcases hf with e | e | e | e | e <;> subst e <;> decide), (N _ f (by rw [kS]; rcases hf with e | e | e | e | e <;> subst e <;> rfl)).trans (by rw [kS]; rcases hf with e | e | e | e | e <;> subst e <;> rfl), (T.1 _ 0 (by rw [kr]; decide)).trans (by rw [kr]; rfl)⟩
  rcases (by omega : id = 0 ∨ id = 1 ∨ id = 2 ∨ id = 3 ∨ id = 4 ∨ id = 5 ∨ id = 6) with e | e | e | e | e | e | e
  · subst e
    exact ⟨lS, fun h => absurd h (by decide)⟩
  · subst e
    exact ⟨(row 3 (by decide)).1, fun _ => (row 3 (by decide)).2⟩
  · subst e
    exact ⟨(row 4 (by decide)).1, fun _ => (row 4 (by decide)).2⟩
  · subst e
    exact ⟨(row 5 (by decide)).1, fun _ => (row 5 (by decide)).2⟩
  · subst e
    exact ⟨(row 6 (by decide)).1, fun _ => (row 6 (by decide)).2⟩
  · subst e
    exact ⟨(row 7 (by decide)).1, fun _ => (row 7 (by decide)).2⟩
  · subst e
    exact ⟨(L _ 0 (by rw [kO]; decide)).trans (by rw [lO]; decide), fun _ => ⟨(N _ 9 (by rw [kR]; rfl)).trans (by rw [kR]; rfl), (T.1 _ 0 (by rw [kO]; decide)).trans (by rw [kO]; rfl)⟩⟩
theorem rdL_inj : ∀ i, i < 7 → ∀ j, j < 7 → rdL i = rdL j → i = j := by decide
theorem rdL_o : ∀ i, i < 7 → (rdL i / 8192 = 0 ∨ rdL i / 8192 = 14) ∧ rdL i ≠ 29 ∧ rdL i ≠ 20 ∧ rdL i ≠ 1 := by decide
theorem rd_D.inj {X : XW} {lb : Nat → Nat} {R T : Nat} (D : rd_D X lb R T) {i j : Nat} (hi : i < 7) (hj : j < 7) (h : rdA X R i = rdA X R j) : i = j := by
  have a := (D.2.2.2.2 i hi).1
  rw [h, (D.2.2.2.2 j hj).1] at a
  exact (rdL_inj j hj i hi a).symm
theorem rd_D.nR {X : XW} {lb : Nat → Nat} {R T : Nat} (D : rd_D X lb R T) {i : Nat} (hi : i < 7) : rdA X R i ≠ R ∧ rdA X R i ≠ T := by
  have a := (D.2.2.2.2 i hi).1
  have b := rdL_o i hi
  refine ⟨fun e => ?_, fun e => ?_⟩
  · rw [e, D.2.1] at a
    exact b.2.1 a.symm
  · rw [e, D.2.2.2.1] at a
    exact b.2.2.1 a.symm
def rv (X : XW) (R : Nat) (σ : ST) : Nat → Int → Int := fun id i => if id < 7 ∧ 0 ≤ i then (σ.1 (rdA X R id) i.toNat).toInt else 0
/-- the class's side: text, script, depth -/
def rd_S (X : XW) (R T : Nat) (σ : ST) (n : Int) (B : Int → Int) (U : Nat → Int → Int) (dp : Int) : Prop := tc_E X σ R T n B ∧ rv X R σ = U ∧ (σ.1 R 10).toInt = dp
def rd_F (X : XW) (R : Nat) (σ σ' : ST) : Prop := (∀ b, b ≠ R → (∀ i, i < 7 → b ≠ rdA X R i) → ∀ f, σ'.1 b f = σ.1 b f) ∧ (∀ f, ¬ (2 ≤ f ∧ f ≤ 7) → f ≠ 10 → σ'.1 R f = σ.1 R f) ∧ σ'.2 = σ.2
theorem rd_F.rf {X : XW} {R : Nat} {σ : ST} : rd_F X R σ σ := ⟨fun _ _ _ _ => rfl, fun _ _ _ => rfl, rfl⟩
theorem rd_F.tr {X : XW} {R : Nat} {σ σ1 σ2 : ST} (h : rd_F X R σ σ1) (k : rd_F X R σ1 σ2) : rd_F X R σ σ2 := ⟨fun b b1 b2 f => (k.1 b b1 b2 f).trans (h.1 b b1 b2 f), fun f f1 f2 => (k.2.1 f f1 f2).trans (h.2.1 f f1 f2), k.2.2.trans h.2.2⟩
/-- the reference's side: text, table, words, steps -/
def rd_M (X : XW) (a : Nat) (τ : ST) (n : Int) (B c w : Int → Int) (s : Int) : Prop := tm_E X τ a n B ∧ m_c X τ a = c ∧ m_wd X τ a = w ∧ (τ.1 a 27).toInt = s ∧ (τ.1 a 0).toInt = 0 ∧ (τ.1 a 8).toInt = 0
section RD
variable {X : XW} {lb : Nat → Nat} {R T a g : Nat} {σ τ σ' τ' : ST} {n dp s : Int} {B c w : Int → Int} {U V : Nat → Int → Int}
theorem rv_n {id : Nat} (h : id < 7) (f : Nat) : (σ.1 (rdA X R id) f).toInt = rv X R σ id (f : Int) := by
  unfold rv
  rw [if_pos ⟨h, Int.natCast_nonneg f⟩]
  rfl
theorem rd_S.rd (D : rd_D X lb R T) (S : rd_S X R T σ n B U dp) (h : tk (tc_S2 R) σ σ') : rd_S X R T σ' n B U dp ∧ rd_F X R σ σ' := by
  obtain ⟨s1, s2, s3⟩ := S
  refine ⟨⟨s1.k2 h, ?_, ?_⟩, fun b b1 _ f => h.1 b f (fun q => b1 q.1), fun f f1 _ => h.1 R f (fun q => f1 q.2), h.2⟩
  · rw [← s2]
    funext id i
    unfold rv
    by_cases q : id < 7 ∧ 0 ≤ i
    · rw [if_pos q, if_pos q, h.1 _ _ (fun z => (D.nR q.1).1 z.1)]
    · rw [if_neg q, if_neg q]
  · rw [h.1 R 10 (fun q => absurd q.2.2 (by decide))]; exact s3
theorem rv_up (D : rd_D X lb R T) {id : Nat} (hid : id < 7) (f : Nat) (v : Int32) : rv X R (q_si σ (rdA X R id) f v) = y_up (rv X R σ) id (f : Int) v.toInt := by
  funext k i
  show (if k < 7 ∧ 0 ≤ i then ((q_si σ (rdA X R id) f v).1 (rdA X R k) i.toNat).toInt else 0) = if k = id ∧ i = (f : Int) then v.toInt else if k < 7 ∧ 0 ≤ i then (σ.1 (rdA X R k) i.toNat).toInt else 0
  by_cases q : k = id ∧ i = (f : Int)
  · rw [if_pos q, if_pos ⟨by omega, by omega⟩, q.1, q.2]
    have e : ((f : Int)).toNat = f := by omega
    rw [e, si_eq]
  · rw [if_neg q]
    by_cases q2 : k < 7 ∧ 0 ≤ i
    · rw [if_pos q2, if_pos q2]
      by_cases q3 : k = id
      · rw [q3, si_f (by omega)]
      · rw [q_si_ne (fun z => q3 (D.inj q2.1 hid z))]
    · rw [if_neg q2, if_neg q2]
theorem rd_S.cell (D : rd_D X lb R T) (S : rd_S X R T σ n B U dp) {id : Nat} (hid : id < 7) (f : Nat) (v : Int32) : rd_S X R T (q_si σ (rdA X R id) f v) n B (y_up U id (f : Int) v.toInt) dp ∧ rd_F X R σ (q_si σ (rdA X R id) f v) := by
  obtain ⟨s1, s2, s3⟩ := S
  have nR := D.nR hid
  have k : tk (fun b g => b = rdA X R id ∧ g = f) σ (q_si σ (rdA X R id) f v) := tk.rf.si _ ⟨rfl, rfl⟩
  refine ⟨⟨s1.k k (fun b g q => ⟨fun e => nR.2 (q.1.symm.trans e), fun e => nR.1 (q.1.symm.trans e.1)⟩), ?_, ?_⟩, fun b b1 b2 f => k.1 b f (fun q => b2 id hid q.1), fun f _ _ => k.1 R f (fun q => nR.1 q.1.symm), k.2⟩
  · rw [rv_up D hid, s2]
  · rw [q_si_ne (Ne.symm nR.1)]; exact s3
theorem rw_set {r : Nat} (Y : y_S X lb) (x v : Int32) {N : Nat} (hN : q_ln X (q_rf X r 0) = N) (h0 : 0 ≤ x.toInt) (h1 : x.toInt < (N : Int)) : F_X5_set X σ r x v = q_si σ (q_rf X r 0) x.toNatClampNeg v := by
  have hl := y_len Y (q_rf X r 0)
  rw [hN] at hl
  simp only [F_X5_set, ↓q_letE]
  rw [hl, if_neg (by omega), if_pos h1]
theorem rw_get {r : Nat} (Y : y_S X lb) (x : Int32) {N : Nat} (hN : q_ln X (q_rf X r 0) = N) (h0 : 0 ≤ x.toInt) (h1 : x.toInt < (N : Int)) : F_X5_get X σ r x = σ.1 (q_rf X r 0) x.toNatClampNeg := by
  have hl := y_len Y (q_rf X r 0)
  rw [hN] at hl
  simp only [F_X5_get, ↓q_letE]
  rw [hl, if_neg (by omega), if_pos h1]
theorem rd_S.set (Y : y_S X lb) (D : rd_D X lb R T) (S : rd_S X R T σ n B U dp) {id r : Nat} (hid : 1 ≤ id ∧ id < 7) (hr : q_rf X r 0 = rdA X R id) {x : Int32} {i : Int} (hx : x.toInt = i) (v : Int32) (h0 : 0 ≤ i) (h1 : i < ((rdN id : Nat) : Int)) : rd_S X R T (F_X5_set X σ r x v) n B (y_up U id i v.toInt) dp ∧ rd_F X R σ (F_X5_set X σ r x v) := by
  have hN := ((D.2.2.2.2 id hid.2).2 hid.1).1
  rw [rw_set Y x v (N := rdN id) (by rw [hr]; exact hN) (by omega) (by omega), hr]
  have z := S.cell D hid.2 x.toNatClampNeg v
  have e : ((x.toNatClampNeg : Nat) : Int) = i := by rw [ar_cl]; omega
  rw [e] at z
  exact z
theorem rd_S.get (Y : y_S X lb) (D : rd_D X lb R T) (S : rd_S X R T σ n B U dp) {id r : Nat} (hid : 1 ≤ id ∧ id < 7) (hr : q_rf X r 0 = rdA X R id) {x : Int32} {i : Int} (hx : x.toInt = i) (h0 : 0 ≤ i) (h1 : i < ((rdN id : Nat) : Int)) : (F_X5_get X σ r x).toInt = U id i := by
  have hN := ((D.2.2.2.2 id hid.2).2 hid.1).1
  rw [rw_get Y x (N := rdN id) (by rw [hr]; exact hN) (by omega) (by omega), hr, rv_n hid.2, S.2.1]
  have e : ((x.toNatClampNeg : Nat) : Int) = i := by rw [ar_cl]; omega
  rw [e]
theorem rd_S.dep (D : rd_D X lb R T) (S : rd_S X R T σ n B U dp) (v : Int32) : rd_S X R T (q_si σ R 10 v) n B U v.toInt ∧ rd_F X R σ (q_si σ R 10 v) := by
  obtain ⟨s1, s2, s3⟩ := S
  have k : tk (fun b g => b = R ∧ g = 10) σ (q_si σ R 10 v) := tk.rf.si _ ⟨rfl, rfl⟩
  refine ⟨⟨s1.k k (fun b g q => ⟨fun e => s1.2.2.2.1 (e.symm.trans q.1), fun e => absurd q.2 (by rw [e.2]; decide)⟩), ?_, by rw [si_eq]⟩, fun b b1 _ f => k.1 b f (fun q => b1 q.1), fun f _ f2 => k.1 R f (fun q => f2 q.2), k.2⟩
  rw [← s2]
  funext id i
  unfold rv
  by_cases q : id < 7 ∧ 0 ≤ i
  · rw [if_pos q, if_pos q, q_si_ne (D.nR q.1).1]
  · rw [if_neg q, if_neg q]
/-- the games stand -/
theorem rd_F.v {o : Nat} (Y : y_S X lb) (D : rd_D X lb R T) (G : y_G X lb g o) (ho : o ≤ 6) (h : rd_F X R σ σ') : y_v X g σ' = y_v X g σ := by
  have o1 := G.2.2
  refine y_v.k Y G (fun b hb f => h.1 b (fun e => ?_) (fun i hi e => ?_) f)
  · rw [e, D.2.1] at hb
    omega
  · rw [e, (D.2.2.2.2 i hi).1] at hb
    have := (rdL_o i hi).1
    omega
/-! the reference's steps -/
theorem rd_M.rd (hT : q_T X) (ha : q_kd X a = 12) (M : rd_M X a τ n B c w s) (h : tkl (tn_S2 a) (tn_L a) τ τ') : rd_M X a τ' n B c w s := by
  obtain ⟨m1, m2, m3, m5, m6, m7⟩ := M
  obtain ⟨k1, k2, k3, k4⟩ := tb_k hT ha
  refine ⟨m1.k2 h, ?_, ?_, ?_, ?_, ?_⟩
  · rw [← m2]; funext j
    exact congrArg Int32.toInt (h.1 _ _ (fun q => m_ne k1 ha (by decide) q.1))
  · rw [← m3]; funext j
    exact congrArg Int64.toInt (h.2.1 _ _ (fun q => m_ne k3 ha (by decide) q.1))
  · rw [h.1 a 27 (fun q => absurd q.2.2 (by decide))]; exact m5
  · rw [h.1 a 0 (fun q => absurd q.2.1 (by decide))]; exact m6
  · rw [h.1 a 8 (fun q => absurd q.2.1 (by decide))]; exact m7
theorem rd_M.cw (hT : q_T X) (ha : q_kd X a = 12) (M : rd_M X a τ n B c w s) {i v : Int32} {A : Int} (hi : i.toInt = A) (hA : 1 ≤ A) : rd_M X a (q_si τ (q_rf X a 20) i.toNatClampNeg v) n B (m_up c A v.toInt) w s ∧ tl_same a τ (q_si τ (q_rf X a 20) i.toNatClampNeg v) := by
  obtain ⟨m1, m2, m3, m5, m6, m7⟩ := M
  obtain ⟨k1, k2, k3, k4⟩ := tb_k hT ha
  have na : a ≠ q_rf X a 20 := Ne.symm (m_ne k1 ha (by decide))
  have k : tkl (fun b f => b = q_rf X a 20) (fun _ _ => False) τ (q_si τ (q_rf X a 20) i.toNatClampNeg v) := tkl.rf.si _ rfl
  refine ⟨⟨m1.k k (fun b f q => ⟨fun e => m_ne k1 k4 (by decide) (q.symm.trans e), fun e => na (e.1.symm.trans q)⟩), ?_, m3, ?_, ?_, ?_⟩, fun f _ _ => k.1 a f na, rfl⟩
  · rw [m_c_up A hA hi, m2]
  · rw [k.1 a 27 na]; exact m5
  · rw [k.1 a 0 na]; exact m6
  · rw [k.1 a 8 na]; exact m7
theorem rd_M.ns (hT : q_T X) (ha : q_kd X a = 12) (M : rd_M X a τ n B c w s) (v : Int32) : rd_M X a (q_si τ a 27 v) n B c w v.toInt ∧ tl_same a τ (q_si τ a 27 v) := by
  obtain ⟨m1, m2, m3, m5, m6, m7⟩ := M
  obtain ⟨k1, k2, k3, k4⟩ := tb_k hT ha
  have k : tkl (fun b f => b = a ∧ f = 27) (fun _ _ => False) τ (q_si τ a 27 v) := tkl.rf.si _ ⟨rfl, rfl⟩
  refine ⟨⟨m1.k k (fun b f q => ⟨fun e => m_ne k4 ha (by decide) (e.symm.trans q.1), fun e => absurd q.2 (by rw [e.2]; decide)⟩), ?_, m3, ?_, ?_, ?_⟩, fun f _ f2 => k.1 a f (fun q => by have := q.2; omega), rfl⟩
  · rw [mv_cell hT ha 27 v]; exact m2
  · rw [si_eq]
  · rw [si_f (by decide)]; exact m6
  · rw [si_f (by decide)]; exact m7
theorem rd_same {id : Nat} (D : rd_D X lb R T) (hid : id < 7) (f : Nat) (v : Int32) : tl_sameC R σ (q_si σ (rdA X R id) f v) := fun _ _ _ => q_si_ne (Ne.symm (D.nR hid).1) _
theorem rd_sameS (Y : y_S X lb) (D : rd_D X lb R T) {id r : Nat} (hid : 1 ≤ id ∧ id < 7) (hr : q_rf X r 0 = rdA X R id) {x : Int32} (v : Int32) (h0 : 0 ≤ x.toInt) (h1 : x.toInt < ((rdN id : Nat) : Int)) : tl_sameC R σ (F_X5_set X σ r x v) := by
  have hN := ((D.2.2.2.2 id hid.2).2 hid.1).1
  rw [rw_set Y x v (N := rdN id) (by rw [hr]; exact hN) h0 h1, hr]
  exact rd_same D hid.2 _ v
theorem rd_sameD (v : Int32) : tl_sameC R σ (q_si σ R 10 v) := fun _ _ h => si_f (by omega) R
end RD
