/-! A TABLE BEING READ: the class's reader D with its game g, the reference's fifth block -/
def tb_T (X : XW) (D : Nat) : Nat := q_rf X (q_rf X D 11) 0
/-- where the reader and its parts lie -/
def tb_D (X : XW) (lb : Nat → Nat) (D T g : Nat) : Prop := q_kd X D = 9 ∧ g = q_rf X D 8 ∧ y_G X lb g 6 ∧ lb D / 8192 = 0 ∧ lb T / 8192 = 0 ∧ lb (tb_T X D) / 8192 = 0 ∧ q_kd X (tb_T X D) = 20 ∧ q_ln X (tb_T X D) = 6 ∧ q_kd X T = 22
/-- the class's side: text, game, hands told, law told, most told -/
def tb_S (X : XW) (D T g : Nat) (σ : ST) (n : Int) (B : Int → Int) (V : Nat → Int → Int) (r : Int → Int) (f9 f10 : Int) : Prop := tc_E X σ D T n B ∧ y_v X g σ = V ∧ (∀ p : Int, 0 ≤ p → p < 6 → (σ.1 (tb_T X D) p.toNat).toInt = r p) ∧ (σ.1 D 9).toInt = f9 ∧ (σ.1 D 10).toInt = f10
/-- the reference's side -/
def tb_M (X : XW) (a : Nat) (τ : ST) (n : Int) (B : Int → Int) (c w t : Int → Int) (f9 f10 : Int) : Prop := tm_E X τ a n B ∧ m_c X τ a = c ∧ m_wd X τ a = w ∧ (∀ j : Int, 0 ≤ j → j < 60 → (τ.1 (q_rf X a 22) j.toNat).toInt = t j) ∧ (τ.1 a 25).toInt = f9 ∧ (τ.1 a 26).toInt = f10 ∧ (τ.1 a 0).toInt = 0 ∧ (τ.1 a 8).toInt = 0
/-- what the class's reading leaves alone -/
def tb_F (X : XW) (lb : Nat → Nat) (D : Nat) (σ σ' : ST) : Prop := (∀ b, lb b / 8192 ≠ 6 → b ≠ D → b ≠ tb_T X D → ∀ f, σ'.1 b f = σ.1 b f) ∧ (∀ f, ¬ (2 ≤ f ∧ f ≤ 7) → f ≠ 9 → f ≠ 10 → σ'.1 D f = σ.1 D f) ∧ σ'.2 = σ.2
theorem tb_F.rf {X : XW} {lb : Nat → Nat} {D : Nat} {σ : ST} : tb_F X lb D σ σ := ⟨fun _ _ _ _ _ => rfl, fun _ _ _ _ => rfl, rfl⟩
theorem tb_F.tr {X : XW} {lb : Nat → Nat} {D : Nat} {σ σ1 σ2 : ST} (h : tb_F X lb D σ σ1) (k : tb_F X lb D σ1 σ2) : tb_F X lb D σ σ2 := ⟨fun b b1 b2 b3 f => (k.1 b b1 b2 b3 f).trans (h.1 b b1 b2 b3 f), fun f f1 f2 f3 => (k.2.1 f f1 f2 f3).trans (h.2.1 f f1 f2 f3), k.2.2.trans h.2.2⟩
/-- the relation of both -/
def tb_N (V : Nat → Int → Int) (c : Int → Int) : Prop :=
  (V 1 0 = c 3720 ∧ V 1 1 = c 3721 ∧ V 1 2 = c 3723 ∧ V 1 3 = c 3724 ∧ V 1 4 = c 3722) ∧
  (∀ k : Int, 0 ≤ k → k < 10 → V 4 k = m_sum c 3720 k) ∧
  (∀ j : Int, 0 ≤ j → j < 60 → V 7 j = c (3754 + j)) ∧
  (∀ p : Int, 0 ≤ p → p < 6 → V 9 p = m_S c (3754 + 10 * p) 10) ∧
  (∀ p : Int, 0 ≤ p → p < 6 → V 10 p = c (3730 + p) ∧ V 11 p = c (3736 + p))
/-- a new game's cells that stay as they are -/
def tb_Z (V : Nat → Int → Int) : Prop := (∀ i : Int, 0 ≤ i → i < 60 → V 8 i = 0) ∧ (∀ i : Int, 0 ≤ i → i < 6 → V 12 i = 0 ∧ V 13 i = 0) ∧ V 0 4 = 0 ∧ V 0 5 = 0 ∧ V 0 6 = -1 ∧ V 0 7 = 0 ∧ V 2 0 = 0 ∧ V 2 1 = 0 ∧ V 3 0 = 0 ∧ V 3 1 = 0 ∧ V 3 2 = 0
def tb_bits (t : Int → Int) (p : Int) : Int := t (10 * p) + 2 * t (10 * p + 1) + 4 * t (10 * p + 2) + 8 * t (10 * p + 3) + 16 * t (10 * p + 4) + 32 * t (10 * p + 5) + 64 * t (10 * p + 6) + 128 * t (10 * p + 7) + 256 * t (10 * p + 8) + 512 * t (10 * p + 9)
def tb_H (c r t : Int → Int) : Prop :=
  (∀ j : Int, 0 ≤ j → j < 60 → (t j = 0 ∨ t j = 1) ∧ (t j = 0 → c (3754 + j) = 0)) ∧ (∀ p : Int, 0 ≤ p → p < 6 → r p = tb_bits t p) ∧ (∀ j : Int, 0 ≤ j → j < 60 → 10 * c 3722 ≤ j → t j = 0)
def tb_R (V : Nat → Int → Int) (r c w t : Int → Int) : Prop := tb_N V c ∧ tb_Z V ∧ y_nm V w 24 (c 3722) ∧ tb_H c r t ∧ m_N c ∧ 2 ≤ c 3720 ∧ 1 ≤ c 3721 ∧ 1 ≤ c 3724
section TB
variable {X : XW} {lb : Nat → Nat} {D T g a : Nat} {σ τ σ' τ' : ST} {n : Int} {B : Int → Int} {V : Nat → Int → Int} {r c w t : Int → Int} {f9 f10 : Int}
theorem tb_D.o (Y : y_S X lb) (H : tb_D X lb D T g) {id : Nat} (h : id < 25) : D ≠ y_gA X g id ∧ tb_T X D ≠ y_gA X g id ∧ T ≠ y_gA X g id := by
  obtain ⟨h1, h2, h3, h4, h5, h6, h7, h8, h9⟩ := H
  exact ⟨y_gA_ne Y h3 h (by omega), y_gA_ne Y h3 h (by omega), y_gA_ne Y h3 h (by omega)⟩
theorem tb_v (Y : y_S X lb) (H : tb_D X lb D T g) (h : ∀ b, b ≠ D → b ≠ tb_T X D → ∀ f, σ'.1 b f = σ.1 b f) : y_v X g σ' = y_v X g σ := by
  funext id i
  unfold y_v
  by_cases q : id < 25 ∧ 0 ≤ i
  · have o := H.o Y q.1
    rw [if_pos q, if_pos q, h _ (Ne.symm o.1) (Ne.symm o.2.1)]
  · rw [if_neg q, if_neg q]
theorem tb_TD (H : tb_D X lb D T g) : tb_T X D ≠ D := by
  intro e
  have h1 := H.1
  have h7 := H.2.2.2.2.2.2.1
  rw [e, h1] at h7
  exact absurd h7 (by decide)
/-- a step of the reader -/
theorem tb_S.rd (Y : y_S X lb) (H : tb_D X lb D T g) (S : tb_S X D T g σ n B V r f9 f10) (h : tk (tc_S2 D) σ σ') : tb_S X D T g σ' n B V r f9 f10 ∧ tb_F X lb D σ σ' := by
  obtain ⟨s1, s2, s3, s4, s5⟩ := S
  have hD : ∀ b, b ≠ D → ∀ f, σ'.1 b f = σ.1 b f := fun b hb f => h.1 b f (fun q => hb q.1)
  refine ⟨⟨s1.k2 h, ?_, fun p p0 p1 => ?_, ?_, ?_⟩, fun b _ b2 _ f => hD b b2 f, fun f f1 _ _ => h.1 D f (fun q => f1 q.2), h.2⟩
  · rw [tb_v Y H (fun b b1 _ f => hD b b1 f)]; exact s2
  · rw [hD _ (tb_TD H)]; exact s3 p p0 p1
  · rw [h.1 D 9 (fun q => absurd q.2.2 (by decide))]; exact s4
  · rw [h.1 D 10 (fun q => absurd q.2.2 (by decide))]; exact s5
/-- a step of its game -/
theorem tb_S.gm (Y : y_S X lb) (H : tb_D X lb D T g) (S : tb_S X D T g σ n B V r f9 f10) {V' : Nat → Int → Int} (h : y_W X lb g 6 σ σ' V') : tb_S X D T g σ' n B V' r f9 f10 ∧ tb_F X lb D σ σ' := by
  obtain ⟨s1, s2, s3, s4, s5⟩ := S
  obtain ⟨h1, h2, h3, h4, h5, h6, h7, h8, h9⟩ := H
  have eD : ∀ f, σ'.1 D f = σ.1 D f := h.1 D (by omega)
  have eT : ∀ f, σ'.1 T f = σ.1 T f := h.1 T (by omega)
  have eA : ∀ f, σ'.1 (tb_T X D) f = σ.1 (tb_T X D) f := h.1 _ (by omega)
  obtain ⟨e1, e2, e3, e4, e5, e6⟩ := s1
  refine ⟨⟨⟨by rw [h.2.1]; exact e1, by rw [eD]; exact e2, e3, e4, e5, fun p p0 p1 => by rw [eT]; exact e6 p p0 p1⟩, h.2.2, fun p p0 p1 => by rw [eA]; exact s3 p p0 p1, by rw [eD]; exact s4, by rw [eD]; exact s5⟩, fun b b1 _ _ f => h.1 b b1 f, fun f _ _ _ => eD f, h.2.1⟩
/-- a flag -/
theorem tb_S.s9 (Y : y_S X lb) (H : tb_D X lb D T g) (S : tb_S X D T g σ n B V r f9 f10) (v : Int32) : tb_S X D T g (q_si σ D 9 v) n B V r v.toInt f10 ∧ tb_F X lb D σ (q_si σ D 9 v) := by
  obtain ⟨s1, s2, s3, s4, s5⟩ := S
  have k : tk (fun b f => b = D ∧ f = 9) σ (q_si σ D 9 v) := tk.rf.si _ ⟨rfl, rfl⟩
  have hD : ∀ b, b ≠ D → ∀ f, (q_si σ D 9 v).1 b f = σ.1 b f := fun b hb f => k.1 b f (fun q => hb q.1)
  refine ⟨⟨s1.k k (fun b f q => ⟨fun e => s1.2.2.2.1 (e.symm.trans q.1), fun e => absurd q.2 (by rw [e.2]; decide)⟩), ?_, fun p p0 p1 => ?_, ?_, ?_⟩, fun b _ b2 _ f => hD b b2 f, fun f _ f2 _ => k.1 D f (fun q => f2 q.2), k.2⟩
  · rw [tb_v Y H (fun b b1 _ f => hD b b1 f)]; exact s2
  · rw [hD _ (tb_TD H)]; exact s3 p p0 p1
  · rw [si_eq]
  · rw [si_f (by decide)]; exact s5
theorem tb_S.s10 (Y : y_S X lb) (H : tb_D X lb D T g) (S : tb_S X D T g σ n B V r f9 f10) (v : Int32) : tb_S X D T g (q_si σ D 10 v) n B V r f9 v.toInt ∧ tb_F X lb D σ (q_si σ D 10 v) := by
  obtain ⟨s1, s2, s3, s4, s5⟩ := S
  have k : tk (fun b f => b = D ∧ f = 10) σ (q_si σ D 10 v) := tk.rf.si _ ⟨rfl, rfl⟩
  have hD : ∀ b, b ≠ D → ∀ f, (q_si σ D 10 v).1 b f = σ.1 b f := fun b hb f => k.1 b f (fun q => hb q.1)
  refine ⟨⟨s1.k k (fun b f q => ⟨fun e => s1.2.2.2.1 (e.symm.trans q.1), fun e => absurd q.2 (by rw [e.2]; decide)⟩), ?_, fun p p0 p1 => ?_, ?_, ?_⟩, fun b _ b2 _ f => hD b b2 f, fun f _ _ f3 => k.1 D f (fun q => f3 q.2), k.2⟩
  · rw [tb_v Y H (fun b b1 _ f => hD b b1 f)]; exact s2
  · rw [hD _ (tb_TD H)]; exact s3 p p0 p1
  · rw [si_f (by decide)]; exact s4
  · rw [si_eq]
/-- a hand told -/
theorem tb_S.told (Y : y_S X lb) (H : tb_D X lb D T g) (S : tb_S X D T g σ n B V r f9 f10) {x v : Int32} {p : Int} (hx : x.toInt = p) (hp : 0 ≤ p ∧ p < 6) {s : Int} (hs : ar_w (r p + v.toInt) = s) : tb_S X D T g (F_X5_add X σ (q_rf X D 11) x v) n B V (fun j => if j = p then s else r j) f9 f10 ∧ tb_F X lb D σ (F_X5_add X σ (q_rf X D 11) x v) := by
  obtain ⟨s1, s2, s3, s4, s5⟩ := S
  have e : F_X5_add X σ (q_rf X D 11) x v = q_si σ (tb_T X D) x.toNatClampNeg (σ.1 (tb_T X D) x.toNatClampNeg + v) := by
    simp only [F_X5_add, ↓q_letE]
    have hl : (q_len X (q_rf X (q_rf X D 11) 0)).toInt = 6 := by
      unfold q_len
      have : q_ln X (q_rf X (q_rf X D 11) 0) = 6 := H.2.2.2.2.2.2.2.1
      rw [this]
      rfl
    rw [hl, hx, if_neg (by omega), if_pos (by omega)]
    rfl
  have hv : (σ.1 (tb_T X D) x.toNatClampNeg + v).toInt = s := by
    rw [ar_add, ar_cl, hx, s3 p hp.1 hp.2]
    exact hs
  rw [e]
  obtain ⟨y, hy⟩ : ∃ y, y = σ.1 (tb_T X D) x.toNatClampNeg + v := ⟨_, rfl⟩
  rw [← hy] at hv ⊢
  have k : tk (fun b f => b = tb_T X D ∧ f = x.toNatClampNeg) σ (q_si σ (tb_T X D) x.toNatClampNeg y) := tk.rf.si _ ⟨rfl, rfl⟩
  have hA : ∀ b, b ≠ tb_T X D → ∀ f, (q_si σ (tb_T X D) x.toNatClampNeg y).1 b f = σ.1 b f := fun b hb f => k.1 b f (fun q => hb q.1)
  have hTT : T ≠ tb_T X D := by
    intro e
    have h7 := H.2.2.2.2.2.2.1
    have h9 := H.2.2.2.2.2.2.2.2
    rw [← e, h9] at h7
    exact absurd h7 (by decide)
  have hDA : D ≠ tb_T X D := Ne.symm (tb_TD H)
  refine ⟨⟨s1.k k (fun b f q => ⟨fun e => hTT (e.symm.trans q.1), fun e => hDA (e.1.symm.trans q.1)⟩), ?_, fun j j0 j1 => ?_, ?_, ?_⟩, fun b _ _ b3 f => hA b b3 f, fun f _ _ _ => hA D hDA f, k.2⟩
  · rw [tb_v Y H (fun b _ b2 f => hA b b2 f)]; exact s2
  · show (if tb_T X D = tb_T X D ∧ j.toNat = x.toNatClampNeg then y else σ.1 (tb_T X D) j.toNat).toInt = if j = p then s else r j
    by_cases q : j = p
    · rw [if_pos q, if_pos ⟨rfl, by rw [ar_cl, hx, q]⟩]; exact hv
    · rw [if_neg q, if_neg (fun z => q (by have := z.2; rw [ar_cl, hx] at this; omega))]; exact s3 j j0 j1
  · rw [hA D hDA]; exact s4
  · rw [hA D hDA]; exact s5
/-! the reference's steps -/
theorem tb_k (hT : q_T X) (ha : q_kd X a = 12) : q_kd X (q_rf X a 20) = 34 ∧ q_kd X (q_rf X a 22) = 36 ∧ q_kd X (q_rf X a 23) = 37 ∧ q_kd X (q_rf X a 7) = 33 :=
  ⟨(hT.1 a 20 (by rw [ha]; decide)).trans (by rw [ha]; rfl), (hT.1 a 22 (by rw [ha]; decide)).trans (by rw [ha]; rfl), (hT.1 a 23 (by rw [ha]; decide)).trans (by rw [ha]; rfl), (hT.1 a 7 (by rw [ha]; decide)).trans (by rw [ha]; rfl)⟩
theorem tb_M.rd (hT : q_T X) (ha : q_kd X a = 12) (M : tb_M X a τ n B c w t f9 f10) (h : tkl (tn_S2 a) (tn_L a) τ τ') : tb_M X a τ' n B c w t f9 f10 := by
  obtain ⟨m1, m2, m3, m4, m5, m6⟩ := M
  obtain ⟨k1, k2, k3, k4⟩ := tb_k hT ha
  refine ⟨m1.k2 h, ?_, ?_, fun j j0 j1 => ?_, ?_, ?_⟩
  · rw [← m2]; funext j
    exact congrArg Int32.toInt (h.1 _ _ (fun q => m_ne k1 ha (by decide) q.1))
  · rw [← m3]; funext j
    exact congrArg Int64.toInt (h.2.1 _ _ (fun q => m_ne k3 ha (by decide) q.1))
  · rw [h.1 _ _ (fun q => m_ne k2 ha (by decide) q.1)]; exact m4 j j0 j1
  · rw [h.1 a 25 (fun q => absurd q.2.2 (by decide))]; exact m5
  · rw [h.1 a 26 (fun q => absurd q.2.2 (by decide)), h.1 a 0 (fun q => absurd q.2.1 (by decide)), h.1 a 8 (fun q => absurd q.2.1 (by decide))]; exact m6
/-- the token's cells are the same -/
def tl_same (a : Nat) (τ τ' : ST) : Prop := (∀ f, 12 ≤ f → f ≤ 18 → τ'.1 a f = τ.1 a f) ∧ τ'.2.1 a 19 = τ.2.1 a 19
def tl_sameC (R : Nat) (σ σ' : ST) : Prop := ∀ f, 2 ≤ f → f ≤ 7 → σ'.1 R f = σ.1 R f
theorem tl_K.same {R : Nat} (K : tl_K σ R τ a B n) (hc : tl_sameC R σ σ') (hm : tl_same a τ τ') : tl_K σ' R τ' a B n := by
  unfold tl_K at K ⊢
  rw [hc 2 (by decide) (by decide), hc 3 (by decide) (by decide), hc 4 (by decide) (by decide), hc 5 (by decide) (by decide), hc 6 (by decide) (by decide), hc 7 (by decide) (by decide), hm.1 14 (by decide) (by decide), hm.1 15 (by decide) (by decide), hm.1 16 (by decide) (by decide), hm.1 17 (by decide) (by decide), hm.1 18 (by decide) (by decide), hm.2]
  exact K
theorem tl_same.rf : tl_same a τ τ := ⟨fun _ _ _ => rfl, rfl⟩
theorem tl_sameC.rf {R : Nat} : tl_sameC R σ σ := fun _ _ _ => rfl
theorem tl_sameC.W {o : Nat} {V' : Nat → Int → Int} {R : Nat} (h : y_W X lb g o σ σ' V') (hR : lb R / 8192 ≠ o) : tl_sameC R σ σ' := fun f _ _ => h.1 R hR f
/-- the table's cell at A becomes v -/
def m_up (c : Int → Int) (A v : Int) : Int → Int := fun j => if j = A then v else c j
theorem m_c_neg (X : XW) (σ : ST) (a : Nat) {j : Int} (h : j < 0) : m_c X σ a j = m_c X σ a 0 := by
  unfold m_c
  have e : j.toNat = (0 : Int).toNat := by show j.toNat = 0; omega
  rw [e]
theorem m_c_up (A : Int) (hA : 1 ≤ A) {i v : Int32} (h : i.toInt = A) : m_c X (q_si τ (q_rf X a 20) i.toNatClampNeg v) a = m_up (m_c X τ a) A v.toInt := by
  funext j
  by_cases q : 0 ≤ j
  · exact m_wr (X := X) (a := a) rfl h (by omega) j q
  · rw [m_c_neg _ _ _ (by omega), m_wr (X := X) (a := a) rfl h (by omega) 0 (Int.le_refl 0), if_neg (by omega)]
    unfold m_up
    rw [if_neg (by omega)]
    exact (m_c_neg X τ a (by omega)).symm
theorem tb_M.cw (hT : q_T X) (ha : q_kd X a = 12) (M : tb_M X a τ n B c w t f9 f10) {i v : Int32} {A : Int} (hi : i.toInt = A) (hA : 1 ≤ A) : tb_M X a (q_si τ (q_rf X a 20) i.toNatClampNeg v) n B (m_up c A v.toInt) w t f9 f10 ∧ tl_same a τ (q_si τ (q_rf X a 20) i.toNatClampNeg v) := by
  obtain ⟨m1, m2, m3, m4, m5, m6⟩ := M
  obtain ⟨k1, k2, k3, k4⟩ := tb_k hT ha
  have na : a ≠ q_rf X a 20 := Ne.symm (m_ne k1 ha (by decide))
  have k : tkl (fun b f => b = q_rf X a 20) (fun _ _ => False) τ (q_si τ (q_rf X a 20) i.toNatClampNeg v) := tkl.rf.si _ rfl
  refine ⟨⟨m1.k k (fun b f q => ⟨fun e => m_ne k1 k4 (by decide) (q.symm.trans e), fun e => na (e.1.symm.trans q)⟩), ?_, m3, fun j j0 j1 => ?_, ?_, ?_⟩, fun f _ _ => k.1 a f na, rfl⟩
  · rw [m_c_up A hA hi, m2]
  · rw [k.1 _ _ (m_ne k2 k1 (by decide))]; exact m4 j j0 j1
  · rw [k.1 a 25 na]; exact m5
  · rw [k.1 a 26 na, k.1 a 0 na, k.1 a 8 na]; exact m6
theorem tb_M.s9 (hT : q_T X) (ha : q_kd X a = 12) (M : tb_M X a τ n B c w t f9 f10) (v : Int32) : tb_M X a (q_si τ a 25 v) n B c w t v.toInt f10 ∧ tl_same a τ (q_si τ a 25 v) := by
  obtain ⟨m1, m2, m3, m4, m5, m6⟩ := M
  obtain ⟨k1, k2, k3, k4⟩ := tb_k hT ha
  have k : tkl (fun b f => b = a ∧ f = 25) (fun _ _ => False) τ (q_si τ a 25 v) := tkl.rf.si _ ⟨rfl, rfl⟩
  refine ⟨⟨m1.k k (fun b f q => ⟨fun e => m_ne k4 ha (by decide) (e.symm.trans q.1), fun e => absurd q.2 (by rw [e.2]; decide)⟩), ?_, m3, fun j j0 j1 => ?_, ?_, ?_⟩, fun f _ f2 => k.1 a f (fun q => by have := q.2; omega), rfl⟩
  · rw [← m2]; funext j
    exact congrArg Int32.toInt (k.1 _ _ (fun q => m_ne k1 ha (by decide) q.1))
  · rw [k.1 _ _ (fun q => m_ne k2 ha (by decide) q.1)]; exact m4 j j0 j1
  · rw [si_eq]
  · rw [si_f (by decide), si_f (by decide), si_f (by decide)]; exact m6
theorem tb_M.s10 (hT : q_T X) (ha : q_kd X a = 12) (M : tb_M X a τ n B c w t f9 f10) (v : Int32) : tb_M X a (q_si τ a 26 v) n B c w t f9 v.toInt ∧ tl_same a τ (q_si τ a 26 v) := by
  obtain ⟨m1, m2, m3, m4, m5, m6⟩ := M
  obtain ⟨k1, k2, k3, k4⟩ := tb_k hT ha
  have k : tkl (fun b f => b = a ∧ f = 26) (fun _ _ => False) τ (q_si τ a 26 v) := tkl.rf.si _ ⟨rfl, rfl⟩
  refine ⟨⟨m1.k k (fun b f q => ⟨fun e => m_ne k4 ha (by decide) (e.symm.trans q.1), fun e => absurd q.2 (by rw [e.2]; decide)⟩), ?_, m3, fun j j0 j1 => ?_, ?_, ?_⟩, fun f _ f2 => k.1 a f (fun q => by have := q.2; omega), rfl⟩
  · rw [← m2]; funext j
    exact congrArg Int32.toInt (k.1 _ _ (fun q => m_ne k1 ha (by decide) q.1))
  · rw [k.1 _ _ (fun q => m_ne k2 ha (by decide) q.1)]; exact m4 j j0 j1
  · rw [si_f (by decide)]; exact m5
  · exact ⟨by rw [si_eq], by rw [si_f (by decide)]; exact m6.2.1, by rw [si_f (by decide)]; exact m6.2.2⟩
theorem tb_M.told (hT : q_T X) (ha : q_kd X a = 12) (M : tb_M X a τ n B c w t f9 f10) {i v : Int32} {A : Int} (hi : i.toInt = A) (hA : 0 ≤ A ∧ A < 60) : tb_M X a (q_si τ (q_rf X a 22) i.toNatClampNeg v) n B c w (m_up t A v.toInt) f9 f10 ∧ tl_same a τ (q_si τ (q_rf X a 22) i.toNatClampNeg v) := by
  obtain ⟨m1, m2, m3, m4, m5, m6⟩ := M
  obtain ⟨k1, k2, k3, k4⟩ := tb_k hT ha
  have na : a ≠ q_rf X a 22 := Ne.symm (m_ne k2 ha (by decide))
  have k : tkl (fun b f => b = q_rf X a 22) (fun _ _ => False) τ (q_si τ (q_rf X a 22) i.toNatClampNeg v) := tkl.rf.si _ rfl
  refine ⟨⟨m1.k k (fun b f q => ⟨fun e => m_ne k2 k4 (by decide) (q.symm.trans e), fun e => na (e.1.symm.trans q)⟩), ?_, m3, fun j j0 j1 => ?_, ?_, ?_⟩, fun f _ _ => k.1 a f na, rfl⟩
  · rw [← m2]; funext j
    exact congrArg Int32.toInt (k.1 _ _ (m_ne k1 k2 (by decide)))
  · show (if q_rf X a 22 = q_rf X a 22 ∧ j.toNat = i.toNatClampNeg then v else τ.1 (q_rf X a 22) j.toNat).toInt = if j = A then v.toInt else t j
    by_cases q : j = A
    · rw [if_pos q, if_pos ⟨rfl, by rw [ar_cl, hi, q]⟩]
    · rw [if_neg q, if_neg (fun z => q (by have := z.2; rw [ar_cl, hi] at this; omega))]; exact m4 j j0 j1
  · rw [k.1 a 25 na]; exact m5
  · rw [k.1 a 26 na, k.1 a 0 na, k.1 a 8 na]; exact m6
theorem tb_M.word (hT : q_T X) (ha : q_kd X a = 12) (M : tb_M X a τ n B c w t f9 f10) {i : Int32} {v : Int64} {A : Int} (hi : i.toInt = A) (hA : 1 ≤ A) : tb_M X a (q_sl τ (q_rf X a 23) i.toNatClampNeg v) n B c (m_up w A v.toInt) t f9 f10 ∧ tl_same a τ (q_sl τ (q_rf X a 23) i.toNatClampNeg v) := by
  obtain ⟨m1, m2, m3, m4, m5, m6⟩ := M
  obtain ⟨k1, k2, k3, k4⟩ := tb_k hT ha
  have na : a ≠ q_rf X a 23 := Ne.symm (m_ne k3 ha (by decide))
  refine ⟨⟨m1, m2, ?_, m4, m5, m6⟩, fun f _ _ => rfl, q_sl_ne na 19⟩
  rw [← m3]
  funext j
  show (if q_rf X a 23 = q_rf X a 23 ∧ j.toNat = i.toNatClampNeg then v else τ.2.1 (q_rf X a 23) j.toNat).toInt = if j = A then v.toInt else (τ.2.1 (q_rf X a 23) j.toNat).toInt
  by_cases q : j = A
  · rw [if_pos q, if_pos ⟨rfl, by rw [ar_cl, hi, q]⟩]
  · rw [if_neg q]
    by_cases q2 : j.toNat = i.toNatClampNeg
    · rw [ar_cl, hi] at q2
      exact absurd (by omega : j = A) q
    · rw [if_neg (fun z => q2 z.2)]
end TB
