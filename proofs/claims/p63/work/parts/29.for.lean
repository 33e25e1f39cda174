/-! copies, changed rows, forecasts -/
section FOR
variable {M N : Mm} {r : Rw}
theorem CS.eqv {a b : Nat} {M' : Mm} (h : CS M b r) (e1 : M' a 9 = M b 9) (e2 : M' a 10 = M b 10) (e3 : M' a 11 = M b 11) (e4 : M' a 12 = M b 12) (e5 : ∀ q, q < 9 → ∀ k, k < 20 → M' (a + 1 + q) k = M (b + 1 + q) k) (hr : r 0 ≤ 20) : CS M' a r := by
  obtain ⟨h0, h1, h2, h3, h4, h5⟩ := h
  refine ⟨e1.trans h0, e2.trans h1, e3.trans h2, e4.trans h3, fun i hi => by rw [e5 2 (by decide) i hi]; exact h4 i hi, fun i hi => ?_⟩
  have := h5 i hi
  unfold CL at this ⊢
  rw [e5 0 (by decide) i (by omega), e5 1 (by decide) i (by omega), e5 2 (by decide) i (by omega), e5 3 (by decide) i (by omega), e5 4 (by decide) i (by omega), e5 5 (by decide) i (by omega), e5 6 (by decide) i (by omega), e5 7 (by decide) i (by omega), e5 8 (by decide) i (by omega)]
  exact this
theorem cp_step {a b i : Nat} (M : Mm) (hab : b + 9 < a ∨ a + 9 < b) (M9 : Mm)
    (e : M9 = (wr (wr (wr (wr (wr (wr (wr (wr (wr M (a + 1 + 0) i (M (b + 1 + 0) i)) (a + 1 + 1) i (M (b + 1 + 1) i)) (a + 1 + 2) i (M (b + 1 + 2) i)) (a + 1 + 3) i (M (b + 1 + 3) i)) (a + 1 + 4) i (M (b + 1 + 4) i)) (a + 1 + 5) i (M (b + 1 + 5) i)) (a + 1 + 6) i (M (b + 1 + 6) i)) (a + 1 + 7) i (M (b + 1 + 7) i)) (a + 1 + 8) i (M (b + 1 + 8) i))) :
    (∀ q, q < 9 → M9 (a + 1 + q) i = M (b + 1 + q) i) ∧ (∀ c k, ¬ k = i ∨ c < a + 1 ∨ a + 10 ≤ c → M9 c k = M c k) := by
  subst e
  constructor
  · intro q hq
    rcases (show q = 0 ∨ q = 1 ∨ q = 2 ∨ q = 3 ∨ q = 4 ∨ q = 5 ∨ q = 6 ∨ q = 7 ∨ q = 8 by omega) with c | c | c | c | c | c | c | c | c <;> subst c <;> simp [wr]
  · intro c k hk
    simp only [wr]
    rw [if_neg (by omega), if_neg (by omega), if_neg (by omega), if_neg (by omega), if_neg (by omega), if_neg (by omega), if_neg (by omega), if_neg (by omega), if_neg (by omega)]
theorem c_copy34 {a b : Nat} (hab : b + 9 < a ∨ a + 9 < b) : ∀ (d i f : Nat) (M : Mm), d + i = 20 → d < f → (∀ k, k < 20 → isZ (M (b + 1 + 2) k)) → (∀ q, q < 9 → ∀ k, k < i → M (a + 1 + q) k = M (b + 1 + q) k) →
    ∃ M', f_S_copyFrom_34 a b f (oN i) M = some M' ∧ (∀ q, q < 9 → ∀ k, k < 20 → M' (a + 1 + q) k = M (b + 1 + q) k) ∧ (∀ c k, c < a + 1 ∨ a + 10 ≤ c → M' c k = M c k) := by
  intro d
  induction d with
  | zero =>
    intro i f M hd hf hz hi
    obtain ⟨f, rfl⟩ : ∃ g, f = g + 1 := ⟨f - 1, by omega⟩
    rw [f_S_copyFrom_34, show (20 : Int32) = oN 20 from rfl, if_pos (by rw [oN_le (by omega) (by omega)]; omega)]
    exact ⟨M, rfl, fun q hq k hk => hi q hq k (by omega), fun _ _ _ => rfl⟩
  | succ d ih =>
    intro i f M hd hf hz hi
    obtain ⟨f, rfl⟩ : ∃ g, f = g + 1 := ⟨f - 1, by omega⟩
    have h20 : iin (oN i) 20 := (iin_oN (by omega)).mpr (by omega)
    rw [f_S_copyFrom_34, show (20 : Int32) = oN 20 from rfl, if_neg (by rw [oN_le (by omega) (by omega)]; omega), chk_t h20, oI (by omega)]
    simp only [bm_s]
    rw [chk_t (by
      rw [wr_n (by omega), wr_n (by omega)]
      exact hz i (by omega)), oN_S]
    obtain ⟨g1, g2⟩ := cp_step (a := a) (b := b) (i := i) M hab _ rfl
    have e1 : (wr M (a + 1 + 0) i (M (b + 1 + 0) i)) (b + 1 + 1) i = M (b + 1 + 1) i := wr_n (by omega)
    rw [e1]
    have e2 : (wr (wr M (a + 1 + 0) i (M (b + 1 + 0) i)) (a + 1 + 1) i (M (b + 1 + 1) i)) (b + 1 + 2) i = M (b + 1 + 2) i := by rw [wr_n (by omega), wr_n (by omega)]
    rw [e2]
    have e3 : ∀ X : Mm, X = (wr (wr (wr M (a + 1 + 0) i (M (b + 1 + 0) i)) (a + 1 + 1) i (M (b + 1 + 1) i)) (a + 1 + 2) i (M (b + 1 + 2) i)) → X (b + 1 + 3) i = M (b + 1 + 3) i := by
      intro X hX; rw [hX, wr_n (by omega), wr_n (by omega), wr_n (by omega)]
    rw [e3 _ rfl]
    have e4 : ∀ X : Mm, X = (wr (wr (wr (wr M (a + 1 + 0) i (M (b + 1 + 0) i)) (a + 1 + 1) i (M (b + 1 + 1) i)) (a + 1 + 2) i (M (b + 1 + 2) i)) (a + 1 + 3) i (M (b + 1 + 3) i)) → X (b + 1 + 4) i = M (b + 1 + 4) i := by
      intro X hX; rw [hX, wr_n (by omega), wr_n (by omega), wr_n (by omega), wr_n (by omega)]
    rw [e4 _ rfl]
    have e5 : ∀ X : Mm, X = (wr (wr (wr (wr (wr M (a + 1 + 0) i (M (b + 1 + 0) i)) (a + 1 + 1) i (M (b + 1 + 1) i)) (a + 1 + 2) i (M (b + 1 + 2) i)) (a + 1 + 3) i (M (b + 1 + 3) i)) (a + 1 + 4) i (M (b + 1 + 4) i)) → X (b + 1 + 5) i = M (b + 1 + 5) i := by
      intro X hX; rw [hX, wr_n (by omega), wr_n (by omega), wr_n (by omega), wr_n (by omega), wr_n (by omega)]
    rw [e5 _ rfl]
    have e6 : ∀ X : Mm, X = (wr (wr (wr (wr (wr (wr M (a + 1 + 0) i (M (b + 1 + 0) i)) (a + 1 + 1) i (M (b + 1 + 1) i)) (a + 1 + 2) i (M (b + 1 + 2) i)) (a + 1 + 3) i (M (b + 1 + 3) i)) (a + 1 + 4) i (M (b + 1 + 4) i)) (a + 1 + 5) i (M (b + 1 + 5) i)) → X (b + 1 + 6) i = M (b + 1 + 6) i := by
      intro X hX; rw [hX, wr_n (by omega), wr_n (by omega), wr_n (by omega), wr_n (by omega), wr_n (by omega), wr_n (by omega)]
    rw [e6 _ rfl]
    have e7 : ∀ X : Mm, X = (wr (wr (wr (wr (wr (wr (wr M (a + 1 + 0) i (M (b + 1 + 0) i)) (a + 1 + 1) i (M (b + 1 + 1) i)) (a + 1 + 2) i (M (b + 1 + 2) i)) (a + 1 + 3) i (M (b + 1 + 3) i)) (a + 1 + 4) i (M (b + 1 + 4) i)) (a + 1 + 5) i (M (b + 1 + 5) i)) (a + 1 + 6) i (M (b + 1 + 6) i)) → X (b + 1 + 7) i = M (b + 1 + 7) i := by
      intro X hX; rw [hX, wr_n (by omega), wr_n (by omega), wr_n (by omega), wr_n (by omega), wr_n (by omega), wr_n (by omega), wr_n (by omega)]
    rw [e7 _ rfl]
    have e8 : ∀ X : Mm, X = (wr (wr (wr (wr (wr (wr (wr (wr M (a + 1 + 0) i (M (b + 1 + 0) i)) (a + 1 + 1) i (M (b + 1 + 1) i)) (a + 1 + 2) i (M (b + 1 + 2) i)) (a + 1 + 3) i (M (b + 1 + 3) i)) (a + 1 + 4) i (M (b + 1 + 4) i)) (a + 1 + 5) i (M (b + 1 + 5) i)) (a + 1 + 6) i (M (b + 1 + 6) i)) (a + 1 + 7) i (M (b + 1 + 7) i)) → X (b + 1 + 8) i = M (b + 1 + 8) i := by
      intro X hX; rw [hX, wr_n (by omega), wr_n (by omega), wr_n (by omega), wr_n (by omega), wr_n (by omega), wr_n (by omega), wr_n (by omega), wr_n (by omega)]
    rw [e8 _ rfl]
    generalize hM9 : (wr (wr (wr (wr (wr (wr (wr (wr (wr M (a + 1 + 0) i (M (b + 1 + 0) i)) (a + 1 + 1) i (M (b + 1 + 1) i)) (a + 1 + 2) i (M (b + 1 + 2) i)) (a + 1 + 3) i (M (b + 1 + 3) i)) (a + 1 + 4) i (M (b + 1 + 4) i)) (a + 1 + 5) i (M (b + 1 + 5) i)) (a + 1 + 6) i (M (b + 1 + 6) i)) (a + 1 + 7) i (M (b + 1 + 7) i)) (a + 1 + 8) i (M (b + 1 + 8) i)) = M9 at g1 g2 ⊢
    obtain ⟨M', h1, h2, h3⟩ := ih (i + 1) f M9 (by omega) (by omega) (fun k hk => by rw [g2 _ _ (by omega)]; exact hz k hk) (fun q hq k hk => by
      by_cases c : k = i
      · subst c
        rw [g1 q hq, g2 _ _ (by omega)]
      · rw [g2 _ _ (Or.inl c), g2 _ _ (Or.inl c)]; exact hi q hq k (by omega))
    refine ⟨M', h1, fun q hq k hk => ?_, fun c k hc => ?_⟩
    · rw [h2 q hq k hk, g2 _ _ (by omega)]
    · rw [h3 c k hc, g2 _ _ (by omega)]
theorem c_copy {a b : Nat} (hab : b + 9 < a ∨ a + 9 < b) (v : V r) (h : CS M b r) : ∃ M', f_S_copyFrom a b M = some M' ∧ CS M' a r := by
  have hz := r3_Z v
  unfold f_S_copyFrom
  simp only [bm_s]
  have n : ∀ j x (X : Mm), (wr X a j x) b = X b := fun j x X => by
    funext k
    exact wr_n (by omega)
  have e1 : ∀ j x, (wr M a j x) b = M b := fun j x => n j x M
  rw [e1]
  simp only [n]
  rw [h.2.2.2.1, chk_t hz]
  obtain ⟨M', h1, h2, h3⟩ := c_copy34 hab 20 0 fu (wr (wr (wr (wr M a 9 (M b 9)) a 10 (M b 10)) a 11 (M b 11)) a 12 (oN (r 3))) (by omega) (by unfold fu; omega) (fun k hk => by
    rw [wr_n (by omega), wr_n (by omega), wr_n (by omega), wr_n (by omega)]
    exact h.2.2.2.2.1 k hk) (fun q hq k hk => absurd hk (Nat.not_lt_zero k))
  refine ⟨M', h1, h.eqv (a := a) ?_ ?_ ?_ ?_ (fun q hq k hk => ?_) v.1⟩
  · rw [h3 _ _ (by omega)]; simp [wr]
  · rw [h3 _ _ (by omega)]; simp [wr]
  · rw [h3 _ _ (by omega)]; simp [wr]
  · rw [h3 _ _ (by omega)]; simp [wr, h.2.2.2.1]
  · rw [h2 q hq k hk, wr_n (by omega), wr_n (by omega), wr_n (by omega), wr_n (by omega)]
/-- a row with one place changed -/
def up (r : Rw) (k x : Nat) : Rw := fun j => if j = k then x else r j
theorem up_s (r : Rw) (k x : Nat) : up r k x k = x := if_pos rfl
theorem up_n {r : Rw} {k x j : Nat} (h : j ≠ k) : up r k x j = r j := if_neg h
theorem MS.up {k x : Nat} {y : Int32} (h : MS N 135 0 r) (e : y = oN x) : MS (wr N 135 k y) 135 0 (up r k x) := by
  intro j hj
  rw [Nat.zero_add]
  by_cases c : j = k
  · subst c; rw [wr_s, up_s, e]
  · rw [wr_n (by omega), up_n c]; exact m_at h hj
theorem up_back {k x : Nat} (h : r k = x) (y : Nat) : ∀ j, up (up r k y) k x j = r j := by
  intro j
  by_cases c : j = k
  · subst c; rw [up_s, h]
  · rw [up_n c, up_n c]
theorem MS.cg {c off : Nat} {r r' : Rw} (h : MS N c off r) (e : ∀ j, j < 284 → r' j = r j) : MS N c off r' := fun k hk => by rw [e k hk]; exact h k hk
/-- a leg of a row with another head or another leg changed -/
theorem VL.cg {r r' : Rw} {i : Nat} (h : VL r i) (e : ∀ j, j < 14 → r' (4 + 14 * i + j) = r (4 + 14 * i + j)) : VL r' i := by
  unfold VL at h ⊢
  have e0 := e 0 (by decide)
  have e1 := e 1 (by decide)
  have e2 := e 2 (by decide)
  have e3 := e 3 (by decide)
  have e4 := e 4 (by decide)
  have e5 := e 5 (by decide)
  have e6 := e 6 (by decide)
  have e7 := e 7 (by decide)
  rw [e0, e1, e2, e3, e4, e5, e6, e7]
  obtain ⟨h1, h2, h3, h4, h5, h6, h7, h8, h9, h10, h11⟩ := h
  refine ⟨h1, h2, h3, h4, h5, h6, h7, h8, h9, h10, fun j hj => ?_⟩
  have := e (8 + j) (by omega)
  rw [← Nat.add_assoc] at this
  rw [this]; exact h11 j hj
theorem nmN_cg {r r' : Rw} {i : Nat} (v : VL r i) (e : ∀ j, j < 14 → r' (4 + 14 * i + j) = r (4 + 14 * i + j)) : nmN r' i = nmN r i := by
  unfold nmN
  rw [e 7 (by decide)]
  refine pk_cg _ (fun k hk => ?_)
  have h6 := v.2.2.2.2.2.2.2.2.2.1
  have := e (8 + k) (by omega)
  rw [← Nat.add_assoc] at this
  exact this
theorem CL.cg {r r' : Rw} {a i : Nat} {M M' : Mm} (v : VL r i) (h : CL M a r i) (e : ∀ j, j < 14 → r' (4 + 14 * i + j) = r (4 + 14 * i + j)) (eM : ∀ q, q < 9 → M' (a + 1 + q) i = M (a + 1 + q) i) : CL M' a r' i := by
  unfold CL at h ⊢
  rw [nmN_cg v e, e 0 (by decide), e 1 (by decide), e 2 (by decide), e 3 (by decide), e 4 (by decide), e 5 (by decide), e 6 (by decide), eM 0 (by decide), eM 1 (by decide), eM 2 (by decide), eM 3 (by decide), eM 4 (by decide), eM 5 (by decide), eM 6 (by decide), eM 7 (by decide), eM 8 (by decide)]
  exact h
/-- the dropped pins of a leg -/
theorem V.drop {i x : Nat} (v : V r) (hi : i < r 0) (hx : x ≤ 9) (hb : r (4 + 14 * i + 6) = 0) : V (up r (4 + 14 * i + 3) x) := by
  obtain ⟨h0, h1, h2, h3, h4, h5⟩ := v
  refine ⟨?_, ?_, ?_, ?_, ?_, fun j hj => ?_⟩
  · rw [up_n (by omega)]; exact h0
  · rw [up_n (by omega)]; exact h1
  · rw [up_n (by omega)]; exact h2
  · rw [up_n (by omega)]; exact h3
  · rw [up_n (by omega)]; exact h4
  · rw [up_n (by omega)] at hj
    by_cases c : j = i
    · subst c
      obtain ⟨q0, q1, q2, q3, q4, q5, q6, q7, q8, q9, q10⟩ := h5 j hj
      refine ⟨?_, ?_, ?_, ?_, ?_, ?_, ?_, ?_, ?_, ?_, fun k hk => ?_⟩
      · rw [up_n (by omega)]; exact q0
      · rw [up_n (by omega)]; exact q1
      · rw [up_n (by omega)]; exact q2
      · rw [up_s]; exact hx
      · rw [up_n (by omega)]; exact q4
      · rw [up_n (by omega)]; exact q5
      · rw [up_n (by omega)]; exact q6
      · rw [up_n (by omega)]; intro z; exact absurd hb z
      · rw [up_n (by omega)]; exact q8
      · rw [up_n (by omega)]; exact q9
      · rw [up_n (by omega)] at hk
        rw [up_n (by omega)]; exact q10 k hk
    · exact (h5 j hj).cg (fun k hk => up_n (by omega))
theorem CS.drop {a i x : Nat} {y : Int32} (v : V r) (h : CS M a r) (hi : i < r 0) (e : y = oN x) : CS (wr M (a + 1 + 6) i y) a (up r (4 + 14 * i + 3) x) := by
  obtain ⟨h0, h1, h2, h3, h4, h5⟩ := h
  refine ⟨?_, ?_, ?_, ?_, fun j hj => ?_, fun j hj => ?_⟩
  · rw [wr_n (by omega), up_n (by omega)]; exact h0
  · rw [wr_n (by omega), up_n (by omega)]; exact h1
  · rw [wr_n (by omega), up_n (by omega)]; exact h2
  · rw [wr_n (by omega), up_n (by omega)]; exact h3
  · rw [wr_n (by omega)]; exact h4 j hj
  · rw [up_n (by omega)] at hj
    by_cases c : j = i
    · subst c
      obtain ⟨q0, q1, q2, q3, q4, q5, q6, q7, q8⟩ := h5 j hj
      have h6 := (v.2.2.2.2.2 j hj).2.2.2.2.2.2.2.2.2.1
      refine ⟨?_, ?_, ?_, ?_, ?_, ?_, ?_, ?_, ?_⟩
      · rw [wr_n (by omega), q0]
        unfold nmN
        rw [up_n (by omega)]
        exact congrArg oN (pk_cg _ (fun k hk => (up_n (by omega)).symm))
      · rw [wr_n (by omega), up_n (by omega)]; exact q1
      · rw [wr_n (by omega), up_n (by omega)]; exact q2
      · rw [wr_n (by omega), up_n (by omega)]; exact q3
      · rw [wr_n (by omega), up_n (by omega)]; exact q4
      · rw [wr_n (by omega), up_n (by omega)]; exact q5
      · rw [wr_s, up_s, e]
      · rw [wr_n (by omega), up_n (by omega)]; exact q7
      · rw [wr_n (by omega), up_n (by omega), up_n (by omega)]; exact q8
    · exact (h5 j hj).cg (v.2.2.2.2.2 j hj) (fun k hk => up_n (by omega)) (fun q hq => wr_n (by omega))
/-- the pace -/
theorem V.pace {x : Nat} (v : V r) (h1 : 100 ≤ x) (h2 : x ≤ 999) : V (up r 2 x) := by
  obtain ⟨h0, h1, h2, h3, h4, h5⟩ := v
  refine ⟨?_, ?_, ?_, ?_, ?_, fun j hj => ?_⟩
  · rw [up_n (by omega)]; exact h0
  · rw [up_n (by omega)]; exact h1
  · rw [up_s]; omega
  · rw [up_s]; omega
  · rw [up_n (by omega)]; exact h4
  · rw [up_n (by omega)] at hj
    exact (h5 j hj).cg (fun k hk => up_n (by omega))
/-- the misclosure of a row -/
def msW (r : Rw) : Int32 := dW (eW r (r 0)) (nW r (r 0))
/-- one more pin dropped -/
def upD (r : Rw) (i : Nat) : Rw := up r (4 + 14 * i + 3) (r (4 + 14 * i + 3) + 1)
def mpW (r : Rw) (i : Nat) : Int32 := if r (4 + 14 * i + 6) = 0 then (if 9 ≤ r (4 + 14 * i + 3) then -1 else msW (upD r i)) else -1
theorem c_canDrop {a i : Nat} (h : CS M a r) (v : V r) (hi : i < r 0) : f_S_canDrop a M (oN i) = some (if r (4 + 14 * i + 6) = 0 then (if 9 ≤ r (4 + 14 * i + 3) then 0 else 1) else 0) := by
  have hv := v.1
  obtain ⟨n0, b1, z2, p3, p4, l5, d6, r7, t8⟩ := h.2.2.2.2.2 i hi
  have h3 := (v.2.2.2.2.2 i hi).2.2.2.1
  unfold f_S_canDrop f_S_canDrop_24 f_S_canDrop_25
  rw [chk_t (iin20 v hi), oI20 v hi, z2, d6]
  by_cases c : r (4 + 14 * i + 6) = 0
  · rw [if_pos c, if_pos rfl, if_pos c]
    by_cases c2 : 9 ≤ r (4 + 14 * i + 3)
    · rw [if_pos (show (9 : Int32) ≤ oN _ from (oN_le (a := 9) (by omega) (by omega)).mpr c2), if_pos c2, chk_t (by decide)]
    · rw [if_neg (show ¬ (9 : Int32) ≤ oN _ from fun q => c2 ((oN_le (a := 9) (by omega) (by omega)).mp q)), if_neg c2, chk_t (by decide)]
  · rw [if_neg c, if_neg (by decide), if_neg c, chk_t (by decide)]
theorem m_mayDrop {i : Nat} (h : MS N 135 0 r) (v : V r) (hi : i < r 0) : f_M_mayDrop N (oN i) = some (if r (4 + 14 * i + 6) = 0 then (if 9 ≤ r (4 + 14 * i + 3) then 0 else 1) else 0) := by
  have hv := v.1
  have h3 := (v.2.2.2.2.2 i hi).2.2.2.1
  unfold f_M_mayDrop f_M_mayDrop_23 f_M_mayDrop_24
  rw [m_bog h v hi, bn_s, m_of3 h (lt20 v hi), bn_s]
  by_cases c : r (4 + 14 * i + 6) = 0
  · rw [if_pos c, if_pos rfl, if_pos c]
    by_cases c2 : 9 ≤ r (4 + 14 * i + 3)
    · rw [if_pos (show (9 : Int32) ≤ oN _ from (oN_le (a := 9) (by omega) (by omega)).mpr c2), if_pos c2, chk_t (by decide)]
    · rw [if_neg (show ¬ (9 : Int32) ≤ oN _ from fun q => c2 ((oN_le (a := 9) (by omega) (by omega)).mp q)), if_neg c2, chk_t (by decide)]
  · rw [if_neg c, if_neg (by decide), if_neg c, chk_t (by decide)]
theorem m_put {i j : Nat} {x : Int32} (hi : i < 20) (hj : j < 14) : f_M_put (oN i) (oN j) x N = some (wr N 135 (4 + 14 * i + j) x) := by
  unfold f_M_put
  have e : (4 : Int32) + 14 * oN i + oN j = oN (4 + 14 * i + j) := by
    rw [oN_add, oN_add, oN_mul]; rfl
  rw [e, chk_t ((iin_oN (by omega)).mpr (by omega)), oI (by omega)]; rfl
theorem m_drops {i x : Nat} {y : Int32} (h : MS N 135 0 r) (hi : i < 20) (e : oN (r (4 + 14 * i + 3)) + y = oN x) : f_M_drops (oN i) y N = some (oN x, wr N 135 (4 + 14 * i + 3) (oN x)) ∧ MS (wr N 135 (4 + 14 * i + 3) (oN x)) 135 0 (up r (4 + 14 * i + 3) x) := by
  have hU : MS (wr N 135 (4 + 14 * i + 3) (oN x)) 135 0 (up r (4 + 14 * i + 3) x) := h.up rfl
  refine ⟨?_, hU⟩
  unfold f_M_drops
  rw [m_of3 h hi, bn_s, e, show (3 : Int32) = oN 3 from rfl, m_put hi (by decide), bn_s, m_of hU hi (by decide), bn_s, up_s]
theorem upD_V {i : Nat} (v : V r) (hi : i < r 0) (hb : r (4 + 14 * i + 6) = 0) (h9 : ¬ 9 ≤ r (4 + 14 * i + 3)) : V (upD r i) := v.drop hi (by omega) hb
theorem upD_0 (i : Nat) : upD r i 0 = r 0 := up_n (by omega)
/-- relation with the class's forecast survey written over -/
theorem RI.fc {l : List (Nat × Nat × Nat)} {M' : Mm} (h : RI M N) (g : Fr l M M') (e : dis l [(15, 24, 0), (0, 0, 12), (0, 0, 13), (34, 113, 0), (33, 33, 0), (114, 133, 0), (0, 0, 3), (3, 3, 0), (0, 0, 7), (14, 14, 0), (0, 0, 4), (0, 0, 5)] = true) (z : Z0 M') (d : DZ M') : RI M' N := by
  have f := Ag.of g e
  obtain ⟨⟨r, p⟩, u, s, t, o, e, _, c, _⟩ := h
  exact ⟨⟨r, p.ag (f.su (by rfl)) (Ag.rf _ _)⟩, u.ag (f.su (by rfl)) (Ag.rf _ _), s.ag (f.su (by rfl)) (Ag.rf _ _), t.ag (f.su (by rfl)) (Ag.rf _ _), o.ag (f.su (by rfl)) (Ag.rf _ _), e.ag (f.su (by rfl)) (Ag.rf _ _), z, c, d⟩
theorem c_pin {i : Nat} (h : RI M N) (p : PR M N r) (hi : i < r 0) : ∃ M1, f_C_misclosureWithPin (oN i) M = some (mpW r i, M1) ∧ RI M1 N ∧ PR M1 N r := by
  have hv := p.1.1
  obtain ⟨n0, b1, z2, p3, p4, l5, d6, r7, t8⟩ := p.2.1.2.2.2.2.2 i hi
  have h3 := (p.1.2.2.2.2.2 i hi).2.2.2.1
  unfold f_C_misclosureWithPin mpW
  rw [c_canDrop p.2.1 p.1 hi, bn_s]
  by_cases c : r (4 + 14 * i + 6) = 0
  · rw [if_pos c, if_pos c]
    by_cases c2 : 9 ≤ r (4 + 14 * i + 3)
    · rw [if_pos c2, if_pos c2, if_pos rfl]
      exact ⟨M, rfl, h, p⟩
    · rw [if_neg c2, if_neg c2, if_neg (by decide)]
      obtain ⟨M1, e1, cs1⟩ := c_copy (a := 4) (b := 15) (by omega) p.1 p.2.1
      have f1 := fr_S_copyFrom e1
      have hd : M1 11 i = oN (r (4 + 14 * i + 3)) := (cs1.2.2.2.2.2 i hi).2.2.2.2.2.2.1
      have v2 := upD_V p.1 hi c c2
      have cs2 : CS (wr M1 11 i (oN (r (4 + 14 * i + 3)) + 1)) 4 (upD r i) := cs1.drop p.1 hi (oN_S _)
      have f2 : Fr [(4, 13, 0)] M (wr M1 11 i (oN (r (4 + 14 * i + 3)) + 1)) := (f1.up (by rfl)).tr (fr_wr rfl (by rfl))
      obtain ⟨M2, e2, fo⟩ := c_follow (a := 4) (by decide) v2 cs2 ((f2 26 0 (by rfl)).trans h.z.1) ((f2 27 0 (by rfl)).trans h.z.2.1) ((f2 28 0 (by rfl)).trans h.z.2.2)
      have f3 : Fr [(4, 13, 0), (25, 25, 6), (26, 30, 0)] M M2 := (f2.up (by rfl)).tr ((fr_T_follow e2).up (by rfl))
      have fo : FO M2 (upD r i) := fo
      refine ⟨M2, ?_, ?_, ⟨p.1, p.2.1.fr f3 (by rfl), p.2.2⟩⟩
      · rw [e1, bn_s, chk_t (iin20 p.1 hi), oI20 p.1 hi, bm_s, hd, e2, bn_s, t_clos v2 fo]; rfl
      · refine h.fc f3 (by rfl) fo.z ?_
        intro k hk
        have e7 : M2 7 k = (wr M1 11 i (oN (r (4 + 14 * i + 3)) + 1)) 7 k := (fr_T_follow e2) 7 k (by rfl)
        rw [e7]
        exact cs2.2.2.2.2.1 k hk
  · rw [if_neg c, if_neg c, if_pos rfl]
    exact ⟨M, rfl, h, p⟩
theorem m_pin {i : Nat} (h : RI M N) (p : PR M N r) (hi : i < r 0) : ∃ N1, f_M_missIfDropped (oN i) N = some (mpW r i, N1) ∧ RI M N1 ∧ PR M N1 r ∧ N1 134 7 = N 134 7 := by
  have hv := p.1.1
  have h20 := lt20 p.1 hi
  have h3 := (p.1.2.2.2.2.2 i hi).2.2.2.1
  unfold f_M_missIfDropped mpW
  rw [m_mayDrop p.2.2 p.1 hi, bn_s]
  by_cases c : r (4 + 14 * i + 6) = 0
  · rw [if_pos c, if_pos c]
    by_cases c2 : 9 ≤ r (4 + 14 * i + 3)
    · rw [if_pos c2, if_pos c2, if_pos rfl]
      exact ⟨N, rfl, h, p, rfl⟩
    · rw [if_neg c2, if_neg c2, if_neg (by decide)]
      have v2 := upD_V p.1 hi c c2
      obtain ⟨d1, d2⟩ := m_drops p.2.2 h20 (oN_S (r (4 + 14 * i + 3)))
      have d2 : MS _ 135 0 (upD r i) := d2
      obtain ⟨N1, e1, k1⟩ := m_raw v2 d2 (fun k => by rw [wr_n (by omega)]; exact h.co k)
      have d3 := d2.fr (fr_M_findRaw e1) (by rfl)
      have e3 : oN (upD r i (4 + 14 * i + 3)) + (-1) = oN (r (4 + 14 * i + 3)) := by
        show oN (up r (4 + 14 * i + 3) (r (4 + 14 * i + 3) + 1) (4 + 14 * i + 3)) + (-1) = _
        rw [up_s, show oN (r (4 + 14 * i + 3) + 1) = oN (r (4 + 14 * i + 3)) + 1 from (oN_S _).symm, Int32.add_assoc]
        exact Int32.add_zero _
      obtain ⟨d4, d5⟩ := m_drops d3 h20 e3
      have d6 : MS _ 135 0 r := d5.cg (fun j _ => (up_back rfl _ j).symm)
      have hm : f_M_miss (wr N 135 (4 + 14 * i + 3) (oN (r (4 + 14 * i + 3) + 1))) = some (msW (upD r i), N1) := by
        unfold f_M_miss
        have hle : r 0 ≤ (upD r i) 0 := by rw [upD_0]; exact Nat.le_refl _
        have k2 := k1 _ (Nat.le_refl _)
        rw [e1, bn_s, show ix (0 : Int32) = 0 from rfl, m_at d3 (by decide), chk_t (iin21 v2 (Nat.le_refl _)), oI21 v2 (Nat.le_refl _), k2.2.1, k2.2.2, m_far (ew_bd v2 (Nat.le_refl _)).1 (ew_bd v2 (Nat.le_refl _)).2]; rfl
      have f9 : Fr [(135, 135, 0), (143, 145, 0)] N (wr N1 135 (4 + 14 * i + 3) (oN (r (4 + 14 * i + 3)))) := (fr_wr rfl (by rfl)).tr (((fr_M_findRaw e1).up (by rfl)).tr (fr_wr rfl (by rfl)))
      refine ⟨_, ?_, ?_, ⟨p.1, p.2.1, d6⟩, f9 134 7 (by rfl)⟩
      · rw [d1, bn2_s, hm, bn2_s, d4, bn2_s]
      · obtain ⟨_, u, s, t, o, e, z, co, dz⟩ := h
        have g := Ag.of (cs := [(134, 134, 7), (137, 137, 0), (138, 138, 0), (140, 140, 0), (134, 134, 15), (141, 141, 0), (134, 134, 16), (142, 142, 0), (134, 134, 17), (134, 134, 18), (146, 146, 0)]) f9 (by rfl)
        exact ⟨⟨r, p.1, p.2.1, d6⟩, u.ag (Ag.rf _ _) (g.su (by rfl)), s.ag (Ag.rf _ _) (g.su (by rfl)), t.ag (Ag.rf _ _) (g.su (by rfl)), o.ag (Ag.rf _ _) (g.su (by rfl)), e.ag (Ag.rf _ _) (g.su (by rfl)), z, co.ag (g.su (by rfl)), dz⟩
  · rw [if_neg c, if_neg c, if_pos rfl]
    exact ⟨N, rfl, h, p, rfl⟩
theorem s_misclosureIfDropped (h : RI M N) (l : Int32) : ∃ o v M1 N1, f_C_misclosureIfDropped l M = some (o, M1) ∧ f_M_misclosureIfDropped l N = some (v, N1) ∧ RI M1 N1 ∧ An 3 9 o v (N1 134 7) := by
  obtain ⟨r, p⟩ := h.1
  unfold f_C_misclosureIfDropped f_M_misclosureIfDropped f_M_misclosureIfDropped_17
  rcases c_leg p.1 p.2.1 l with ⟨i, hi, e, hc⟩ | ⟨hi, hc⟩
  · obtain ⟨M1, e1, e2, e3⟩ := c_pin h p hi
    obtain ⟨N1, g1, g2, g3, g4⟩ := m_pin (e2.n7 0) (e3.n7 0) hi
    refine ⟨.inr (mpW r i), mpW r i, M1, N1, ?_, ?_, g2, rfl, g4.trans (wr_s _ _ _ _)⟩
    · rw [hc, e]
      show bn2 _ _ = _
      rw [e1]; rfl
    · rw [m_bad_y p.1 p.2.2 ⟨i, hi, e⟩, bn2_s, if_pos rfl, e, g1]; rfl
  · refine ⟨.inl 3, 0, M, wr N 134 7 1, ?_, ?_, h.n7 1, Or.inl ⟨rfl, wr_s _ _ _ _⟩⟩
    · rw [hc]; rfl
    · rw [m_bad_n p.1 p.2.2 hi, bn2_s, if_neg (by decide)]
theorem susp : ∀ (d i f1 f2 : Nat) (l1 l2 : Int32) (M N : Mm), RI M N → PR M N r → d + i = r 0 → d < f1 → d < f2 → ∃ v M1 N1, f_C_suspectLeg_12 f1 l1 l2 (oN i) M = some (v, M1) ∧ f_M_suspectLeg_14 f2 l1 l2 (oN i) N = some (v, N1) ∧ RI M1 N1 := by
  intro d
  induction d with
  | zero =>
    intro i f1 f2 l1 l2 M N h p hd h1 h2
    have hv := p.1.1
    obtain ⟨f1, rfl⟩ : ∃ g, f1 = g + 1 := ⟨f1 - 1, by omega⟩
    obtain ⟨f2, rfl⟩ : ∃ g, f2 = g + 1 := ⟨f2 - 1, by omega⟩
    have hc : oN (r 0) ≤ oN i := by rw [oN_le (by omega) (by omega)]; omega
    rw [f_C_suspectLeg_12, f_M_suspectLeg_14, p.2.1.1, show ix (0 : Int32) = 0 from rfl, m_at p.2.2 (by decide), if_pos hc, if_pos hc]
    exact ⟨_, _, _, rfl, rfl, h⟩
  | succ d ih =>
    intro i f1 f2 l1 l2 M N h p hd h1 h2
    have hv := p.1.1
    have hi : i < r 0 := by omega
    obtain ⟨f1, rfl⟩ : ∃ g, f1 = g + 1 := ⟨f1 - 1, by omega⟩
    obtain ⟨f2, rfl⟩ : ∃ g, f2 = g + 1 := ⟨f2 - 1, by omega⟩
    have hc : ¬ oN (r 0) ≤ oN i := by rw [oN_le (by omega) (by omega)]; omega
    obtain ⟨M1, e1, e2, e3⟩ := c_pin h p hi
    obtain ⟨N1, g1, g2, g3, g4⟩ := m_pin e2 e3 hi
    rw [f_C_suspectLeg_12, f_M_suspectLeg_14, p.2.1.1, show ix (0 : Int32) = 0 from rfl, m_at p.2.2 (by decide), if_neg hc, if_neg hc, e1, g1, bn2_s, bn2_s]
    unfold f_C_suspectLeg_47 f_M_suspectLeg_51
    rw [oN_S]
    by_cases c : mpW r i = -1
    · rw [if_pos c, if_pos c]
      exact ih (i + 1) f1 f2 _ _ _ _ g2 g3 (by omega) (by omega) (by omega)
    · rw [if_neg c, if_neg c]
      by_cases c2 : l2 ≤ mpW r i
      · rw [if_pos c2, if_neg (i_nl.mpr c2)]
        exact ih (i + 1) f1 f2 _ _ _ _ g2 g3 (by omega) (by omega) (by omega)
      · rw [if_neg c2, if_pos (i_nle.mp c2)]
        exact ih (i + 1) f1 f2 _ _ _ _ g2 g3 (by omega) (by omega) (by omega)
theorem s_suspectLeg (h : RI M N) : ∃ v M1 N1, f_C_suspectLeg M = some (v, M1) ∧ f_M_suspectLeg N = some (v, N1) ∧ RI M1 N1 := by
  obtain ⟨r, p⟩ := h.1
  obtain ⟨M1, e1, e2, e3, fo⟩ := c_fo h p
  obtain ⟨N1, f1, f2, f3, f4, f5⟩ := m_missQ (e2.n7 0) (e3.n7 0)
  unfold f_C_suspectLeg f_M_suspectLeg
  rw [e1, bn_s, t_clos p.1 fo, bn_s, bm_s, f1, bn2_s]
  exact susp (r 0) 0 fu fu _ _ M1 N1 f2 f3 (by omega) (by have := p.1.1; unfold fu; omega) (by have := p.1.1; unfold fu; omega)
end FOR
