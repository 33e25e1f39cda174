/-! what cells the printed functions may change (by program) -/
def inT (l : List (Nat × Nat × Nat)) (b k : Nat) : Bool := l.any fun q => Nat.ble q.1 b && (Nat.ble b q.2.1 && (q.2.2 == 0 || q.2.2 == k + 1))
def Fr (l : List (Nat × Nat × Nat)) (M M' : Mm) : Prop := ∀ b k, inT l b k = false → M' b k = M b k
theorem Fr.rf (l : List (Nat × Nat × Nat)) (M : Mm) : Fr l M M := fun _ _ _ => rfl
theorem Fr.tr {l : List (Nat × Nat × Nat)} {M M1 M2 : Mm} (h : Fr l M M1) (h2 : Fr l M1 M2) : Fr l M M2 := fun b k q => (h2 b k q).trans (h b k q)
def frle (q r : Nat × Nat × Nat) : Bool := Nat.ble r.1 q.1 && (Nat.ble q.2.1 r.2.1 && (r.2.2 == 0 || r.2.2 == q.2.2))
theorem Fr.up {l L : List (Nat × Nat × Nat)} {M M' : Mm} (h : Fr l M M') (hs : (l.all fun q => L.any fun r => frle q r) = true) : Fr L M M' := by
  intro b k q
  apply h b k
  unfold inT at q ⊢
  rw [List.any_eq_false] at q ⊢
  intro x hx hx2
  have h1 := List.all_eq_true.mp hs x hx
  obtain ⟨r, hr, h2⟩ := List.any_eq_true.mp h1
  apply q r hr
  unfold frle at h2
  simp only [Bool.and_eq_true, Bool.or_eq_true, beq_iff_eq, Nat.ble_eq] at h2 hx2 ⊢
  omega
theorem fr_wr {l : List (Nat × Nat × Nat)} {M M1 : Mm} {a k : Nat} {x : Int32} (e : M1 = wr M a k x) (h : inT l a k = true) : Fr l M M1 := by
  subst e
  intro b j q
  refine wr_n ?_
  rintro ⟨rfl, rfl⟩
  rw [h] at q; cases q
theorem fr_wrJ {l : List (Nat × Nat × Nat)} {M M1 : Mm} {a : Nat} {x : Int64} (e : M1 = wrJ M a x) (h : ∀ k, inT l a k = true) : Fr l M M1 :=
  (fr_wr rfl (h 0)).tr (fr_wr (by rw [e]; rfl) (h 1))
theorem fr_zr {l : List (Nat × Nat × Nat)} {M M1 : Mm} {a : Nat} (e : M1 = zr M a) (h : ∀ k, inT l a k = true) : Fr l M M1 := by
  subst e
  intro b j q
  unfold zr
  by_cases c : b = a
  · subst c; rw [h j] at q; cases q
  · rw [if_neg c]
theorem fr_cpy {l : List (Nat × Nat × Nat)} {M M1 : Mm} {a sp b dp n : Nat} (e : M1 = cpy M a sp b dp n) (h : ∀ k, inT l b k = true) : Fr l M M1 := by
  subst e
  intro q j hq
  unfold cpy
  by_cases c : q = b
  · subst c; rw [h j] at hq; cases hq
  · rw [if_neg (fun z => c z.1)]
theorem ite_i {α : Type} {p : Prop} [Decidable p] {a b : Option α} {o : α} (h : (if p then a else b) = some o) : (p ∧ a = some o) ∨ (¬ p ∧ b = some o) := by
  by_cases c : p
  · rw [if_pos c] at h; exact Or.inl ⟨c, h⟩
  · rw [if_neg c] at h; exact Or.inr ⟨c, h⟩
theorem chkX {α : Type} {p : Prop} [Decidable p] {k : Option α} {o : α} (h : chk p k = some o) : k = some o := (chk_i h).2
theorem fr_one {l : List (Nat × Nat × Nat)} {a lo hi : Nat} {M M' : Mm} (h : Fr [(a, a + 9, 0)] M M') (h1 : lo ≤ a) (h2 : a + 9 ≤ hi) (h3 : l.elem (lo, hi, 0) = true) : Fr l M M' := by
  intro b k q
  apply h b k
  unfold inT at q ⊢
  rw [List.any_eq_false] at q ⊢
  intro x hx hx2
  have := List.mem_singleton.mp hx
  subst this
  apply q _ (List.elem_iff.mp h3)
  simp only [Bool.and_eq_true, Bool.or_eq_true, beq_iff_eq, Nat.ble_eq] at hx2 ⊢
  exact ⟨Nat.le_trans h1 hx2.1, Nat.le_trans hx2.2.1 h2, Or.inl trivial⟩
theorem iin_lt8 {i : Int32} {n : Nat} (h : iin i n) : ix i < n := Nat.not_le.mp fun q => h (Or.inr q)
theorem fr_L_advance_258 {M : Mm} {M9 : Mm} (h : f_L_advance_258 M = some M9) : Fr [] M M9 := by
  unfold f_L_advance_258 at h
  cases h
  exact Fr.rf _ _
theorem fr_L_advance_157_i : ∀ (n : Nat) (M : Mm) (M9 : Mm), f_L_advance_157 n M = some M9 → Fr [(2, 2, 5), (2, 2, 6)] M M9 := by
  intro n; induction n with
  | zero => intro _ _ h; cases h
  | succ n ih =>
    intro M M9 h
    rw [f_L_advance_157] at h
    rcases ite_i h with ⟨-, h⟩ | ⟨-, h⟩
    ·
      exact (Fr.up (fr_L_advance_258 h) (by first | rfl | decide +kernel | (simp [inT, frle] <;> omega) | (simp [inT, frle]; omega)))
    ·
      have h := (chk_i h).2
      obtain ⟨_, e1, h⟩ := bn_i h
      rcases ite_i h with ⟨-, h⟩ | ⟨-, h⟩
      ·
        exact (Fr.up (fr_L_advance_258 h) (by first | rfl | decide +kernel | (simp [inT, frle] <;> omega) | (simp [inT, frle]; omega)))
      ·
        obtain ⟨M209, e2, h⟩ := bm_i h
        obtain ⟨M219, e3, h⟩ := bm_i h
        exact ((fr_wr e2 (by first | rfl | (intro _; rfl) | (simp [inT, frle] <;> omega) | (simp [inT, frle]; omega) | (intro _; simp [inT, frle]; omega))).tr ((fr_wr e3 (by first | rfl | (intro _; rfl) | (simp [inT, frle] <;> omega) | (simp [inT, frle]; omega) | (intro _; simp [inT, frle]; omega))).tr (ih _ _ h)))
theorem fr_L_advance_157 {n : Nat} {M : Mm} {M9 : Mm} (h : f_L_advance_157 n M = some M9) : Fr [(2, 2, 5), (2, 2, 6)] M M9 := fr_L_advance_157_i n _ _ h
theorem fr_L_advance_245 {t1 : Int32} {M : Mm} {M9 : Mm} (h : f_L_advance_245 t1 M = some M9) : Fr [(2, 2, 3), (2, 2, 5)] M M9 := by
  unfold f_L_advance_245 at h
  obtain ⟨M245, e4, h⟩ := bm_i h
  obtain ⟨M255, e5, h⟩ := bm_i h
  exact ((fr_wr e4 (by first | rfl | (intro _; rfl) | (simp [inT, frle] <;> omega) | (simp [inT, frle]; omega) | (intro _; simp [inT, frle]; omega))).tr ((fr_wr e5 (by first | rfl | (intro _; rfl) | (simp [inT, frle] <;> omega) | (simp [inT, frle]; omega) | (intro _; simp [inT, frle]; omega))).tr (Fr.up (fr_L_advance_258 h) (by first | rfl | decide +kernel | (simp [inT, frle] <;> omega) | (simp [inT, frle]; omega)))))
theorem fr_L_advance_93_i : ∀ (n : Nat) (M : Mm) (M9 : Mm), f_L_advance_93 n M = some M9 → Fr [(2, 2, 5)] M M9 := by
  intro n; induction n with
  | zero => intro _ _ h; cases h
  | succ n ih =>
    intro M M9 h
    rw [f_L_advance_93] at h
    rcases ite_i h with ⟨-, h⟩ | ⟨-, h⟩
    ·
      exact (Fr.up (fr_L_advance_258 h) (by first | rfl | decide +kernel | (simp [inT, frle] <;> omega) | (simp [inT, frle]; omega)))
    ·
      have h := (chk_i h).2
      obtain ⟨_, e6, h⟩ := bn_i h
      rcases ite_i h with ⟨-, h⟩ | ⟨-, h⟩
      ·
        exact (Fr.up (fr_L_advance_258 h) (by first | rfl | decide +kernel | (simp [inT, frle] <;> omega) | (simp [inT, frle]; omega)))
      ·
        obtain ⟨M126, e7, h⟩ := bm_i h
        exact ((fr_wr e7 (by first | rfl | (intro _; rfl) | (simp [inT, frle] <;> omega) | (simp [inT, frle]; omega) | (intro _; simp [inT, frle]; omega))).tr (ih _ _ h))
theorem fr_L_advance_93 {n : Nat} {M : Mm} {M9 : Mm} (h : f_L_advance_93 n M = some M9) : Fr [(2, 2, 5)] M M9 := fr_L_advance_93_i n _ _ h
theorem fr_L_advance_46 {M : Mm} {M9 : Mm} (h : f_L_advance_46 M = some M9) : Fr [(2, 2, 3), (2, 2, 5), (2, 2, 6)] M M9 := by
  unfold f_L_advance_46 at h
  obtain ⟨M51, e8, h⟩ := bm_i h
  rcases ite_i h with ⟨-, h⟩ | ⟨-, h⟩
  ·
    have h := (chk_i h).2
    obtain ⟨_, e9, h⟩ := bn_i h
    rcases ite_i h with ⟨-, h⟩ | ⟨-, h⟩
    ·
      obtain ⟨_, e10, h⟩ := bn_i h
      rcases ite_i h with ⟨-, h⟩ | ⟨-, h⟩
      ·
        rcases ite_i h with ⟨-, h⟩ | ⟨-, h⟩
        ·
          exact ((fr_wr e8 (by first | rfl | (intro _; rfl) | (simp [inT, frle] <;> omega) | (simp [inT, frle]; omega) | (intro _; simp [inT, frle]; omega))).tr (Fr.up (fr_L_advance_245 h) (by first | rfl | decide +kernel | (simp [inT, frle] <;> omega) | (simp [inT, frle]; omega))))
        ·
          exact ((fr_wr e8 (by first | rfl | (intro _; rfl) | (simp [inT, frle] <;> omega) | (simp [inT, frle]; omega) | (intro _; simp [inT, frle]; omega))).tr (Fr.up (fr_L_advance_245 h) (by first | rfl | decide +kernel | (simp [inT, frle] <;> omega) | (simp [inT, frle]; omega))))
      ·
        obtain ⟨M149, e11, h⟩ := bm_i h
        obtain ⟨M154, e12, h⟩ := bm_i h
        exact ((fr_wr e8 (by first | rfl | (intro _; rfl) | (simp [inT, frle] <;> omega) | (simp [inT, frle]; omega) | (intro _; simp [inT, frle]; omega))).tr ((fr_wr e11 (by first | rfl | (intro _; rfl) | (simp [inT, frle] <;> omega) | (simp [inT, frle]; omega) | (intro _; simp [inT, frle]; omega))).tr ((fr_wr e12 (by first | rfl | (intro _; rfl) | (simp [inT, frle] <;> omega) | (simp [inT, frle]; omega) | (intro _; simp [inT, frle]; omega))).tr (Fr.up (fr_L_advance_157 h) (by first | rfl | decide +kernel | (simp [inT, frle] <;> omega) | (simp [inT, frle]; omega))))))
    ·
      obtain ⟨M90, e13, h⟩ := bm_i h
      exact ((fr_wr e8 (by first | rfl | (intro _; rfl) | (simp [inT, frle] <;> omega) | (simp [inT, frle]; omega) | (intro _; simp [inT, frle]; omega))).tr ((fr_wr e13 (by first | rfl | (intro _; rfl) | (simp [inT, frle] <;> omega) | (simp [inT, frle]; omega) | (intro _; simp [inT, frle]; omega))).tr (Fr.up (fr_L_advance_93 h) (by first | rfl | decide +kernel | (simp [inT, frle] <;> omega) | (simp [inT, frle]; omega)))))
  ·
    obtain ⟨M67, e14, h⟩ := bm_i h
    exact ((fr_wr e8 (by first | rfl | (intro _; rfl) | (simp [inT, frle] <;> omega) | (simp [inT, frle]; omega) | (intro _; simp [inT, frle]; omega))).tr ((fr_wr e14 (by first | rfl | (intro _; rfl) | (simp [inT, frle] <;> omega) | (simp [inT, frle]; omega) | (intro _; simp [inT, frle]; omega))).tr (Fr.up (fr_L_advance_258 h) (by first | rfl | decide +kernel | (simp [inT, frle] <;> omega) | (simp [inT, frle]; omega)))))
theorem fr_L_advance_8_i : ∀ (n : Nat) (M : Mm) (M9 : Mm), f_L_advance_8 n M = some M9 → Fr [(2, 2, 3), (2, 2, 4), (2, 2, 5), (2, 2, 6)] M M9 := by
  intro n; induction n with
  | zero => intro _ _ h; cases h
  | succ n ih =>
    intro M M9 h
    rw [f_L_advance_8] at h
    rcases ite_i h with ⟨-, h⟩ | ⟨-, h⟩
    ·
      exact (Fr.up (fr_L_advance_46 h) (by first | rfl | decide +kernel | (simp [inT, frle] <;> omega) | (simp [inT, frle]; omega)))
    ·
      have h := (chk_i h).2
      rcases ite_i h with ⟨-, h⟩ | ⟨-, h⟩
      ·
        obtain ⟨M40, e15, h⟩ := bm_i h
        exact ((fr_wr e15 (by first | rfl | (intro _; rfl) | (simp [inT, frle] <;> omega) | (simp [inT, frle]; omega) | (intro _; simp [inT, frle]; omega))).tr (ih _ _ h))
      ·
        exact (Fr.up (fr_L_advance_46 h) (by first | rfl | decide +kernel | (simp [inT, frle] <;> omega) | (simp [inT, frle]; omega)))
theorem fr_L_advance_8 {n : Nat} {M : Mm} {M9 : Mm} (h : f_L_advance_8 n M = some M9) : Fr [(2, 2, 3), (2, 2, 4), (2, 2, 5), (2, 2, 6)] M M9 := fr_L_advance_8_i n _ _ h
theorem fr_L_advance {M : Mm} {M9 : Mm} (h : f_L_advance M = some M9) : Fr [(2, 2, 3), (2, 2, 4), (2, 2, 5), (2, 2, 6)] M M9 := by
  unfold f_L_advance at h
  obtain ⟨M5, e16, h⟩ := bm_i h
  exact ((fr_wr e16 (by first | rfl | (intro _; rfl) | (simp [inT, frle] <;> omega) | (simp [inT, frle]; omega) | (intro _; simp [inT, frle]; omega))).tr (Fr.up (fr_L_advance_8 h) (by first | rfl | decide +kernel | (simp [inT, frle] <;> omega) | (simp [inT, frle]; omega))))
theorem fr_L_begin {l1 : Int32} {M : Mm} {M9 : Mm} (h : f_L_begin l1 M = some M9) : Fr [(2, 2, 2), (2, 2, 3), (2, 2, 4), (2, 2, 5), (2, 2, 6)] M M9 := by
  unfold f_L_begin at h
  obtain ⟨M10, e17, h⟩ := bm_i h
  obtain ⟨M15, e18, h⟩ := bm_i h
  obtain ⟨M19, e19, h⟩ := bn_i h
  cases h
  exact ((fr_wr e17 (by first | rfl | (intro _; rfl) | (simp [inT, frle] <;> omega) | (simp [inT, frle]; omega) | (intro _; simp [inT, frle]; omega))).tr ((fr_wr e18 (by first | rfl | (intro _; rfl) | (simp [inT, frle] <;> omega) | (simp [inT, frle]; omega) | (intro _; simp [inT, frle]; omega))).tr (Fr.up (fr_L_advance e19) (by first | rfl | decide +kernel | (simp [inT, frle] <;> omega) | (simp [inT, frle]; omega)))))
theorem fr_I_begin {l1 : Int32} {M : Mm} {M9 : Mm} (h : f_I_begin l1 M = some M9) : Fr [(1, 1, 4), (1, 1, 5), (2, 2, 2), (2, 2, 3), (2, 2, 4), (2, 2, 5), (2, 2, 6)] M M9 := by
  unfold f_I_begin at h
  obtain ⟨M2, e20, h⟩ := bm_i h
  obtain ⟨M7, e21, h⟩ := bm_i h
  obtain ⟨M15, e22, h⟩ := bn_i h
  cases h
  exact ((fr_wr e20 (by first | rfl | (intro _; rfl) | (simp [inT, frle] <;> omega) | (simp [inT, frle]; omega) | (intro _; simp [inT, frle]; omega))).tr ((fr_wr e21 (by first | rfl | (intro _; rfl) | (simp [inT, frle] <;> omega) | (simp [inT, frle]; omega) | (intro _; simp [inT, frle]; omega))).tr (Fr.up (fr_L_begin e22) (by first | rfl | decide +kernel | (simp [inT, frle] <;> omega) | (simp [inT, frle]; omega)))))
theorem fr_I_fail {l1 : Int32} {M : Mm} {w9 : Int32} {M9 : Mm} (h : f_I_fail l1 M = some (w9, M9)) : Fr [(1, 1, 4), (1, 1, 5)] M M9 := by
  unfold f_I_fail at h
  obtain ⟨M2, e23, h⟩ := bm_i h
  obtain ⟨M13, e24, h⟩ := bm_i h
  cases h
  exact ((fr_wr e23 (by first | rfl | (intro _; rfl) | (simp [inT, frle] <;> omega) | (simp [inT, frle]; omega) | (intro _; simp [inT, frle]; omega))).tr (fr_wr e24 (by first | rfl | (intro _; rfl) | (simp [inT, frle] <;> omega) | (simp [inT, frle]; omega) | (intro _; simp [inT, frle]; omega))))
theorem fr_S_clear {a : Nat} {M : Mm} {M9 : Mm} (h : f_S_clear a M = some M9) : Fr [(a, a + 9, 0)] M M9 := by
  unfold f_S_clear at h
  obtain ⟨M2, e25, h⟩ := bm_i h
  obtain ⟨M7, e26, h⟩ := bm_i h
  cases h
  exact ((fr_wr e25 (by first | rfl | (intro _; rfl) | (simp [inT, frle] <;> omega) | (simp [inT, frle]; omega) | (intro _; simp [inT, frle]; omega))).tr (fr_wr e26 (by first | rfl | (intro _; rfl) | (simp [inT, frle] <;> omega) | (simp [inT, frle]; omega) | (intro _; simp [inT, frle]; omega))))
theorem fr_I_numberHere {l1 : Int32} {l2 : Int32} {M : Mm} {w9 : Int32} {M9 : Mm} (h : f_I_numberHere l1 l2 M = some (w9, M9)) : Fr [(1, 1, 4), (1, 1, 5), (2, 2, 3), (2, 2, 4), (2, 2, 5), (2, 2, 6)] M M9 := by
  unfold f_I_numberHere at h
  rcases ite_i h with ⟨-, h⟩ | ⟨-, h⟩
  ·
    obtain ⟨_, e27, h⟩ := bn_i h
    rcases ite_i h with ⟨-, h⟩ | ⟨-, h⟩
    ·
      obtain ⟨_, M38, e28, h⟩ := bn2_i h
      cases h
      exact (Fr.up (fr_I_fail e28) (by first | rfl | decide +kernel | (simp [inT, frle] <;> omega) | (simp [inT, frle]; omega)))
    ·
      obtain ⟨M48, e29, h⟩ := bn_i h
      cases h
      exact (Fr.up (fr_L_advance e29) (by first | rfl | decide +kernel | (simp [inT, frle] <;> omega) | (simp [inT, frle]; omega)))
  ·
    obtain ⟨_, M13, e30, h⟩ := bn2_i h
    cases h
    exact (Fr.up (fr_I_fail e30) (by first | rfl | decide +kernel | (simp [inT, frle] <;> omega) | (simp [inT, frle]; omega)))
theorem fr_I_readsWear {M : Mm} {w9 : Int32} {M9 : Mm} (h : f_I_readsWear M = some (w9, M9)) : Fr [(1, 1, 4), (1, 1, 5), (2, 2, 3), (2, 2, 4), (2, 2, 5), (2, 2, 6), (4, 4, 0)] M M9 := by
  unfold f_I_readsWear at h
  obtain ⟨_, M5, e31, h⟩ := bn2_i h
  rcases ite_i h with ⟨-, h⟩ | ⟨-, h⟩
  ·
    cases h
    exact (Fr.up (fr_I_numberHere e31) (by first | rfl | decide +kernel | (simp [inT, frle] <;> omega) | (simp [inT, frle]; omega)))
  ·
    obtain ⟨M21, e32, h⟩ := bm_i h
    cases h
    exact ((Fr.up (fr_I_numberHere e31) (by first | rfl | decide +kernel | (simp [inT, frle] <;> omega) | (simp [inT, frle]; omega))).tr (fr_wr e32 (by first | rfl | (intro _; rfl) | (simp [inT, frle] <;> omega) | (simp [inT, frle]; omega) | (intro _; simp [inT, frle]; omega))))
theorem fr_I_readsPace {M : Mm} {w9 : Int32} {M9 : Mm} (h : f_I_readsPace M = some (w9, M9)) : Fr [(1, 1, 4), (1, 1, 5), (2, 2, 3), (2, 2, 4), (2, 2, 5), (2, 2, 6), (4, 4, 0)] M M9 := by
  unfold f_I_readsPace at h
  obtain ⟨_, M6, e33, h⟩ := bn2_i h
  rcases ite_i h with ⟨-, h⟩ | ⟨-, h⟩
  ·
    cases h
    exact (Fr.up (fr_I_numberHere e33) (by first | rfl | decide +kernel | (simp [inT, frle] <;> omega) | (simp [inT, frle]; omega)))
  ·
    obtain ⟨M22, e34, h⟩ := bm_i h
    cases h
    exact ((Fr.up (fr_I_numberHere e33) (by first | rfl | decide +kernel | (simp [inT, frle] <;> omega) | (simp [inT, frle]; omega))).tr (fr_wr e34 (by first | rfl | (intro _; rfl) | (simp [inT, frle] <;> omega) | (simp [inT, frle]; omega) | (intro _; simp [inT, frle]; omega))))
theorem fr_I_readsSemicolon {M : Mm} {w9 : Int32} {M9 : Mm} (h : f_I_readsSemicolon M = some (w9, M9)) : Fr [(1, 1, 4), (1, 1, 5), (2, 2, 3), (2, 2, 4), (2, 2, 5), (2, 2, 6)] M M9 := by
  unfold f_I_readsSemicolon at h
  rcases ite_i h with ⟨-, h⟩ | ⟨-, h⟩
  ·
    obtain ⟨M21, e35, h⟩ := bn_i h
    cases h
    exact (Fr.up (fr_L_advance e35) (by first | rfl | decide +kernel | (simp [inT, frle] <;> omega) | (simp [inT, frle]; omega)))
  ·
    obtain ⟨_, M13, e36, h⟩ := bn2_i h
    have h := (chk_i h).2
    cases h
    exact (Fr.up (fr_I_fail e36) (by first | rfl | decide +kernel | (simp [inT, frle] <;> omega) | (simp [inT, frle]; omega)))
theorem fr_I_readsHead_58 {t0 : Int32} {M : Mm} {w9 : Int32} {M9 : Mm} (h : f_I_readsHead_58 t0 M = some (w9, M9)) : Fr [] M M9 := by
  unfold f_I_readsHead_58 at h
  have h := (chk_i h).2
  cases h
  exact Fr.rf _ _
theorem fr_I_readsHead_57 {M : Mm} {w9 : Int32} {M9 : Mm} (h : f_I_readsHead_57 M = some (w9, M9)) : Fr [] M M9 := by
  unfold f_I_readsHead_57 at h
  exact (Fr.up (fr_I_readsHead_58 h) (by first | rfl | decide +kernel | (simp [inT, frle] <;> omega) | (simp [inT, frle]; omega)))
theorem fr_I_readsHead {M : Mm} {w9 : Int32} {M9 : Mm} (h : f_I_readsHead M = some (w9, M9)) : Fr [(1, 1, 4), (1, 1, 5), (2, 2, 3), (2, 2, 4), (2, 2, 5), (2, 2, 6), (4, 13, 0)] M M9 := by
  unfold f_I_readsHead at h
  obtain ⟨M4, e37, h⟩ := bn_i h
  obtain ⟨_, e38, h⟩ := bn_i h
  rcases ite_i h with ⟨-, h⟩ | ⟨-, h⟩
  ·
    obtain ⟨_, M21, e39, h⟩ := bn2_i h
    have h := (chk_i h).2
    cases h
    exact ((Fr.up (fr_S_clear e37) (by first | rfl | decide +kernel | (simp [inT, frle] <;> omega) | (simp [inT, frle]; omega))).tr (Fr.up (fr_I_fail e39) (by first | rfl | decide +kernel | (simp [inT, frle] <;> omega) | (simp [inT, frle]; omega))))
  ·
    obtain ⟨M29, e40, h⟩ := bn_i h
    obtain ⟨_, M33, e41, h⟩ := bn2_i h
    rcases ite_i h with ⟨-, h⟩ | ⟨-, h⟩
    ·
      exact ((Fr.up (fr_S_clear e37) (by first | rfl | decide +kernel | (simp [inT, frle] <;> omega) | (simp [inT, frle]; omega))).tr ((Fr.up (fr_L_advance e40) (by first | rfl | decide +kernel | (simp [inT, frle] <;> omega) | (simp [inT, frle]; omega))).tr ((Fr.up (fr_I_readsWear e41) (by first | rfl | decide +kernel | (simp [inT, frle] <;> omega) | (simp [inT, frle]; omega))).tr (Fr.up (fr_I_readsHead_57 h) (by first | rfl | decide +kernel | (simp [inT, frle] <;> omega) | (simp [inT, frle]; omega))))))
    ·
      obtain ⟨_, M40, e42, h⟩ := bn2_i h
      rcases ite_i h with ⟨-, h⟩ | ⟨-, h⟩
      ·
        exact ((Fr.up (fr_S_clear e37) (by first | rfl | decide +kernel | (simp [inT, frle] <;> omega) | (simp [inT, frle]; omega))).tr ((Fr.up (fr_L_advance e40) (by first | rfl | decide +kernel | (simp [inT, frle] <;> omega) | (simp [inT, frle]; omega))).tr ((Fr.up (fr_I_readsWear e41) (by first | rfl | decide +kernel | (simp [inT, frle] <;> omega) | (simp [inT, frle]; omega))).tr ((Fr.up (fr_I_readsPace e42) (by first | rfl | decide +kernel | (simp [inT, frle] <;> omega) | (simp [inT, frle]; omega))).tr (Fr.up (fr_I_readsHead_57 h) (by first | rfl | decide +kernel | (simp [inT, frle] <;> omega) | (simp [inT, frle]; omega)))))))
      ·
        obtain ⟨_, M47, e43, h⟩ := bn2_i h
        rcases ite_i h with ⟨-, h⟩ | ⟨-, h⟩
        ·
          exact ((Fr.up (fr_S_clear e37) (by first | rfl | decide +kernel | (simp [inT, frle] <;> omega) | (simp [inT, frle]; omega))).tr ((Fr.up (fr_L_advance e40) (by first | rfl | decide +kernel | (simp [inT, frle] <;> omega) | (simp [inT, frle]; omega))).tr ((Fr.up (fr_I_readsWear e41) (by first | rfl | decide +kernel | (simp [inT, frle] <;> omega) | (simp [inT, frle]; omega))).tr ((Fr.up (fr_I_readsPace e42) (by first | rfl | decide +kernel | (simp [inT, frle] <;> omega) | (simp [inT, frle]; omega))).tr ((Fr.up (fr_I_readsSemicolon e43) (by first | rfl | decide +kernel | (simp [inT, frle] <;> omega) | (simp [inT, frle]; omega))).tr (Fr.up (fr_I_readsHead_57 h) (by first | rfl | decide +kernel | (simp [inT, frle] <;> omega) | (simp [inT, frle]; omega))))))))
        ·
          exact ((Fr.up (fr_S_clear e37) (by first | rfl | decide +kernel | (simp [inT, frle] <;> omega) | (simp [inT, frle]; omega))).tr ((Fr.up (fr_L_advance e40) (by first | rfl | decide +kernel | (simp [inT, frle] <;> omega) | (simp [inT, frle]; omega))).tr ((Fr.up (fr_I_readsWear e41) (by first | rfl | decide +kernel | (simp [inT, frle] <;> omega) | (simp [inT, frle]; omega))).tr ((Fr.up (fr_I_readsPace e42) (by first | rfl | decide +kernel | (simp [inT, frle] <;> omega) | (simp [inT, frle]; omega))).tr ((Fr.up (fr_I_readsSemicolon e43) (by first | rfl | decide +kernel | (simp [inT, frle] <;> omega) | (simp [inT, frle]; omega))).tr (Fr.up (fr_I_readsHead_58 h) (by first | rfl | decide +kernel | (simp [inT, frle] <;> omega) | (simp [inT, frle]; omega))))))))
theorem fr_I_nameHere_51 {l1 : Int32} {M : Mm} {w9 : Int32} {M9 : Mm} (h : f_I_nameHere_51 l1 M = some (w9, M9)) : Fr [] M M9 := by
  unfold f_I_nameHere_51 at h
  cases h
  exact Fr.rf _ _
theorem fr_I_nameHere_39 {t0 : Int32} {M : Mm} {w9 : Int32} {M9 : Mm} (h : f_I_nameHere_39 t0 M = some (w9, M9)) : Fr [(1, 1, 4), (1, 1, 5)] M M9 := by
  unfold f_I_nameHere_39 at h
  rcases ite_i h with ⟨-, h⟩ | ⟨-, h⟩
  ·
    obtain ⟨_, M47, e44, h⟩ := bn2_i h
    exact ((Fr.up (fr_I_fail e44) (by first | rfl | decide +kernel | (simp [inT, frle] <;> omega) | (simp [inT, frle]; omega))).tr (Fr.up (fr_I_nameHere_51 h) (by first | rfl | decide +kernel | (simp [inT, frle] <;> omega) | (simp [inT, frle]; omega))))
  ·
    exact (Fr.up (fr_I_nameHere_51 h) (by first | rfl | decide +kernel | (simp [inT, frle] <;> omega) | (simp [inT, frle]; omega)))
theorem fr_I_nameHere {M : Mm} {w9 : Int32} {M9 : Mm} (h : f_I_nameHere M = some (w9, M9)) : Fr [(1, 1, 4), (1, 1, 5)] M M9 := by
  unfold f_I_nameHere at h
  rcases ite_i h with ⟨-, h⟩ | ⟨-, h⟩
  ·
    obtain ⟨_, e45, h⟩ := bn_i h
    exact (Fr.up (fr_I_nameHere_39 h) (by first | rfl | decide +kernel | (simp [inT, frle] <;> omega) | (simp [inT, frle]; omega)))
  ·
    exact (Fr.up (fr_I_nameHere_39 h) (by first | rfl | decide +kernel | (simp [inT, frle] <;> omega) | (simp [inT, frle]; omega)))
theorem fr_I_newName_69 {l1 : Int32} {M : Mm} {w9 : Int32} {M9 : Mm} (h : f_I_newName_69 l1 M = some (w9, M9)) : Fr [] M M9 := by
  unfold f_I_newName_69 at h
  cases h
  exact Fr.rf _ _
theorem fr_I_newName_57 {l1 : Int32} {M : Mm} {w9 : Int32} {M9 : Mm} (h : f_I_newName_57 l1 M = some (w9, M9)) : Fr [(2, 2, 3), (2, 2, 4), (2, 2, 5), (2, 2, 6)] M M9 := by
  unfold f_I_newName_57 at h
  rcases ite_i h with ⟨-, h⟩ | ⟨-, h⟩
  ·
    exact (Fr.up (fr_I_newName_69 h) (by first | rfl | decide +kernel | (simp [inT, frle] <;> omega) | (simp [inT, frle]; omega)))
  ·
    obtain ⟨M66, e46, h⟩ := bn_i h
    exact ((Fr.up (fr_L_advance e46) (by first | rfl | decide +kernel | (simp [inT, frle] <;> omega) | (simp [inT, frle]; omega))).tr (Fr.up (fr_I_newName_69 h) (by first | rfl | decide +kernel | (simp [inT, frle] <;> omega) | (simp [inT, frle]; omega))))
theorem fr_I_newName {M : Mm} {w9 : Int32} {M9 : Mm} (h : f_I_newName M = some (w9, M9)) : Fr [(1, 1, 4), (1, 1, 5), (2, 2, 3), (2, 2, 4), (2, 2, 5), (2, 2, 6)] M M9 := by
  unfold f_I_newName at h
  rcases ite_i h with ⟨-, h⟩ | ⟨-, h⟩
  ·
    obtain ⟨M24, e47, h⟩ := bn_i h
    obtain ⟨_, M28, e48, h⟩ := bn2_i h
    rcases ite_i h with ⟨-, h⟩ | ⟨-, h⟩
    ·
      exact ((Fr.up (fr_L_advance e47) (by first | rfl | decide +kernel | (simp [inT, frle] <;> omega) | (simp [inT, frle]; omega))).tr ((Fr.up (fr_I_nameHere e48) (by first | rfl | decide +kernel | (simp [inT, frle] <;> omega) | (simp [inT, frle]; omega))).tr (Fr.up (fr_I_newName_57 h) (by first | rfl | decide +kernel | (simp [inT, frle] <;> omega) | (simp [inT, frle]; omega)))))
    ·
      obtain ⟨_, e49, h⟩ := bn_i h
      rcases ite_i h with ⟨-, h⟩ | ⟨-, h⟩
      ·
        exact ((Fr.up (fr_L_advance e47) (by first | rfl | decide +kernel | (simp [inT, frle] <;> omega) | (simp [inT, frle]; omega))).tr ((Fr.up (fr_I_nameHere e48) (by first | rfl | decide +kernel | (simp [inT, frle] <;> omega) | (simp [inT, frle]; omega))).tr (Fr.up (fr_I_newName_57 h) (by first | rfl | decide +kernel | (simp [inT, frle] <;> omega) | (simp [inT, frle]; omega)))))
      ·
        obtain ⟨_, M51, e50, h⟩ := bn2_i h
        cases h
        exact ((Fr.up (fr_L_advance e47) (by first | rfl | decide +kernel | (simp [inT, frle] <;> omega) | (simp [inT, frle]; omega))).tr ((Fr.up (fr_I_nameHere e48) (by first | rfl | decide +kernel | (simp [inT, frle] <;> omega) | (simp [inT, frle]; omega))).tr (Fr.up (fr_I_fail e50) (by first | rfl | decide +kernel | (simp [inT, frle] <;> omega) | (simp [inT, frle]; omega)))))
  ·
    obtain ⟨_, M14, e51, h⟩ := bn2_i h
    cases h
    exact (Fr.up (fr_I_fail e51) (by first | rfl | decide +kernel | (simp [inT, frle] <;> omega) | (simp [inT, frle]; omega)))
theorem fr_I_mayTurnHere_37 {t0 : Int32} {M : Mm} {w9 : Int32} {M9 : Mm} (h : f_I_mayTurnHere_37 t0 M = some (w9, M9)) : Fr [] M M9 := by
  unfold f_I_mayTurnHere_37 at h
  have h := (chk_i h).2
  cases h
  exact Fr.rf _ _
theorem fr_I_mayTurnHere_32 {M : Mm} {w9 : Int32} {M9 : Mm} (h : f_I_mayTurnHere_32 M = some (w9, M9)) : Fr [] M M9 := by
  unfold f_I_mayTurnHere_32 at h
  exact (Fr.up (fr_I_mayTurnHere_37 h) (by first | rfl | decide +kernel | (simp [inT, frle] <;> omega) | (simp [inT, frle]; omega)))
theorem fr_I_mayTurnHere {M : Mm} {w9 : Int32} {M9 : Mm} (h : f_I_mayTurnHere M = some (w9, M9)) : Fr [(1, 1, 4), (1, 1, 5)] M M9 := by
  unfold f_I_mayTurnHere at h
  rcases ite_i h with ⟨-, h⟩ | ⟨-, h⟩
  ·
    obtain ⟨_, e52, h⟩ := bn_i h
    rcases ite_i h with ⟨-, h⟩ | ⟨-, h⟩
    ·
      obtain ⟨_, M26, e53, h⟩ := bn2_i h
      rcases ite_i h with ⟨-, h⟩ | ⟨-, h⟩
      ·
        exact ((Fr.up (fr_I_fail e53) (by first | rfl | decide +kernel | (simp [inT, frle] <;> omega) | (simp [inT, frle]; omega))).tr (Fr.up (fr_I_mayTurnHere_37 h) (by first | rfl | decide +kernel | (simp [inT, frle] <;> omega) | (simp [inT, frle]; omega))))
      ·
        exact ((Fr.up (fr_I_fail e53) (by first | rfl | decide +kernel | (simp [inT, frle] <;> omega) | (simp [inT, frle]; omega))).tr (Fr.up (fr_I_mayTurnHere_32 h) (by first | rfl | decide +kernel | (simp [inT, frle] <;> omega) | (simp [inT, frle]; omega))))
    ·
      exact (Fr.up (fr_I_mayTurnHere_32 h) (by first | rfl | decide +kernel | (simp [inT, frle] <;> omega) | (simp [inT, frle]; omega)))
  ·
    exact (Fr.up (fr_I_mayTurnHere_32 h) (by first | rfl | decide +kernel | (simp [inT, frle] <;> omega) | (simp [inT, frle]; omega)))
theorem fr_I_passes {w : Nat} {M : Mm} {w9 : Int32} {M9 : Mm} (h : f_I_passes w M = some (w9, M9)) : Fr [(2, 2, 3), (2, 2, 4), (2, 2, 5), (2, 2, 6)] M M9 := by
  unfold f_I_passes at h
  obtain ⟨_, e54, h⟩ := bn_i h
  rcases ite_i h with ⟨-, h⟩ | ⟨-, h⟩
  ·
    cases h
    exact Fr.rf _ _
  ·
    obtain ⟨M17, e55, h⟩ := bn_i h
    cases h
    exact (Fr.up (fr_L_advance e55) (by first | rfl | decide +kernel | (simp [inT, frle] <;> omega) | (simp [inT, frle]; omega)))
theorem fr_S_addChained {a : Nat} {l1 : Int32} {l2 : Int32} {l3 : Int32} {l4 : Int32} {l5 : Int32} {l6 : Int32} {l7 : Int32} {M : Mm} {M9 : Mm} (h : f_S_addChained a l1 l2 l3 l4 l5 l6 l7 M = some M9) : Fr [(a, a + 9, 0)] M M9 := by
  unfold f_S_addChained at h
  rcases ite_i h with ⟨-, h⟩ | ⟨-, h⟩
  ·
    have h := (chk_i h).2
    obtain ⟨M19, e56, h⟩ := bm_i h
    have h := (chk_i h).2
    obtain ⟨M29, e57, h⟩ := bm_i h
    have h := (chk_i h).2
    obtain ⟨M39, e58, h⟩ := bm_i h
    have h := (chk_i h).2
    obtain ⟨M49, e59, h⟩ := bm_i h
    have h := (chk_i h).2
    obtain ⟨M59, e60, h⟩ := bm_i h
    have h := (chk_i h).2
    obtain ⟨M70, e61, h⟩ := bm_i h
    have h := (chk_i h).2
    obtain ⟨M81, e62, h⟩ := bm_i h
    have h := (chk_i h).2
    obtain ⟨M92, e63, h⟩ := bm_i h
    have h := (chk_i h).2
    obtain ⟨M103, e64, h⟩ := bm_i h
    obtain ⟨M111, e65, h⟩ := bm_i h
    cases h
    exact ((fr_wr e56 (by first | rfl | (intro _; rfl) | (simp [inT, frle] <;> omega) | (simp [inT, frle]; omega) | (intro _; simp [inT, frle]; omega))).tr ((fr_wr e57 (by first | rfl | (intro _; rfl) | (simp [inT, frle] <;> omega) | (simp [inT, frle]; omega) | (intro _; simp [inT, frle]; omega))).tr ((fr_wr e58 (by first | rfl | (intro _; rfl) | (simp [inT, frle] <;> omega) | (simp [inT, frle]; omega) | (intro _; simp [inT, frle]; omega))).tr ((fr_wr e59 (by first | rfl | (intro _; rfl) | (simp [inT, frle] <;> omega) | (simp [inT, frle]; omega) | (intro _; simp [inT, frle]; omega))).tr ((fr_wr e60 (by first | rfl | (intro _; rfl) | (simp [inT, frle] <;> omega) | (simp [inT, frle]; omega) | (intro _; simp [inT, frle]; omega))).tr ((fr_wr e61 (by first | rfl | (intro _; rfl) | (simp [inT, frle] <;> omega) | (simp [inT, frle]; omega) | (intro _; simp [inT, frle]; omega))).tr ((fr_wr e62 (by first | rfl | (intro _; rfl) | (simp [inT, frle] <;> omega) | (simp [inT, frle]; omega) | (intro _; simp [inT, frle]; omega))).tr ((fr_wr e63 (by first | rfl | (intro _; rfl) | (simp [inT, frle] <;> omega) | (simp [inT, frle]; omega) | (intro _; simp [inT, frle]; omega))).tr ((fr_wr e64 (by first | rfl | (intro _; rfl) | (simp [inT, frle] <;> omega) | (simp [inT, frle]; omega) | (intro _; simp [inT, frle]; omega))).tr (fr_wr e65 (by first | rfl | (intro _; rfl) | (simp [inT, frle] <;> omega) | (simp [inT, frle]; omega) | (intro _; simp [inT, frle]; omega))))))))))))
  ·
    cases h
    exact Fr.rf _ _
theorem fr_I_readsChained_170 {M : Mm} {w9 : Int32} {M9 : Mm} (h : f_I_readsChained_170 M = some (w9, M9)) : Fr [] M M9 := by
  unfold f_I_readsChained_170 at h
  cases h
  exact Fr.rf _ _
theorem fr_I_readsChained_155 {l1 : Int32} {l2 : Int32} {l3 : Int32} {l4 : Int32} {l5 : Int32} {l6 : Int32} {t0 : Int32} {M : Mm} {w9 : Int32} {M9 : Mm} (h : f_I_readsChained_155 l1 l2 l3 l4 l5 l6 t0 M = some (w9, M9)) : Fr [(1, 1, 4), (1, 1, 5), (2, 2, 3), (2, 2, 4), (2, 2, 5), (2, 2, 6), (4, 13, 0)] M M9 := by
  unfold f_I_readsChained_155 at h
  rcases ite_i h with ⟨-, h⟩ | ⟨-, h⟩
  ·
    exact (Fr.up (fr_I_readsChained_170 h) (by first | rfl | decide +kernel | (simp [inT, frle] <;> omega) | (simp [inT, frle]; omega)))
  ·
    obtain ⟨_, M164, e66, h⟩ := bn2_i h
    rcases ite_i h with ⟨-, h⟩ | ⟨-, h⟩
    ·
      exact ((Fr.up (fr_I_readsSemicolon e66) (by first | rfl | decide +kernel | (simp [inT, frle] <;> omega) | (simp [inT, frle]; omega))).tr (Fr.up (fr_I_readsChained_170 h) (by first | rfl | decide +kernel | (simp [inT, frle] <;> omega) | (simp [inT, frle]; omega))))
    ·
      obtain ⟨M187, e67, h⟩ := bn_i h
      cases h
      exact ((Fr.up (fr_I_readsSemicolon e66) (by first | rfl | decide +kernel | (simp [inT, frle] <;> omega) | (simp [inT, frle]; omega))).tr (Fr.up (fr_S_addChained e67) (by first | rfl | decide +kernel | (simp [inT, frle] <;> omega) | (simp [inT, frle]; omega))))
theorem fr_I_readsChained_124 {l1 : Int32} {l2 : Int32} {l3 : Int32} {l4 : Int32} {l5 : Int32} {t0 : Int32} {M : Mm} {w9 : Int32} {M9 : Mm} (h : f_I_readsChained_124 l1 l2 l3 l4 l5 t0 M = some (w9, M9)) : Fr [(1, 1, 4), (1, 1, 5), (2, 2, 3), (2, 2, 4), (2, 2, 5), (2, 2, 6), (4, 13, 0)] M M9 := by
  unfold f_I_readsChained_124 at h
  rcases ite_i h with ⟨-, h⟩ | ⟨-, h⟩
  ·
    cases h
    exact Fr.rf _ _
  ·
    obtain ⟨_, M137, e68, h⟩ := bn2_i h
    rcases ite_i h with ⟨-, h⟩ | ⟨-, h⟩
    ·
      exact ((Fr.up (fr_I_passes e68) (by first | rfl | decide +kernel | (simp [inT, frle] <;> omega) | (simp [inT, frle]; omega))).tr (Fr.up (fr_I_readsChained_155 h) (by first | rfl | decide +kernel | (simp [inT, frle] <;> omega) | (simp [inT, frle]; omega))))
    ·
      obtain ⟨_, M147, e69, h⟩ := bn2_i h
      exact ((Fr.up (fr_I_passes e68) (by first | rfl | decide +kernel | (simp [inT, frle] <;> omega) | (simp [inT, frle]; omega))).tr ((Fr.up (fr_I_numberHere e69) (by first | rfl | decide +kernel | (simp [inT, frle] <;> omega) | (simp [inT, frle]; omega))).tr (Fr.up (fr_I_readsChained_155 h) (by first | rfl | decide +kernel | (simp [inT, frle] <;> omega) | (simp [inT, frle]; omega)))))
theorem fr_I_readsChained_93 {l1 : Int32} {l2 : Int32} {l3 : Int32} {l4 : Int32} {t0 : Int32} {M : Mm} {w9 : Int32} {M9 : Mm} (h : f_I_readsChained_93 l1 l2 l3 l4 t0 M = some (w9, M9)) : Fr [(1, 1, 4), (1, 1, 5), (2, 2, 3), (2, 2, 4), (2, 2, 5), (2, 2, 6), (4, 13, 0)] M M9 := by
  unfold f_I_readsChained_93 at h
  rcases ite_i h with ⟨-, h⟩ | ⟨-, h⟩
  ·
    cases h
    exact Fr.rf _ _
  ·
    obtain ⟨_, M106, e70, h⟩ := bn2_i h
    rcases ite_i h with ⟨-, h⟩ | ⟨-, h⟩
    ·
      exact ((Fr.up (fr_I_passes e70) (by first | rfl | decide +kernel | (simp [inT, frle] <;> omega) | (simp [inT, frle]; omega))).tr (Fr.up (fr_I_readsChained_124 h) (by first | rfl | decide +kernel | (simp [inT, frle] <;> omega) | (simp [inT, frle]; omega))))
    ·
      obtain ⟨_, M117, e71, h⟩ := bn2_i h
      exact ((Fr.up (fr_I_passes e70) (by first | rfl | decide +kernel | (simp [inT, frle] <;> omega) | (simp [inT, frle]; omega))).tr ((Fr.up (fr_I_numberHere e71) (by first | rfl | decide +kernel | (simp [inT, frle] <;> omega) | (simp [inT, frle]; omega))).tr (Fr.up (fr_I_readsChained_124 h) (by first | rfl | decide +kernel | (simp [inT, frle] <;> omega) | (simp [inT, frle]; omega)))))
theorem fr_I_readsChained_63 {l1 : Int32} {l2 : Int32} {l3 : Int32} {t0 : Int32} {M : Mm} {w9 : Int32} {M9 : Mm} (h : f_I_readsChained_63 l1 l2 l3 t0 M = some (w9, M9)) : Fr [(1, 1, 4), (1, 1, 5), (2, 2, 3), (2, 2, 4), (2, 2, 5), (2, 2, 6), (4, 13, 0)] M M9 := by
  unfold f_I_readsChained_63 at h
  rcases ite_i h with ⟨-, h⟩ | ⟨-, h⟩
  ·
    cases h
    exact Fr.rf _ _
  ·
    obtain ⟨_, M76, e72, h⟩ := bn2_i h
    rcases ite_i h with ⟨-, h⟩ | ⟨-, h⟩
    ·
      exact ((Fr.up (fr_I_passes e72) (by first | rfl | decide +kernel | (simp [inT, frle] <;> omega) | (simp [inT, frle]; omega))).tr (Fr.up (fr_I_readsChained_93 h) (by first | rfl | decide +kernel | (simp [inT, frle] <;> omega) | (simp [inT, frle]; omega))))
    ·
      obtain ⟨_, M86, e73, h⟩ := bn2_i h
      exact ((Fr.up (fr_I_passes e72) (by first | rfl | decide +kernel | (simp [inT, frle] <;> omega) | (simp [inT, frle]; omega))).tr ((Fr.up (fr_I_numberHere e73) (by first | rfl | decide +kernel | (simp [inT, frle] <;> omega) | (simp [inT, frle]; omega))).tr (Fr.up (fr_I_readsChained_93 h) (by first | rfl | decide +kernel | (simp [inT, frle] <;> omega) | (simp [inT, frle]; omega)))))
theorem fr_I_readsChained_46 {l1 : Int32} {l2 : Int32} {t0 : Int32} {M : Mm} {w9 : Int32} {M9 : Mm} (h : f_I_readsChained_46 l1 l2 t0 M = some (w9, M9)) : Fr [(1, 1, 4), (1, 1, 5), (2, 2, 3), (2, 2, 4), (2, 2, 5), (2, 2, 6), (4, 13, 0)] M M9 := by
  unfold f_I_readsChained_46 at h
  rcases ite_i h with ⟨-, h⟩ | ⟨-, h⟩
  ·
    exact (Fr.up (fr_I_readsChained_63 h) (by first | rfl | decide +kernel | (simp [inT, frle] <;> omega) | (simp [inT, frle]; omega)))
  ·
    obtain ⟨_, M60, e74, h⟩ := bn2_i h
    exact ((Fr.up (fr_I_numberHere e74) (by first | rfl | decide +kernel | (simp [inT, frle] <;> omega) | (simp [inT, frle]; omega))).tr (Fr.up (fr_I_readsChained_63 h) (by first | rfl | decide +kernel | (simp [inT, frle] <;> omega) | (simp [inT, frle]; omega))))
theorem fr_I_readsChained_29 {l1 : Int32} {t0 : Int32} {M : Mm} {w9 : Int32} {M9 : Mm} (h : f_I_readsChained_29 l1 t0 M = some (w9, M9)) : Fr [(1, 1, 4), (1, 1, 5), (2, 2, 3), (2, 2, 4), (2, 2, 5), (2, 2, 6), (4, 13, 0)] M M9 := by
  unfold f_I_readsChained_29 at h
  rcases ite_i h with ⟨-, h⟩ | ⟨-, h⟩
  ·
    exact (Fr.up (fr_I_readsChained_46 h) (by first | rfl | decide +kernel | (simp [inT, frle] <;> omega) | (simp [inT, frle]; omega)))
  ·
    obtain ⟨_, M43, e75, h⟩ := bn2_i h
    exact ((Fr.up (fr_I_numberHere e75) (by first | rfl | decide +kernel | (simp [inT, frle] <;> omega) | (simp [inT, frle]; omega))).tr (Fr.up (fr_I_readsChained_46 h) (by first | rfl | decide +kernel | (simp [inT, frle] <;> omega) | (simp [inT, frle]; omega))))
theorem fr_I_readsChained_28 {l1 : Int32} {M : Mm} {w9 : Int32} {M9 : Mm} (h : f_I_readsChained_28 l1 M = some (w9, M9)) : Fr [(1, 1, 4), (1, 1, 5), (2, 2, 3), (2, 2, 4), (2, 2, 5), (2, 2, 6), (4, 13, 0)] M M9 := by
  unfold f_I_readsChained_28 at h
  exact (Fr.up (fr_I_readsChained_29 h) (by first | rfl | decide +kernel | (simp [inT, frle] <;> omega) | (simp [inT, frle]; omega)))
theorem fr_I_readsChained {M : Mm} {w9 : Int32} {M9 : Mm} (h : f_I_readsChained M = some (w9, M9)) : Fr [(1, 1, 4), (1, 1, 5), (2, 2, 3), (2, 2, 4), (2, 2, 5), (2, 2, 6), (4, 13, 0)] M M9 := by
  unfold f_I_readsChained at h
  obtain ⟨_, M1, e76, h⟩ := bn2_i h
  rcases ite_i h with ⟨-, h⟩ | ⟨-, h⟩
  ·
    exact ((Fr.up (fr_I_newName e76) (by first | rfl | decide +kernel | (simp [inT, frle] <;> omega) | (simp [inT, frle]; omega))).tr (Fr.up (fr_I_readsChained_28 h) (by first | rfl | decide +kernel | (simp [inT, frle] <;> omega) | (simp [inT, frle]; omega))))
  ·
    obtain ⟨_, M11, e77, h⟩ := bn2_i h
    rcases ite_i h with ⟨-, h⟩ | ⟨-, h⟩
    ·
      exact ((Fr.up (fr_I_newName e76) (by first | rfl | decide +kernel | (simp [inT, frle] <;> omega) | (simp [inT, frle]; omega))).tr ((Fr.up (fr_I_mayTurnHere e77) (by first | rfl | decide +kernel | (simp [inT, frle] <;> omega) | (simp [inT, frle]; omega))).tr (Fr.up (fr_I_readsChained_28 h) (by first | rfl | decide +kernel | (simp [inT, frle] <;> omega) | (simp [inT, frle]; omega)))))
    ·
      obtain ⟨_, M22, e78, h⟩ := bn2_i h
      exact ((Fr.up (fr_I_newName e76) (by first | rfl | decide +kernel | (simp [inT, frle] <;> omega) | (simp [inT, frle]; omega))).tr ((Fr.up (fr_I_mayTurnHere e77) (by first | rfl | decide +kernel | (simp [inT, frle] <;> omega) | (simp [inT, frle]; omega))).tr ((Fr.up (fr_I_numberHere e78) (by first | rfl | decide +kernel | (simp [inT, frle] <;> omega) | (simp [inT, frle]; omega))).tr (Fr.up (fr_I_readsChained_29 h) (by first | rfl | decide +kernel | (simp [inT, frle] <;> omega) | (simp [inT, frle]; omega))))))
theorem fr_S_addPaced {a : Nat} {l1 : Int32} {l2 : Int32} {l3 : Int32} {M : Mm} {M9 : Mm} (h : f_S_addPaced a l1 l2 l3 M = some M9) : Fr [(a, a + 9, 0)] M M9 := by
  unfold f_S_addPaced at h
  rcases ite_i h with ⟨-, h⟩ | ⟨-, h⟩
  ·
    obtain ⟨M19, e79, h⟩ := bn_i h
    have h := (chk_i h).2
    obtain ⟨M33, e80, h⟩ := bm_i h
    have h := (chk_i h).2
    obtain ⟨M45, e81, h⟩ := bm_i h
    cases h
    exact ((Fr.up (fr_S_addChained e79) (by first | rfl | decide +kernel | (simp [inT, frle] <;> omega) | (simp [inT, frle]; omega))).tr ((fr_wr e80 (by first | rfl | (intro _; rfl) | (simp [inT, frle] <;> omega) | (simp [inT, frle]; omega) | (intro _; simp [inT, frle]; omega))).tr (fr_wr e81 (by first | rfl | (intro _; rfl) | (simp [inT, frle] <;> omega) | (simp [inT, frle]; omega) | (intro _; simp [inT, frle]; omega)))))
  ·
    cases h
    exact Fr.rf _ _
theorem fr_I_readsBog_60 {M : Mm} {w9 : Int32} {M9 : Mm} (h : f_I_readsBog_60 M = some (w9, M9)) : Fr [] M M9 := by
  unfold f_I_readsBog_60 at h
  cases h
  exact Fr.rf _ _
theorem fr_I_readsBog_47 {l1 : Int32} {l2 : Int32} {t0 : Int32} {M : Mm} {w9 : Int32} {M9 : Mm} (h : f_I_readsBog_47 l1 l2 t0 M = some (w9, M9)) : Fr [(1, 1, 4), (1, 1, 5), (2, 2, 3), (2, 2, 4), (2, 2, 5), (2, 2, 6), (4, 13, 0)] M M9 := by
  unfold f_I_readsBog_47 at h
  rcases ite_i h with ⟨-, h⟩ | ⟨-, h⟩
  ·
    exact (Fr.up (fr_I_readsBog_60 h) (by first | rfl | decide +kernel | (simp [inT, frle] <;> omega) | (simp [inT, frle]; omega)))
  ·
    obtain ⟨_, M54, e82, h⟩ := bn2_i h
    rcases ite_i h with ⟨-, h⟩ | ⟨-, h⟩
    ·
      exact ((Fr.up (fr_I_readsSemicolon e82) (by first | rfl | decide +kernel | (simp [inT, frle] <;> omega) | (simp [inT, frle]; omega))).tr (Fr.up (fr_I_readsBog_60 h) (by first | rfl | decide +kernel | (simp [inT, frle] <;> omega) | (simp [inT, frle]; omega))))
    ·
      obtain ⟨M69, e83, h⟩ := bn_i h
      cases h
      exact ((Fr.up (fr_I_readsSemicolon e82) (by first | rfl | decide +kernel | (simp [inT, frle] <;> omega) | (simp [inT, frle]; omega))).tr (Fr.up (fr_S_addPaced e83) (by first | rfl | decide +kernel | (simp [inT, frle] <;> omega) | (simp [inT, frle]; omega))))
theorem fr_I_readsBog_29 {l1 : Int32} {t0 : Int32} {M : Mm} {w9 : Int32} {M9 : Mm} (h : f_I_readsBog_29 l1 t0 M = some (w9, M9)) : Fr [(1, 1, 4), (1, 1, 5), (2, 2, 3), (2, 2, 4), (2, 2, 5), (2, 2, 6), (4, 13, 0)] M M9 := by
  unfold f_I_readsBog_29 at h
  rcases ite_i h with ⟨-, h⟩ | ⟨-, h⟩
  ·
    exact (Fr.up (fr_I_readsBog_47 h) (by first | rfl | decide +kernel | (simp [inT, frle] <;> omega) | (simp [inT, frle]; omega)))
  ·
    obtain ⟨_, M44, e84, h⟩ := bn2_i h
    exact ((Fr.up (fr_I_numberHere e84) (by first | rfl | decide +kernel | (simp [inT, frle] <;> omega) | (simp [inT, frle]; omega))).tr (Fr.up (fr_I_readsBog_47 h) (by first | rfl | decide +kernel | (simp [inT, frle] <;> omega) | (simp [inT, frle]; omega))))
theorem fr_I_readsBog_28 {l1 : Int32} {M : Mm} {w9 : Int32} {M9 : Mm} (h : f_I_readsBog_28 l1 M = some (w9, M9)) : Fr [(1, 1, 4), (1, 1, 5), (2, 2, 3), (2, 2, 4), (2, 2, 5), (2, 2, 6), (4, 13, 0)] M M9 := by
  unfold f_I_readsBog_28 at h
  exact (Fr.up (fr_I_readsBog_29 h) (by first | rfl | decide +kernel | (simp [inT, frle] <;> omega) | (simp [inT, frle]; omega)))
theorem fr_I_readsBog {M : Mm} {w9 : Int32} {M9 : Mm} (h : f_I_readsBog M = some (w9, M9)) : Fr [(1, 1, 4), (1, 1, 5), (2, 2, 3), (2, 2, 4), (2, 2, 5), (2, 2, 6), (4, 13, 0)] M M9 := by
  unfold f_I_readsBog at h
  obtain ⟨_, M1, e85, h⟩ := bn2_i h
  rcases ite_i h with ⟨-, h⟩ | ⟨-, h⟩
  ·
    exact ((Fr.up (fr_I_newName e85) (by first | rfl | decide +kernel | (simp [inT, frle] <;> omega) | (simp [inT, frle]; omega))).tr (Fr.up (fr_I_readsBog_28 h) (by first | rfl | decide +kernel | (simp [inT, frle] <;> omega) | (simp [inT, frle]; omega))))
  ·
    obtain ⟨_, M11, e86, h⟩ := bn2_i h
    rcases ite_i h with ⟨-, h⟩ | ⟨-, h⟩
    ·
      exact ((Fr.up (fr_I_newName e85) (by first | rfl | decide +kernel | (simp [inT, frle] <;> omega) | (simp [inT, frle]; omega))).tr ((Fr.up (fr_I_mayTurnHere e86) (by first | rfl | decide +kernel | (simp [inT, frle] <;> omega) | (simp [inT, frle]; omega))).tr (Fr.up (fr_I_readsBog_28 h) (by first | rfl | decide +kernel | (simp [inT, frle] <;> omega) | (simp [inT, frle]; omega)))))
    ·
      obtain ⟨_, M22, e87, h⟩ := bn2_i h
      exact ((Fr.up (fr_I_newName e85) (by first | rfl | decide +kernel | (simp [inT, frle] <;> omega) | (simp [inT, frle]; omega))).tr ((Fr.up (fr_I_mayTurnHere e86) (by first | rfl | decide +kernel | (simp [inT, frle] <;> omega) | (simp [inT, frle]; omega))).tr ((Fr.up (fr_I_numberHere e87) (by first | rfl | decide +kernel | (simp [inT, frle] <;> omega) | (simp [inT, frle]; omega))).tr (Fr.up (fr_I_readsBog_29 h) (by first | rfl | decide +kernel | (simp [inT, frle] <;> omega) | (simp [inT, frle]; omega))))))
theorem fr_I_legHere {M : Mm} {w9 : Int32} {M9 : Mm} (h : f_I_legHere M = some (w9, M9)) : Fr [(1, 1, 4), (1, 1, 5), (2, 2, 3), (2, 2, 4), (2, 2, 5), (2, 2, 6)] M M9 := by
  unfold f_I_legHere at h
  obtain ⟨_, M1, e88, h⟩ := bn2_i h
  rcases ite_i h with ⟨-, h⟩ | ⟨-, h⟩
  ·
    cases h
    exact (Fr.up (fr_I_nameHere e88) (by first | rfl | decide +kernel | (simp [inT, frle] <;> omega) | (simp [inT, frle]; omega)))
  ·
    obtain ⟨_, e89, h⟩ := bn_i h
    rcases ite_i h with ⟨-, h⟩ | ⟨-, h⟩
    ·
      obtain ⟨_, M28, e90, h⟩ := bn2_i h
      cases h
      exact ((Fr.up (fr_I_nameHere e88) (by first | rfl | decide +kernel | (simp [inT, frle] <;> omega) | (simp [inT, frle]; omega))).tr (Fr.up (fr_I_fail e90) (by first | rfl | decide +kernel | (simp [inT, frle] <;> omega) | (simp [inT, frle]; omega))))
    ·
      obtain ⟨M38, e91, h⟩ := bn_i h
      cases h
      exact ((Fr.up (fr_I_nameHere e88) (by first | rfl | decide +kernel | (simp [inT, frle] <;> omega) | (simp [inT, frle]; omega))).tr (Fr.up (fr_L_advance e91) (by first | rfl | decide +kernel | (simp [inT, frle] <;> omega) | (simp [inT, frle]; omega))))
theorem fr_I_readsPin_59 {M : Mm} {w9 : Int32} {M9 : Mm} (h : f_I_readsPin_59 M = some (w9, M9)) : Fr [(1, 1, 4), (1, 1, 5)] M M9 := by
  unfold f_I_readsPin_59 at h
  obtain ⟨_, M62, e92, h⟩ := bn2_i h
  have h := (chk_i h).2
  cases h
  exact (Fr.up (fr_I_fail e92) (by first | rfl | decide +kernel | (simp [inT, frle] <;> omega) | (simp [inT, frle]; omega)))
theorem fr_I_readsPin_94 {t1 : Int32} {t2 : Int32} {t3 : Int32} {M : Mm} {w9 : Int32} {M9 : Mm} (h : f_I_readsPin_94 t1 t2 t3 M = some (w9, M9)) : Fr [(11, 11, 0)] M M9 := by
  unfold f_I_readsPin_94 at h
  have h := (chk_i h).2
  obtain ⟨M95, e93, h⟩ := bm_i h
  cases h
  exact (fr_wr e93 (by first | rfl | (intro _; rfl) | (simp [inT, frle] <;> omega) | (simp [inT, frle]; omega) | (intro _; simp [inT, frle]; omega)))
theorem fr_I_readsPin_66 {l1 : Int32} {l2 : Int32} {M : Mm} {w9 : Int32} {M9 : Mm} (h : f_I_readsPin_66 l1 l2 M = some (w9, M9)) : Fr [(1, 1, 4), (1, 1, 5), (2, 2, 3), (2, 2, 4), (2, 2, 5), (2, 2, 6), (11, 11, 0)] M M9 := by
  unfold f_I_readsPin_66 at h
  obtain ⟨_, M67, e94, h⟩ := bn2_i h
  rcases ite_i h with ⟨-, h⟩ | ⟨-, h⟩
  ·
    cases h
    exact (Fr.up (fr_I_readsSemicolon e94) (by first | rfl | decide +kernel | (simp [inT, frle] <;> omega) | (simp [inT, frle]; omega)))
  ·
    have h := (chk_i h).2
    rcases ite_i h with ⟨-, h⟩ | ⟨-, h⟩
    ·
      exact ((Fr.up (fr_I_readsSemicolon e94) (by first | rfl | decide +kernel | (simp [inT, frle] <;> omega) | (simp [inT, frle]; omega))).tr (Fr.up (fr_I_readsPin_94 h) (by first | rfl | decide +kernel | (simp [inT, frle] <;> omega) | (simp [inT, frle]; omega))))
    ·
      exact ((Fr.up (fr_I_readsSemicolon e94) (by first | rfl | decide +kernel | (simp [inT, frle] <;> omega) | (simp [inT, frle]; omega))).tr (Fr.up (fr_I_readsPin_94 h) (by first | rfl | decide +kernel | (simp [inT, frle] <;> omega) | (simp [inT, frle]; omega))))
theorem fr_I_readsPin {l1 : Int32} {M : Mm} {w9 : Int32} {M9 : Mm} (h : f_I_readsPin l1 M = some (w9, M9)) : Fr [(1, 1, 4), (1, 1, 5), (2, 2, 3), (2, 2, 4), (2, 2, 5), (2, 2, 6), (11, 11, 0)] M M9 := by
  unfold f_I_readsPin at h
  obtain ⟨M4, e95, h⟩ := bn_i h
  obtain ⟨_, M8, e96, h⟩ := bn2_i h
  rcases ite_i h with ⟨-, h⟩ | ⟨-, h⟩
  ·
    cases h
    exact ((Fr.up (fr_L_advance e95) (by first | rfl | decide +kernel | (simp [inT, frle] <;> omega) | (simp [inT, frle]; omega))).tr (Fr.up (fr_I_legHere e96) (by first | rfl | decide +kernel | (simp [inT, frle] <;> omega) | (simp [inT, frle]; omega))))
  ·
    rcases ite_i h with ⟨-, h⟩ | ⟨-, h⟩
    ·
      rcases ite_i h with ⟨-, h⟩ | ⟨-, h⟩
      ·
        obtain ⟨_, e97, h⟩ := bn_i h
        rcases ite_i h with ⟨-, h⟩ | ⟨-, h⟩
        ·
          exact ((Fr.up (fr_L_advance e95) (by first | rfl | decide +kernel | (simp [inT, frle] <;> omega) | (simp [inT, frle]; omega))).tr ((Fr.up (fr_I_legHere e96) (by first | rfl | decide +kernel | (simp [inT, frle] <;> omega) | (simp [inT, frle]; omega))).tr (Fr.up (fr_I_readsPin_59 h) (by first | rfl | decide +kernel | (simp [inT, frle] <;> omega) | (simp [inT, frle]; omega)))))
        ·
          exact ((Fr.up (fr_L_advance e95) (by first | rfl | decide +kernel | (simp [inT, frle] <;> omega) | (simp [inT, frle]; omega))).tr ((Fr.up (fr_I_legHere e96) (by first | rfl | decide +kernel | (simp [inT, frle] <;> omega) | (simp [inT, frle]; omega))).tr (Fr.up (fr_I_readsPin_66 h) (by first | rfl | decide +kernel | (simp [inT, frle] <;> omega) | (simp [inT, frle]; omega)))))
      ·
        obtain ⟨_, e98, h⟩ := bn_i h
        rcases ite_i h with ⟨-, h⟩ | ⟨-, h⟩
        ·
          exact ((Fr.up (fr_L_advance e95) (by first | rfl | decide +kernel | (simp [inT, frle] <;> omega) | (simp [inT, frle]; omega))).tr ((Fr.up (fr_I_legHere e96) (by first | rfl | decide +kernel | (simp [inT, frle] <;> omega) | (simp [inT, frle]; omega))).tr (Fr.up (fr_I_readsPin_59 h) (by first | rfl | decide +kernel | (simp [inT, frle] <;> omega) | (simp [inT, frle]; omega)))))
        ·
          exact ((Fr.up (fr_L_advance e95) (by first | rfl | decide +kernel | (simp [inT, frle] <;> omega) | (simp [inT, frle]; omega))).tr ((Fr.up (fr_I_legHere e96) (by first | rfl | decide +kernel | (simp [inT, frle] <;> omega) | (simp [inT, frle]; omega))).tr (Fr.up (fr_I_readsPin_66 h) (by first | rfl | decide +kernel | (simp [inT, frle] <;> omega) | (simp [inT, frle]; omega)))))
    ·
      exact ((Fr.up (fr_L_advance e95) (by first | rfl | decide +kernel | (simp [inT, frle] <;> omega) | (simp [inT, frle]; omega))).tr ((Fr.up (fr_I_legHere e96) (by first | rfl | decide +kernel | (simp [inT, frle] <;> omega) | (simp [inT, frle]; omega))).tr (Fr.up (fr_I_readsPin_66 h) (by first | rfl | decide +kernel | (simp [inT, frle] <;> omega) | (simp [inT, frle]; omega)))))
theorem fr_I_readsAdjusted {l1 : Int32} {M : Mm} {w9 : Int32} {M9 : Mm} (h : f_I_readsAdjusted l1 M = some (w9, M9)) : Fr [(1, 1, 4), (1, 1, 5), (2, 2, 3), (2, 2, 4), (2, 2, 5), (2, 2, 6), (4, 4, 0)] M M9 := by
  unfold f_I_readsAdjusted at h
  obtain ⟨M4, e99, h⟩ := bn_i h
  have h := (chk_i h).2
  obtain ⟨M12, e100, h⟩ := bm_i h
  obtain ⟨_, M16, e101, h⟩ := bn2_i h
  have h := (chk_i h).2
  cases h
  exact ((Fr.up (fr_L_advance e99) (by first | rfl | decide +kernel | (simp [inT, frle] <;> omega) | (simp [inT, frle]; omega))).tr ((fr_wr e100 (by first | rfl | (intro _; rfl) | (simp [inT, frle] <;> omega) | (simp [inT, frle]; omega) | (intro _; simp [inT, frle]; omega))).tr (Fr.up (fr_I_readsSemicolon e101) (by first | rfl | decide +kernel | (simp [inT, frle] <;> omega) | (simp [inT, frle]; omega)))))
theorem fr_I_readsBack_35 {M : Mm} {w9 : Int32} {M9 : Mm} (h : f_I_readsBack_35 M = some (w9, M9)) : Fr [(1, 1, 4), (1, 1, 5), (2, 2, 3), (2, 2, 4), (2, 2, 5), (2, 2, 6), (4, 4, 0)] M M9 := by
  unfold f_I_readsBack_35 at h
  obtain ⟨_, M36, e102, h⟩ := bn2_i h
  rcases ite_i h with ⟨-, h⟩ | ⟨-, h⟩
  ·
    cases h
    exact (Fr.up (fr_I_readsSemicolon e102) (by first | rfl | decide +kernel | (simp [inT, frle] <;> omega) | (simp [inT, frle]; omega)))
  ·
    obtain ⟨M54, e103, h⟩ := bm_i h
    cases h
    exact ((Fr.up (fr_I_readsSemicolon e102) (by first | rfl | decide +kernel | (simp [inT, frle] <;> omega) | (simp [inT, frle]; omega))).tr (fr_wr e103 (by first | rfl | (intro _; rfl) | (simp [inT, frle] <;> omega) | (simp [inT, frle]; omega) | (intro _; simp [inT, frle]; omega))))
theorem fr_I_readsBack {M : Mm} {w9 : Int32} {M9 : Mm} (h : f_I_readsBack M = some (w9, M9)) : Fr [(1, 1, 4), (1, 1, 5), (2, 2, 3), (2, 2, 4), (2, 2, 5), (2, 2, 6), (4, 4, 0)] M M9 := by
  unfold f_I_readsBack at h
  obtain ⟨M4, e104, h⟩ := bn_i h
  rcases ite_i h with ⟨-, h⟩ | ⟨-, h⟩
  ·
    rcases ite_i h with ⟨-, h⟩ | ⟨-, h⟩
    ·
      obtain ⟨_, M31, e105, h⟩ := bn2_i h
      have h := (chk_i h).2
      cases h
      exact ((Fr.up (fr_L_advance e104) (by first | rfl | decide +kernel | (simp [inT, frle] <;> omega) | (simp [inT, frle]; omega))).tr (Fr.up (fr_I_fail e105) (by first | rfl | decide +kernel | (simp [inT, frle] <;> omega) | (simp [inT, frle]; omega))))
    ·
      exact ((Fr.up (fr_L_advance e104) (by first | rfl | decide +kernel | (simp [inT, frle] <;> omega) | (simp [inT, frle]; omega))).tr (Fr.up (fr_I_readsBack_35 h) (by first | rfl | decide +kernel | (simp [inT, frle] <;> omega) | (simp [inT, frle]; omega))))
  ·
    exact ((Fr.up (fr_L_advance e104) (by first | rfl | decide +kernel | (simp [inT, frle] <;> omega) | (simp [inT, frle]; omega))).tr (Fr.up (fr_I_readsBack_35 h) (by first | rfl | decide +kernel | (simp [inT, frle] <;> omega) | (simp [inT, frle]; omega))))
theorem fr_I_readsCommand_108 {t0 : Int32} {M : Mm} {w9 : Int32} {M9 : Mm} (h : f_I_readsCommand_108 t0 M = some (w9, M9)) : Fr [] M M9 := by
  unfold f_I_readsCommand_108 at h
  have h := (chk_i h).2
  cases h
  exact Fr.rf _ _
theorem fr_I_readsCommand_107 {M : Mm} {w9 : Int32} {M9 : Mm} (h : f_I_readsCommand_107 M = some (w9, M9)) : Fr [] M M9 := by
  unfold f_I_readsCommand_107 at h
  exact (Fr.up (fr_I_readsCommand_108 h) (by first | rfl | decide +kernel | (simp [inT, frle] <;> omega) | (simp [inT, frle]; omega)))
theorem fr_I_readsCommand_147 {t0 : Int32} {M : Mm} {w9 : Int32} {M9 : Mm} (h : f_I_readsCommand_147 t0 M = some (w9, M9)) : Fr [] M M9 := by
  unfold f_I_readsCommand_147 at h
  have h := (chk_i h).2
  cases h
  exact Fr.rf _ _
theorem fr_I_readsCommand_146 {M : Mm} {w9 : Int32} {M9 : Mm} (h : f_I_readsCommand_146 M = some (w9, M9)) : Fr [] M M9 := by
  unfold f_I_readsCommand_146 at h
  exact (Fr.up (fr_I_readsCommand_147 h) (by first | rfl | decide +kernel | (simp [inT, frle] <;> omega) | (simp [inT, frle]; omega)))
theorem fr_I_readsCommand {M : Mm} {w9 : Int32} {M9 : Mm} (h : f_I_readsCommand M = some (w9, M9)) : Fr [(1, 1, 4), (1, 1, 5), (2, 2, 3), (2, 2, 4), (2, 2, 5), (2, 2, 6), (4, 13, 0)] M M9 := by
  unfold f_I_readsCommand at h
  obtain ⟨_, e106, h⟩ := bn_i h
  rcases ite_i h with ⟨-, h⟩ | ⟨-, h⟩
  ·
    obtain ⟨_, e107, h⟩ := bn_i h
    rcases ite_i h with ⟨-, h⟩ | ⟨-, h⟩
    ·
      obtain ⟨_, e108, h⟩ := bn_i h
      rcases ite_i h with ⟨-, h⟩ | ⟨-, h⟩
      ·
        obtain ⟨_, e109, h⟩ := bn_i h
        rcases ite_i h with ⟨-, h⟩ | ⟨-, h⟩
        ·
          obtain ⟨_, e110, h⟩ := bn_i h
          rcases ite_i h with ⟨-, h⟩ | ⟨-, h⟩
          ·
            obtain ⟨_, e111, h⟩ := bn_i h
            rcases ite_i h with ⟨-, h⟩ | ⟨-, h⟩
            ·
              obtain ⟨_, e112, h⟩ := bn_i h
              rcases ite_i h with ⟨-, h⟩ | ⟨-, h⟩
              ·
                obtain ⟨_, e113, h⟩ := bn_i h
                rcases ite_i h with ⟨-, h⟩ | ⟨-, h⟩
                ·
                  obtain ⟨_, e114, h⟩ := bn_i h
                  rcases ite_i h with ⟨-, h⟩ | ⟨-, h⟩
                  ·
                    obtain ⟨_, M203, e115, h⟩ := bn2_i h
                    have h := (chk_i h).2
                    cases h
                    exact (Fr.up (fr_I_fail e115) (by first | rfl | decide +kernel | (simp [inT, frle] <;> omega) | (simp [inT, frle]; omega)))
                  ·
                    obtain ⟨_, M197, e116, h⟩ := bn2_i h
                    have h := (chk_i h).2
                    cases h
                    exact (Fr.up (fr_I_readsBack e116) (by first | rfl | decide +kernel | (simp [inT, frle] <;> omega) | (simp [inT, frle]; omega)))
                ·
                  obtain ⟨_, M180, e117, h⟩ := bn2_i h
                  have h := (chk_i h).2
                  cases h
                  exact (Fr.up (fr_I_readsAdjusted e117) (by first | rfl | decide +kernel | (simp [inT, frle] <;> omega) | (simp [inT, frle]; omega)))
              ·
                obtain ⟨_, M162, e118, h⟩ := bn2_i h
                have h := (chk_i h).2
                cases h
                exact (Fr.up (fr_I_readsAdjusted e118) (by first | rfl | decide +kernel | (simp [inT, frle] <;> omega) | (simp [inT, frle]; omega)))
            ·
              obtain ⟨M125, e119, h⟩ := bn_i h
              obtain ⟨_, M129, e120, h⟩ := bn2_i h
              rcases ite_i h with ⟨-, h⟩ | ⟨-, h⟩
              ·
                exact ((Fr.up (fr_L_advance e119) (by first | rfl | decide +kernel | (simp [inT, frle] <;> omega) | (simp [inT, frle]; omega))).tr ((Fr.up (fr_I_readsPace e120) (by first | rfl | decide +kernel | (simp [inT, frle] <;> omega) | (simp [inT, frle]; omega))).tr (Fr.up (fr_I_readsCommand_146 h) (by first | rfl | decide +kernel | (simp [inT, frle] <;> omega) | (simp [inT, frle]; omega)))))
              ·
                obtain ⟨_, M136, e121, h⟩ := bn2_i h
                rcases ite_i h with ⟨-, h⟩ | ⟨-, h⟩
                ·
                  exact ((Fr.up (fr_L_advance e119) (by first | rfl | decide +kernel | (simp [inT, frle] <;> omega) | (simp [inT, frle]; omega))).tr ((Fr.up (fr_I_readsPace e120) (by first | rfl | decide +kernel | (simp [inT, frle] <;> omega) | (simp [inT, frle]; omega))).tr ((Fr.up (fr_I_readsSemicolon e121) (by first | rfl | decide +kernel | (simp [inT, frle] <;> omega) | (simp [inT, frle]; omega))).tr (Fr.up (fr_I_readsCommand_146 h) (by first | rfl | decide +kernel | (simp [inT, frle] <;> omega) | (simp [inT, frle]; omega))))))
                ·
                  exact ((Fr.up (fr_L_advance e119) (by first | rfl | decide +kernel | (simp [inT, frle] <;> omega) | (simp [inT, frle]; omega))).tr ((Fr.up (fr_I_readsPace e120) (by first | rfl | decide +kernel | (simp [inT, frle] <;> omega) | (simp [inT, frle]; omega))).tr ((Fr.up (fr_I_readsSemicolon e121) (by first | rfl | decide +kernel | (simp [inT, frle] <;> omega) | (simp [inT, frle]; omega))).tr (Fr.up (fr_I_readsCommand_147 h) (by first | rfl | decide +kernel | (simp [inT, frle] <;> omega) | (simp [inT, frle]; omega))))))
          ·
            obtain ⟨M86, e122, h⟩ := bn_i h
            obtain ⟨_, M90, e123, h⟩ := bn2_i h
            rcases ite_i h with ⟨-, h⟩ | ⟨-, h⟩
            ·
              exact ((Fr.up (fr_L_advance e122) (by first | rfl | decide +kernel | (simp [inT, frle] <;> omega) | (simp [inT, frle]; omega))).tr ((Fr.up (fr_I_readsWear e123) (by first | rfl | decide +kernel | (simp [inT, frle] <;> omega) | (simp [inT, frle]; omega))).tr (Fr.up (fr_I_readsCommand_107 h) (by first | rfl | decide +kernel | (simp [inT, frle] <;> omega) | (simp [inT, frle]; omega)))))
            ·
              obtain ⟨_, M97, e124, h⟩ := bn2_i h
              rcases ite_i h with ⟨-, h⟩ | ⟨-, h⟩
              ·
                exact ((Fr.up (fr_L_advance e122) (by first | rfl | decide +kernel | (simp [inT, frle] <;> omega) | (simp [inT, frle]; omega))).tr ((Fr.up (fr_I_readsWear e123) (by first | rfl | decide +kernel | (simp [inT, frle] <;> omega) | (simp [inT, frle]; omega))).tr ((Fr.up (fr_I_readsSemicolon e124) (by first | rfl | decide +kernel | (simp [inT, frle] <;> omega) | (simp [inT, frle]; omega))).tr (Fr.up (fr_I_readsCommand_107 h) (by first | rfl | decide +kernel | (simp [inT, frle] <;> omega) | (simp [inT, frle]; omega))))))
              ·
                exact ((Fr.up (fr_L_advance e122) (by first | rfl | decide +kernel | (simp [inT, frle] <;> omega) | (simp [inT, frle]; omega))).tr ((Fr.up (fr_I_readsWear e123) (by first | rfl | decide +kernel | (simp [inT, frle] <;> omega) | (simp [inT, frle]; omega))).tr ((Fr.up (fr_I_readsSemicolon e124) (by first | rfl | decide +kernel | (simp [inT, frle] <;> omega) | (simp [inT, frle]; omega))).tr (Fr.up (fr_I_readsCommand_108 h) (by first | rfl | decide +kernel | (simp [inT, frle] <;> omega) | (simp [inT, frle]; omega))))))
        ·
          obtain ⟨_, M66, e125, h⟩ := bn2_i h
          have h := (chk_i h).2
          cases h
          exact (Fr.up (fr_I_readsPin e125) (by first | rfl | decide +kernel | (simp [inT, frle] <;> omega) | (simp [inT, frle]; omega)))
      ·
        obtain ⟨_, M48, e126, h⟩ := bn2_i h
        have h := (chk_i h).2
        cases h
        exact (Fr.up (fr_I_readsPin e126) (by first | rfl | decide +kernel | (simp [inT, frle] <;> omega) | (simp [inT, frle]; omega)))
    ·
      obtain ⟨_, M30, e127, h⟩ := bn2_i h
      have h := (chk_i h).2
      cases h
      exact (Fr.up (fr_I_readsBog e127) (by first | rfl | decide +kernel | (simp [inT, frle] <;> omega) | (simp [inT, frle]; omega)))
  ·
    obtain ⟨_, M13, e128, h⟩ := bn2_i h
    have h := (chk_i h).2
    cases h
    exact (Fr.up (fr_I_readsChained e128) (by first | rfl | decide +kernel | (simp [inT, frle] <;> omega) | (simp [inT, frle]; omega)))
theorem fr_I_readsCommands_47 {M : Mm} {w9 : Int32} {M9 : Mm} (h : f_I_readsCommands_47 M = some (w9, M9)) : Fr [] M M9 := by
  unfold f_I_readsCommands_47 at h
  cases h
  exact Fr.rf _ _
theorem fr_I_readsCommands_5_i : ∀ (n : Nat) (M : Mm) (w9 : Int32) (M9 : Mm), f_I_readsCommands_5 n M = some (w9, M9) → Fr [(1, 1, 3), (1, 1, 4), (1, 1, 5), (2, 2, 3), (2, 2, 4), (2, 2, 5), (2, 2, 6), (4, 13, 0)] M M9 := by
  intro n; induction n with
  | zero => intro _ _ _ h; cases h
  | succ n ih =>
    intro M w9 M9 h
    rw [f_I_readsCommands_5] at h
    rcases ite_i h with ⟨-, h⟩ | ⟨-, h⟩
    ·
      exact (Fr.up (fr_I_readsCommands_47 h) (by first | rfl | decide +kernel | (simp [inT, frle] <;> omega) | (simp [inT, frle]; omega)))
    ·
      rcases ite_i h with ⟨-, h⟩ | ⟨-, h⟩
      ·
        exact (Fr.up (fr_I_readsCommands_47 h) (by first | rfl | decide +kernel | (simp [inT, frle] <;> omega) | (simp [inT, frle]; omega)))
      ·
        obtain ⟨_, M26, e129, h⟩ := bn2_i h
        rcases ite_i h with ⟨-, h⟩ | ⟨-, h⟩
        ·
          cases h
          exact (Fr.up (fr_I_readsCommand e129) (by first | rfl | decide +kernel | (simp [inT, frle] <;> omega) | (simp [inT, frle]; omega)))
        ·
          obtain ⟨M41, e130, h⟩ := bm_i h
          exact ((Fr.up (fr_I_readsCommand e129) (by first | rfl | decide +kernel | (simp [inT, frle] <;> omega) | (simp [inT, frle]; omega))).tr ((fr_wr e130 (by first | rfl | (intro _; rfl) | (simp [inT, frle] <;> omega) | (simp [inT, frle]; omega) | (intro _; simp [inT, frle]; omega))).tr (ih _ _ _ h)))
theorem fr_I_readsCommands_5 {n : Nat} {M : Mm} {w9 : Int32} {M9 : Mm} (h : f_I_readsCommands_5 n M = some (w9, M9)) : Fr [(1, 1, 3), (1, 1, 4), (1, 1, 5), (2, 2, 3), (2, 2, 4), (2, 2, 5), (2, 2, 6), (4, 13, 0)] M M9 := fr_I_readsCommands_5_i n _ _ _ h
theorem fr_I_readsCommands {M : Mm} {w9 : Int32} {M9 : Mm} (h : f_I_readsCommands M = some (w9, M9)) : Fr [(1, 1, 3), (1, 1, 4), (1, 1, 5), (2, 2, 3), (2, 2, 4), (2, 2, 5), (2, 2, 6), (4, 13, 0)] M M9 := by
  unfold f_I_readsCommands at h
  obtain ⟨M2, e131, h⟩ := bm_i h
  exact ((fr_wr e131 (by first | rfl | (intro _; rfl) | (simp [inT, frle] <;> omega) | (simp [inT, frle]; omega) | (intro _; simp [inT, frle]; omega))).tr (Fr.up (fr_I_readsCommands_5 h) (by first | rfl | decide +kernel | (simp [inT, frle] <;> omega) | (simp [inT, frle]; omega))))
theorem fr_S_copyFrom_34_i {a : Nat} {b : Nat} : ∀ (n : Nat) (l2 : Int32) (M : Mm) (M9 : Mm), f_S_copyFrom_34 a b n l2 M = some M9 → Fr [(a, a + 9, 0)] M M9 := by
  intro n; induction n with
  | zero => intro _ _ _ h; cases h
  | succ n ih =>
    intro l2 M M9 h
    rw [f_S_copyFrom_34] at h
    rcases ite_i h with ⟨-, h⟩ | ⟨-, h⟩
    ·
      cases h
      exact Fr.rf _ _
    ·
      have h := (chk_i h).2
      obtain ⟨M51, e132, h⟩ := bm_i h
      obtain ⟨M63, e133, h⟩ := bm_i h
      have h := (chk_i h).2
      obtain ⟨M75, e134, h⟩ := bm_i h
      obtain ⟨M87, e135, h⟩ := bm_i h
      obtain ⟨M99, e136, h⟩ := bm_i h
      obtain ⟨M111, e137, h⟩ := bm_i h
      obtain ⟨M123, e138, h⟩ := bm_i h
      obtain ⟨M135, e139, h⟩ := bm_i h
      obtain ⟨M147, e140, h⟩ := bm_i h
      exact ((fr_wr e132 (by first | rfl | (intro _; rfl) | (simp [inT, frle] <;> omega) | (simp [inT, frle]; omega) | (intro _; simp [inT, frle]; omega))).tr ((fr_wr e133 (by first | rfl | (intro _; rfl) | (simp [inT, frle] <;> omega) | (simp [inT, frle]; omega) | (intro _; simp [inT, frle]; omega))).tr ((fr_wr e134 (by first | rfl | (intro _; rfl) | (simp [inT, frle] <;> omega) | (simp [inT, frle]; omega) | (intro _; simp [inT, frle]; omega))).tr ((fr_wr e135 (by first | rfl | (intro _; rfl) | (simp [inT, frle] <;> omega) | (simp [inT, frle]; omega) | (intro _; simp [inT, frle]; omega))).tr ((fr_wr e136 (by first | rfl | (intro _; rfl) | (simp [inT, frle] <;> omega) | (simp [inT, frle]; omega) | (intro _; simp [inT, frle]; omega))).tr ((fr_wr e137 (by first | rfl | (intro _; rfl) | (simp [inT, frle] <;> omega) | (simp [inT, frle]; omega) | (intro _; simp [inT, frle]; omega))).tr ((fr_wr e138 (by first | rfl | (intro _; rfl) | (simp [inT, frle] <;> omega) | (simp [inT, frle]; omega) | (intro _; simp [inT, frle]; omega))).tr ((fr_wr e139 (by first | rfl | (intro _; rfl) | (simp [inT, frle] <;> omega) | (simp [inT, frle]; omega) | (intro _; simp [inT, frle]; omega))).tr ((fr_wr e140 (by first | rfl | (intro _; rfl) | (simp [inT, frle] <;> omega) | (simp [inT, frle]; omega) | (intro _; simp [inT, frle]; omega))).tr (ih _ _ _ h))))))))))
theorem fr_S_copyFrom_34 {a : Nat} {b : Nat} {n : Nat} {l2 : Int32} {M : Mm} {M9 : Mm} (h : f_S_copyFrom_34 a b n l2 M = some M9) : Fr [(a, a + 9, 0)] M M9 := fr_S_copyFrom_34_i n _ _ _ h
theorem fr_S_copyFrom {a : Nat} {b : Nat} {M : Mm} {M9 : Mm} (h : f_S_copyFrom a b M = some M9) : Fr [(a, a + 9, 0)] M M9 := by
  unfold f_S_copyFrom at h
  obtain ⟨M5, e141, h⟩ := bm_i h
  obtain ⟨M13, e142, h⟩ := bm_i h
  obtain ⟨M21, e143, h⟩ := bm_i h
  have h := (chk_i h).2
  obtain ⟨M29, e144, h⟩ := bm_i h
  exact ((fr_wr e141 (by first | rfl | (intro _; rfl) | (simp [inT, frle] <;> omega) | (simp [inT, frle]; omega) | (intro _; simp [inT, frle]; omega))).tr ((fr_wr e142 (by first | rfl | (intro _; rfl) | (simp [inT, frle] <;> omega) | (simp [inT, frle]; omega) | (intro _; simp [inT, frle]; omega))).tr ((fr_wr e143 (by first | rfl | (intro _; rfl) | (simp [inT, frle] <;> omega) | (simp [inT, frle]; omega) | (intro _; simp [inT, frle]; omega))).tr ((fr_wr e144 (by first | rfl | (intro _; rfl) | (simp [inT, frle] <;> omega) | (simp [inT, frle]; omega) | (intro _; simp [inT, frle]; omega))).tr (Fr.up (fr_S_copyFrom_34 h) (by first | rfl | decide +kernel | (simp [inT, frle] <;> omega) | (simp [inT, frle]; omega)))))))
theorem fr_T_follow_179 {a : Nat} {r104 : Int32 → Mm → Option Mm} {l2 : Int32} {M : Mm} {M9 : Mm} (h_r104 : ∀ (v0 : Int32) (v1 : Mm) (M9 : Mm), r104 v0 v1 = some M9 → Fr [(26, 26, 0), (27, 27, 0), (28, 28, 0), (29, 29, 0), (30, 30, 0)] v1 M9) (h : f_T_follow_179 a r104 l2 M = some M9) : Fr [(26, 26, 0), (27, 27, 0), (28, 28, 0), (29, 29, 0), (30, 30, 0)] M M9 := by
  unfold f_T_follow_179 at h
  exact (h_r104 _ _ _ h)
theorem fr_T_follow_104_i {a : Nat} : ∀ (n : Nat) (l2 : Int32) (M : Mm) (M9 : Mm), f_T_follow_104 a n l2 M = some M9 → Fr [(26, 26, 0), (27, 27, 0), (28, 28, 0), (29, 29, 0), (30, 30, 0)] M M9 := by
  intro n; induction n with
  | zero => intro _ _ _ h; cases h
  | succ n ih =>
    intro l2 M M9 h
    rw [f_T_follow_104] at h
    rcases ite_i h with ⟨-, h⟩ | ⟨-, h⟩
    ·
      cases h
      exact Fr.rf _ _
    ·
      have h := (chk_i h).2
      obtain ⟨M123, e145, h⟩ := bm_i h
      obtain ⟨M135, e146, h⟩ := bm_i h
      rcases ite_i h with ⟨-, h⟩ | ⟨-, h⟩
      ·
        exact ((fr_wr e145 (by first | rfl | (intro _; rfl) | (simp [inT, frle] <;> omega) | (simp [inT, frle]; omega) | (intro _; simp [inT, frle]; omega))).tr ((fr_wr e146 (by first | rfl | (intro _; rfl) | (simp [inT, frle] <;> omega) | (simp [inT, frle]; omega) | (intro _; simp [inT, frle]; omega))).tr (Fr.up (fr_T_follow_179 ih h) (by first | rfl | decide +kernel | (simp [inT, frle] <;> omega) | (simp [inT, frle]; omega)))))
      ·
        obtain ⟨_, e147, h⟩ := bn_i h
        obtain ⟨_, e148, h⟩ := bn_i h
        obtain ⟨M160, e149, h⟩ := bm_i h
        obtain ⟨_, e150, h⟩ := bn_i h
        obtain ⟨_, e151, h⟩ := bn_i h
        obtain ⟨M178, e152, h⟩ := bm_i h
        exact ((fr_wr e145 (by first | rfl | (intro _; rfl) | (simp [inT, frle] <;> omega) | (simp [inT, frle]; omega) | (intro _; simp [inT, frle]; omega))).tr ((fr_wr e146 (by first | rfl | (intro _; rfl) | (simp [inT, frle] <;> omega) | (simp [inT, frle]; omega) | (intro _; simp [inT, frle]; omega))).tr ((fr_wr e149 (by first | rfl | (intro _; rfl) | (simp [inT, frle] <;> omega) | (simp [inT, frle]; omega) | (intro _; simp [inT, frle]; omega))).tr ((fr_wr e152 (by first | rfl | (intro _; rfl) | (simp [inT, frle] <;> omega) | (simp [inT, frle]; omega) | (intro _; simp [inT, frle]; omega))).tr (Fr.up (fr_T_follow_179 ih h) (by first | rfl | decide +kernel | (simp [inT, frle] <;> omega) | (simp [inT, frle]; omega)))))))
theorem fr_T_follow_104 {a : Nat} {n : Nat} {l2 : Int32} {M : Mm} {M9 : Mm} (h : f_T_follow_104 a n l2 M = some M9) : Fr [(26, 26, 0), (27, 27, 0), (28, 28, 0), (29, 29, 0), (30, 30, 0)] M M9 := fr_T_follow_104_i n _ _ _ h
theorem fr_T_follow_10_i {a : Nat} : ∀ (n : Nat) (l2 : Int32) (M : Mm) (M9 : Mm), f_T_follow_10 a n l2 M = some M9 → Fr [(26, 26, 0), (27, 27, 0), (28, 28, 0), (29, 29, 0), (30, 30, 0)] M M9 := by
  intro n; induction n with
  | zero => intro _ _ _ h; cases h
  | succ n ih =>
    intro l2 M M9 h
    rw [f_T_follow_10] at h
    rcases ite_i h with ⟨-, h⟩ | ⟨-, h⟩
    ·
      exact (Fr.up (fr_T_follow_104 h) (by first | rfl | decide +kernel | (simp [inT, frle] <;> omega) | (simp [inT, frle]; omega)))
    ·
      obtain ⟨_, e153, h⟩ := bn_i h
      have h := (chk_i h).2
      have h := (chk_i h).2
      have h := (chk_i h).2
      obtain ⟨M47, e154, h⟩ := bm_i h
      obtain ⟨_, e155, h⟩ := bn_i h
      obtain ⟨_, e156, h⟩ := bn_i h
      obtain ⟨M71, e157, h⟩ := bm_i h
      obtain ⟨_, e158, h⟩ := bn_i h
      obtain ⟨_, e159, h⟩ := bn_i h
      obtain ⟨M95, e160, h⟩ := bm_i h
      exact ((fr_wr e154 (by first | rfl | (intro _; rfl) | (simp [inT, frle] <;> omega) | (simp [inT, frle]; omega) | (intro _; simp [inT, frle]; omega))).tr ((fr_wr e157 (by first | rfl | (intro _; rfl) | (simp [inT, frle] <;> omega) | (simp [inT, frle]; omega) | (intro _; simp [inT, frle]; omega))).tr ((fr_wr e160 (by first | rfl | (intro _; rfl) | (simp [inT, frle] <;> omega) | (simp [inT, frle]; omega) | (intro _; simp [inT, frle]; omega))).tr (ih _ _ _ h))))
theorem fr_T_follow_10 {a : Nat} {n : Nat} {l2 : Int32} {M : Mm} {M9 : Mm} (h : f_T_follow_10 a n l2 M = some M9) : Fr [(26, 26, 0), (27, 27, 0), (28, 28, 0), (29, 29, 0), (30, 30, 0)] M M9 := fr_T_follow_10_i n _ _ _ h
theorem fr_T_follow {a : Nat} {M : Mm} {M9 : Mm} (h : f_T_follow a M = some M9) : Fr [(25, 25, 6), (26, 26, 0), (27, 27, 0), (28, 28, 0), (29, 29, 0), (30, 30, 0)] M M9 := by
  unfold f_T_follow at h
  obtain ⟨M5, e161, h⟩ := bm_i h
  exact ((fr_wr e161 (by first | rfl | (intro _; rfl) | (simp [inT, frle] <;> omega) | (simp [inT, frle]; omega) | (intro _; simp [inT, frle]; omega))).tr (Fr.up (fr_T_follow_10 h) (by first | rfl | decide +kernel | (simp [inT, frle] <;> omega) | (simp [inT, frle]; omega))))
theorem fr_C_appendWord_46 {M : Mm} {M9 : Mm} (h : f_C_appendWord_46 M = some M9) : Fr [] M M9 := by
  unfold f_C_appendWord_46 at h
  cases h
  exact Fr.rf _ _
theorem fr_C_appendWord_3_i : ∀ (n : Nat) (l1 : Int32) (l2 : Int32) (M : Mm) (M9 : Mm), f_C_appendWord_3 n l1 l2 M = some M9 → Fr [(0, 0, 3), (3, 3, 0)] M M9 := by
  intro n; induction n with
  | zero => intro _ _ _ _ h; cases h
  | succ n ih =>
    intro l1 l2 M M9 h
    rw [f_C_appendWord_3] at h
    rcases ite_i h with ⟨-, h⟩ | ⟨-, h⟩
    ·
      exact (Fr.up (fr_C_appendWord_46 h) (by first | rfl | decide +kernel | (simp [inT, frle] <;> omega) | (simp [inT, frle]; omega)))
    ·
      rcases ite_i h with ⟨-, h⟩ | ⟨-, h⟩
      ·
        exact (Fr.up (fr_C_appendWord_46 h) (by first | rfl | decide +kernel | (simp [inT, frle] <;> omega) | (simp [inT, frle]; omega)))
      ·
        have h := (chk_i h).2
        obtain ⟨M29, e162, h⟩ := bm_i h
        obtain ⟨M37, e163, h⟩ := bm_i h
        exact ((fr_wr e162 (by first | rfl | (intro _; rfl) | (simp [inT, frle] <;> omega) | (simp [inT, frle]; omega) | (intro _; simp [inT, frle]; omega))).tr ((fr_wr e163 (by first | rfl | (intro _; rfl) | (simp [inT, frle] <;> omega) | (simp [inT, frle]; omega) | (intro _; simp [inT, frle]; omega))).tr (ih _ _ _ _ h)))
theorem fr_C_appendWord_3 {n : Nat} {l1 : Int32} {l2 : Int32} {M : Mm} {M9 : Mm} (h : f_C_appendWord_3 n l1 l2 M = some M9) : Fr [(0, 0, 3), (3, 3, 0)] M M9 := fr_C_appendWord_3_i n _ _ _ _ h
theorem fr_C_appendWord {l1 : Int32} {M : Mm} {M9 : Mm} (h : f_C_appendWord l1 M = some M9) : Fr [(0, 0, 3), (3, 3, 0)] M M9 := by
  unfold f_C_appendWord at h
  exact (Fr.up (fr_C_appendWord_3 h) (by first | rfl | decide +kernel | (simp [inT, frle] <;> omega) | (simp [inT, frle]; omega)))
theorem fr_C_append {l1 : Int32} {l2 : Int32} {l3 : Int32} {l4 : Int32} {l5 : Int32} {M : Mm} {w9 : Int32} {M9 : Mm} (h : f_C_append l1 l2 l3 l4 l5 M = some (w9, M9)) : Fr [(0, 0, 3), (3, 3, 0)] M M9 := by
  unfold f_C_append at h
  rcases ite_i h with ⟨-, h⟩ | ⟨-, h⟩
  ·
    obtain ⟨M17, e164, h⟩ := bn_i h
    obtain ⟨M22, e165, h⟩ := bn_i h
    obtain ⟨M27, e166, h⟩ := bn_i h
    obtain ⟨M33, e167, h⟩ := bn_i h
    obtain ⟨M39, e168, h⟩ := bn_i h
    cases h
    exact ((Fr.up (fr_C_appendWord e164) (by first | rfl | decide +kernel | (simp [inT, frle] <;> omega) | (simp [inT, frle]; omega))).tr ((Fr.up (fr_C_appendWord e165) (by first | rfl | decide +kernel | (simp [inT, frle] <;> omega) | (simp [inT, frle]; omega))).tr ((Fr.up (fr_C_appendWord e166) (by first | rfl | decide +kernel | (simp [inT, frle] <;> omega) | (simp [inT, frle]; omega))).tr ((Fr.up (fr_C_appendWord e167) (by first | rfl | decide +kernel | (simp [inT, frle] <;> omega) | (simp [inT, frle]; omega))).tr (Fr.up (fr_C_appendWord e168) (by first | rfl | decide +kernel | (simp [inT, frle] <;> omega) | (simp [inT, frle]; omega)))))))
  ·
    cases h
    exact Fr.rf _ _
theorem fr_C_truncateInput {l1 : Int32} {M : Mm} {w9 : (Nat ⊕ Int32)} {M9 : Mm} (h : f_C_truncateInput l1 M = some (w9, M9)) : Fr [(0, 0, 3)] M M9 := by
  unfold f_C_truncateInput at h
  obtain ⟨_, e169, h⟩ := bn_i h
  rcases ite_i h with ⟨-, h⟩ | ⟨-, h⟩
  ·
    cases h
    exact Fr.rf _ _
  ·
    obtain ⟨M24, e170, h⟩ := bm_i h
    cases h
    exact (fr_wr e170 (by first | rfl | (intro _; rfl) | (simp [inT, frle] <;> omega) | (simp [inT, frle]; omega) | (intro _; simp [inT, frle]; omega)))
theorem fr_C_remember_36 {t1 : Int32} {M : Mm} {M9 : Mm} (h : f_C_remember_36 t1 M = some M9) : Fr [(0, 0, 12), (0, 0, 13)] M M9 := by
  unfold f_C_remember_36 at h
  obtain ⟨M36, e171, h⟩ := bm_i h
  obtain ⟨M51, e172, h⟩ := bm_i h
  cases h
  exact ((fr_wr e171 (by first | rfl | (intro _; rfl) | (simp [inT, frle] <;> omega) | (simp [inT, frle]; omega) | (intro _; simp [inT, frle]; omega))).tr (fr_wr e172 (by first | rfl | (intro _; rfl) | (simp [inT, frle] <;> omega) | (simp [inT, frle]; omega) | (intro _; simp [inT, frle]; omega))))
theorem fr_C_remember {M : Mm} {M9 : Mm} (h : f_C_remember M = some M9) : Fr [(0, 0, 12), (0, 0, 13), (34, 113, 0)] M M9 := by
  unfold f_C_remember at h
  obtain ⟨c, h⟩ := chk_i h
  obtain ⟨M13, e, h⟩ := bn_i h
  have c8 := iin_lt8 c
  have s1 : Fr [(0, 0, 12), (0, 0, 13), (34, 113, 0)] M M13 := fr_one (fr_S_copyFrom e) (lo := 34) (hi := 113) (by omega) (by omega) rfl
  rcases ite_i h with ⟨-, h⟩ | ⟨-, h⟩
  · exact s1.tr (Fr.up (fr_C_remember_36 h) (by rfl))
  · exact s1.tr (Fr.up (fr_C_remember_36 h) (by rfl))
theorem fr_C_settleText_46 {l1 : Int32} {M : Mm} {w9 : Int32} {M9 : Mm} (h : f_C_settleText_46 l1 M = some (w9, M9)) : Fr [] M M9 := by
  unfold f_C_settleText_46 at h
  have h := (chk_i h).2
  cases h
  exact Fr.rf _ _
theorem fr_C_settleText {l1 : Int32} {M : Mm} {w9 : Int32} {M9 : Mm} (h : f_C_settleText l1 M = some (w9, M9)) : Fr [(0, 0, 3), (0, 0, 4), (0, 0, 5), (0, 0, 12), (0, 0, 13), (15, 24, 0), (34, 113, 0)] M M9 := by
  unfold f_C_settleText at h
  obtain ⟨M2, e173, h⟩ := bm_i h
  obtain ⟨M13, e174, h⟩ := bm_i h
  obtain ⟨M24, e175, h⟩ := bm_i h
  rcases ite_i h with ⟨-, h⟩ | ⟨-, h⟩
  ·
    exact ((fr_wr e173 (by first | rfl | (intro _; rfl) | (simp [inT, frle] <;> omega) | (simp [inT, frle]; omega) | (intro _; simp [inT, frle]; omega))).tr ((fr_wr e174 (by first | rfl | (intro _; rfl) | (simp [inT, frle] <;> omega) | (simp [inT, frle]; omega) | (intro _; simp [inT, frle]; omega))).tr ((fr_wr e175 (by first | rfl | (intro _; rfl) | (simp [inT, frle] <;> omega) | (simp [inT, frle]; omega) | (intro _; simp [inT, frle]; omega))).tr (Fr.up (fr_C_settleText_46 h) (by first | rfl | decide +kernel | (simp [inT, frle] <;> omega) | (simp [inT, frle]; omega))))))
  ·
    obtain ⟨M32, e176, h⟩ := bn_i h
    obtain ⟨M43, e177, h⟩ := bn_i h
    exact ((fr_wr e173 (by first | rfl | (intro _; rfl) | (simp [inT, frle] <;> omega) | (simp [inT, frle]; omega) | (intro _; simp [inT, frle]; omega))).tr ((fr_wr e174 (by first | rfl | (intro _; rfl) | (simp [inT, frle] <;> omega) | (simp [inT, frle]; omega) | (intro _; simp [inT, frle]; omega))).tr ((fr_wr e175 (by first | rfl | (intro _; rfl) | (simp [inT, frle] <;> omega) | (simp [inT, frle]; omega) | (intro _; simp [inT, frle]; omega))).tr ((Fr.up (fr_C_remember e176) (by first | rfl | decide +kernel | (simp [inT, frle] <;> omega) | (simp [inT, frle]; omega))).tr ((Fr.up (fr_S_copyFrom e177) (by first | rfl | decide +kernel | (simp [inT, frle] <;> omega) | (simp [inT, frle]; omega))).tr (Fr.up (fr_C_settleText_46 h) (by first | rfl | decide +kernel | (simp [inT, frle] <;> omega) | (simp [inT, frle]; omega))))))))
theorem fr_C_load_56 {t0 : Int32} {M : Mm} {w9 : Int32} {M9 : Mm} (h : f_C_load_56 t0 M = some (w9, M9)) : Fr [] M M9 := by
  unfold f_C_load_56 at h
  cases h
  exact Fr.rf _ _
theorem fr_C_load_36 {t0 : Int32} {M : Mm} {w9 : Int32} {M9 : Mm} (h : f_C_load_36 t0 M = some (w9, M9)) : Fr [(0, 0, 3), (0, 0, 4), (0, 0, 5), (0, 0, 12), (0, 0, 13), (15, 24, 0), (34, 113, 0)] M M9 := by
  unfold f_C_load_36 at h
  obtain ⟨_, M39, e178, h⟩ := bn2_i h
  rcases ite_i h with ⟨-, h⟩ | ⟨-, h⟩
  ·
    exact ((Fr.up (fr_C_settleText e178) (by first | rfl | decide +kernel | (simp [inT, frle] <;> omega) | (simp [inT, frle]; omega))).tr (Fr.up (fr_C_load_56 h) (by first | rfl | decide +kernel | (simp [inT, frle] <;> omega) | (simp [inT, frle]; omega))))
  ·
    exact ((Fr.up (fr_C_settleText e178) (by first | rfl | decide +kernel | (simp [inT, frle] <;> omega) | (simp [inT, frle]; omega))).tr (Fr.up (fr_C_load_56 h) (by first | rfl | decide +kernel | (simp [inT, frle] <;> omega) | (simp [inT, frle]; omega))))
theorem fr_C_load_35 {M : Mm} {w9 : Int32} {M9 : Mm} (h : f_C_load_35 M = some (w9, M9)) : Fr [(0, 0, 3), (0, 0, 4), (0, 0, 5), (0, 0, 12), (0, 0, 13), (15, 24, 0), (34, 113, 0)] M M9 := by
  unfold f_C_load_35 at h
  exact (Fr.up (fr_C_load_36 h) (by first | rfl | decide +kernel | (simp [inT, frle] <;> omega) | (simp [inT, frle]; omega)))
theorem fr_C_load {M : Mm} {w9 : Int32} {M9 : Mm} (h : f_C_load M = some (w9, M9)) : Fr [(0, 0, 3), (0, 0, 4), (0, 0, 5), (0, 0, 12), (0, 0, 13), (1, 1, 3), (1, 1, 4), (1, 1, 5), (2, 2, 2), (2, 2, 3), (2, 2, 4), (2, 2, 5), (2, 2, 6), (4, 13, 0), (15, 24, 0), (34, 113, 0)] M M9 := by
  unfold f_C_load at h
  obtain ⟨M8, e179, h⟩ := bn_i h
  obtain ⟨_, M15, e180, h⟩ := bn2_i h
  rcases ite_i h with ⟨-, h⟩ | ⟨-, h⟩
  ·
    exact ((Fr.up (fr_I_begin e179) (by first | rfl | decide +kernel | (simp [inT, frle] <;> omega) | (simp [inT, frle]; omega))).tr ((Fr.up (fr_I_readsHead e180) (by first | rfl | decide +kernel | (simp [inT, frle] <;> omega) | (simp [inT, frle]; omega))).tr (Fr.up (fr_C_load_35 h) (by first | rfl | decide +kernel | (simp [inT, frle] <;> omega) | (simp [inT, frle]; omega)))))
  ·
    obtain ⟨_, M25, e181, h⟩ := bn2_i h
    rcases ite_i h with ⟨-, h⟩ | ⟨-, h⟩
    ·
      exact ((Fr.up (fr_I_begin e179) (by first | rfl | decide +kernel | (simp [inT, frle] <;> omega) | (simp [inT, frle]; omega))).tr ((Fr.up (fr_I_readsHead e180) (by first | rfl | decide +kernel | (simp [inT, frle] <;> omega) | (simp [inT, frle]; omega))).tr ((Fr.up (fr_I_readsCommands e181) (by first | rfl | decide +kernel | (simp [inT, frle] <;> omega) | (simp [inT, frle]; omega))).tr (Fr.up (fr_C_load_35 h) (by first | rfl | decide +kernel | (simp [inT, frle] <;> omega) | (simp [inT, frle]; omega))))))
    ·
      exact ((Fr.up (fr_I_begin e179) (by first | rfl | decide +kernel | (simp [inT, frle] <;> omega) | (simp [inT, frle]; omega))).tr ((Fr.up (fr_I_readsHead e180) (by first | rfl | decide +kernel | (simp [inT, frle] <;> omega) | (simp [inT, frle]; omega))).tr ((Fr.up (fr_I_readsCommands e181) (by first | rfl | decide +kernel | (simp [inT, frle] <;> omega) | (simp [inT, frle]; omega))).tr (Fr.up (fr_C_load_36 h) (by first | rfl | decide +kernel | (simp [inT, frle] <;> omega) | (simp [inT, frle]; omega))))))
theorem fr_C_play_49 {t0 : Int32} {M : Mm} {w9 : Int32} {M9 : Mm} (h : f_C_play_49 t0 M = some (w9, M9)) : Fr [] M M9 := by
  unfold f_C_play_49 at h
  cases h
  exact Fr.rf _ _
theorem fr_C_play {M : Mm} {w9 : Int32} {M9 : Mm} (h : f_C_play M = some (w9, M9)) : Fr [(0, 0, 3), (0, 0, 4), (0, 0, 5), (0, 0, 12), (0, 0, 13), (1, 1, 3), (1, 1, 4), (1, 1, 5), (2, 2, 2), (2, 2, 3), (2, 2, 4), (2, 2, 5), (2, 2, 6), (4, 13, 0), (15, 24, 0), (34, 113, 0)] M M9 := by
  unfold f_C_play at h
  obtain ⟨M8, e182, h⟩ := bn_i h
  obtain ⟨M19, e183, h⟩ := bn_i h
  obtain ⟨_, M26, e184, h⟩ := bn2_i h
  obtain ⟨_, M32, e185, h⟩ := bn2_i h
  rcases ite_i h with ⟨-, h⟩ | ⟨-, h⟩
  ·
    exact ((Fr.up (fr_S_copyFrom e182) (by first | rfl | decide +kernel | (simp [inT, frle] <;> omega) | (simp [inT, frle]; omega))).tr ((Fr.up (fr_I_begin e183) (by first | rfl | decide +kernel | (simp [inT, frle] <;> omega) | (simp [inT, frle]; omega))).tr ((Fr.up (fr_I_readsCommands e184) (by first | rfl | decide +kernel | (simp [inT, frle] <;> omega) | (simp [inT, frle]; omega))).tr ((Fr.up (fr_C_settleText e185) (by first | rfl | decide +kernel | (simp [inT, frle] <;> omega) | (simp [inT, frle]; omega))).tr (Fr.up (fr_C_play_49 h) (by first | rfl | decide +kernel | (simp [inT, frle] <;> omega) | (simp [inT, frle]; omega)))))))
  ·
    exact ((Fr.up (fr_S_copyFrom e182) (by first | rfl | decide +kernel | (simp [inT, frle] <;> omega) | (simp [inT, frle]; omega))).tr ((Fr.up (fr_I_begin e183) (by first | rfl | decide +kernel | (simp [inT, frle] <;> omega) | (simp [inT, frle]; omega))).tr ((Fr.up (fr_I_readsCommands e184) (by first | rfl | decide +kernel | (simp [inT, frle] <;> omega) | (simp [inT, frle]; omega))).tr ((Fr.up (fr_C_settleText e185) (by first | rfl | decide +kernel | (simp [inT, frle] <;> omega) | (simp [inT, frle]; omega))).tr (Fr.up (fr_C_play_49 h) (by first | rfl | decide +kernel | (simp [inT, frle] <;> omega) | (simp [inT, frle]; omega)))))))
theorem fr_C_addLeg_55 {l1 : Int32} {l2 : Int32} {l3 : Int32} {l4 : Int32} {l5 : Int32} {t0 : Int32} {M : Mm} {w9 : (Nat ⊕ Int32)} {M9 : Mm} (h : f_C_addLeg_55 l1 l2 l3 l4 l5 t0 M = some (w9, M9)) : Fr [(0, 0, 12), (0, 0, 13), (15, 24, 0), (34, 113, 0)] M M9 := by
  unfold f_C_addLeg_55 at h
  rcases ite_i h with ⟨-, h⟩ | ⟨-, h⟩
  ·
    cases h
    exact Fr.rf _ _
  ·
    rcases bti_i h with ⟨_, -, -, e186⟩ | ⟨_, -, h⟩
    ·
      subst e186
      exact Fr.rf _ _
    ·
      obtain ⟨M79, e187, h⟩ := bn_i h
      obtain ⟨M96, e188, h⟩ := bn_i h
      cases h
      exact ((Fr.up (fr_C_remember e187) (by first | rfl | decide +kernel | (simp [inT, frle] <;> omega) | (simp [inT, frle]; omega))).tr (Fr.up (fr_S_addChained e188) (by first | rfl | decide +kernel | (simp [inT, frle] <;> omega) | (simp [inT, frle]; omega))))
theorem fr_C_addLeg_54 {l1 : Int32} {l2 : Int32} {l3 : Int32} {l4 : Int32} {l5 : Int32} {M : Mm} {w9 : (Nat ⊕ Int32)} {M9 : Mm} (h : f_C_addLeg_54 l1 l2 l3 l4 l5 M = some (w9, M9)) : Fr [(0, 0, 12), (0, 0, 13), (15, 24, 0), (34, 113, 0)] M M9 := by
  unfold f_C_addLeg_54 at h
  exact (Fr.up (fr_C_addLeg_55 h) (by first | rfl | decide +kernel | (simp [inT, frle] <;> omega) | (simp [inT, frle]; omega)))
theorem fr_C_addLeg {l1 : Int32} {l2 : Int32} {l3 : Int32} {l4 : Int32} {l5 : Int32} {M : Mm} {w9 : (Nat ⊕ Int32)} {M9 : Mm} (h : f_C_addLeg l1 l2 l3 l4 l5 M = some (w9, M9)) : Fr [(0, 0, 12), (0, 0, 13), (15, 24, 0), (34, 113, 0)] M M9 := by
  unfold f_C_addLeg at h
  obtain ⟨_, e189, h⟩ := bn_i h
  rcases ite_i h with ⟨-, h⟩ | ⟨-, h⟩
  ·
    exact (Fr.up (fr_C_addLeg_54 h) (by first | rfl | decide +kernel | (simp [inT, frle] <;> omega) | (simp [inT, frle]; omega)))
  ·
    obtain ⟨_, e190, h⟩ := bn_i h
    rcases ite_i h with ⟨-, h⟩ | ⟨-, h⟩
    ·
      exact (Fr.up (fr_C_addLeg_54 h) (by first | rfl | decide +kernel | (simp [inT, frle] <;> omega) | (simp [inT, frle]; omega)))
    ·
      obtain ⟨_, e191, h⟩ := bn_i h
      rcases ite_i h with ⟨-, h⟩ | ⟨-, h⟩
      ·
        exact (Fr.up (fr_C_addLeg_54 h) (by first | rfl | decide +kernel | (simp [inT, frle] <;> omega) | (simp [inT, frle]; omega)))
      ·
        obtain ⟨_, e192, h⟩ := bn_i h
        rcases ite_i h with ⟨-, h⟩ | ⟨-, h⟩
        ·
          exact (Fr.up (fr_C_addLeg_54 h) (by first | rfl | decide +kernel | (simp [inT, frle] <;> omega) | (simp [inT, frle]; omega)))
        ·
          obtain ⟨_, e193, h⟩ := bn_i h
          rcases ite_i h with ⟨-, h⟩ | ⟨-, h⟩
          ·
            exact (Fr.up (fr_C_addLeg_54 h) (by first | rfl | decide +kernel | (simp [inT, frle] <;> omega) | (simp [inT, frle]; omega)))
          ·
            exact (Fr.up (fr_C_addLeg_55 h) (by first | rfl | decide +kernel | (simp [inT, frle] <;> omega) | (simp [inT, frle]; omega)))
theorem fr_C_addBog_18 {M : Mm} {w9 : (Nat ⊕ Int32)} {M9 : Mm} (h : f_C_addBog_18 M = some (w9, M9)) : Fr [] M M9 := by
  unfold f_C_addBog_18 at h
  cases h
  exact Fr.rf _ _
theorem fr_C_addBog {l1 : Int32} {l2 : Int32} {M : Mm} {w9 : (Nat ⊕ Int32)} {M9 : Mm} (h : f_C_addBog l1 l2 M = some (w9, M9)) : Fr [(0, 0, 12), (0, 0, 13), (15, 24, 0), (34, 113, 0)] M M9 := by
  unfold f_C_addBog at h
  obtain ⟨_, e194, h⟩ := bn_i h
  rcases ite_i h with ⟨-, h⟩ | ⟨-, h⟩
  ·
    exact (Fr.up (fr_C_addBog_18 h) (by first | rfl | decide +kernel | (simp [inT, frle] <;> omega) | (simp [inT, frle]; omega)))
  ·
    obtain ⟨_, e195, h⟩ := bn_i h
    rcases ite_i h with ⟨-, h⟩ | ⟨-, h⟩
    ·
      exact (Fr.up (fr_C_addBog_18 h) (by first | rfl | decide +kernel | (simp [inT, frle] <;> omega) | (simp [inT, frle]; omega)))
    ·
      rcases bti_i h with ⟨_, -, -, e196⟩ | ⟨_, -, h⟩
      ·
        subst e196
        exact Fr.rf _ _
      ·
        obtain ⟨M34, e197, h⟩ := bn_i h
        obtain ⟨M44, e198, h⟩ := bn_i h
        cases h
        exact ((Fr.up (fr_C_remember e197) (by first | rfl | decide +kernel | (simp [inT, frle] <;> omega) | (simp [inT, frle]; omega))).tr (Fr.up (fr_S_addPaced e198) (by first | rfl | decide +kernel | (simp [inT, frle] <;> omega) | (simp [inT, frle]; omega))))
theorem fr_C_dropPin {l1 : Int32} {M : Mm} {w9 : (Nat ⊕ Int32)} {M9 : Mm} (h : f_C_dropPin l1 M = some (w9, M9)) : Fr [(0, 0, 12), (0, 0, 13), (22, 22, 0), (34, 113, 0)] M M9 := by
  unfold f_C_dropPin at h
  rcases bti_i h with ⟨_, -, -, e199⟩ | ⟨_, -, h⟩
  ·
    subst e199
    exact Fr.rf _ _
  ·
    obtain ⟨_, e200, h⟩ := bn_i h
    rcases ite_i h with ⟨-, h⟩ | ⟨-, h⟩
    ·
      cases h
      exact Fr.rf _ _
    ·
      obtain ⟨M27, e201, h⟩ := bn_i h
      have h := (chk_i h).2
      obtain ⟨M42, e202, h⟩ := bm_i h
      cases h
      exact ((Fr.up (fr_C_remember e201) (by first | rfl | decide +kernel | (simp [inT, frle] <;> omega) | (simp [inT, frle]; omega))).tr (fr_wr e202 (by first | rfl | (intro _; rfl) | (simp [inT, frle] <;> omega) | (simp [inT, frle]; omega) | (intro _; simp [inT, frle]; omega))))
theorem fr_C_findPin {l1 : Int32} {M : Mm} {w9 : (Nat ⊕ Int32)} {M9 : Mm} (h : f_C_findPin l1 M = some (w9, M9)) : Fr [(0, 0, 12), (0, 0, 13), (22, 22, 0), (34, 113, 0)] M M9 := by
  unfold f_C_findPin at h
  rcases bti_i h with ⟨_, -, -, e203⟩ | ⟨_, -, h⟩
  ·
    subst e203
    exact Fr.rf _ _
  ·
    obtain ⟨_, e204, h⟩ := bn_i h
    rcases ite_i h with ⟨-, h⟩ | ⟨-, h⟩
    ·
      cases h
      exact Fr.rf _ _
    ·
      obtain ⟨M27, e205, h⟩ := bn_i h
      have h := (chk_i h).2
      obtain ⟨M42, e206, h⟩ := bm_i h
      cases h
      exact ((Fr.up (fr_C_remember e205) (by first | rfl | decide +kernel | (simp [inT, frle] <;> omega) | (simp [inT, frle]; omega))).tr (fr_wr e206 (by first | rfl | (intro _; rfl) | (simp [inT, frle] <;> omega) | (simp [inT, frle]; omega) | (intro _; simp [inT, frle]; omega))))
theorem fr_C_removeLast {M : Mm} {w9 : (Nat ⊕ Int32)} {M9 : Mm} (h : f_C_removeLast M = some (w9, M9)) : Fr [(0, 0, 12), (0, 0, 13), (15, 15, 0), (34, 113, 0)] M M9 := by
  unfold f_C_removeLast at h
  rcases ite_i h with ⟨-, h⟩ | ⟨-, h⟩
  ·
    cases h
    exact Fr.rf _ _
  ·
    obtain ⟨M21, e207, h⟩ := bn_i h
    obtain ⟨M34, e208, h⟩ := bm_i h
    cases h
    exact ((Fr.up (fr_C_remember e207) (by first | rfl | decide +kernel | (simp [inT, frle] <;> omega) | (simp [inT, frle]; omega))).tr (fr_wr e208 (by first | rfl | (intro _; rfl) | (simp [inT, frle] <;> omega) | (simp [inT, frle]; omega) | (intro _; simp [inT, frle]; omega))))
theorem fr_C_setWear {l1 : Int32} {M : Mm} {w9 : (Nat ⊕ Int32)} {M9 : Mm} (h : f_C_setWear l1 M = some (w9, M9)) : Fr [(0, 0, 12), (0, 0, 13), (15, 15, 0), (34, 113, 0)] M M9 := by
  unfold f_C_setWear at h
  obtain ⟨_, e209, h⟩ := bn_i h
  rcases ite_i h with ⟨-, h⟩ | ⟨-, h⟩
  ·
    cases h
    exact Fr.rf _ _
  ·
    obtain ⟨M30, e210, h⟩ := bn_i h
    obtain ⟨M38, e211, h⟩ := bm_i h
    cases h
    exact ((Fr.up (fr_C_remember e210) (by first | rfl | decide +kernel | (simp [inT, frle] <;> omega) | (simp [inT, frle]; omega))).tr (fr_wr e211 (by first | rfl | (intro _; rfl) | (simp [inT, frle] <;> omega) | (simp [inT, frle]; omega) | (intro _; simp [inT, frle]; omega))))
theorem fr_C_setPace {l1 : Int32} {M : Mm} {w9 : (Nat ⊕ Int32)} {M9 : Mm} (h : f_C_setPace l1 M = some (w9, M9)) : Fr [(0, 0, 12), (0, 0, 13), (15, 15, 0), (34, 113, 0)] M M9 := by
  unfold f_C_setPace at h
  obtain ⟨_, e212, h⟩ := bn_i h
  rcases ite_i h with ⟨-, h⟩ | ⟨-, h⟩
  ·
    cases h
    exact Fr.rf _ _
  ·
    obtain ⟨M31, e213, h⟩ := bn_i h
    obtain ⟨M39, e214, h⟩ := bm_i h
    cases h
    exact ((Fr.up (fr_C_remember e213) (by first | rfl | decide +kernel | (simp [inT, frle] <;> omega) | (simp [inT, frle]; omega))).tr (fr_wr e214 (by first | rfl | (intro _; rfl) | (simp [inT, frle] <;> omega) | (simp [inT, frle]; omega) | (intro _; simp [inT, frle]; omega))))
theorem fr_C_setAdjusted {l1 : Int32} {M : Mm} {w9 : Int32} {M9 : Mm} (h : f_C_setAdjusted l1 M = some (w9, M9)) : Fr [(0, 0, 12), (0, 0, 13), (15, 15, 0), (34, 113, 0)] M M9 := by
  unfold f_C_setAdjusted at h
  obtain ⟨M9, e215, h⟩ := bn_i h
  have h := (chk_i h).2
  obtain ⟨M17, e216, h⟩ := bm_i h
  have h := (chk_i h).2
  cases h
  exact ((Fr.up (fr_C_remember e215) (by first | rfl | decide +kernel | (simp [inT, frle] <;> omega) | (simp [inT, frle]; omega))).tr (fr_wr e216 (by first | rfl | (intro _; rfl) | (simp [inT, frle] <;> omega) | (simp [inT, frle]; omega) | (intro _; simp [inT, frle]; omega))))
theorem fr_C_undo_36 {t1 : Int32} {M : Mm} {w9 : (Nat ⊕ Int32)} {M9 : Mm} (h : f_C_undo_36 t1 M = some (w9, M9)) : Fr [(0, 0, 12), (0, 0, 13), (15, 24, 0)] M M9 := by
  unfold f_C_undo_36 at h
  obtain ⟨M36, e217, h⟩ := bm_i h
  obtain ⟨M46, e218, h⟩ := bm_i h
  have h := (chk_i h).2
  obtain ⟨M62, e219, h⟩ := bn_i h
  cases h
  exact ((fr_wr e217 (by first | rfl | (intro _; rfl) | (simp [inT, frle] <;> omega) | (simp [inT, frle]; omega) | (intro _; simp [inT, frle]; omega))).tr ((fr_wr e218 (by first | rfl | (intro _; rfl) | (simp [inT, frle] <;> omega) | (simp [inT, frle]; omega) | (intro _; simp [inT, frle]; omega))).tr (Fr.up (fr_S_copyFrom e219) (by first | rfl | decide +kernel | (simp [inT, frle] <;> omega) | (simp [inT, frle]; omega)))))
theorem fr_C_undo {M : Mm} {w9 : (Nat ⊕ Int32)} {M9 : Mm} (h : f_C_undo M = some (w9, M9)) : Fr [(0, 0, 12), (0, 0, 13), (15, 24, 0)] M M9 := by
  unfold f_C_undo at h
  rcases ite_i h with ⟨-, h⟩ | ⟨-, h⟩
  ·
    cases h
    exact Fr.rf _ _
  ·
    rcases ite_i h with ⟨-, h⟩ | ⟨-, h⟩
    ·
      exact (Fr.up (fr_C_undo_36 h) (by first | rfl | decide +kernel | (simp [inT, frle] <;> omega) | (simp [inT, frle]; omega)))
    ·
      exact (Fr.up (fr_C_undo_36 h) (by first | rfl | decide +kernel | (simp [inT, frle] <;> omega) | (simp [inT, frle]; omega)))
theorem fr_C_save {l1 : Int32} {M : Mm} {w9 : Nat ⊕ Int32} {M9 : Mm} (h : f_C_save l1 M = some (w9, M9)) : Fr [(33, 33, 0), (114, 133, 0)] M M9 := by
  unfold f_C_save at h
  rcases bti_i h with ⟨_, -, -, e⟩ | ⟨_, -, h⟩
  · subst e
    exact Fr.rf _ _
  · obtain ⟨c, h⟩ := chk_i h
    obtain ⟨M15, e, h⟩ := bn_i h
    have c8 := iin_lt8 c
    have s1 : Fr [(33, 33, 0), (114, 133, 0)] M M15 := fr_one (fr_S_copyFrom e) (lo := 114) (hi := 133) (by omega) (by omega) rfl
    obtain ⟨M24, e2, h⟩ := bm_i h
    cases h
    exact s1.tr (fr_wr e2 (by first | rfl | (intro _; rfl) | (simp [inT, frle] <;> omega) | (simp [inT, frle]; omega) | (intro _; simp [inT, frle]; omega)))
theorem fr_C_restore {l1 : Int32} {M : Mm} {w9 : (Nat ⊕ Int32)} {M9 : Mm} (h : f_C_restore l1 M = some (w9, M9)) : Fr [(0, 0, 12), (0, 0, 13), (15, 24, 0), (34, 113, 0)] M M9 := by
  unfold f_C_restore at h
  rcases bti_i h with ⟨_, -, -, e220⟩ | ⟨_, -, h⟩
  ·
    subst e220
    exact Fr.rf _ _
  ·
    have h := (chk_i h).2
    rcases ite_i h with ⟨-, h⟩ | ⟨-, h⟩
    ·
      cases h
      exact Fr.rf _ _
    ·
      obtain ⟨M25, e221, h⟩ := bn_i h
      obtain ⟨M38, e222, h⟩ := bn_i h
      cases h
      exact ((Fr.up (fr_C_remember e221) (by first | rfl | decide +kernel | (simp [inT, frle] <;> omega) | (simp [inT, frle]; omega))).tr (Fr.up (fr_S_copyFrom e222) (by first | rfl | decide +kernel | (simp [inT, frle] <;> omega) | (simp [inT, frle]; omega))))
theorem fr_C_followed {M : Mm} {M9 : Mm} (h : f_C_followed M = some M9) : Fr [(25, 25, 6), (26, 26, 0), (27, 27, 0), (28, 28, 0), (29, 29, 0), (30, 30, 0)] M M9 := by
  unfold f_C_followed at h
  obtain ⟨M8, e223, h⟩ := bn_i h
  cases h
  exact (Fr.up (fr_T_follow e223) (by first | rfl | decide +kernel | (simp [inT, frle] <;> omega) | (simp [inT, frle]; omega)))
theorem fr_C_rawEast {l1 : Int32} {M : Mm} {w9 : (Nat ⊕ Int32)} {M9 : Mm} (h : f_C_rawEast l1 M = some (w9, M9)) : Fr [(25, 25, 6), (26, 26, 0), (27, 27, 0), (28, 28, 0), (29, 29, 0), (30, 30, 0)] M M9 := by
  unfold f_C_rawEast at h
  rcases bti_i h with ⟨_, -, -, e224⟩ | ⟨_, -, h⟩
  ·
    subst e224
    exact Fr.rf _ _
  ·
    obtain ⟨M6, e225, h⟩ := bn_i h
    have h := (chk_i h).2
    cases h
    exact (Fr.up (fr_C_followed e225) (by first | rfl | decide +kernel | (simp [inT, frle] <;> omega) | (simp [inT, frle]; omega)))
theorem fr_C_rawNorth {l1 : Int32} {M : Mm} {w9 : (Nat ⊕ Int32)} {M9 : Mm} (h : f_C_rawNorth l1 M = some (w9, M9)) : Fr [(25, 25, 6), (26, 26, 0), (27, 27, 0), (28, 28, 0), (29, 29, 0), (30, 30, 0)] M M9 := by
  unfold f_C_rawNorth at h
  rcases bti_i h with ⟨_, -, -, e226⟩ | ⟨_, -, h⟩
  ·
    subst e226
    exact Fr.rf _ _
  ·
    obtain ⟨M6, e227, h⟩ := bn_i h
    have h := (chk_i h).2
    cases h
    exact (Fr.up (fr_C_followed e227) (by first | rfl | decide +kernel | (simp [inT, frle] <;> omega) | (simp [inT, frle]; omega)))
theorem fr_C_east {l1 : Int32} {M : Mm} {w9 : (Nat ⊕ Int32)} {M9 : Mm} (h : f_C_east l1 M = some (w9, M9)) : Fr [(25, 25, 6), (26, 26, 0), (27, 27, 0), (28, 28, 0), (29, 29, 0), (30, 30, 0)] M M9 := by
  unfold f_C_east at h
  rcases bti_i h with ⟨_, -, -, e228⟩ | ⟨_, -, h⟩
  ·
    subst e228
    exact Fr.rf _ _
  ·
    obtain ⟨M6, e229, h⟩ := bn_i h
    have h := (chk_i h).2
    cases h
    exact (Fr.up (fr_C_followed e229) (by first | rfl | decide +kernel | (simp [inT, frle] <;> omega) | (simp [inT, frle]; omega)))
theorem fr_C_north {l1 : Int32} {M : Mm} {w9 : (Nat ⊕ Int32)} {M9 : Mm} (h : f_C_north l1 M = some (w9, M9)) : Fr [(25, 25, 6), (26, 26, 0), (27, 27, 0), (28, 28, 0), (29, 29, 0), (30, 30, 0)] M M9 := by
  unfold f_C_north at h
  rcases bti_i h with ⟨_, -, -, e230⟩ | ⟨_, -, h⟩
  ·
    subst e230
    exact Fr.rf _ _
  ·
    obtain ⟨M6, e231, h⟩ := bn_i h
    have h := (chk_i h).2
    cases h
    exact (Fr.up (fr_C_followed e231) (by first | rfl | decide +kernel | (simp [inT, frle] <;> omega) | (simp [inT, frle]; omega)))
theorem fr_C_run {l1 : Int32} {M : Mm} {w9 : (Nat ⊕ Int32)} {M9 : Mm} (h : f_C_run l1 M = some (w9, M9)) : Fr [(25, 25, 6), (26, 26, 0), (27, 27, 0), (28, 28, 0), (29, 29, 0), (30, 30, 0)] M M9 := by
  unfold f_C_run at h
  rcases bti_i h with ⟨_, -, -, e232⟩ | ⟨_, -, h⟩
  ·
    subst e232
    exact Fr.rf _ _
  ·
    obtain ⟨M6, e233, h⟩ := bn_i h
    have h := (chk_i h).2
    cases h
    exact (Fr.up (fr_C_followed e233) (by first | rfl | decide +kernel | (simp [inT, frle] <;> omega) | (simp [inT, frle]; omega)))
theorem fr_C_distanceFromStart {l1 : Int32} {M : Mm} {w9 : (Nat ⊕ Int32)} {M9 : Mm} (h : f_C_distanceFromStart l1 M = some (w9, M9)) : Fr [(25, 25, 6), (26, 26, 0), (27, 27, 0), (28, 28, 0), (29, 29, 0), (30, 30, 0)] M M9 := by
  unfold f_C_distanceFromStart at h
  rcases bti_i h with ⟨_, -, -, e234⟩ | ⟨_, -, h⟩
  ·
    subst e234
    exact Fr.rf _ _
  ·
    obtain ⟨M6, e235, h⟩ := bn_i h
    obtain ⟨_, e236, h⟩ := bn_i h
    cases h
    exact (Fr.up (fr_C_followed e235) (by first | rfl | decide +kernel | (simp [inT, frle] <;> omega) | (simp [inT, frle]; omega)))
theorem fr_C_perimeter {M : Mm} {w9 : Int32} {M9 : Mm} (h : f_C_perimeter M = some (w9, M9)) : Fr [(25, 25, 6), (26, 26, 0), (27, 27, 0), (28, 28, 0), (29, 29, 0), (30, 30, 0)] M M9 := by
  unfold f_C_perimeter at h
  obtain ⟨M1, e237, h⟩ := bn_i h
  obtain ⟨_, e238, h⟩ := bn_i h
  cases h
  exact (Fr.up (fr_C_followed e237) (by first | rfl | decide +kernel | (simp [inT, frle] <;> omega) | (simp [inT, frle]; omega)))
theorem fr_C_closingEast {M : Mm} {w9 : Int32} {M9 : Mm} (h : f_C_closingEast M = some (w9, M9)) : Fr [(25, 25, 6), (26, 26, 0), (27, 27, 0), (28, 28, 0), (29, 29, 0), (30, 30, 0)] M M9 := by
  unfold f_C_closingEast at h
  obtain ⟨M1, e239, h⟩ := bn_i h
  obtain ⟨_, e240, h⟩ := bn_i h
  cases h
  exact (Fr.up (fr_C_followed e239) (by first | rfl | decide +kernel | (simp [inT, frle] <;> omega) | (simp [inT, frle]; omega)))
theorem fr_C_closingNorth {M : Mm} {w9 : Int32} {M9 : Mm} (h : f_C_closingNorth M = some (w9, M9)) : Fr [(25, 25, 6), (26, 26, 0), (27, 27, 0), (28, 28, 0), (29, 29, 0), (30, 30, 0)] M M9 := by
  unfold f_C_closingNorth at h
  obtain ⟨M1, e241, h⟩ := bn_i h
  obtain ⟨_, e242, h⟩ := bn_i h
  cases h
  exact (Fr.up (fr_C_followed e241) (by first | rfl | decide +kernel | (simp [inT, frle] <;> omega) | (simp [inT, frle]; omega)))
theorem fr_C_misclosure {M : Mm} {w9 : Int32} {M9 : Mm} (h : f_C_misclosure M = some (w9, M9)) : Fr [(25, 25, 6), (26, 26, 0), (27, 27, 0), (28, 28, 0), (29, 29, 0), (30, 30, 0)] M M9 := by
  unfold f_C_misclosure at h
  obtain ⟨M1, e243, h⟩ := bn_i h
  obtain ⟨_, e244, h⟩ := bn_i h
  cases h
  exact (Fr.up (fr_C_followed e243) (by first | rfl | decide +kernel | (simp [inT, frle] <;> omega) | (simp [inT, frle]; omega)))
theorem fr_C_precision_24 {t0 : Int32} {M : Mm} {w9 : Int32} {M9 : Mm} (h : f_C_precision_24 t0 M = some (w9, M9)) : Fr [] M M9 := by
  unfold f_C_precision_24 at h
  cases h
  exact Fr.rf _ _
theorem fr_C_precision {M : Mm} {w9 : Int32} {M9 : Mm} (h : f_C_precision M = some (w9, M9)) : Fr [(25, 25, 6), (26, 26, 0), (27, 27, 0), (28, 28, 0), (29, 29, 0), (30, 30, 0)] M M9 := by
  unfold f_C_precision at h
  obtain ⟨M1, e245, h⟩ := bn_i h
  obtain ⟨_, e246, h⟩ := bn_i h
  rcases ite_i h with ⟨-, h⟩ | ⟨-, h⟩
  ·
    exact ((Fr.up (fr_C_followed e245) (by first | rfl | decide +kernel | (simp [inT, frle] <;> omega) | (simp [inT, frle]; omega))).tr (Fr.up (fr_C_precision_24 h) (by first | rfl | decide +kernel | (simp [inT, frle] <;> omega) | (simp [inT, frle]; omega))))
  ·
    obtain ⟨_, e247, h⟩ := bn_i h
    have h := (chk_i h).2
    exact ((Fr.up (fr_C_followed e245) (by first | rfl | decide +kernel | (simp [inT, frle] <;> omega) | (simp [inT, frle]; omega))).tr (Fr.up (fr_C_precision_24 h) (by first | rfl | decide +kernel | (simp [inT, frle] <;> omega) | (simp [inT, frle]; omega))))
theorem fr_C_width {M : Mm} {w9 : Int32} {M9 : Mm} (h : f_C_width M = some (w9, M9)) : Fr [(25, 25, 6), (26, 26, 0), (27, 27, 0), (28, 28, 0), (29, 29, 0), (30, 30, 0)] M M9 := by
  unfold f_C_width at h
  obtain ⟨M1, e248, h⟩ := bn_i h
  obtain ⟨_, e249, h⟩ := bn_i h
  cases h
  exact (Fr.up (fr_C_followed e248) (by first | rfl | decide +kernel | (simp [inT, frle] <;> omega) | (simp [inT, frle]; omega)))
theorem fr_C_height {M : Mm} {w9 : Int32} {M9 : Mm} (h : f_C_height M = some (w9, M9)) : Fr [(25, 25, 6), (26, 26, 0), (27, 27, 0), (28, 28, 0), (29, 29, 0), (30, 30, 0)] M M9 := by
  unfold f_C_height at h
  obtain ⟨M1, e250, h⟩ := bn_i h
  obtain ⟨_, e251, h⟩ := bn_i h
  cases h
  exact (Fr.up (fr_C_followed e250) (by first | rfl | decide +kernel | (simp [inT, frle] <;> omega) | (simp [inT, frle]; omega)))
theorem fr_C_farthestStation_41 {r12 : Int32 → Int32 → Int32 → Mm → Option (Int32 × Mm)} {l2 : Int32} {l3 : Int32} {l4 : Int32} {M : Mm} {w9 : Int32} {M9 : Mm} (h_r12 : ∀ (v0 : Int32) (v1 : Int32) (v2 : Int32) (v3 : Mm) (w9 : Int32) (M9 : Mm), r12 v0 v1 v2 v3 = some (w9, M9) → Fr [] v3 M9) (h : f_C_farthestStation_41 r12 l2 l3 l4 M = some (w9, M9)) : Fr [] M M9 := by
  unfold f_C_farthestStation_41 at h
  exact (h_r12 _ _ _ _ _ _ h)
theorem fr_C_farthestStation_12_i : ∀ (n : Nat) (l2 : Int32) (l3 : Int32) (l4 : Int32) (M : Mm) (w9 : Int32) (M9 : Mm), f_C_farthestStation_12 n l2 l3 l4 M = some (w9, M9) → Fr [] M M9 := by
  intro n; induction n with
  | zero => intro _ _ _ _ _ _ h; cases h
  | succ n ih =>
    intro l2 l3 l4 M w9 M9 h
    rw [f_C_farthestStation_12] at h
    rcases ite_i h with ⟨-, h⟩ | ⟨-, h⟩
    ·
      cases h
      exact Fr.rf _ _
    ·
      obtain ⟨_, e252, h⟩ := bn_i h
      rcases ite_i h with ⟨-, h⟩ | ⟨-, h⟩
      ·
        exact (Fr.up (fr_C_farthestStation_41 ih h) (by first | rfl | decide +kernel | (simp [inT, frle] <;> omega) | (simp [inT, frle]; omega)))
      ·
        exact (Fr.up (fr_C_farthestStation_41 ih h) (by first | rfl | decide +kernel | (simp [inT, frle] <;> omega) | (simp [inT, frle]; omega)))
theorem fr_C_farthestStation_12 {n : Nat} {l2 : Int32} {l3 : Int32} {l4 : Int32} {M : Mm} {w9 : Int32} {M9 : Mm} (h : f_C_farthestStation_12 n l2 l3 l4 M = some (w9, M9)) : Fr [] M M9 := fr_C_farthestStation_12_i n _ _ _ _ _ _ h
theorem fr_C_farthestStation {M : Mm} {w9 : Int32} {M9 : Mm} (h : f_C_farthestStation M = some (w9, M9)) : Fr [(25, 25, 6), (26, 26, 0), (27, 27, 0), (28, 28, 0), (29, 29, 0), (30, 30, 0)] M M9 := by
  unfold f_C_farthestStation at h
  obtain ⟨M1, e253, h⟩ := bn_i h
  exact ((Fr.up (fr_C_followed e253) (by first | rfl | decide +kernel | (simp [inT, frle] <;> omega) | (simp [inT, frle]; omega))).tr (Fr.up (fr_C_farthestStation_12 h) (by first | rfl | decide +kernel | (simp [inT, frle] <;> omega) | (simp [inT, frle]; omega))))
theorem fr_C_area {M : Mm} {w9 : Int64} {M9 : Mm} (h : f_C_area M = some (w9, M9)) : Fr [(25, 25, 6), (26, 26, 0), (27, 27, 0), (28, 28, 0), (29, 29, 0), (30, 30, 0)] M M9 := by
  unfold f_C_area at h
  obtain ⟨M1, e254, h⟩ := bn_i h
  obtain ⟨_, e255, h⟩ := bn_i h
  cases h
  exact (Fr.up (fr_C_followed e254) (by first | rfl | decide +kernel | (simp [inT, frle] <;> omega) | (simp [inT, frle]; omega)))
theorem fr_C_misclosureWithPin {l1 : Int32} {M : Mm} {w9 : Int32} {M9 : Mm} (h : f_C_misclosureWithPin l1 M = some (w9, M9)) : Fr [(4, 13, 0), (25, 25, 6), (26, 26, 0), (27, 27, 0), (28, 28, 0), (29, 29, 0), (30, 30, 0)] M M9 := by
  unfold f_C_misclosureWithPin at h
  obtain ⟨_, e256, h⟩ := bn_i h
  rcases ite_i h with ⟨-, h⟩ | ⟨-, h⟩
  ·
    cases h
    exact Fr.rf _ _
  ·
    obtain ⟨M21, e257, h⟩ := bn_i h
    have h := (chk_i h).2
    obtain ⟨M36, e258, h⟩ := bm_i h
    obtain ⟨M45, e259, h⟩ := bn_i h
    obtain ⟨_, e260, h⟩ := bn_i h
    cases h
    exact ((Fr.up (fr_S_copyFrom e257) (by first | rfl | decide +kernel | (simp [inT, frle] <;> omega) | (simp [inT, frle]; omega))).tr ((fr_wr e258 (by first | rfl | (intro _; rfl) | (simp [inT, frle] <;> omega) | (simp [inT, frle]; omega) | (intro _; simp [inT, frle]; omega))).tr (Fr.up (fr_T_follow e259) (by first | rfl | decide +kernel | (simp [inT, frle] <;> omega) | (simp [inT, frle]; omega)))))
theorem fr_C_misclosureIfDropped {l1 : Int32} {M : Mm} {w9 : (Nat ⊕ Int32)} {M9 : Mm} (h : f_C_misclosureIfDropped l1 M = some (w9, M9)) : Fr [(4, 13, 0), (25, 25, 6), (26, 26, 0), (27, 27, 0), (28, 28, 0), (29, 29, 0), (30, 30, 0)] M M9 := by
  unfold f_C_misclosureIfDropped at h
  rcases bti_i h with ⟨_, -, -, e261⟩ | ⟨_, -, h⟩
  ·
    subst e261
    exact Fr.rf _ _
  ·
    obtain ⟨_, M7, e262, h⟩ := bn2_i h
    cases h
    exact (Fr.up (fr_C_misclosureWithPin e262) (by first | rfl | decide +kernel | (simp [inT, frle] <;> omega) | (simp [inT, frle]; omega)))
theorem fr_C_suspectLeg_47 {r12 : Int32 → Int32 → Int32 → Mm → Option (Int32 × Mm)} {l1 : Int32} {l2 : Int32} {l3 : Int32} {M : Mm} {w9 : Int32} {M9 : Mm} (h_r12 : ∀ (v0 : Int32) (v1 : Int32) (v2 : Int32) (v3 : Mm) (w9 : Int32) (M9 : Mm), r12 v0 v1 v2 v3 = some (w9, M9) → Fr [(4, 13, 0), (25, 25, 6), (26, 26, 0), (27, 27, 0), (28, 28, 0), (29, 29, 0), (30, 30, 0)] v3 M9) (h : f_C_suspectLeg_47 r12 l1 l2 l3 M = some (w9, M9)) : Fr [(4, 13, 0), (25, 25, 6), (26, 26, 0), (27, 27, 0), (28, 28, 0), (29, 29, 0), (30, 30, 0)] M M9 := by
  unfold f_C_suspectLeg_47 at h
  exact (h_r12 _ _ _ _ _ _ h)
theorem fr_C_suspectLeg_12_i : ∀ (n : Nat) (l1 : Int32) (l2 : Int32) (l3 : Int32) (M : Mm) (w9 : Int32) (M9 : Mm), f_C_suspectLeg_12 n l1 l2 l3 M = some (w9, M9) → Fr [(4, 13, 0), (25, 25, 6), (26, 26, 0), (27, 27, 0), (28, 28, 0), (29, 29, 0), (30, 30, 0)] M M9 := by
  intro n; induction n with
  | zero => intro _ _ _ _ _ _ h; cases h
  | succ n ih =>
    intro l1 l2 l3 M w9 M9 h
    rw [f_C_suspectLeg_12] at h
    rcases ite_i h with ⟨-, h⟩ | ⟨-, h⟩
    ·
      cases h
      exact Fr.rf _ _
    ·
      obtain ⟨_, M25, e263, h⟩ := bn2_i h
      rcases ite_i h with ⟨-, h⟩ | ⟨-, h⟩
      ·
        exact ((Fr.up (fr_C_misclosureWithPin e263) (by first | rfl | decide +kernel | (simp [inT, frle] <;> omega) | (simp [inT, frle]; omega))).tr (Fr.up (fr_C_suspectLeg_47 ih h) (by first | rfl | decide +kernel | (simp [inT, frle] <;> omega) | (simp [inT, frle]; omega))))
      ·
        rcases ite_i h with ⟨-, h⟩ | ⟨-, h⟩
        ·
          exact ((Fr.up (fr_C_misclosureWithPin e263) (by first | rfl | decide +kernel | (simp [inT, frle] <;> omega) | (simp [inT, frle]; omega))).tr (Fr.up (fr_C_suspectLeg_47 ih h) (by first | rfl | decide +kernel | (simp [inT, frle] <;> omega) | (simp [inT, frle]; omega))))
        ·
          exact ((Fr.up (fr_C_misclosureWithPin e263) (by first | rfl | decide +kernel | (simp [inT, frle] <;> omega) | (simp [inT, frle]; omega))).tr (Fr.up (fr_C_suspectLeg_47 ih h) (by first | rfl | decide +kernel | (simp [inT, frle] <;> omega) | (simp [inT, frle]; omega))))
theorem fr_C_suspectLeg_12 {n : Nat} {l1 : Int32} {l2 : Int32} {l3 : Int32} {M : Mm} {w9 : Int32} {M9 : Mm} (h : f_C_suspectLeg_12 n l1 l2 l3 M = some (w9, M9)) : Fr [(4, 13, 0), (25, 25, 6), (26, 26, 0), (27, 27, 0), (28, 28, 0), (29, 29, 0), (30, 30, 0)] M M9 := fr_C_suspectLeg_12_i n _ _ _ _ _ _ h
theorem fr_C_suspectLeg {M : Mm} {w9 : Int32} {M9 : Mm} (h : f_C_suspectLeg M = some (w9, M9)) : Fr [(4, 13, 0), (25, 25, 6), (26, 26, 0), (27, 27, 0), (28, 28, 0), (29, 29, 0), (30, 30, 0)] M M9 := by
  unfold f_C_suspectLeg at h
  obtain ⟨M3, e264, h⟩ := bn_i h
  obtain ⟨_, e265, h⟩ := bn_i h
  exact ((Fr.up (fr_C_followed e264) (by first | rfl | decide +kernel | (simp [inT, frle] <;> omega) | (simp [inT, frle]; omega))).tr (Fr.up (fr_C_suspectLeg_12 h) (by first | rfl | decide +kernel | (simp [inT, frle] <;> omega) | (simp [inT, frle]; omega))))
theorem fr_C_inconsistencies_99 {r66 : Int32 → Int32 → Mm → Option (Int32 × Mm)} {l2 : Int32} {l3 : Int32} {M : Mm} {w9 : Int32} {M9 : Mm} (h_r66 : ∀ (v0 : Int32) (v1 : Int32) (v2 : Mm) (w9 : Int32) (M9 : Mm), r66 v0 v1 v2 = some (w9, M9) → Fr [] v2 M9) (h : f_C_inconsistencies_99 r66 l2 l3 M = some (w9, M9)) : Fr [] M M9 := by
  unfold f_C_inconsistencies_99 at h
  exact (h_r66 _ _ _ _ _ h)
theorem fr_C_inconsistencies_66_i : ∀ (n : Nat) (l2 : Int32) (l3 : Int32) (M : Mm) (w9 : Int32) (M9 : Mm), f_C_inconsistencies_66 n l2 l3 M = some (w9, M9) → Fr [] M M9 := by
  intro n; induction n with
  | zero => intro _ _ _ _ _ h; cases h
  | succ n ih =>
    intro l2 l3 M w9 M9 h
    rw [f_C_inconsistencies_66] at h
    rcases ite_i h with ⟨-, h⟩ | ⟨-, h⟩
    ·
      cases h
      exact Fr.rf _ _
    ·
      obtain ⟨_, e266, h⟩ := bn_i h
      obtain ⟨_, e267, h⟩ := bn_i h
      rcases ite_i h with ⟨-, h⟩ | ⟨-, h⟩
      ·
        exact (Fr.up (fr_C_inconsistencies_99 ih h) (by first | rfl | decide +kernel | (simp [inT, frle] <;> omega) | (simp [inT, frle]; omega)))
      ·
        exact (Fr.up (fr_C_inconsistencies_99 ih h) (by first | rfl | decide +kernel | (simp [inT, frle] <;> omega) | (simp [inT, frle]; omega)))
theorem fr_C_inconsistencies_66 {n : Nat} {l2 : Int32} {l3 : Int32} {M : Mm} {w9 : Int32} {M9 : Mm} (h : f_C_inconsistencies_66 n l2 l3 M = some (w9, M9)) : Fr [] M M9 := fr_C_inconsistencies_66_i n _ _ _ _ _ h
theorem fr_C_inconsistencies_64 {l2 : Int32} {M : Mm} {w9 : Int32} {M9 : Mm} (h : f_C_inconsistencies_64 l2 M = some (w9, M9)) : Fr [] M M9 := by
  unfold f_C_inconsistencies_64 at h
  exact (Fr.up (fr_C_inconsistencies_66 h) (by first | rfl | decide +kernel | (simp [inT, frle] <;> omega) | (simp [inT, frle]; omega)))
theorem fr_C_inconsistencies_62 {t0 : Int32} {t1 : Int32} {M : Mm} {w9 : Int32} {M9 : Mm} (h : f_C_inconsistencies_62 t0 t1 M = some (w9, M9)) : Fr [] M M9 := by
  unfold f_C_inconsistencies_62 at h
  exact (Fr.up (fr_C_inconsistencies_64 h) (by first | rfl | decide +kernel | (simp [inT, frle] <;> omega) | (simp [inT, frle]; omega)))
theorem fr_C_inconsistencies_42 {t0 : Int32} {t1 : Int32} {M : Mm} {w9 : Int32} {M9 : Mm} (h : f_C_inconsistencies_42 t0 t1 M = some (w9, M9)) : Fr [] M M9 := by
  unfold f_C_inconsistencies_42 at h
  have h := (chk_i h).2
  rcases ite_i h with ⟨-, h⟩ | ⟨-, h⟩
  ·
    exact (Fr.up (fr_C_inconsistencies_62 h) (by first | rfl | decide +kernel | (simp [inT, frle] <;> omega) | (simp [inT, frle]; omega)))
  ·
    exact (Fr.up (fr_C_inconsistencies_62 h) (by first | rfl | decide +kernel | (simp [inT, frle] <;> omega) | (simp [inT, frle]; omega)))
theorem fr_C_inconsistencies {M : Mm} {w9 : Int32} {M9 : Mm} (h : f_C_inconsistencies M = some (w9, M9)) : Fr [(25, 25, 6), (26, 26, 0), (27, 27, 0), (28, 28, 0), (29, 29, 0), (30, 30, 0)] M M9 := by
  unfold f_C_inconsistencies at h
  obtain ⟨M1, e268, h⟩ := bn_i h
  rcases ite_i h with ⟨-, h⟩ | ⟨-, h⟩
  ·
    exact ((Fr.up (fr_C_followed e268) (by first | rfl | decide +kernel | (simp [inT, frle] <;> omega) | (simp [inT, frle]; omega))).tr (Fr.up (fr_C_inconsistencies_64 h) (by first | rfl | decide +kernel | (simp [inT, frle] <;> omega) | (simp [inT, frle]; omega))))
  ·
    obtain ⟨_, e269, h⟩ := bn_i h
    rcases ite_i h with ⟨-, h⟩ | ⟨-, h⟩
    ·
      exact ((Fr.up (fr_C_followed e268) (by first | rfl | decide +kernel | (simp [inT, frle] <;> omega) | (simp [inT, frle]; omega))).tr (Fr.up (fr_C_inconsistencies_64 h) (by first | rfl | decide +kernel | (simp [inT, frle] <;> omega) | (simp [inT, frle]; omega))))
    ·
      have h := (chk_i h).2
      rcases ite_i h with ⟨-, h⟩ | ⟨-, h⟩
      ·
        exact ((Fr.up (fr_C_followed e268) (by first | rfl | decide +kernel | (simp [inT, frle] <;> omega) | (simp [inT, frle]; omega))).tr (Fr.up (fr_C_inconsistencies_42 h) (by first | rfl | decide +kernel | (simp [inT, frle] <;> omega) | (simp [inT, frle]; omega))))
      ·
        exact ((Fr.up (fr_C_followed e268) (by first | rfl | decide +kernel | (simp [inT, frle] <;> omega) | (simp [inT, frle]; omega))).tr (Fr.up (fr_C_inconsistencies_42 h) (by first | rfl | decide +kernel | (simp [inT, frle] <;> omega) | (simp [inT, frle]; omega))))
theorem fr_C_meanLeg {M : Mm} {w9 : UInt64} {M9 : Mm} (h : f_C_meanLeg M = some (w9, M9)) : Fr [(25, 25, 6), (26, 26, 0), (27, 27, 0), (28, 28, 0), (29, 29, 0), (30, 30, 0)] M M9 := by
  unfold f_C_meanLeg at h
  rcases ite_i h with ⟨-, h⟩ | ⟨-, h⟩
  ·
    cases h
    exact Fr.rf _ _
  ·
    obtain ⟨_, M13, e270, h⟩ := bn2_i h
    have h := (chkC_i h).2
    cases h
    exact (Fr.up (fr_C_perimeter e270) (by first | rfl | decide +kernel | (simp [inT, frle] <;> omega) | (simp [inT, frle]; omega)))
theorem fr_C_bogShare {M : Mm} {w9 : UInt32} {M9 : Mm} (h : f_C_bogShare M = some (w9, M9)) : Fr [(25, 25, 6), (26, 26, 0), (27, 27, 0), (28, 28, 0), (29, 29, 0), (30, 30, 0)] M M9 := by
  unfold f_C_bogShare at h
  obtain ⟨_, M1, e271, h⟩ := bn2_i h
  rcases ite_i h with ⟨-, h⟩ | ⟨-, h⟩
  ·
    cases h
    exact (Fr.up (fr_C_perimeter e271) (by first | rfl | decide +kernel | (simp [inT, frle] <;> omega) | (simp [inT, frle]; omega)))
  ·
    obtain ⟨_, e272, h⟩ := bn_i h
    have h := (chkC_i h).2
    cases h
    exact (Fr.up (fr_C_perimeter e271) (by first | rfl | decide +kernel | (simp [inT, frle] <;> omega) | (simp [inT, frle]; omega)))
theorem fr_C_writeByte_31 {M : Mm} {M9 : Mm} (h : f_C_writeByte_31 M = some M9) : Fr [] M M9 := by
  unfold f_C_writeByte_31 at h
  cases h
  exact Fr.rf _ _
theorem fr_C_writeByte {l1 : Int32} {M : Mm} {M9 : Mm} (h : f_C_writeByte l1 M = some M9) : Fr [(0, 0, 7), (14, 14, 0)] M M9 := by
  unfold f_C_writeByte at h
  rcases ite_i h with ⟨-, h⟩ | ⟨-, h⟩
  ·
    exact (Fr.up (fr_C_writeByte_31 h) (by first | rfl | decide +kernel | (simp [inT, frle] <;> omega) | (simp [inT, frle]; omega)))
  ·
    have h := (chk_i h).2
    obtain ⟨M20, e273, h⟩ := bm_i h
    obtain ⟨M28, e274, h⟩ := bm_i h
    exact ((fr_wr e273 (by first | rfl | (intro _; rfl) | (simp [inT, frle] <;> omega) | (simp [inT, frle]; omega) | (intro _; simp [inT, frle]; omega))).tr ((fr_wr e274 (by first | rfl | (intro _; rfl) | (simp [inT, frle] <;> omega) | (simp [inT, frle]; omega) | (intro _; simp [inT, frle]; omega))).tr (Fr.up (fr_C_writeByte_31 h) (by first | rfl | decide +kernel | (simp [inT, frle] <;> omega) | (simp [inT, frle]; omega)))))
theorem fr_C_writeNumber_46 {r19 : Int32 → Int32 → Mm → Option Mm} {l2 : Int32} {l3 : Int32} {M : Mm} {M9 : Mm} (h_r19 : ∀ (v0 : Int32) (v1 : Int32) (v2 : Mm) (M9 : Mm), r19 v0 v1 v2 = some M9 → Fr [(0, 0, 7), (14, 14, 0)] v2 M9) (h : f_C_writeNumber_46 r19 l2 l3 M = some M9) : Fr [(0, 0, 7), (14, 14, 0)] M M9 := by
  unfold f_C_writeNumber_46 at h
  exact (h_r19 _ _ _ _ h)
theorem fr_C_writeNumber_33 {r19 : Int32 → Int32 → Mm → Option Mm} {l2 : Int32} {l3 : Int32} {M : Mm} {M9 : Mm} (h_r19 : ∀ (v0 : Int32) (v1 : Int32) (v2 : Mm) (M9 : Mm), r19 v0 v1 v2 = some M9 → Fr [(0, 0, 7), (14, 14, 0)] v2 M9) (h : f_C_writeNumber_33 r19 l2 l3 M = some M9) : Fr [(0, 0, 7), (14, 14, 0)] M M9 := by
  unfold f_C_writeNumber_33 at h
  have h := (chk_i h).2
  obtain ⟨M43, e275, h⟩ := bn_i h
  exact ((Fr.up (fr_C_writeByte e275) (by first | rfl | decide +kernel | (simp [inT, frle] <;> omega) | (simp [inT, frle]; omega))).tr (Fr.up (fr_C_writeNumber_46 h_r19 h) (by first | rfl | decide +kernel | (simp [inT, frle] <;> omega) | (simp [inT, frle]; omega))))
theorem fr_C_writeNumber_19_i : ∀ (n : Nat) (l2 : Int32) (l3 : Int32) (M : Mm) (M9 : Mm), f_C_writeNumber_19 n l2 l3 M = some M9 → Fr [(0, 0, 7), (14, 14, 0)] M M9 := by
  intro n; induction n with
  | zero => intro _ _ _ _ h; cases h
  | succ n ih =>
    intro l2 l3 M M9 h
    rw [f_C_writeNumber_19] at h
    rcases ite_i h with ⟨-, h⟩ | ⟨-, h⟩
    ·
      cases h
      exact Fr.rf _ _
    ·
      rcases ite_i h with ⟨-, h⟩ | ⟨-, h⟩
      ·
        exact (Fr.up (fr_C_writeNumber_33 ih h) (by first | rfl | decide +kernel | (simp [inT, frle] <;> omega) | (simp [inT, frle]; omega)))
      ·
        rcases ite_i h with ⟨-, h⟩ | ⟨-, h⟩
        ·
          exact (Fr.up (fr_C_writeNumber_33 ih h) (by first | rfl | decide +kernel | (simp [inT, frle] <;> omega) | (simp [inT, frle]; omega)))
        ·
          exact (Fr.up (fr_C_writeNumber_46 ih h) (by first | rfl | decide +kernel | (simp [inT, frle] <;> omega) | (simp [inT, frle]; omega)))
theorem fr_C_writeNumber_19 {n : Nat} {l2 : Int32} {l3 : Int32} {M : Mm} {M9 : Mm} (h : f_C_writeNumber_19 n l2 l3 M = some M9) : Fr [(0, 0, 7), (14, 14, 0)] M M9 := fr_C_writeNumber_19_i n _ _ _ _ h
theorem fr_C_writeNumber_10 {l1 : Int32} {M : Mm} {M9 : Mm} (h : f_C_writeNumber_10 l1 M = some M9) : Fr [(0, 0, 7), (14, 14, 0)] M M9 := by
  unfold f_C_writeNumber_10 at h
  exact (Fr.up (fr_C_writeNumber_19 h) (by first | rfl | decide +kernel | (simp [inT, frle] <;> omega) | (simp [inT, frle]; omega)))
theorem fr_C_writeNumber {l1 : Int32} {M : Mm} {M9 : Mm} (h : f_C_writeNumber l1 M = some M9) : Fr [(0, 0, 7), (14, 14, 0)] M M9 := by
  unfold f_C_writeNumber at h
  rcases ite_i h with ⟨-, h⟩ | ⟨-, h⟩
  ·
    exact (Fr.up (fr_C_writeNumber_10 h) (by first | rfl | decide +kernel | (simp [inT, frle] <;> omega) | (simp [inT, frle]; omega)))
  ·
    obtain ⟨M7, e276, h⟩ := bn_i h
    exact ((Fr.up (fr_C_writeByte e276) (by first | rfl | decide +kernel | (simp [inT, frle] <;> omega) | (simp [inT, frle]; omega))).tr (Fr.up (fr_C_writeNumber_10 h) (by first | rfl | decide +kernel | (simp [inT, frle] <;> omega) | (simp [inT, frle]; omega))))
theorem fr_C_writeStations_30 {r12 : Int32 → Mm → Option (Int32 × Mm)} {l2 : Int32} {M : Mm} {w9 : Int32} {M9 : Mm} (h_r12 : ∀ (v0 : Int32) (v1 : Mm) (w9 : Int32) (M9 : Mm), r12 v0 v1 = some (w9, M9) → Fr [(0, 0, 7), (14, 14, 0)] v1 M9) (h : f_C_writeStations_30 r12 l2 M = some (w9, M9)) : Fr [(0, 0, 7), (14, 14, 0)] M M9 := by
  unfold f_C_writeStations_30 at h
  have h := (chk_i h).2
  obtain ⟨M37, e277, h⟩ := bn_i h
  obtain ⟨M43, e278, h⟩ := bn_i h
  obtain ⟨M53, e279, h⟩ := bn_i h
  exact ((Fr.up (fr_C_writeNumber e277) (by first | rfl | decide +kernel | (simp [inT, frle] <;> omega) | (simp [inT, frle]; omega))).tr ((Fr.up (fr_C_writeByte e278) (by first | rfl | decide +kernel | (simp [inT, frle] <;> omega) | (simp [inT, frle]; omega))).tr ((Fr.up (fr_C_writeNumber e279) (by first | rfl | decide +kernel | (simp [inT, frle] <;> omega) | (simp [inT, frle]; omega))).tr (h_r12 _ _ _ _ h))))
theorem fr_C_writeStations_12_i : ∀ (n : Nat) (l2 : Int32) (M : Mm) (w9 : Int32) (M9 : Mm), f_C_writeStations_12 n l2 M = some (w9, M9) → Fr [(0, 0, 7), (14, 14, 0)] M M9 := by
  intro n; induction n with
  | zero => intro _ _ _ _ h; cases h
  | succ n ih =>
    intro l2 M w9 M9 h
    rw [f_C_writeStations_12] at h
    rcases ite_i h with ⟨-, h⟩ | ⟨-, h⟩
    ·
      cases h
      exact Fr.rf _ _
    ·
      rcases ite_i h with ⟨-, h⟩ | ⟨-, h⟩
      ·
        exact (Fr.up (fr_C_writeStations_30 ih h) (by first | rfl | decide +kernel | (simp [inT, frle] <;> omega) | (simp [inT, frle]; omega)))
      ·
        obtain ⟨M27, e280, h⟩ := bn_i h
        exact ((Fr.up (fr_C_writeByte e280) (by first | rfl | decide +kernel | (simp [inT, frle] <;> omega) | (simp [inT, frle]; omega))).tr (Fr.up (fr_C_writeStations_30 ih h) (by first | rfl | decide +kernel | (simp [inT, frle] <;> omega) | (simp [inT, frle]; omega))))
theorem fr_C_writeStations_12 {n : Nat} {l2 : Int32} {M : Mm} {w9 : Int32} {M9 : Mm} (h : f_C_writeStations_12 n l2 M = some (w9, M9)) : Fr [(0, 0, 7), (14, 14, 0)] M M9 := fr_C_writeStations_12_i n _ _ _ _ h
theorem fr_C_writeStations {M : Mm} {w9 : Int32} {M9 : Mm} (h : f_C_writeStations M = some (w9, M9)) : Fr [(0, 0, 7), (14, 14, 0), (25, 25, 6), (26, 26, 0), (27, 27, 0), (28, 28, 0), (29, 29, 0), (30, 30, 0)] M M9 := by
  unfold f_C_writeStations at h
  obtain ⟨M1, e281, h⟩ := bn_i h
  obtain ⟨M7, e282, h⟩ := bm_i h
  exact ((Fr.up (fr_C_followed e281) (by first | rfl | decide +kernel | (simp [inT, frle] <;> omega) | (simp [inT, frle]; omega))).tr ((fr_wr e282 (by first | rfl | (intro _; rfl) | (simp [inT, frle] <;> omega) | (simp [inT, frle]; omega) | (intro _; simp [inT, frle]; omega))).tr (Fr.up (fr_C_writeStations_12 h) (by first | rfl | decide +kernel | (simp [inT, frle] <;> omega) | (simp [inT, frle]; omega)))))
theorem fr_M_fails_41 {t0 : Int32} {M : Mm} {w9 : Int32} {M9 : Mm} (h : f_M_fails_41 t0 M = some (w9, M9)) : Fr [] M M9 := by
  unfold f_M_fails_41 at h
  have h := (chk_i h).2
  cases h
  exact Fr.rf _ _
theorem fr_M_fails_26 {t1 : Int32} {M : Mm} {w9 : Int32} {M9 : Mm} (h : f_M_fails_26 t1 M = some (w9, M9)) : Fr [(134, 134, 8)] M M9 := by
  unfold f_M_fails_26 at h
  obtain ⟨M26, e283, h⟩ := bm_i h
  rcases ite_i h with ⟨-, h⟩ | ⟨-, h⟩
  ·
    exact ((fr_wr e283 (by first | rfl | (intro _; rfl) | (simp [inT, frle] <;> omega) | (simp [inT, frle]; omega) | (intro _; simp [inT, frle]; omega))).tr (Fr.up (fr_M_fails_41 h) (by first | rfl | decide +kernel | (simp [inT, frle] <;> omega) | (simp [inT, frle]; omega))))
  ·
    exact ((fr_wr e283 (by first | rfl | (intro _; rfl) | (simp [inT, frle] <;> omega) | (simp [inT, frle]; omega) | (intro _; simp [inT, frle]; omega))).tr (Fr.up (fr_M_fails_41 h) (by first | rfl | decide +kernel | (simp [inT, frle] <;> omega) | (simp [inT, frle]; omega))))
theorem fr_M_fails {l1 : Int32} {l2 : Int32} {l3 : Int32} {M : Mm} {w9 : Int32} {M9 : Mm} (h : f_M_fails l1 l2 l3 M = some (w9, M9)) : Fr [(134, 134, 8)] M M9 := by
  unfold f_M_fails at h
  rcases ite_i h with ⟨-, h⟩ | ⟨-, h⟩
  ·
    rcases ite_i h with ⟨-, h⟩ | ⟨-, h⟩
    ·
      rcases ite_i h with ⟨-, h⟩ | ⟨-, h⟩
      ·
        exact (Fr.up (fr_M_fails_26 h) (by first | rfl | decide +kernel | (simp [inT, frle] <;> omega) | (simp [inT, frle]; omega)))
      ·
        exact (Fr.up (fr_M_fails_26 h) (by first | rfl | decide +kernel | (simp [inT, frle] <;> omega) | (simp [inT, frle]; omega)))
    ·
      exact (Fr.up (fr_M_fails_26 h) (by first | rfl | decide +kernel | (simp [inT, frle] <;> omega) | (simp [inT, frle]; omega)))
  ·
    exact (Fr.up (fr_M_fails_26 h) (by first | rfl | decide +kernel | (simp [inT, frle] <;> omega) | (simp [inT, frle]; omega)))
theorem fr_M_told {l1 : Int32} {M : Mm} {w9 : Int32} {M9 : Mm} (h : f_M_told l1 M = some (w9, M9)) : Fr [(134, 134, 8)] M M9 := by
  unfold f_M_told at h
  obtain ⟨M2, e284, h⟩ := bm_i h
  cases h
  exact (fr_wr e284 (by first | rfl | (intro _; rfl) | (simp [inT, frle] <;> omega) | (simp [inT, frle]; omega) | (intro _; simp [inT, frle]; omega)))
theorem fr_M_copy {a : Nat} {b : Nat} {l1 : Int32} {l3 : Int32} {M : Mm} {M9 : Mm} (h : f_M_copy a b l1 l3 M = some M9) : Fr [(b, b, 0)] M M9 := by
  unfold f_M_copy at h
  have h := (chk_i h).2
  obtain ⟨M7, e285, h⟩ := bm_i h
  cases h
  exact (fr_cpy e285 (by first | rfl | (intro _; rfl) | (simp [inT, frle] <;> omega) | (simp [inT, frle]; omega) | (intro _; simp [inT, frle]; omega)))
theorem fr_M_remember_37 {a : Nat} {M : Mm} {M9 : Mm} (h : f_M_remember_37 a M = some M9) : Fr [(134, 134, 7), (137, 137, 0)] M M9 := by
  unfold f_M_remember_37 at h
  obtain ⟨M51, e286, h⟩ := bn_i h
  obtain ⟨M61, e287, h⟩ := bm_i h
  cases h
  exact ((Fr.up (fr_M_copy e286) (by first | rfl | decide +kernel | (simp [inT, frle] <;> omega) | (simp [inT, frle]; omega))).tr (fr_wr e287 (by first | rfl | (intro _; rfl) | (simp [inT, frle] <;> omega) | (simp [inT, frle]; omega) | (intro _; simp [inT, frle]; omega))))
theorem fr_M_remember {a : Nat} {M : Mm} {M9 : Mm} (h : f_M_remember a M = some M9) : Fr [(134, 134, 7), (137, 137, 0)] M M9 := by
  unfold f_M_remember at h
  rcases ite_i h with ⟨-, h⟩ | ⟨-, h⟩
  ·
    have h := (chk_i h).2
    obtain ⟨M24, e288, h⟩ := bm_i h
    obtain ⟨M34, e289, h⟩ := bm_i h
    exact ((fr_cpy e288 (by first | rfl | (intro _; rfl) | (simp [inT, frle] <;> omega) | (simp [inT, frle]; omega) | (intro _; simp [inT, frle]; omega))).tr ((fr_wr e289 (by first | rfl | (intro _; rfl) | (simp [inT, frle] <;> omega) | (simp [inT, frle]; omega) | (intro _; simp [inT, frle]; omega))).tr (Fr.up (fr_M_remember_37 h) (by first | rfl | decide +kernel | (simp [inT, frle] <;> omega) | (simp [inT, frle]; omega)))))
  ·
    exact (Fr.up (fr_M_remember_37 h) (by first | rfl | decide +kernel | (simp [inT, frle] <;> omega) | (simp [inT, frle]; omega)))
theorem fr_M_put {l1 : Int32} {l2 : Int32} {l3 : Int32} {M : Mm} {M9 : Mm} (h : f_M_put l1 l2 l3 M = some M9) : Fr [(135, 135, 0)] M M9 := by
  unfold f_M_put at h
  have h := (chk_i h).2
  obtain ⟨M13, e290, h⟩ := bm_i h
  cases h
  exact (fr_wr e290 (by first | rfl | (intro _; rfl) | (simp [inT, frle] <;> omega) | (simp [inT, frle]; omega) | (intro _; simp [inT, frle]; omega)))
theorem fr_M_findRaw_23_i : ∀ (n : Nat) (l1 : Int32) (M : Mm) (M9 : Mm), f_M_findRaw_23 n l1 M = some M9 → Fr [(143, 143, 0), (144, 144, 0), (145, 145, 0)] M M9 := by
  intro n; induction n with
  | zero => intro _ _ _ h; cases h
  | succ n ih =>
    intro l1 M M9 h
    rw [f_M_findRaw_23] at h
    rcases ite_i h with ⟨-, h⟩ | ⟨-, h⟩
    ·
      cases h
      exact Fr.rf _ _
    ·
      have h := (chk_i h).2
      obtain ⟨_, e291, h⟩ := bn_i h
      have h := (chk_i h).2
      obtain ⟨M53, e292, h⟩ := bm_i h
      obtain ⟨_, e293, h⟩ := bn_i h
      obtain ⟨M74, e294, h⟩ := bm_i h
      obtain ⟨_, e295, h⟩ := bn_i h
      obtain ⟨M94, e296, h⟩ := bm_i h
      exact ((fr_wr e292 (by first | rfl | (intro _; rfl) | (simp [inT, frle] <;> omega) | (simp [inT, frle]; omega) | (intro _; simp [inT, frle]; omega))).tr ((fr_wr e294 (by first | rfl | (intro _; rfl) | (simp [inT, frle] <;> omega) | (simp [inT, frle]; omega) | (intro _; simp [inT, frle]; omega))).tr ((fr_wr e296 (by first | rfl | (intro _; rfl) | (simp [inT, frle] <;> omega) | (simp [inT, frle]; omega) | (intro _; simp [inT, frle]; omega))).tr (ih _ _ _ h))))
theorem fr_M_findRaw_23 {n : Nat} {l1 : Int32} {M : Mm} {M9 : Mm} (h : f_M_findRaw_23 n l1 M = some M9) : Fr [(143, 143, 0), (144, 144, 0), (145, 145, 0)] M M9 := fr_M_findRaw_23_i n _ _ _ h
theorem fr_M_findRaw {M : Mm} {M9 : Mm} (h : f_M_findRaw M = some M9) : Fr [(143, 143, 0), (144, 144, 0), (145, 145, 0)] M M9 := by
  unfold f_M_findRaw at h
  obtain ⟨M6, e297, h⟩ := bm_i h
  obtain ⟨M13, e298, h⟩ := bm_i h
  obtain ⟨M20, e299, h⟩ := bm_i h
  exact ((fr_wr e297 (by first | rfl | (intro _; rfl) | (simp [inT, frle] <;> omega) | (simp [inT, frle]; omega) | (intro _; simp [inT, frle]; omega))).tr ((fr_wr e298 (by first | rfl | (intro _; rfl) | (simp [inT, frle] <;> omega) | (simp [inT, frle]; omega) | (intro _; simp [inT, frle]; omega))).tr ((fr_wr e299 (by first | rfl | (intro _; rfl) | (simp [inT, frle] <;> omega) | (simp [inT, frle]; omega) | (intro _; simp [inT, frle]; omega))).tr (Fr.up (fr_M_findRaw_23 h) (by first | rfl | decide +kernel | (simp [inT, frle] <;> omega) | (simp [inT, frle]; omega))))))
theorem fr_M_findStations_40_i : ∀ (n : Nat) (l1 : Int32) (l2 : Int32) (l3 : Int32) (M : Mm) (M9 : Mm), f_M_findStations_40 n l1 l2 l3 M = some M9 → Fr [(143, 143, 0), (144, 144, 0)] M M9 := by
  intro n; induction n with
  | zero => intro _ _ _ _ _ h; cases h
  | succ n ih =>
    intro l1 l2 l3 M M9 h
    rw [f_M_findStations_40] at h
    rcases ite_i h with ⟨-, h⟩ | ⟨-, h⟩
    ·
      cases h
      exact Fr.rf _ _
    ·
      have h := (chk_i h).2
      obtain ⟨_, e300, h⟩ := bn_i h
      obtain ⟨_, e301, h⟩ := bn_i h
      obtain ⟨M72, e302, h⟩ := bm_i h
      obtain ⟨_, e303, h⟩ := bn_i h
      obtain ⟨_, e304, h⟩ := bn_i h
      obtain ⟨M95, e305, h⟩ := bm_i h
      exact ((fr_wr e302 (by first | rfl | (intro _; rfl) | (simp [inT, frle] <;> omega) | (simp [inT, frle]; omega) | (intro _; simp [inT, frle]; omega))).tr ((fr_wr e305 (by first | rfl | (intro _; rfl) | (simp [inT, frle] <;> omega) | (simp [inT, frle]; omega) | (intro _; simp [inT, frle]; omega))).tr (ih _ _ _ _ _ h)))
theorem fr_M_findStations_40 {n : Nat} {l1 : Int32} {l2 : Int32} {l3 : Int32} {M : Mm} {M9 : Mm} (h : f_M_findStations_40 n l1 l2 l3 M = some M9) : Fr [(143, 143, 0), (144, 144, 0)] M M9 := fr_M_findStations_40_i n _ _ _ _ _ h
theorem fr_M_findStations {M : Mm} {M9 : Mm} (h : f_M_findStations M = some M9) : Fr [(143, 143, 0), (144, 144, 0), (145, 145, 0)] M M9 := by
  unfold f_M_findStations at h
  obtain ⟨M1, e306, h⟩ := bn_i h
  rcases ite_i h with ⟨-, h⟩ | ⟨-, h⟩
  ·
    cases h
    exact (Fr.up (fr_M_findRaw e306) (by first | rfl | decide +kernel | (simp [inT, frle] <;> omega) | (simp [inT, frle]; omega)))
  ·
    have h := (chk_i h).2
    exact ((Fr.up (fr_M_findRaw e306) (by first | rfl | decide +kernel | (simp [inT, frle] <;> omega) | (simp [inT, frle]; omega))).tr (Fr.up (fr_M_findStations_40 h) (by first | rfl | decide +kernel | (simp [inT, frle] <;> omega) | (simp [inT, frle]; omega))))
theorem fr_M_miss {M : Mm} {w9 : Int32} {M9 : Mm} (h : f_M_miss M = some (w9, M9)) : Fr [(143, 143, 0), (144, 144, 0), (145, 145, 0)] M M9 := by
  unfold f_M_miss at h
  obtain ⟨M1, e307, h⟩ := bn_i h
  have h := (chk_i h).2
  obtain ⟨_, e308, h⟩ := bn_i h
  cases h
  exact (Fr.up (fr_M_findRaw e307) (by first | rfl | decide +kernel | (simp [inT, frle] <;> omega) | (simp [inT, frle]; omega)))
theorem fr_M_drops {l1 : Int32} {l2 : Int32} {M : Mm} {w9 : Int32} {M9 : Mm} (h : f_M_drops l1 l2 M = some (w9, M9)) : Fr [(135, 135, 0)] M M9 := by
  unfold f_M_drops at h
  obtain ⟨_, e309, h⟩ := bn_i h
  obtain ⟨M11, e310, h⟩ := bn_i h
  obtain ⟨_, e311, h⟩ := bn_i h
  cases h
  exact (Fr.up (fr_M_put e310) (by first | rfl | decide +kernel | (simp [inT, frle] <;> omega) | (simp [inT, frle]; omega)))
theorem fr_M_removes_12_i : ∀ (n : Nat) (l1 : Int32) (M : Mm) (w9 : Int32) (M9 : Mm), f_M_removes_12 n l1 M = some (w9, M9) → Fr [(135, 135, 0)] M M9 := by
  intro n; induction n with
  | zero => intro _ _ _ _ h; cases h
  | succ n ih =>
    intro l1 M w9 M9 h
    rw [f_M_removes_12] at h
    rcases ite_i h with ⟨-, h⟩ | ⟨-, h⟩
    ·
      cases h
      exact Fr.rf _ _
    ·
      obtain ⟨M27, e312, h⟩ := bn_i h
      exact ((Fr.up (fr_M_put e312) (by first | rfl | decide +kernel | (simp [inT, frle] <;> omega) | (simp [inT, frle]; omega))).tr (ih _ _ _ _ h))
theorem fr_M_removes_12 {n : Nat} {l1 : Int32} {M : Mm} {w9 : Int32} {M9 : Mm} (h : f_M_removes_12 n l1 M = some (w9, M9)) : Fr [(135, 135, 0)] M M9 := fr_M_removes_12_i n _ _ _ _ h
theorem fr_M_removes {M : Mm} {w9 : Int32} {M9 : Mm} (h : f_M_removes M = some (w9, M9)) : Fr [(135, 135, 0)] M M9 := by
  unfold f_M_removes at h
  obtain ⟨M9, e313, h⟩ := bm_i h
  exact ((fr_wr e313 (by first | rfl | (intro _; rfl) | (simp [inT, frle] <;> omega) | (simp [inT, frle]; omega) | (intro _; simp [inT, frle]; omega))).tr (Fr.up (fr_M_removes_12 h) (by first | rfl | decide +kernel | (simp [inT, frle] <;> omega) | (simp [inT, frle]; omega))))
theorem fr_M_sets {l1 : Int32} {l2 : Int32} {M : Mm} {w9 : Int32} {M9 : Mm} (h : f_M_sets l1 l2 M = some (w9, M9)) : Fr [(135, 135, 0)] M M9 := by
  unfold f_M_sets at h
  have h := (chk_i h).2
  obtain ⟨M13, e314, h⟩ := bm_i h
  cases h
  exact (fr_wr e314 (by first | rfl | (intro _; rfl) | (simp [inT, frle] <;> omega) | (simp [inT, frle]; omega) | (intro _; simp [inT, frle]; omega)))
theorem fr_M_layName_18_i : ∀ (n : Nat) (l1 : Int32) (M : Mm) (M9 : Mm), f_M_layName_18 n l1 M = some M9 → Fr [(135, 135, 0)] M M9 := by
  intro n; induction n with
  | zero => intro _ _ _ h; cases h
  | succ n ih =>
    intro l1 M M9 h
    rw [f_M_layName_18] at h
    rcases ite_i h with ⟨-, h⟩ | ⟨-, h⟩
    ·
      cases h
      exact Fr.rf _ _
    ·
      have h := (chk_i h).2
      obtain ⟨M43, e315, h⟩ := bn_i h
      exact ((Fr.up (fr_M_put e315) (by first | rfl | decide +kernel | (simp [inT, frle] <;> omega) | (simp [inT, frle]; omega))).tr (ih _ _ _ h))
theorem fr_M_layName_18 {n : Nat} {l1 : Int32} {M : Mm} {M9 : Mm} (h : f_M_layName_18 n l1 M = some M9) : Fr [(135, 135, 0)] M M9 := fr_M_layName_18_i n _ _ _ h
theorem fr_M_layName {M : Mm} {M9 : Mm} (h : f_M_layName M = some M9) : Fr [(135, 135, 0)] M M9 := by
  unfold f_M_layName at h
  obtain ⟨M13, e316, h⟩ := bn_i h
  exact ((Fr.up (fr_M_put e316) (by first | rfl | decide +kernel | (simp [inT, frle] <;> omega) | (simp [inT, frle]; omega))).tr (Fr.up (fr_M_layName_18 h) (by first | rfl | decide +kernel | (simp [inT, frle] <;> omega) | (simp [inT, frle]; omega))))
theorem fr_M_four_3_i : ∀ (n : Nat) (l1 : Int32) (l2 : Int32) (M : Mm) (M9 : Mm), f_M_four_3 n l1 l2 M = some M9 → Fr [(134, 134, 15), (141, 141, 0)] M M9 := by
  intro n; induction n with
  | zero => intro _ _ _ _ h; cases h
  | succ n ih =>
    intro l1 l2 M M9 h
    rw [f_M_four_3] at h
    rcases ite_i h with ⟨-, h⟩ | ⟨-, h⟩
    ·
      cases h
      exact Fr.rf _ _
    ·
      have h := (chk_i h).2
      obtain ⟨M22, e317, h⟩ := bm_i h
      obtain ⟨M30, e318, h⟩ := bm_i h
      exact ((fr_wr e317 (by first | rfl | (intro _; rfl) | (simp [inT, frle] <;> omega) | (simp [inT, frle]; omega) | (intro _; simp [inT, frle]; omega))).tr ((fr_wr e318 (by first | rfl | (intro _; rfl) | (simp [inT, frle] <;> omega) | (simp [inT, frle]; omega) | (intro _; simp [inT, frle]; omega))).tr (ih _ _ _ _ h)))
theorem fr_M_four_3 {n : Nat} {l1 : Int32} {l2 : Int32} {M : Mm} {M9 : Mm} (h : f_M_four_3 n l1 l2 M = some M9) : Fr [(134, 134, 15), (141, 141, 0)] M M9 := fr_M_four_3_i n _ _ _ _ h
theorem fr_M_four {l1 : Int32} {M : Mm} {M9 : Mm} (h : f_M_four l1 M = some M9) : Fr [(134, 134, 15), (141, 141, 0)] M M9 := by
  unfold f_M_four at h
  exact (Fr.up (fr_M_four_3 h) (by first | rfl | decide +kernel | (simp [inT, frle] <;> omega) | (simp [inT, frle]; omega)))
theorem fr_M_append {l1 : Int32} {l2 : Int32} {l3 : Int32} {l4 : Int32} {l5 : Int32} {M : Mm} {w9 : Int32} {M9 : Mm} (h : f_M_append l1 l2 l3 l4 l5 M = some (w9, M9)) : Fr [(134, 134, 8), (134, 134, 15), (141, 141, 0)] M M9 := by
  unfold f_M_append at h
  obtain ⟨M2, e319, h⟩ := bm_i h
  rcases ite_i h with ⟨-, h⟩ | ⟨-, h⟩
  ·
    obtain ⟨M22, e320, h⟩ := bn_i h
    obtain ⟨M27, e321, h⟩ := bn_i h
    obtain ⟨M32, e322, h⟩ := bn_i h
    obtain ⟨M38, e323, h⟩ := bn_i h
    obtain ⟨M44, e324, h⟩ := bn_i h
    cases h
    exact ((fr_wr e319 (by first | rfl | (intro _; rfl) | (simp [inT, frle] <;> omega) | (simp [inT, frle]; omega) | (intro _; simp [inT, frle]; omega))).tr ((Fr.up (fr_M_four e320) (by first | rfl | decide +kernel | (simp [inT, frle] <;> omega) | (simp [inT, frle]; omega))).tr ((Fr.up (fr_M_four e321) (by first | rfl | decide +kernel | (simp [inT, frle] <;> omega) | (simp [inT, frle]; omega))).tr ((Fr.up (fr_M_four e322) (by first | rfl | decide +kernel | (simp [inT, frle] <;> omega) | (simp [inT, frle]; omega))).tr ((Fr.up (fr_M_four e323) (by first | rfl | decide +kernel | (simp [inT, frle] <;> omega) | (simp [inT, frle]; omega))).tr (Fr.up (fr_M_four e324) (by first | rfl | decide +kernel | (simp [inT, frle] <;> omega) | (simp [inT, frle]; omega))))))))
  ·
    cases h
    exact (fr_wr e319 (by first | rfl | (intro _; rfl) | (simp [inT, frle] <;> omega) | (simp [inT, frle]; omega) | (intro _; simp [inT, frle]; omega)))
theorem fr_M_truncateInput_18 {l1 : Int32} {t1 : Int32} {M : Mm} {w9 : Int32} {M9 : Mm} (h : f_M_truncateInput_18 l1 t1 M = some (w9, M9)) : Fr [(134, 134, 8), (134, 134, 15)] M M9 := by
  unfold f_M_truncateInput_18 at h
  obtain ⟨_, M20, e325, h⟩ := bn2_i h
  rcases ite_i h with ⟨-, h⟩ | ⟨-, h⟩
  ·
    obtain ⟨M30, e326, h⟩ := bm_i h
    cases h
    exact ((Fr.up (fr_M_fails e325) (by first | rfl | decide +kernel | (simp [inT, frle] <;> omega) | (simp [inT, frle]; omega))).tr (fr_wr e326 (by first | rfl | (intro _; rfl) | (simp [inT, frle] <;> omega) | (simp [inT, frle]; omega) | (intro _; simp [inT, frle]; omega))))
  ·
    cases h
    exact (Fr.up (fr_M_fails e325) (by first | rfl | decide +kernel | (simp [inT, frle] <;> omega) | (simp [inT, frle]; omega)))
theorem fr_M_truncateInput {l1 : Int32} {M : Mm} {w9 : Int32} {M9 : Mm} (h : f_M_truncateInput l1 M = some (w9, M9)) : Fr [(134, 134, 8), (134, 134, 15)] M M9 := by
  unfold f_M_truncateInput at h
  obtain ⟨_, e327, h⟩ := bn_i h
  rcases ite_i h with ⟨-, h⟩ | ⟨-, h⟩
  ·
    exact (Fr.up (fr_M_truncateInput_18 h) (by first | rfl | decide +kernel | (simp [inT, frle] <;> omega) | (simp [inT, frle]; omega)))
  ·
    exact (Fr.up (fr_M_truncateInput_18 h) (by first | rfl | decide +kernel | (simp [inT, frle] <;> omega) | (simp [inT, frle]; omega)))
theorem fr_M_next_212 {M : Mm} {M9 : Mm} (h : f_M_next_212 M = some M9) : Fr [] M M9 := by
  unfold f_M_next_212 at h
  cases h
  exact Fr.rf _ _
theorem fr_M_next_126_i : ∀ (n : Nat) (M : Mm) (M9 : Mm), f_M_next_126 n M = some M9 → Fr [(134, 134, 23), (134, 134, 24)] M M9 := by
  intro n; induction n with
  | zero => intro _ _ h; cases h
  | succ n ih =>
    intro M M9 h
    rw [f_M_next_126] at h
    obtain ⟨_, e328, h⟩ := bn_i h
    rcases ite_i h with ⟨-, h⟩ | ⟨-, h⟩
    ·
      exact (Fr.up (fr_M_next_212 h) (by first | rfl | decide +kernel | (simp [inT, frle] <;> omega) | (simp [inT, frle]; omega)))
    ·
      have h := (chk_i h).2
      obtain ⟨M163, e329, h⟩ := bm_i h
      obtain ⟨M173, e330, h⟩ := bm_i h
      exact ((fr_wr e329 (by first | rfl | (intro _; rfl) | (simp [inT, frle] <;> omega) | (simp [inT, frle]; omega) | (intro _; simp [inT, frle]; omega))).tr ((fr_wr e330 (by first | rfl | (intro _; rfl) | (simp [inT, frle] <;> omega) | (simp [inT, frle]; omega) | (intro _; simp [inT, frle]; omega))).tr (ih _ _ h)))
theorem fr_M_next_126 {n : Nat} {M : Mm} {M9 : Mm} (h : f_M_next_126 n M = some M9) : Fr [(134, 134, 23), (134, 134, 24)] M M9 := fr_M_next_126_i n _ _ h
theorem fr_M_next_199 {t1 : Int32} {M : Mm} {M9 : Mm} (h : f_M_next_199 t1 M = some M9) : Fr [(134, 134, 21), (134, 134, 23)] M M9 := by
  unfold f_M_next_199 at h
  obtain ⟨M199, e331, h⟩ := bm_i h
  obtain ⟨M209, e332, h⟩ := bm_i h
  exact ((fr_wr e331 (by first | rfl | (intro _; rfl) | (simp [inT, frle] <;> omega) | (simp [inT, frle]; omega) | (intro _; simp [inT, frle]; omega))).tr ((fr_wr e332 (by first | rfl | (intro _; rfl) | (simp [inT, frle] <;> omega) | (simp [inT, frle]; omega) | (intro _; simp [inT, frle]; omega))).tr (Fr.up (fr_M_next_212 h) (by first | rfl | decide +kernel | (simp [inT, frle] <;> omega) | (simp [inT, frle]; omega)))))
theorem fr_M_next_81_i : ∀ (n : Nat) (M : Mm) (M9 : Mm), f_M_next_81 n M = some M9 → Fr [(134, 134, 23)] M M9 := by
  intro n; induction n with
  | zero => intro _ _ h; cases h
  | succ n ih =>
    intro M M9 h
    rw [f_M_next_81] at h
    obtain ⟨_, e333, h⟩ := bn_i h
    rcases ite_i h with ⟨-, h⟩ | ⟨-, h⟩
    ·
      exact (Fr.up (fr_M_next_212 h) (by first | rfl | decide +kernel | (simp [inT, frle] <;> omega) | (simp [inT, frle]; omega)))
    ·
      obtain ⟨M99, e334, h⟩ := bm_i h
      exact ((fr_wr e334 (by first | rfl | (intro _; rfl) | (simp [inT, frle] <;> omega) | (simp [inT, frle]; omega) | (intro _; simp [inT, frle]; omega))).tr (ih _ _ h))
theorem fr_M_next_81 {n : Nat} {M : Mm} {M9 : Mm} (h : f_M_next_81 n M = some M9) : Fr [(134, 134, 23)] M M9 := fr_M_next_81_i n _ _ h
theorem fr_M_next_38 {M : Mm} {M9 : Mm} (h : f_M_next_38 M = some M9) : Fr [(134, 134, 21), (134, 134, 22), (134, 134, 23), (134, 134, 24)] M M9 := by
  unfold f_M_next_38 at h
  obtain ⟨M43, e335, h⟩ := bm_i h
  rcases ite_i h with ⟨-, h⟩ | ⟨-, h⟩
  ·
    obtain ⟨M59, e336, h⟩ := bm_i h
    exact ((fr_wr e335 (by first | rfl | (intro _; rfl) | (simp [inT, frle] <;> omega) | (simp [inT, frle]; omega) | (intro _; simp [inT, frle]; omega))).tr ((fr_wr e336 (by first | rfl | (intro _; rfl) | (simp [inT, frle] <;> omega) | (simp [inT, frle]; omega) | (intro _; simp [inT, frle]; omega))).tr (Fr.up (fr_M_next_212 h) (by first | rfl | decide +kernel | (simp [inT, frle] <;> omega) | (simp [inT, frle]; omega)))))
  ·
    obtain ⟨_, e337, h⟩ := bn_i h
    rcases ite_i h with ⟨-, h⟩ | ⟨-, h⟩
    ·
      obtain ⟨_, e338, h⟩ := bn_i h
      rcases ite_i h with ⟨-, h⟩ | ⟨-, h⟩
      ·
        have h := (chk_i h).2
        rcases ite_i h with ⟨-, h⟩ | ⟨-, h⟩
        ·
          exact ((fr_wr e335 (by first | rfl | (intro _; rfl) | (simp [inT, frle] <;> omega) | (simp [inT, frle]; omega) | (intro _; simp [inT, frle]; omega))).tr (Fr.up (fr_M_next_199 h) (by first | rfl | decide +kernel | (simp [inT, frle] <;> omega) | (simp [inT, frle]; omega))))
        ·
          exact ((fr_wr e335 (by first | rfl | (intro _; rfl) | (simp [inT, frle] <;> omega) | (simp [inT, frle]; omega) | (intro _; simp [inT, frle]; omega))).tr (Fr.up (fr_M_next_199 h) (by first | rfl | decide +kernel | (simp [inT, frle] <;> omega) | (simp [inT, frle]; omega))))
      ·
        obtain ⟨M118, e339, h⟩ := bm_i h
        obtain ⟨M123, e340, h⟩ := bm_i h
        exact ((fr_wr e335 (by first | rfl | (intro _; rfl) | (simp [inT, frle] <;> omega) | (simp [inT, frle]; omega) | (intro _; simp [inT, frle]; omega))).tr ((fr_wr e339 (by first | rfl | (intro _; rfl) | (simp [inT, frle] <;> omega) | (simp [inT, frle]; omega) | (intro _; simp [inT, frle]; omega))).tr ((fr_wr e340 (by first | rfl | (intro _; rfl) | (simp [inT, frle] <;> omega) | (simp [inT, frle]; omega) | (intro _; simp [inT, frle]; omega))).tr (Fr.up (fr_M_next_126 h) (by first | rfl | decide +kernel | (simp [inT, frle] <;> omega) | (simp [inT, frle]; omega))))))
    ·
      obtain ⟨M78, e341, h⟩ := bm_i h
      exact ((fr_wr e335 (by first | rfl | (intro _; rfl) | (simp [inT, frle] <;> omega) | (simp [inT, frle]; omega) | (intro _; simp [inT, frle]; omega))).tr ((fr_wr e341 (by first | rfl | (intro _; rfl) | (simp [inT, frle] <;> omega) | (simp [inT, frle]; omega) | (intro _; simp [inT, frle]; omega))).tr (Fr.up (fr_M_next_81 h) (by first | rfl | decide +kernel | (simp [inT, frle] <;> omega) | (simp [inT, frle]; omega)))))
theorem fr_M_next_0_i : ∀ (n : Nat) (M : Mm) (M9 : Mm), f_M_next_0 n M = some M9 → Fr [(134, 134, 21), (134, 134, 22), (134, 134, 23), (134, 134, 24)] M M9 := by
  intro n; induction n with
  | zero => intro _ _ h; cases h
  | succ n ih =>
    intro M M9 h
    rw [f_M_next_0] at h
    rcases ite_i h with ⟨-, h⟩ | ⟨-, h⟩
    ·
      exact (Fr.up (fr_M_next_38 h) (by first | rfl | decide +kernel | (simp [inT, frle] <;> omega) | (simp [inT, frle]; omega)))
    ·
      have h := (chk_i h).2
      rcases ite_i h with ⟨-, h⟩ | ⟨-, h⟩
      ·
        obtain ⟨M32, e342, h⟩ := bm_i h
        exact ((fr_wr e342 (by first | rfl | (intro _; rfl) | (simp [inT, frle] <;> omega) | (simp [inT, frle]; omega) | (intro _; simp [inT, frle]; omega))).tr (ih _ _ h))
      ·
        exact (Fr.up (fr_M_next_38 h) (by first | rfl | decide +kernel | (simp [inT, frle] <;> omega) | (simp [inT, frle]; omega)))
theorem fr_M_next_0 {n : Nat} {M : Mm} {M9 : Mm} (h : f_M_next_0 n M = some M9) : Fr [(134, 134, 21), (134, 134, 22), (134, 134, 23), (134, 134, 24)] M M9 := fr_M_next_0_i n _ _ h
theorem fr_M_next {M : Mm} {M9 : Mm} (h : f_M_next M = some M9) : Fr [(134, 134, 21), (134, 134, 22), (134, 134, 23), (134, 134, 24)] M M9 := by
  unfold f_M_next at h
  rcases ite_i h with ⟨-, h⟩ | ⟨-, h⟩
  ·
    exact (Fr.up (fr_M_next_38 h) (by first | rfl | decide +kernel | (simp [inT, frle] <;> omega) | (simp [inT, frle]; omega)))
  ·
    have h := (chk_i h).2
    rcases ite_i h with ⟨-, h⟩ | ⟨-, h⟩
    ·
      obtain ⟨M32, e343, h⟩ := bm_i h
      exact ((fr_wr e343 (by first | rfl | (intro _; rfl) | (simp [inT, frle] <;> omega) | (simp [inT, frle]; omega) | (intro _; simp [inT, frle]; omega))).tr (Fr.up (fr_M_next_0 h) (by first | rfl | decide +kernel | (simp [inT, frle] <;> omega) | (simp [inT, frle]; omega))))
    ·
      exact (Fr.up (fr_M_next_38 h) (by first | rfl | decide +kernel | (simp [inT, frle] <;> omega) | (simp [inT, frle]; omega)))
theorem fr_M_wrong_11 {M : Mm} {M9 : Mm} (h : f_M_wrong_11 M = some M9) : Fr [] M M9 := by
  unfold f_M_wrong_11 at h
  cases h
  exact Fr.rf _ _
theorem fr_M_wrong {l1 : Int32} {l2 : Int32} {M : Mm} {M9 : Mm} (h : f_M_wrong l1 l2 M = some M9) : Fr [(134, 134, 17), (134, 134, 18), (134, 134, 25)] M M9 := by
  unfold f_M_wrong at h
  rcases ite_i h with ⟨-, h⟩ | ⟨-, h⟩
  ·
    rcases ite_i h with ⟨-, h⟩ | ⟨-, h⟩
    ·
      exact (Fr.up (fr_M_wrong_11 h) (by first | rfl | decide +kernel | (simp [inT, frle] <;> omega) | (simp [inT, frle]; omega)))
    ·
      obtain ⟨M14, e344, h⟩ := bm_i h
      obtain ⟨M19, e345, h⟩ := bm_i h
      obtain ⟨M27, e346, h⟩ := bm_i h
      cases h
      exact ((fr_wr e344 (by first | rfl | (intro _; rfl) | (simp [inT, frle] <;> omega) | (simp [inT, frle]; omega) | (intro _; simp [inT, frle]; omega))).tr ((fr_wr e345 (by first | rfl | (intro _; rfl) | (simp [inT, frle] <;> omega) | (simp [inT, frle]; omega) | (intro _; simp [inT, frle]; omega))).tr (fr_wr e346 (by first | rfl | (intro _; rfl) | (simp [inT, frle] <;> omega) | (simp [inT, frle]; omega) | (intro _; simp [inT, frle]; omega)))))
  ·
    exact (Fr.up (fr_M_wrong_11 h) (by first | rfl | decide +kernel | (simp [inT, frle] <;> omega) | (simp [inT, frle]; omega)))
theorem fr_M_go_11 {M : Mm} {M9 : Mm} (h : f_M_go_11 M = some M9) : Fr [] M M9 := by
  unfold f_M_go_11 at h
  cases h
  exact Fr.rf _ _
theorem fr_M_go {M : Mm} {M9 : Mm} (h : f_M_go M = some M9) : Fr [(134, 134, 21), (134, 134, 22), (134, 134, 23), (134, 134, 24)] M M9 := by
  unfold f_M_go at h
  rcases ite_i h with ⟨-, h⟩ | ⟨-, h⟩
  ·
    obtain ⟨M8, e347, h⟩ := bn_i h
    exact ((Fr.up (fr_M_next e347) (by first | rfl | decide +kernel | (simp [inT, frle] <;> omega) | (simp [inT, frle]; omega))).tr (Fr.up (fr_M_go_11 h) (by first | rfl | decide +kernel | (simp [inT, frle] <;> omega) | (simp [inT, frle]; omega))))
  ·
    exact (Fr.up (fr_M_go_11 h) (by first | rfl | decide +kernel | (simp [inT, frle] <;> omega) | (simp [inT, frle]; omega)))
theorem fr_M_number_62 {t0 : Int32} {M : Mm} {w9 : Int32} {M9 : Mm} (h : f_M_number_62 t0 M = some (w9, M9)) : Fr [(134, 134, 21), (134, 134, 22), (134, 134, 23), (134, 134, 24)] M M9 := by
  unfold f_M_number_62 at h
  obtain ⟨M64, e348, h⟩ := bn_i h
  cases h
  exact (Fr.up (fr_M_go e348) (by first | rfl | decide +kernel | (simp [inT, frle] <;> omega) | (simp [inT, frle]; omega)))
theorem fr_M_number_43 {l1 : Int32} {t1 : Int32} {M : Mm} {w9 : Int32} {M9 : Mm} (h : f_M_number_43 l1 t1 M = some (w9, M9)) : Fr [(134, 134, 17), (134, 134, 18), (134, 134, 21), (134, 134, 22), (134, 134, 23), (134, 134, 24), (134, 134, 25)] M M9 := by
  unfold f_M_number_43 at h
  obtain ⟨M44, e349, h⟩ := bn_i h
  rcases ite_i h with ⟨-, h⟩ | ⟨-, h⟩
  ·
    exact ((Fr.up (fr_M_wrong e349) (by first | rfl | decide +kernel | (simp [inT, frle] <;> omega) | (simp [inT, frle]; omega))).tr (Fr.up (fr_M_number_62 h) (by first | rfl | decide +kernel | (simp [inT, frle] <;> omega) | (simp [inT, frle]; omega))))
  ·
    exact ((Fr.up (fr_M_wrong e349) (by first | rfl | decide +kernel | (simp [inT, frle] <;> omega) | (simp [inT, frle]; omega))).tr (Fr.up (fr_M_number_62 h) (by first | rfl | decide +kernel | (simp [inT, frle] <;> omega) | (simp [inT, frle]; omega))))
theorem fr_M_number_42 {l1 : Int32} {M : Mm} {w9 : Int32} {M9 : Mm} (h : f_M_number_42 l1 M = some (w9, M9)) : Fr [(134, 134, 17), (134, 134, 18), (134, 134, 21), (134, 134, 22), (134, 134, 23), (134, 134, 24), (134, 134, 25)] M M9 := by
  unfold f_M_number_42 at h
  exact (Fr.up (fr_M_number_43 h) (by first | rfl | decide +kernel | (simp [inT, frle] <;> omega) | (simp [inT, frle]; omega)))
theorem fr_M_number_14 {l1 : Int32} {l2 : Int32} {t1 : Int32} {M : Mm} {w9 : Int32} {M9 : Mm} (h : f_M_number_14 l1 l2 t1 M = some (w9, M9)) : Fr [(134, 134, 17), (134, 134, 18), (134, 134, 21), (134, 134, 22), (134, 134, 23), (134, 134, 24), (134, 134, 25)] M M9 := by
  unfold f_M_number_14 at h
  obtain ⟨M15, e350, h⟩ := bn_i h
  rcases ite_i h with ⟨-, h⟩ | ⟨-, h⟩
  ·
    obtain ⟨_, e351, h⟩ := bn_i h
    rcases ite_i h with ⟨-, h⟩ | ⟨-, h⟩
    ·
      exact ((Fr.up (fr_M_wrong e350) (by first | rfl | decide +kernel | (simp [inT, frle] <;> omega) | (simp [inT, frle]; omega))).tr (Fr.up (fr_M_number_43 h) (by first | rfl | decide +kernel | (simp [inT, frle] <;> omega) | (simp [inT, frle]; omega))))
    ·
      exact ((Fr.up (fr_M_wrong e350) (by first | rfl | decide +kernel | (simp [inT, frle] <;> omega) | (simp [inT, frle]; omega))).tr (Fr.up (fr_M_number_42 h) (by first | rfl | decide +kernel | (simp [inT, frle] <;> omega) | (simp [inT, frle]; omega))))
  ·
    exact ((Fr.up (fr_M_wrong e350) (by first | rfl | decide +kernel | (simp [inT, frle] <;> omega) | (simp [inT, frle]; omega))).tr (Fr.up (fr_M_number_42 h) (by first | rfl | decide +kernel | (simp [inT, frle] <;> omega) | (simp [inT, frle]; omega))))
theorem fr_M_number {l1 : Int32} {l2 : Int32} {M : Mm} {w9 : Int32} {M9 : Mm} (h : f_M_number l1 l2 M = some (w9, M9)) : Fr [(134, 134, 17), (134, 134, 18), (134, 134, 21), (134, 134, 22), (134, 134, 23), (134, 134, 24), (134, 134, 25)] M M9 := by
  unfold f_M_number at h
  rcases ite_i h with ⟨-, h⟩ | ⟨-, h⟩
  ·
    exact (Fr.up (fr_M_number_14 h) (by first | rfl | decide +kernel | (simp [inT, frle] <;> omega) | (simp [inT, frle]; omega)))
  ·
    exact (Fr.up (fr_M_number_14 h) (by first | rfl | decide +kernel | (simp [inT, frle] <;> omega) | (simp [inT, frle]; omega)))
theorem fr_M_bearingHere_24 {t1 : Int32} {M : Mm} {w9 : Int32} {M9 : Mm} (h : f_M_bearingHere_24 t1 M = some (w9, M9)) : Fr [(134, 134, 17), (134, 134, 18), (134, 134, 21), (134, 134, 22), (134, 134, 23), (134, 134, 24), (134, 134, 25)] M M9 := by
  unfold f_M_bearingHere_24 at h
  obtain ⟨M25, e352, h⟩ := bn_i h
  obtain ⟨_, M33, e353, h⟩ := bn2_i h
  cases h
  exact ((Fr.up (fr_M_wrong e352) (by first | rfl | decide +kernel | (simp [inT, frle] <;> omega) | (simp [inT, frle]; omega))).tr (Fr.up (fr_M_number e353) (by first | rfl | decide +kernel | (simp [inT, frle] <;> omega) | (simp [inT, frle]; omega))))
theorem fr_M_bearingHere_23 {M : Mm} {w9 : Int32} {M9 : Mm} (h : f_M_bearingHere_23 M = some (w9, M9)) : Fr [(134, 134, 17), (134, 134, 18), (134, 134, 21), (134, 134, 22), (134, 134, 23), (134, 134, 24), (134, 134, 25)] M M9 := by
  unfold f_M_bearingHere_23 at h
  exact (Fr.up (fr_M_bearingHere_24 h) (by first | rfl | decide +kernel | (simp [inT, frle] <;> omega) | (simp [inT, frle]; omega)))
theorem fr_M_bearingHere {M : Mm} {w9 : Int32} {M9 : Mm} (h : f_M_bearingHere M = some (w9, M9)) : Fr [(134, 134, 17), (134, 134, 18), (134, 134, 21), (134, 134, 22), (134, 134, 23), (134, 134, 24), (134, 134, 25)] M M9 := by
  unfold f_M_bearingHere at h
  rcases ite_i h with ⟨-, h⟩ | ⟨-, h⟩
  ·
    rcases ite_i h with ⟨-, h⟩ | ⟨-, h⟩
    ·
      exact (Fr.up (fr_M_bearingHere_23 h) (by first | rfl | decide +kernel | (simp [inT, frle] <;> omega) | (simp [inT, frle]; omega)))
    ·
      exact (Fr.up (fr_M_bearingHere_24 h) (by first | rfl | decide +kernel | (simp [inT, frle] <;> omega) | (simp [inT, frle]; omega)))
  ·
    exact (Fr.up (fr_M_bearingHere_23 h) (by first | rfl | decide +kernel | (simp [inT, frle] <;> omega) | (simp [inT, frle]; omega)))
theorem fr_M_nameHere_55_i : ∀ (n : Nat) (l1 : Int32) (M : Mm) (M9 : Mm), f_M_nameHere_55 n l1 M = some M9 → Fr [(147, 147, 0)] M M9 := by
  intro n; induction n with
  | zero => intro _ _ _ h; cases h
  | succ n ih =>
    intro l1 M M9 h
    rw [f_M_nameHere_55] at h
    rcases ite_i h with ⟨-, h⟩ | ⟨-, h⟩
    ·
      cases h
      exact Fr.rf _ _
    ·
      have h := (chk_i h).2
      have h := (chk_i h).2
      obtain ⟨M79, e354, h⟩ := bm_i h
      exact ((fr_wr e354 (by first | rfl | (intro _; rfl) | (simp [inT, frle] <;> omega) | (simp [inT, frle]; omega) | (intro _; simp [inT, frle]; omega))).tr (ih _ _ _ h))
theorem fr_M_nameHere_55 {n : Nat} {l1 : Int32} {M : Mm} {M9 : Mm} (h : f_M_nameHere_55 n l1 M = some M9) : Fr [(147, 147, 0)] M M9 := fr_M_nameHere_55_i n _ _ _ h
theorem fr_M_nameHere_28 {t1 : Int32} {M : Mm} {M9 : Mm} (h : f_M_nameHere_28 t1 M = some M9) : Fr [(134, 134, 17), (134, 134, 18), (134, 134, 20), (134, 134, 25), (147, 147, 0)] M M9 := by
  unfold f_M_nameHere_28 at h
  obtain ⟨M29, e355, h⟩ := bn_i h
  rcases ite_i h with ⟨-, h⟩ | ⟨-, h⟩
  ·
    obtain ⟨M50, e356, h⟩ := bm_i h
    exact ((Fr.up (fr_M_wrong e355) (by first | rfl | decide +kernel | (simp [inT, frle] <;> omega) | (simp [inT, frle]; omega))).tr ((fr_wr e356 (by first | rfl | (intro _; rfl) | (simp [inT, frle] <;> omega) | (simp [inT, frle]; omega) | (intro _; simp [inT, frle]; omega))).tr (Fr.up (fr_M_nameHere_55 h) (by first | rfl | decide +kernel | (simp [inT, frle] <;> omega) | (simp [inT, frle]; omega)))))
  ·
    cases h
    exact (Fr.up (fr_M_wrong e355) (by first | rfl | decide +kernel | (simp [inT, frle] <;> omega) | (simp [inT, frle]; omega)))
theorem fr_M_nameHere_23 {M : Mm} {M9 : Mm} (h : f_M_nameHere_23 M = some M9) : Fr [(134, 134, 17), (134, 134, 18), (134, 134, 20), (134, 134, 25), (147, 147, 0)] M M9 := by
  unfold f_M_nameHere_23 at h
  exact (Fr.up (fr_M_nameHere_28 h) (by first | rfl | decide +kernel | (simp [inT, frle] <;> omega) | (simp [inT, frle]; omega)))
theorem fr_M_nameHere {M : Mm} {M9 : Mm} (h : f_M_nameHere M = some M9) : Fr [(134, 134, 17), (134, 134, 18), (134, 134, 20), (134, 134, 25), (147, 147, 0)] M M9 := by
  unfold f_M_nameHere at h
  rcases ite_i h with ⟨-, h⟩ | ⟨-, h⟩
  ·
    rcases ite_i h with ⟨-, h⟩ | ⟨-, h⟩
    ·
      exact (Fr.up (fr_M_nameHere_28 h) (by first | rfl | decide +kernel | (simp [inT, frle] <;> omega) | (simp [inT, frle]; omega)))
    ·
      exact (Fr.up (fr_M_nameHere_23 h) (by first | rfl | decide +kernel | (simp [inT, frle] <;> omega) | (simp [inT, frle]; omega)))
  ·
    exact (Fr.up (fr_M_nameHere_23 h) (by first | rfl | decide +kernel | (simp [inT, frle] <;> omega) | (simp [inT, frle]; omega)))
theorem fr_M_legHere_38 {l1 : Int32} {t1 : Int32} {M : Mm} {w9 : Int32} {M9 : Mm} (h : f_M_legHere_38 l1 t1 M = some (w9, M9)) : Fr [(134, 134, 17), (134, 134, 18), (134, 134, 21), (134, 134, 22), (134, 134, 23), (134, 134, 24), (134, 134, 25)] M M9 := by
  unfold f_M_legHere_38 at h
  obtain ⟨M39, e357, h⟩ := bn_i h
  obtain ⟨M43, e358, h⟩ := bn_i h
  cases h
  exact ((Fr.up (fr_M_wrong e357) (by first | rfl | decide +kernel | (simp [inT, frle] <;> omega) | (simp [inT, frle]; omega))).tr (Fr.up (fr_M_go e358) (by first | rfl | decide +kernel | (simp [inT, frle] <;> omega) | (simp [inT, frle]; omega))))
theorem fr_M_legHere_37 {l1 : Int32} {M : Mm} {w9 : Int32} {M9 : Mm} (h : f_M_legHere_37 l1 M = some (w9, M9)) : Fr [(134, 134, 17), (134, 134, 18), (134, 134, 21), (134, 134, 22), (134, 134, 23), (134, 134, 24), (134, 134, 25)] M M9 := by
  unfold f_M_legHere_37 at h
  exact (Fr.up (fr_M_legHere_38 h) (by first | rfl | decide +kernel | (simp [inT, frle] <;> omega) | (simp [inT, frle]; omega)))
theorem fr_M_legHere_19 {t0 : Int32} {M : Mm} {w9 : Int32} {M9 : Mm} (h : f_M_legHere_19 t0 M = some (w9, M9)) : Fr [(134, 134, 17), (134, 134, 18), (134, 134, 21), (134, 134, 22), (134, 134, 23), (134, 134, 24), (134, 134, 25)] M M9 := by
  unfold f_M_legHere_19 at h
  rcases ite_i h with ⟨-, h⟩ | ⟨-, h⟩
  ·
    rcases ite_i h with ⟨-, h⟩ | ⟨-, h⟩
    ·
      exact (Fr.up (fr_M_legHere_38 h) (by first | rfl | decide +kernel | (simp [inT, frle] <;> omega) | (simp [inT, frle]; omega)))
    ·
      exact (Fr.up (fr_M_legHere_37 h) (by first | rfl | decide +kernel | (simp [inT, frle] <;> omega) | (simp [inT, frle]; omega)))
  ·
    exact (Fr.up (fr_M_legHere_37 h) (by first | rfl | decide +kernel | (simp [inT, frle] <;> omega) | (simp [inT, frle]; omega)))
theorem fr_M_legHere {M : Mm} {w9 : Int32} {M9 : Mm} (h : f_M_legHere M = some (w9, M9)) : Fr [(134, 134, 17), (134, 134, 18), (134, 134, 20), (134, 134, 21), (134, 134, 22), (134, 134, 23), (134, 134, 24), (134, 134, 25), (147, 147, 0)] M M9 := by
  unfold f_M_legHere at h
  obtain ⟨M1, e359, h⟩ := bn_i h
  rcases ite_i h with ⟨-, h⟩ | ⟨-, h⟩
  ·
    obtain ⟨_, e360, h⟩ := bn_i h
    exact ((Fr.up (fr_M_nameHere e359) (by first | rfl | decide +kernel | (simp [inT, frle] <;> omega) | (simp [inT, frle]; omega))).tr (Fr.up (fr_M_legHere_19 h) (by first | rfl | decide +kernel | (simp [inT, frle] <;> omega) | (simp [inT, frle]; omega))))
  ·
    exact ((Fr.up (fr_M_nameHere e359) (by first | rfl | decide +kernel | (simp [inT, frle] <;> omega) | (simp [inT, frle]; omega))).tr (Fr.up (fr_M_legHere_19 h) (by first | rfl | decide +kernel | (simp [inT, frle] <;> omega) | (simp [inT, frle]; omega))))
theorem fr_M_ends_52 {t0 : Int32} {M : Mm} {w9 : Int32} {M9 : Mm} (h : f_M_ends_52 t0 M = some (w9, M9)) : Fr [] M M9 := by
  unfold f_M_ends_52 at h
  have h := (chk_i h).2
  cases h
  exact Fr.rf _ _
theorem fr_M_ends_35 {t1 : Int32} {M : Mm} {w9 : Int32} {M9 : Mm} (h : f_M_ends_35 t1 M = some (w9, M9)) : Fr [(134, 134, 17), (134, 134, 18), (134, 134, 25)] M M9 := by
  unfold f_M_ends_35 at h
  obtain ⟨M37, e361, h⟩ := bn_i h
  rcases ite_i h with ⟨-, h⟩ | ⟨-, h⟩
  ·
    exact ((Fr.up (fr_M_wrong e361) (by first | rfl | decide +kernel | (simp [inT, frle] <;> omega) | (simp [inT, frle]; omega))).tr (Fr.up (fr_M_ends_52 h) (by first | rfl | decide +kernel | (simp [inT, frle] <;> omega) | (simp [inT, frle]; omega))))
  ·
    exact ((Fr.up (fr_M_wrong e361) (by first | rfl | decide +kernel | (simp [inT, frle] <;> omega) | (simp [inT, frle]; omega))).tr (Fr.up (fr_M_ends_52 h) (by first | rfl | decide +kernel | (simp [inT, frle] <;> omega) | (simp [inT, frle]; omega))))
theorem fr_M_ends_34 {M : Mm} {w9 : Int32} {M9 : Mm} (h : f_M_ends_34 M = some (w9, M9)) : Fr [(134, 134, 17), (134, 134, 18), (134, 134, 25)] M M9 := by
  unfold f_M_ends_34 at h
  exact (Fr.up (fr_M_ends_35 h) (by first | rfl | decide +kernel | (simp [inT, frle] <;> omega) | (simp [inT, frle]; omega)))
theorem fr_M_ends_14 {l1 : Int32} {t1 : Int32} {M : Mm} {w9 : Int32} {M9 : Mm} (h : f_M_ends_14 l1 t1 M = some (w9, M9)) : Fr [(134, 134, 17), (134, 134, 18), (134, 134, 25)] M M9 := by
  unfold f_M_ends_14 at h
  obtain ⟨M15, e362, h⟩ := bn_i h
  rcases ite_i h with ⟨-, h⟩ | ⟨-, h⟩
  ·
    rcases ite_i h with ⟨-, h⟩ | ⟨-, h⟩
    ·
      exact ((Fr.up (fr_M_wrong e362) (by first | rfl | decide +kernel | (simp [inT, frle] <;> omega) | (simp [inT, frle]; omega))).tr (Fr.up (fr_M_ends_35 h) (by first | rfl | decide +kernel | (simp [inT, frle] <;> omega) | (simp [inT, frle]; omega))))
    ·
      exact ((Fr.up (fr_M_wrong e362) (by first | rfl | decide +kernel | (simp [inT, frle] <;> omega) | (simp [inT, frle]; omega))).tr (Fr.up (fr_M_ends_34 h) (by first | rfl | decide +kernel | (simp [inT, frle] <;> omega) | (simp [inT, frle]; omega))))
  ·
    exact ((Fr.up (fr_M_wrong e362) (by first | rfl | decide +kernel | (simp [inT, frle] <;> omega) | (simp [inT, frle]; omega))).tr (Fr.up (fr_M_ends_34 h) (by first | rfl | decide +kernel | (simp [inT, frle] <;> omega) | (simp [inT, frle]; omega))))
theorem fr_M_ends {l1 : Int32} {M : Mm} {w9 : Int32} {M9 : Mm} (h : f_M_ends l1 M = some (w9, M9)) : Fr [(134, 134, 17), (134, 134, 18), (134, 134, 25)] M M9 := by
  unfold f_M_ends at h
  rcases ite_i h with ⟨-, h⟩ | ⟨-, h⟩
  ·
    exact (Fr.up (fr_M_ends_14 h) (by first | rfl | decide +kernel | (simp [inT, frle] <;> omega) | (simp [inT, frle]; omega)))
  ·
    exact (Fr.up (fr_M_ends_14 h) (by first | rfl | decide +kernel | (simp [inT, frle] <;> omega) | (simp [inT, frle]; omega)))
theorem fr_M_option {w : Nat} {l2 : Int32} {l3 : Int32} {M : Mm} {w9 : Int32} {M9 : Mm} (h : f_M_option w l2 l3 M = some (w9, M9)) : Fr [(134, 134, 17), (134, 134, 18), (134, 134, 21), (134, 134, 22), (134, 134, 23), (134, 134, 24), (134, 134, 25)] M M9 := by
  unfold f_M_option at h
  obtain ⟨_, e363, h⟩ := bn_i h
  rcases ite_i h with ⟨-, h⟩ | ⟨-, h⟩
  ·
    cases h
    exact Fr.rf _ _
  ·
    obtain ⟨M11, e364, h⟩ := bn_i h
    obtain ⟨_, M17, e365, h⟩ := bn2_i h
    cases h
    exact ((Fr.up (fr_M_go e364) (by first | rfl | decide +kernel | (simp [inT, frle] <;> omega) | (simp [inT, frle]; omega))).tr (Fr.up (fr_M_number e365) (by first | rfl | decide +kernel | (simp [inT, frle] <;> omega) | (simp [inT, frle]; omega))))
theorem fr_M_legTold_241 {M : Mm} {M9 : Mm} (h : f_M_legTold_241 M = some M9) : Fr [] M M9 := by
  unfold f_M_legTold_241 at h
  cases h
  exact Fr.rf _ _
theorem fr_M_legTold_220 {t1 : Int32} {t2 : Int32} {t3 : Int32} {M : Mm} {M9 : Mm} (h : f_M_legTold_220 t1 t2 t3 M = some M9) : Fr [(134, 134, 17), (134, 134, 18), (134, 134, 25), (135, 135, 0)] M M9 := by
  unfold f_M_legTold_220 at h
  obtain ⟨M220, e366, h⟩ := bn_i h
  obtain ⟨_, M225, e367, h⟩ := bn2_i h
  rcases ite_i h with ⟨-, h⟩ | ⟨-, h⟩
  ·
    exact ((Fr.up (fr_M_put e366) (by first | rfl | decide +kernel | (simp [inT, frle] <;> omega) | (simp [inT, frle]; omega))).tr ((Fr.up (fr_M_ends e367) (by first | rfl | decide +kernel | (simp [inT, frle] <;> omega) | (simp [inT, frle]; omega))).tr (Fr.up (fr_M_legTold_241 h) (by first | rfl | decide +kernel | (simp [inT, frle] <;> omega) | (simp [inT, frle]; omega)))))
  ·
    obtain ⟨M240, e368, h⟩ := bm_i h
    exact ((Fr.up (fr_M_put e366) (by first | rfl | decide +kernel | (simp [inT, frle] <;> omega) | (simp [inT, frle]; omega))).tr ((Fr.up (fr_M_ends e367) (by first | rfl | decide +kernel | (simp [inT, frle] <;> omega) | (simp [inT, frle]; omega))).tr ((fr_wr e368 (by first | rfl | (intro _; rfl) | (simp [inT, frle] <;> omega) | (simp [inT, frle]; omega) | (intro _; simp [inT, frle]; omega))).tr (Fr.up (fr_M_legTold_241 h) (by first | rfl | decide +kernel | (simp [inT, frle] <;> omega) | (simp [inT, frle]; omega))))))
theorem fr_M_legTold_196 {l1 : Int32} {l2 : Int32} {t1 : Int32} {t2 : Int32} {t3 : Int32} {M : Mm} {M9 : Mm} (h : f_M_legTold_196 l1 l2 t1 t2 t3 M = some M9) : Fr [(134, 134, 17), (134, 134, 18), (134, 134, 21), (134, 134, 22), (134, 134, 23), (134, 134, 24), (134, 134, 25), (135, 135, 0)] M M9 := by
  unfold f_M_legTold_196 at h
  obtain ⟨M196, e369, h⟩ := bn_i h
  rcases ite_i h with ⟨-, h⟩ | ⟨-, h⟩
  ·
    obtain ⟨_, M217, e370, h⟩ := bn2_i h
    exact ((Fr.up (fr_M_put e369) (by first | rfl | decide +kernel | (simp [inT, frle] <;> omega) | (simp [inT, frle]; omega))).tr ((Fr.up (fr_M_option e370) (by first | rfl | decide +kernel | (simp [inT, frle] <;> omega) | (simp [inT, frle]; omega))).tr (Fr.up (fr_M_legTold_220 h) (by first | rfl | decide +kernel | (simp [inT, frle] <;> omega) | (simp [inT, frle]; omega)))))
  ·
    exact ((Fr.up (fr_M_put e369) (by first | rfl | decide +kernel | (simp [inT, frle] <;> omega) | (simp [inT, frle]; omega))).tr (Fr.up (fr_M_legTold_220 h) (by first | rfl | decide +kernel | (simp [inT, frle] <;> omega) | (simp [inT, frle]; omega))))
theorem fr_M_legTold_172 {l1 : Int32} {l2 : Int32} {t1 : Int32} {t2 : Int32} {t3 : Int32} {M : Mm} {M9 : Mm} (h : f_M_legTold_172 l1 l2 t1 t2 t3 M = some M9) : Fr [(134, 134, 17), (134, 134, 18), (134, 134, 21), (134, 134, 22), (134, 134, 23), (134, 134, 24), (134, 134, 25), (135, 135, 0)] M M9 := by
  unfold f_M_legTold_172 at h
  obtain ⟨M172, e371, h⟩ := bn_i h
  rcases ite_i h with ⟨-, h⟩ | ⟨-, h⟩
  ·
    obtain ⟨_, M193, e372, h⟩ := bn2_i h
    exact ((Fr.up (fr_M_put e371) (by first | rfl | decide +kernel | (simp [inT, frle] <;> omega) | (simp [inT, frle]; omega))).tr ((Fr.up (fr_M_option e372) (by first | rfl | decide +kernel | (simp [inT, frle] <;> omega) | (simp [inT, frle]; omega))).tr (Fr.up (fr_M_legTold_196 h) (by first | rfl | decide +kernel | (simp [inT, frle] <;> omega) | (simp [inT, frle]; omega)))))
  ·
    exact ((Fr.up (fr_M_put e371) (by first | rfl | decide +kernel | (simp [inT, frle] <;> omega) | (simp [inT, frle]; omega))).tr (Fr.up (fr_M_legTold_196 h) (by first | rfl | decide +kernel | (simp [inT, frle] <;> omega) | (simp [inT, frle]; omega))))
theorem fr_M_legTold_149 {l1 : Int32} {l2 : Int32} {t1 : Int32} {t2 : Int32} {t3 : Int32} {M : Mm} {M9 : Mm} (h : f_M_legTold_149 l1 l2 t1 t2 t3 M = some M9) : Fr [(134, 134, 17), (134, 134, 18), (134, 134, 21), (134, 134, 22), (134, 134, 23), (134, 134, 24), (134, 134, 25), (135, 135, 0)] M M9 := by
  unfold f_M_legTold_149 at h
  obtain ⟨M149, e373, h⟩ := bn_i h
  rcases ite_i h with ⟨-, h⟩ | ⟨-, h⟩
  ·
    obtain ⟨_, M169, e374, h⟩ := bn2_i h
    exact ((Fr.up (fr_M_put e373) (by first | rfl | decide +kernel | (simp [inT, frle] <;> omega) | (simp [inT, frle]; omega))).tr ((Fr.up (fr_M_option e374) (by first | rfl | decide +kernel | (simp [inT, frle] <;> omega) | (simp [inT, frle]; omega))).tr (Fr.up (fr_M_legTold_172 h) (by first | rfl | decide +kernel | (simp [inT, frle] <;> omega) | (simp [inT, frle]; omega)))))
  ·
    exact ((Fr.up (fr_M_put e373) (by first | rfl | decide +kernel | (simp [inT, frle] <;> omega) | (simp [inT, frle]; omega))).tr (Fr.up (fr_M_legTold_172 h) (by first | rfl | decide +kernel | (simp [inT, frle] <;> omega) | (simp [inT, frle]; omega))))
theorem fr_M_legTold_126 {l1 : Int32} {l2 : Int32} {t1 : Int32} {t2 : Int32} {t3 : Int32} {M : Mm} {M9 : Mm} (h : f_M_legTold_126 l1 l2 t1 t2 t3 M = some M9) : Fr [(134, 134, 17), (134, 134, 18), (134, 134, 21), (134, 134, 22), (134, 134, 23), (134, 134, 24), (134, 134, 25), (135, 135, 0)] M M9 := by
  unfold f_M_legTold_126 at h
  obtain ⟨M126, e375, h⟩ := bn_i h
  rcases ite_i h with ⟨-, h⟩ | ⟨-, h⟩
  ·
    exact ((Fr.up (fr_M_put e375) (by first | rfl | decide +kernel | (simp [inT, frle] <;> omega) | (simp [inT, frle]; omega))).tr (Fr.up (fr_M_legTold_149 h) (by first | rfl | decide +kernel | (simp [inT, frle] <;> omega) | (simp [inT, frle]; omega))))
  ·
    obtain ⟨_, M142, e376, h⟩ := bn2_i h
    exact ((Fr.up (fr_M_put e375) (by first | rfl | decide +kernel | (simp [inT, frle] <;> omega) | (simp [inT, frle]; omega))).tr ((Fr.up (fr_M_number e376) (by first | rfl | decide +kernel | (simp [inT, frle] <;> omega) | (simp [inT, frle]; omega))).tr (Fr.up (fr_M_legTold_149 h) (by first | rfl | decide +kernel | (simp [inT, frle] <;> omega) | (simp [inT, frle]; omega)))))
theorem fr_M_legTold_105 {l1 : Int32} {l2 : Int32} {t1 : Int32} {t2 : Int32} {t3 : Int32} {M : Mm} {M9 : Mm} (h : f_M_legTold_105 l1 l2 t1 t2 t3 M = some M9) : Fr [(134, 134, 17), (134, 134, 18), (134, 134, 21), (134, 134, 22), (134, 134, 23), (134, 134, 24), (134, 134, 25), (135, 135, 0)] M M9 := by
  unfold f_M_legTold_105 at h
  obtain ⟨M105, e377, h⟩ := bn_i h
  rcases ite_i h with ⟨-, h⟩ | ⟨-, h⟩
  ·
    obtain ⟨_, M123, e378, h⟩ := bn2_i h
    exact ((Fr.up (fr_M_put e377) (by first | rfl | decide +kernel | (simp [inT, frle] <;> omega) | (simp [inT, frle]; omega))).tr ((Fr.up (fr_M_number e378) (by first | rfl | decide +kernel | (simp [inT, frle] <;> omega) | (simp [inT, frle]; omega))).tr (Fr.up (fr_M_legTold_126 h) (by first | rfl | decide +kernel | (simp [inT, frle] <;> omega) | (simp [inT, frle]; omega)))))
  ·
    exact ((Fr.up (fr_M_put e377) (by first | rfl | decide +kernel | (simp [inT, frle] <;> omega) | (simp [inT, frle]; omega))).tr (Fr.up (fr_M_legTold_126 h) (by first | rfl | decide +kernel | (simp [inT, frle] <;> omega) | (simp [inT, frle]; omega))))
theorem fr_M_legTold_50 {l1 : Int32} {t1 : Int32} {M : Mm} {M9 : Mm} (h : f_M_legTold_50 l1 t1 M = some M9) : Fr [(134, 134, 17), (134, 134, 18), (134, 134, 21), (134, 134, 22), (134, 134, 23), (134, 134, 24), (134, 134, 25), (135, 135, 0)] M M9 := by
  unfold f_M_legTold_50 at h
  obtain ⟨M51, e379, h⟩ := bn_i h
  obtain ⟨M55, e380, h⟩ := bn_i h
  rcases ite_i h with ⟨-, h⟩ | ⟨-, h⟩
  ·
    obtain ⟨M67, e381, h⟩ := bn_i h
    obtain ⟨_, M81, e382, h⟩ := bn2_i h
    obtain ⟨M84, e383, h⟩ := bn_i h
    rcases ite_i h with ⟨-, h⟩ | ⟨-, h⟩
    ·
      obtain ⟨_, M102, e384, h⟩ := bn2_i h
      exact ((Fr.up (fr_M_wrong e379) (by first | rfl | decide +kernel | (simp [inT, frle] <;> omega) | (simp [inT, frle]; omega))).tr ((Fr.up (fr_M_go e380) (by first | rfl | decide +kernel | (simp [inT, frle] <;> omega) | (simp [inT, frle]; omega))).tr ((Fr.up (fr_M_layName e381) (by first | rfl | decide +kernel | (simp [inT, frle] <;> omega) | (simp [inT, frle]; omega))).tr ((Fr.up (fr_M_bearingHere e382) (by first | rfl | decide +kernel | (simp [inT, frle] <;> omega) | (simp [inT, frle]; omega))).tr ((Fr.up (fr_M_put e383) (by first | rfl | decide +kernel | (simp [inT, frle] <;> omega) | (simp [inT, frle]; omega))).tr ((Fr.up (fr_M_number e384) (by first | rfl | decide +kernel | (simp [inT, frle] <;> omega) | (simp [inT, frle]; omega))).tr (Fr.up (fr_M_legTold_105 h) (by first | rfl | decide +kernel | (simp [inT, frle] <;> omega) | (simp [inT, frle]; omega)))))))))
    ·
      exact ((Fr.up (fr_M_wrong e379) (by first | rfl | decide +kernel | (simp [inT, frle] <;> omega) | (simp [inT, frle]; omega))).tr ((Fr.up (fr_M_go e380) (by first | rfl | decide +kernel | (simp [inT, frle] <;> omega) | (simp [inT, frle]; omega))).tr ((Fr.up (fr_M_layName e381) (by first | rfl | decide +kernel | (simp [inT, frle] <;> omega) | (simp [inT, frle]; omega))).tr ((Fr.up (fr_M_bearingHere e382) (by first | rfl | decide +kernel | (simp [inT, frle] <;> omega) | (simp [inT, frle]; omega))).tr ((Fr.up (fr_M_put e383) (by first | rfl | decide +kernel | (simp [inT, frle] <;> omega) | (simp [inT, frle]; omega))).tr (Fr.up (fr_M_legTold_105 h) (by first | rfl | decide +kernel | (simp [inT, frle] <;> omega) | (simp [inT, frle]; omega))))))))
  ·
    cases h
    exact ((Fr.up (fr_M_wrong e379) (by first | rfl | decide +kernel | (simp [inT, frle] <;> omega) | (simp [inT, frle]; omega))).tr (Fr.up (fr_M_go e380) (by first | rfl | decide +kernel | (simp [inT, frle] <;> omega) | (simp [inT, frle]; omega))))
theorem fr_M_legTold_49 {l1 : Int32} {M : Mm} {M9 : Mm} (h : f_M_legTold_49 l1 M = some M9) : Fr [(134, 134, 17), (134, 134, 18), (134, 134, 21), (134, 134, 22), (134, 134, 23), (134, 134, 24), (134, 134, 25), (135, 135, 0)] M M9 := by
  unfold f_M_legTold_49 at h
  exact (Fr.up (fr_M_legTold_50 h) (by first | rfl | decide +kernel | (simp [inT, frle] <;> omega) | (simp [inT, frle]; omega)))
theorem fr_M_legTold_17 {l1 : Int32} {t1 : Int32} {M : Mm} {M9 : Mm} (h : f_M_legTold_17 l1 t1 M = some M9) : Fr [(134, 134, 17), (134, 134, 18), (134, 134, 20), (134, 134, 21), (134, 134, 22), (134, 134, 23), (134, 134, 24), (134, 134, 25), (135, 135, 0), (147, 147, 0)] M M9 := by
  unfold f_M_legTold_17 at h
  obtain ⟨M18, e385, h⟩ := bn_i h
  obtain ⟨M22, e386, h⟩ := bn_i h
  obtain ⟨M26, e387, h⟩ := bn_i h
  rcases ite_i h with ⟨-, h⟩ | ⟨-, h⟩
  ·
    obtain ⟨_, e388, h⟩ := bn_i h
    rcases ite_i h with ⟨-, h⟩ | ⟨-, h⟩
    ·
      exact ((Fr.up (fr_M_wrong e385) (by first | rfl | decide +kernel | (simp [inT, frle] <;> omega) | (simp [inT, frle]; omega))).tr ((Fr.up (fr_M_go e386) (by first | rfl | decide +kernel | (simp [inT, frle] <;> omega) | (simp [inT, frle]; omega))).tr ((Fr.up (fr_M_nameHere e387) (by first | rfl | decide +kernel | (simp [inT, frle] <;> omega) | (simp [inT, frle]; omega))).tr (Fr.up (fr_M_legTold_49 h) (by first | rfl | decide +kernel | (simp [inT, frle] <;> omega) | (simp [inT, frle]; omega))))))
    ·
      exact ((Fr.up (fr_M_wrong e385) (by first | rfl | decide +kernel | (simp [inT, frle] <;> omega) | (simp [inT, frle]; omega))).tr ((Fr.up (fr_M_go e386) (by first | rfl | decide +kernel | (simp [inT, frle] <;> omega) | (simp [inT, frle]; omega))).tr ((Fr.up (fr_M_nameHere e387) (by first | rfl | decide +kernel | (simp [inT, frle] <;> omega) | (simp [inT, frle]; omega))).tr (Fr.up (fr_M_legTold_50 h) (by first | rfl | decide +kernel | (simp [inT, frle] <;> omega) | (simp [inT, frle]; omega))))))
  ·
    exact ((Fr.up (fr_M_wrong e385) (by first | rfl | decide +kernel | (simp [inT, frle] <;> omega) | (simp [inT, frle]; omega))).tr ((Fr.up (fr_M_go e386) (by first | rfl | decide +kernel | (simp [inT, frle] <;> omega) | (simp [inT, frle]; omega))).tr ((Fr.up (fr_M_nameHere e387) (by first | rfl | decide +kernel | (simp [inT, frle] <;> omega) | (simp [inT, frle]; omega))).tr (Fr.up (fr_M_legTold_49 h) (by first | rfl | decide +kernel | (simp [inT, frle] <;> omega) | (simp [inT, frle]; omega))))))
theorem fr_M_legTold {l1 : Int32} {M : Mm} {M9 : Mm} (h : f_M_legTold l1 M = some M9) : Fr [(134, 134, 17), (134, 134, 18), (134, 134, 20), (134, 134, 21), (134, 134, 22), (134, 134, 23), (134, 134, 24), (134, 134, 25), (135, 135, 0), (147, 147, 0)] M M9 := by
  unfold f_M_legTold at h
  rcases ite_i h with ⟨-, h⟩ | ⟨-, h⟩
  ·
    exact (Fr.up (fr_M_legTold_17 h) (by first | rfl | decide +kernel | (simp [inT, frle] <;> omega) | (simp [inT, frle]; omega)))
  ·
    exact (Fr.up (fr_M_legTold_17 h) (by first | rfl | decide +kernel | (simp [inT, frle] <;> omega) | (simp [inT, frle]; omega)))
theorem fr_M_command_349 {M : Mm} {M9 : Mm} (h : f_M_command_349 M = some M9) : Fr [(134, 134, 21), (134, 134, 22), (134, 134, 23), (134, 134, 24)] M M9 := by
  unfold f_M_command_349 at h
  obtain ⟨M350, e389, h⟩ := bn_i h
  cases h
  exact (Fr.up (fr_M_go e389) (by first | rfl | decide +kernel | (simp [inT, frle] <;> omega) | (simp [inT, frle]; omega)))
theorem fr_M_command_149 {M : Mm} {M9 : Mm} (h : f_M_command_149 M = some M9) : Fr [(134, 134, 21), (134, 134, 22), (134, 134, 23), (134, 134, 24)] M M9 := by
  unfold f_M_command_149 at h
  exact (Fr.up (fr_M_command_349 h) (by first | rfl | decide +kernel | (simp [inT, frle] <;> omega) | (simp [inT, frle]; omega)))
theorem fr_M_command_133 {l1 : Int32} {t1 : Int32} {M : Mm} {M9 : Mm} (h : f_M_command_133 l1 t1 M = some M9) : Fr [(134, 134, 17), (134, 134, 18), (134, 134, 21), (134, 134, 22), (134, 134, 23), (134, 134, 24), (134, 134, 25), (134, 134, 26), (135, 135, 0)] M M9 := by
  unfold f_M_command_133 at h
  obtain ⟨_, M133, e390, h⟩ := bn2_i h
  rcases ite_i h with ⟨-, h⟩ | ⟨-, h⟩
  ·
    exact ((Fr.up (fr_M_ends e390) (by first | rfl | decide +kernel | (simp [inT, frle] <;> omega) | (simp [inT, frle]; omega))).tr (Fr.up (fr_M_command_149 h) (by first | rfl | decide +kernel | (simp [inT, frle] <;> omega) | (simp [inT, frle]; omega))))
  ·
    obtain ⟨_, M143, e391, h⟩ := bn2_i h
    obtain ⟨M146, e392, h⟩ := bm_i h
    exact ((Fr.up (fr_M_ends e390) (by first | rfl | decide +kernel | (simp [inT, frle] <;> omega) | (simp [inT, frle]; omega))).tr ((Fr.up (fr_M_drops e391) (by first | rfl | decide +kernel | (simp [inT, frle] <;> omega) | (simp [inT, frle]; omega))).tr ((fr_wr e392 (by first | rfl | (intro _; rfl) | (simp [inT, frle] <;> omega) | (simp [inT, frle]; omega) | (intro _; simp [inT, frle]; omega))).tr (Fr.up (fr_M_command_149 h) (by first | rfl | decide +kernel | (simp [inT, frle] <;> omega) | (simp [inT, frle]; omega))))))
theorem fr_M_command_128 {l1 : Int32} {M : Mm} {M9 : Mm} (h : f_M_command_128 l1 M = some M9) : Fr [(134, 134, 17), (134, 134, 18), (134, 134, 21), (134, 134, 22), (134, 134, 23), (134, 134, 24), (134, 134, 25), (134, 134, 26), (135, 135, 0)] M M9 := by
  unfold f_M_command_128 at h
  exact (Fr.up (fr_M_command_133 h) (by first | rfl | decide +kernel | (simp [inT, frle] <;> omega) | (simp [inT, frle]; omega)))
theorem fr_M_command_193 {M : Mm} {M9 : Mm} (h : f_M_command_193 M = some M9) : Fr [(134, 134, 21), (134, 134, 22), (134, 134, 23), (134, 134, 24)] M M9 := by
  unfold f_M_command_193 at h
  exact (Fr.up (fr_M_command_349 h) (by first | rfl | decide +kernel | (simp [inT, frle] <;> omega) | (simp [inT, frle]; omega)))
theorem fr_M_command_238 {M : Mm} {M9 : Mm} (h : f_M_command_238 M = some M9) : Fr [(134, 134, 21), (134, 134, 22), (134, 134, 23), (134, 134, 24)] M M9 := by
  unfold f_M_command_238 at h
  exact (Fr.up (fr_M_command_349 h) (by first | rfl | decide +kernel | (simp [inT, frle] <;> omega) | (simp [inT, frle]; omega)))
theorem fr_M_command_270 {t1 : Int32} {M : Mm} {M9 : Mm} (h : f_M_command_270 t1 M = some M9) : Fr [(134, 134, 17), (134, 134, 18), (134, 134, 21), (134, 134, 22), (134, 134, 23), (134, 134, 24), (134, 134, 25), (134, 134, 26), (135, 135, 0)] M M9 := by
  unfold f_M_command_270 at h
  obtain ⟨_, M270, e393, h⟩ := bn2_i h
  rcases ite_i h with ⟨-, h⟩ | ⟨-, h⟩
  ·
    exact ((Fr.up (fr_M_ends e393) (by first | rfl | decide +kernel | (simp [inT, frle] <;> omega) | (simp [inT, frle]; omega))).tr (Fr.up (fr_M_command_349 h) (by first | rfl | decide +kernel | (simp [inT, frle] <;> omega) | (simp [inT, frle]; omega))))
  ·
    obtain ⟨_, M278, e394, h⟩ := bn2_i h
    obtain ⟨M281, e395, h⟩ := bm_i h
    exact ((Fr.up (fr_M_ends e393) (by first | rfl | decide +kernel | (simp [inT, frle] <;> omega) | (simp [inT, frle]; omega))).tr ((Fr.up (fr_M_removes e394) (by first | rfl | decide +kernel | (simp [inT, frle] <;> omega) | (simp [inT, frle]; omega))).tr ((fr_wr e395 (by first | rfl | (intro _; rfl) | (simp [inT, frle] <;> omega) | (simp [inT, frle]; omega) | (intro _; simp [inT, frle]; omega))).tr (Fr.up (fr_M_command_349 h) (by first | rfl | decide +kernel | (simp [inT, frle] <;> omega) | (simp [inT, frle]; omega))))))
theorem fr_M_command_323 {l1 : Int32} {t1 : Int32} {M : Mm} {M9 : Mm} (h : f_M_command_323 l1 t1 M = some M9) : Fr [(134, 134, 17), (134, 134, 18), (134, 134, 21), (134, 134, 22), (134, 134, 23), (134, 134, 24), (134, 134, 25), (134, 134, 26), (135, 135, 0)] M M9 := by
  unfold f_M_command_323 at h
  obtain ⟨M324, e396, h⟩ := bn_i h
  obtain ⟨M328, e397, h⟩ := bn_i h
  obtain ⟨_, M333, e398, h⟩ := bn2_i h
  rcases ite_i h with ⟨-, h⟩ | ⟨-, h⟩
  ·
    exact ((Fr.up (fr_M_wrong e396) (by first | rfl | decide +kernel | (simp [inT, frle] <;> omega) | (simp [inT, frle]; omega))).tr ((Fr.up (fr_M_go e397) (by first | rfl | decide +kernel | (simp [inT, frle] <;> omega) | (simp [inT, frle]; omega))).tr ((Fr.up (fr_M_ends e398) (by first | rfl | decide +kernel | (simp [inT, frle] <;> omega) | (simp [inT, frle]; omega))).tr (Fr.up (fr_M_command_349 h) (by first | rfl | decide +kernel | (simp [inT, frle] <;> omega) | (simp [inT, frle]; omega))))))
  ·
    obtain ⟨_, M343, e399, h⟩ := bn2_i h
    obtain ⟨M346, e400, h⟩ := bm_i h
    exact ((Fr.up (fr_M_wrong e396) (by first | rfl | decide +kernel | (simp [inT, frle] <;> omega) | (simp [inT, frle]; omega))).tr ((Fr.up (fr_M_go e397) (by first | rfl | decide +kernel | (simp [inT, frle] <;> omega) | (simp [inT, frle]; omega))).tr ((Fr.up (fr_M_ends e398) (by first | rfl | decide +kernel | (simp [inT, frle] <;> omega) | (simp [inT, frle]; omega))).tr ((Fr.up (fr_M_sets e399) (by first | rfl | decide +kernel | (simp [inT, frle] <;> omega) | (simp [inT, frle]; omega))).tr ((fr_wr e400 (by first | rfl | (intro _; rfl) | (simp [inT, frle] <;> omega) | (simp [inT, frle]; omega) | (intro _; simp [inT, frle]; omega))).tr (Fr.up (fr_M_command_349 h) (by first | rfl | decide +kernel | (simp [inT, frle] <;> omega) | (simp [inT, frle]; omega))))))))
theorem fr_M_command_322 {l1 : Int32} {M : Mm} {M9 : Mm} (h : f_M_command_322 l1 M = some M9) : Fr [(134, 134, 17), (134, 134, 18), (134, 134, 21), (134, 134, 22), (134, 134, 23), (134, 134, 24), (134, 134, 25), (134, 134, 26), (135, 135, 0)] M M9 := by
  unfold f_M_command_322 at h
  exact (Fr.up (fr_M_command_323 h) (by first | rfl | decide +kernel | (simp [inT, frle] <;> omega) | (simp [inT, frle]; omega)))
theorem fr_M_command_302 {t0 : Int32} {M : Mm} {M9 : Mm} (h : f_M_command_302 t0 M = some M9) : Fr [(134, 134, 17), (134, 134, 18), (134, 134, 21), (134, 134, 22), (134, 134, 23), (134, 134, 24), (134, 134, 25), (134, 134, 26), (135, 135, 0)] M M9 := by
  unfold f_M_command_302 at h
  rcases ite_i h with ⟨-, h⟩ | ⟨-, h⟩
  ·
    obtain ⟨_, e401, h⟩ := bn_i h
    rcases ite_i h with ⟨-, h⟩ | ⟨-, h⟩
    ·
      exact (Fr.up (fr_M_command_323 h) (by first | rfl | decide +kernel | (simp [inT, frle] <;> omega) | (simp [inT, frle]; omega)))
    ·
      exact (Fr.up (fr_M_command_322 h) (by first | rfl | decide +kernel | (simp [inT, frle] <;> omega) | (simp [inT, frle]; omega)))
  ·
    exact (Fr.up (fr_M_command_322 h) (by first | rfl | decide +kernel | (simp [inT, frle] <;> omega) | (simp [inT, frle]; omega)))
theorem fr_M_command_89 {M : Mm} {M9 : Mm} (h : f_M_command_89 M = some M9) : Fr [(134, 134, 21), (134, 134, 22), (134, 134, 23), (134, 134, 24)] M M9 := by
  unfold f_M_command_89 at h
  exact (Fr.up (fr_M_command_349 h) (by first | rfl | decide +kernel | (simp [inT, frle] <;> omega) | (simp [inT, frle]; omega)))
theorem fr_M_command_73 {l1 : Int32} {t1 : Int32} {M : Mm} {M9 : Mm} (h : f_M_command_73 l1 t1 M = some M9) : Fr [(134, 134, 17), (134, 134, 18), (134, 134, 21), (134, 134, 22), (134, 134, 23), (134, 134, 24), (134, 134, 25), (134, 134, 26), (135, 135, 0)] M M9 := by
  unfold f_M_command_73 at h
  obtain ⟨_, M73, e402, h⟩ := bn2_i h
  rcases ite_i h with ⟨-, h⟩ | ⟨-, h⟩
  ·
    exact ((Fr.up (fr_M_ends e402) (by first | rfl | decide +kernel | (simp [inT, frle] <;> omega) | (simp [inT, frle]; omega))).tr (Fr.up (fr_M_command_89 h) (by first | rfl | decide +kernel | (simp [inT, frle] <;> omega) | (simp [inT, frle]; omega))))
  ·
    obtain ⟨_, M83, e403, h⟩ := bn2_i h
    obtain ⟨M86, e404, h⟩ := bm_i h
    exact ((Fr.up (fr_M_ends e402) (by first | rfl | decide +kernel | (simp [inT, frle] <;> omega) | (simp [inT, frle]; omega))).tr ((Fr.up (fr_M_drops e403) (by first | rfl | decide +kernel | (simp [inT, frle] <;> omega) | (simp [inT, frle]; omega))).tr ((fr_wr e404 (by first | rfl | (intro _; rfl) | (simp [inT, frle] <;> omega) | (simp [inT, frle]; omega) | (intro _; simp [inT, frle]; omega))).tr (Fr.up (fr_M_command_89 h) (by first | rfl | decide +kernel | (simp [inT, frle] <;> omega) | (simp [inT, frle]; omega))))))
theorem fr_M_command_68 {l1 : Int32} {M : Mm} {M9 : Mm} (h : f_M_command_68 l1 M = some M9) : Fr [(134, 134, 17), (134, 134, 18), (134, 134, 21), (134, 134, 22), (134, 134, 23), (134, 134, 24), (134, 134, 25), (134, 134, 26), (135, 135, 0)] M M9 := by
  unfold f_M_command_68 at h
  exact (Fr.up (fr_M_command_73 h) (by first | rfl | decide +kernel | (simp [inT, frle] <;> omega) | (simp [inT, frle]; omega)))
theorem fr_M_command {M : Mm} {M9 : Mm} (h : f_M_command M = some M9) : Fr [(134, 134, 17), (134, 134, 18), (134, 134, 20), (134, 134, 21), (134, 134, 22), (134, 134, 23), (134, 134, 24), (134, 134, 25), (134, 134, 26), (135, 135, 0), (147, 147, 0)] M M9 := by
  unfold f_M_command at h
  obtain ⟨_, e405, h⟩ := bn_i h
  rcases ite_i h with ⟨-, h⟩ | ⟨-, h⟩
  ·
    obtain ⟨_, e406, h⟩ := bn_i h
    rcases ite_i h with ⟨-, h⟩ | ⟨-, h⟩
    ·
      obtain ⟨_, e407, h⟩ := bn_i h
      rcases ite_i h with ⟨-, h⟩ | ⟨-, h⟩
      ·
        obtain ⟨_, e408, h⟩ := bn_i h
        rcases ite_i h with ⟨-, h⟩ | ⟨-, h⟩
        ·
          obtain ⟨_, e409, h⟩ := bn_i h
          rcases ite_i h with ⟨-, h⟩ | ⟨-, h⟩
          ·
            obtain ⟨_, e410, h⟩ := bn_i h
            rcases ite_i h with ⟨-, h⟩ | ⟨-, h⟩
            ·
              obtain ⟨_, e411, h⟩ := bn_i h
              rcases ite_i h with ⟨-, h⟩ | ⟨-, h⟩
              ·
                obtain ⟨_, e412, h⟩ := bn_i h
                rcases ite_i h with ⟨-, h⟩ | ⟨-, h⟩
                ·
                  exact (Fr.up (fr_M_command_302 h) (by first | rfl | decide +kernel | (simp [inT, frle] <;> omega) | (simp [inT, frle]; omega)))
                ·
                  exact (Fr.up (fr_M_command_302 h) (by first | rfl | decide +kernel | (simp [inT, frle] <;> omega) | (simp [inT, frle]; omega)))
              ·
                obtain ⟨M252, e413, h⟩ := bn_i h
                rcases ite_i h with ⟨-, h⟩ | ⟨-, h⟩
                ·
                  exact ((Fr.up (fr_M_go e413) (by first | rfl | decide +kernel | (simp [inT, frle] <;> omega) | (simp [inT, frle]; omega))).tr (Fr.up (fr_M_command_270 h) (by first | rfl | decide +kernel | (simp [inT, frle] <;> omega) | (simp [inT, frle]; omega))))
                ·
                  exact ((Fr.up (fr_M_go e413) (by first | rfl | decide +kernel | (simp [inT, frle] <;> omega) | (simp [inT, frle]; omega))).tr (Fr.up (fr_M_command_270 h) (by first | rfl | decide +kernel | (simp [inT, frle] <;> omega) | (simp [inT, frle]; omega))))
            ·
              obtain ⟨M207, e414, h⟩ := bn_i h
              obtain ⟨_, M216, e415, h⟩ := bn2_i h
              obtain ⟨_, M222, e416, h⟩ := bn2_i h
              rcases ite_i h with ⟨-, h⟩ | ⟨-, h⟩
              ·
                exact ((Fr.up (fr_M_go e414) (by first | rfl | decide +kernel | (simp [inT, frle] <;> omega) | (simp [inT, frle]; omega))).tr ((Fr.up (fr_M_number e415) (by first | rfl | decide +kernel | (simp [inT, frle] <;> omega) | (simp [inT, frle]; omega))).tr ((Fr.up (fr_M_ends e416) (by first | rfl | decide +kernel | (simp [inT, frle] <;> omega) | (simp [inT, frle]; omega))).tr (Fr.up (fr_M_command_238 h) (by first | rfl | decide +kernel | (simp [inT, frle] <;> omega) | (simp [inT, frle]; omega))))))
              ·
                obtain ⟨_, M232, e417, h⟩ := bn2_i h
                obtain ⟨M235, e418, h⟩ := bm_i h
                exact ((Fr.up (fr_M_go e414) (by first | rfl | decide +kernel | (simp [inT, frle] <;> omega) | (simp [inT, frle]; omega))).tr ((Fr.up (fr_M_number e415) (by first | rfl | decide +kernel | (simp [inT, frle] <;> omega) | (simp [inT, frle]; omega))).tr ((Fr.up (fr_M_ends e416) (by first | rfl | decide +kernel | (simp [inT, frle] <;> omega) | (simp [inT, frle]; omega))).tr ((Fr.up (fr_M_sets e417) (by first | rfl | decide +kernel | (simp [inT, frle] <;> omega) | (simp [inT, frle]; omega))).tr ((fr_wr e418 (by first | rfl | (intro _; rfl) | (simp [inT, frle] <;> omega) | (simp [inT, frle]; omega) | (intro _; simp [inT, frle]; omega))).tr (Fr.up (fr_M_command_238 h) (by first | rfl | decide +kernel | (simp [inT, frle] <;> omega) | (simp [inT, frle]; omega))))))))
          ·
            obtain ⟨M163, e419, h⟩ := bn_i h
            obtain ⟨_, M171, e420, h⟩ := bn2_i h
            obtain ⟨_, M177, e421, h⟩ := bn2_i h
            rcases ite_i h with ⟨-, h⟩ | ⟨-, h⟩
            ·
              exact ((Fr.up (fr_M_go e419) (by first | rfl | decide +kernel | (simp [inT, frle] <;> omega) | (simp [inT, frle]; omega))).tr ((Fr.up (fr_M_number e420) (by first | rfl | decide +kernel | (simp [inT, frle] <;> omega) | (simp [inT, frle]; omega))).tr ((Fr.up (fr_M_ends e421) (by first | rfl | decide +kernel | (simp [inT, frle] <;> omega) | (simp [inT, frle]; omega))).tr (Fr.up (fr_M_command_193 h) (by first | rfl | decide +kernel | (simp [inT, frle] <;> omega) | (simp [inT, frle]; omega))))))
            ·
              obtain ⟨_, M187, e422, h⟩ := bn2_i h
              obtain ⟨M190, e423, h⟩ := bm_i h
              exact ((Fr.up (fr_M_go e419) (by first | rfl | decide +kernel | (simp [inT, frle] <;> omega) | (simp [inT, frle]; omega))).tr ((Fr.up (fr_M_number e420) (by first | rfl | decide +kernel | (simp [inT, frle] <;> omega) | (simp [inT, frle]; omega))).tr ((Fr.up (fr_M_ends e421) (by first | rfl | decide +kernel | (simp [inT, frle] <;> omega) | (simp [inT, frle]; omega))).tr ((Fr.up (fr_M_sets e422) (by first | rfl | decide +kernel | (simp [inT, frle] <;> omega) | (simp [inT, frle]; omega))).tr ((fr_wr e423 (by first | rfl | (intro _; rfl) | (simp [inT, frle] <;> omega) | (simp [inT, frle]; omega) | (intro _; simp [inT, frle]; omega))).tr (Fr.up (fr_M_command_193 h) (by first | rfl | decide +kernel | (simp [inT, frle] <;> omega) | (simp [inT, frle]; omega))))))))
        ·
          obtain ⟨M103, e424, h⟩ := bn_i h
          obtain ⟨_, M107, e425, h⟩ := bn2_i h
          rcases ite_i h with ⟨-, h⟩ | ⟨-, h⟩
          ·
            obtain ⟨_, e426, h⟩ := bn_i h
            rcases ite_i h with ⟨-, h⟩ | ⟨-, h⟩
            ·
              exact ((Fr.up (fr_M_go e424) (by first | rfl | decide +kernel | (simp [inT, frle] <;> omega) | (simp [inT, frle]; omega))).tr ((Fr.up (fr_M_legHere e425) (by first | rfl | decide +kernel | (simp [inT, frle] <;> omega) | (simp [inT, frle]; omega))).tr (Fr.up (fr_M_command_133 h) (by first | rfl | decide +kernel | (simp [inT, frle] <;> omega) | (simp [inT, frle]; omega)))))
            ·
              exact ((Fr.up (fr_M_go e424) (by first | rfl | decide +kernel | (simp [inT, frle] <;> omega) | (simp [inT, frle]; omega))).tr ((Fr.up (fr_M_legHere e425) (by first | rfl | decide +kernel | (simp [inT, frle] <;> omega) | (simp [inT, frle]; omega))).tr (Fr.up (fr_M_command_128 h) (by first | rfl | decide +kernel | (simp [inT, frle] <;> omega) | (simp [inT, frle]; omega)))))
          ·
            exact ((Fr.up (fr_M_go e424) (by first | rfl | decide +kernel | (simp [inT, frle] <;> omega) | (simp [inT, frle]; omega))).tr ((Fr.up (fr_M_legHere e425) (by first | rfl | decide +kernel | (simp [inT, frle] <;> omega) | (simp [inT, frle]; omega))).tr (Fr.up (fr_M_command_128 h) (by first | rfl | decide +kernel | (simp [inT, frle] <;> omega) | (simp [inT, frle]; omega)))))
      ·
        obtain ⟨M44, e427, h⟩ := bn_i h
        obtain ⟨_, M48, e428, h⟩ := bn2_i h
        rcases ite_i h with ⟨-, h⟩ | ⟨-, h⟩
        ·
          obtain ⟨_, e429, h⟩ := bn_i h
          rcases ite_i h with ⟨-, h⟩ | ⟨-, h⟩
          ·
            exact ((Fr.up (fr_M_go e427) (by first | rfl | decide +kernel | (simp [inT, frle] <;> omega) | (simp [inT, frle]; omega))).tr ((Fr.up (fr_M_legHere e428) (by first | rfl | decide +kernel | (simp [inT, frle] <;> omega) | (simp [inT, frle]; omega))).tr (Fr.up (fr_M_command_73 h) (by first | rfl | decide +kernel | (simp [inT, frle] <;> omega) | (simp [inT, frle]; omega)))))
          ·
            exact ((Fr.up (fr_M_go e427) (by first | rfl | decide +kernel | (simp [inT, frle] <;> omega) | (simp [inT, frle]; omega))).tr ((Fr.up (fr_M_legHere e428) (by first | rfl | decide +kernel | (simp [inT, frle] <;> omega) | (simp [inT, frle]; omega))).tr (Fr.up (fr_M_command_68 h) (by first | rfl | decide +kernel | (simp [inT, frle] <;> omega) | (simp [inT, frle]; omega)))))
        ·
          exact ((Fr.up (fr_M_go e427) (by first | rfl | decide +kernel | (simp [inT, frle] <;> omega) | (simp [inT, frle]; omega))).tr ((Fr.up (fr_M_legHere e428) (by first | rfl | decide +kernel | (simp [inT, frle] <;> omega) | (simp [inT, frle]; omega))).tr (Fr.up (fr_M_command_68 h) (by first | rfl | decide +kernel | (simp [inT, frle] <;> omega) | (simp [inT, frle]; omega)))))
    ·
      obtain ⟨M28, e430, h⟩ := bn_i h
      exact ((Fr.up (fr_M_legTold e430) (by first | rfl | decide +kernel | (simp [inT, frle] <;> omega) | (simp [inT, frle]; omega))).tr (Fr.up (fr_M_command_349 h) (by first | rfl | decide +kernel | (simp [inT, frle] <;> omega) | (simp [inT, frle]; omega))))
  ·
    obtain ⟨M11, e431, h⟩ := bn_i h
    exact ((Fr.up (fr_M_legTold e431) (by first | rfl | decide +kernel | (simp [inT, frle] <;> omega) | (simp [inT, frle]; omega))).tr (Fr.up (fr_M_command_349 h) (by first | rfl | decide +kernel | (simp [inT, frle] <;> omega) | (simp [inT, frle]; omega))))
theorem fr_M_starts {M : Mm} {M9 : Mm} (h : f_M_starts M = some M9) : Fr [(134, 134, 8), (134, 134, 17), (134, 134, 18), (134, 134, 21), (134, 134, 22), (134, 134, 23), (134, 134, 24), (134, 134, 25), (139, 139, 0)] M M9 := by
  unfold f_M_starts at h
  obtain ⟨M2, e432, h⟩ := bm_i h
  obtain ⟨M7, e433, h⟩ := bm_i h
  obtain ⟨M12, e434, h⟩ := bm_i h
  obtain ⟨M17, e435, h⟩ := bm_i h
  obtain ⟨M22, e436, h⟩ := bm_i h
  obtain ⟨M35, e437, h⟩ := bn_i h
  obtain ⟨M39, e438, h⟩ := bn_i h
  cases h
  exact ((fr_wr e432 (by first | rfl | (intro _; rfl) | (simp [inT, frle] <;> omega) | (simp [inT, frle]; omega) | (intro _; simp [inT, frle]; omega))).tr ((fr_wr e433 (by first | rfl | (intro _; rfl) | (simp [inT, frle] <;> omega) | (simp [inT, frle]; omega) | (intro _; simp [inT, frle]; omega))).tr ((fr_wr e434 (by first | rfl | (intro _; rfl) | (simp [inT, frle] <;> omega) | (simp [inT, frle]; omega) | (intro _; simp [inT, frle]; omega))).tr ((fr_wr e435 (by first | rfl | (intro _; rfl) | (simp [inT, frle] <;> omega) | (simp [inT, frle]; omega) | (intro _; simp [inT, frle]; omega))).tr ((fr_wr e436 (by first | rfl | (intro _; rfl) | (simp [inT, frle] <;> omega) | (simp [inT, frle]; omega) | (intro _; simp [inT, frle]; omega))).tr ((Fr.up (fr_M_copy e437) (by first | rfl | decide +kernel | (simp [inT, frle] <;> omega) | (simp [inT, frle]; omega))).tr (Fr.up (fr_M_next e438) (by first | rfl | decide +kernel | (simp [inT, frle] <;> omega) | (simp [inT, frle]; omega)))))))))
theorem fr_M_commands_74 {t0 : Int32} {M : Mm} {w9 : Int32} {M9 : Mm} (h : f_M_commands_74 t0 M = some (w9, M9)) : Fr [] M M9 := by
  unfold f_M_commands_74 at h
  cases h
  exact Fr.rf _ _
theorem fr_M_commands_62 {l1 : Int32} {M : Mm} {w9 : Int32} {M9 : Mm} (h : f_M_commands_62 l1 M = some (w9, M9)) : Fr [] M M9 := by
  unfold f_M_commands_62 at h
  rcases ite_i h with ⟨-, h⟩ | ⟨-, h⟩
  ·
    exact (Fr.up (fr_M_commands_74 h) (by first | rfl | decide +kernel | (simp [inT, frle] <;> omega) | (simp [inT, frle]; omega)))
  ·
    exact (Fr.up (fr_M_commands_74 h) (by first | rfl | decide +kernel | (simp [inT, frle] <;> omega) | (simp [inT, frle]; omega)))
theorem fr_M_commands_26 {l1 : Int32} {M : Mm} {w9 : Int32} {M9 : Mm} (h : f_M_commands_26 l1 M = some (w9, M9)) : Fr [(134, 134, 7), (134, 134, 15), (135, 135, 0), (137, 137, 0)] M M9 := by
  unfold f_M_commands_26 at h
  obtain ⟨M28, e439, h⟩ := bm_i h
  rcases ite_i h with ⟨-, h⟩ | ⟨-, h⟩
  ·
    obtain ⟨M59, e440, h⟩ := bn_i h
    exact ((fr_wr e439 (by first | rfl | (intro _; rfl) | (simp [inT, frle] <;> omega) | (simp [inT, frle]; omega) | (intro _; simp [inT, frle]; omega))).tr ((Fr.up (fr_M_remember e440) (by first | rfl | decide +kernel | (simp [inT, frle] <;> omega) | (simp [inT, frle]; omega))).tr (Fr.up (fr_M_commands_62 h) (by first | rfl | decide +kernel | (simp [inT, frle] <;> omega) | (simp [inT, frle]; omega)))))
  ·
    obtain ⟨M48, e441, h⟩ := bn_i h
    exact ((fr_wr e439 (by first | rfl | (intro _; rfl) | (simp [inT, frle] <;> omega) | (simp [inT, frle]; omega) | (intro _; simp [inT, frle]; omega))).tr ((Fr.up (fr_M_copy e441) (by first | rfl | decide +kernel | (simp [inT, frle] <;> omega) | (simp [inT, frle]; omega))).tr (Fr.up (fr_M_commands_62 h) (by first | rfl | decide +kernel | (simp [inT, frle] <;> omega) | (simp [inT, frle]; omega)))))
theorem fr_M_commands_2_i : ∀ (n : Nat) (l1 : Int32) (M : Mm) (w9 : Int32) (M9 : Mm), f_M_commands_2 n l1 M = some (w9, M9) → Fr [(134, 134, 7), (134, 134, 15), (134, 134, 17), (134, 134, 18), (134, 134, 20), (134, 134, 21), (134, 134, 22), (134, 134, 23), (134, 134, 24), (134, 134, 25), (134, 134, 26), (135, 135, 0), (137, 137, 0), (147, 147, 0)] M M9 := by
  intro n; induction n with
  | zero => intro _ _ _ _ h; cases h
  | succ n ih =>
    intro l1 M w9 M9 h
    rw [f_M_commands_2] at h
    rcases ite_i h with ⟨-, h⟩ | ⟨-, h⟩
    ·
      rcases ite_i h with ⟨-, h⟩ | ⟨-, h⟩
      ·
        exact (Fr.up (fr_M_commands_26 h) (by first | rfl | decide +kernel | (simp [inT, frle] <;> omega) | (simp [inT, frle]; omega)))
      ·
        obtain ⟨M17, e442, h⟩ := bn_i h
        exact ((Fr.up (fr_M_command e442) (by first | rfl | decide +kernel | (simp [inT, frle] <;> omega) | (simp [inT, frle]; omega))).tr (ih _ _ _ _ h))
    ·
      exact (Fr.up (fr_M_commands_26 h) (by first | rfl | decide +kernel | (simp [inT, frle] <;> omega) | (simp [inT, frle]; omega)))
theorem fr_M_commands_2 {n : Nat} {l1 : Int32} {M : Mm} {w9 : Int32} {M9 : Mm} (h : f_M_commands_2 n l1 M = some (w9, M9)) : Fr [(134, 134, 7), (134, 134, 15), (134, 134, 17), (134, 134, 18), (134, 134, 20), (134, 134, 21), (134, 134, 22), (134, 134, 23), (134, 134, 24), (134, 134, 25), (134, 134, 26), (135, 135, 0), (137, 137, 0), (147, 147, 0)] M M9 := fr_M_commands_2_i n _ _ _ _ h
theorem fr_M_commands {M : Mm} {w9 : Int32} {M9 : Mm} (h : f_M_commands M = some (w9, M9)) : Fr [(134, 134, 7), (134, 134, 15), (134, 134, 17), (134, 134, 18), (134, 134, 20), (134, 134, 21), (134, 134, 22), (134, 134, 23), (134, 134, 24), (134, 134, 25), (134, 134, 26), (135, 135, 0), (137, 137, 0), (147, 147, 0)] M M9 := by
  unfold f_M_commands at h
  exact (Fr.up (fr_M_commands_2 h) (by first | rfl | decide +kernel | (simp [inT, frle] <;> omega) | (simp [inT, frle]; omega)))
theorem fr_M_load_119 {t0 : Int32} {M : Mm} {w9 : Int32} {M9 : Mm} (h : f_M_load_119 t0 M = some (w9, M9)) : Fr [] M M9 := by
  unfold f_M_load_119 at h
  cases h
  exact Fr.rf _ _
theorem fr_M_load_93 {t1 : Int32} {M : Mm} {w9 : Int32} {M9 : Mm} (h : f_M_load_93 t1 M = some (w9, M9)) : Fr [(134, 134, 7), (134, 134, 15), (134, 134, 17), (134, 134, 18), (134, 134, 20), (134, 134, 21), (134, 134, 22), (134, 134, 23), (134, 134, 24), (134, 134, 25), (134, 134, 26), (135, 135, 0), (137, 137, 0), (147, 147, 0)] M M9 := by
  unfold f_M_load_93 at h
  obtain ⟨M94, e443, h⟩ := bn_i h
  obtain ⟨M98, e444, h⟩ := bn_i h
  obtain ⟨_, M102, e445, h⟩ := bn2_i h
  rcases ite_i h with ⟨-, h⟩ | ⟨-, h⟩
  ·
    exact ((Fr.up (fr_M_wrong e443) (by first | rfl | decide +kernel | (simp [inT, frle] <;> omega) | (simp [inT, frle]; omega))).tr ((Fr.up (fr_M_go e444) (by first | rfl | decide +kernel | (simp [inT, frle] <;> omega) | (simp [inT, frle]; omega))).tr ((Fr.up (fr_M_commands e445) (by first | rfl | decide +kernel | (simp [inT, frle] <;> omega) | (simp [inT, frle]; omega))).tr (Fr.up (fr_M_load_119 h) (by first | rfl | decide +kernel | (simp [inT, frle] <;> omega) | (simp [inT, frle]; omega))))))
  ·
    exact ((Fr.up (fr_M_wrong e443) (by first | rfl | decide +kernel | (simp [inT, frle] <;> omega) | (simp [inT, frle]; omega))).tr ((Fr.up (fr_M_go e444) (by first | rfl | decide +kernel | (simp [inT, frle] <;> omega) | (simp [inT, frle]; omega))).tr ((Fr.up (fr_M_commands e445) (by first | rfl | decide +kernel | (simp [inT, frle] <;> omega) | (simp [inT, frle]; omega))).tr (Fr.up (fr_M_load_119 h) (by first | rfl | decide +kernel | (simp [inT, frle] <;> omega) | (simp [inT, frle]; omega))))))
theorem fr_M_load_42 {t1 : Int32} {M : Mm} {w9 : Int32} {M9 : Mm} (h : f_M_load_42 t1 M = some (w9, M9)) : Fr [(134, 134, 7), (134, 134, 15), (134, 134, 17), (134, 134, 18), (134, 134, 20), (134, 134, 21), (134, 134, 22), (134, 134, 23), (134, 134, 24), (134, 134, 25), (134, 134, 26), (135, 135, 0), (137, 137, 0), (147, 147, 0)] M M9 := by
  unfold f_M_load_42 at h
  obtain ⟨M43, e446, h⟩ := bn_i h
  obtain ⟨M47, e447, h⟩ := bn_i h
  obtain ⟨_, M60, e448, h⟩ := bn2_i h
  obtain ⟨M63, e449, h⟩ := bm_i h
  obtain ⟨_, M75, e450, h⟩ := bn2_i h
  obtain ⟨M78, e451, h⟩ := bm_i h
  rcases ite_i h with ⟨-, h⟩ | ⟨-, h⟩
  ·
    exact ((Fr.up (fr_M_wrong e446) (by first | rfl | decide +kernel | (simp [inT, frle] <;> omega) | (simp [inT, frle]; omega))).tr ((Fr.up (fr_M_go e447) (by first | rfl | decide +kernel | (simp [inT, frle] <;> omega) | (simp [inT, frle]; omega))).tr ((Fr.up (fr_M_number e448) (by first | rfl | decide +kernel | (simp [inT, frle] <;> omega) | (simp [inT, frle]; omega))).tr ((fr_wr e449 (by first | rfl | (intro _; rfl) | (simp [inT, frle] <;> omega) | (simp [inT, frle]; omega) | (intro _; simp [inT, frle]; omega))).tr ((Fr.up (fr_M_number e450) (by first | rfl | decide +kernel | (simp [inT, frle] <;> omega) | (simp [inT, frle]; omega))).tr ((fr_wr e451 (by first | rfl | (intro _; rfl) | (simp [inT, frle] <;> omega) | (simp [inT, frle]; omega) | (intro _; simp [inT, frle]; omega))).tr (Fr.up (fr_M_load_93 h) (by first | rfl | decide +kernel | (simp [inT, frle] <;> omega) | (simp [inT, frle]; omega)))))))))
  ·
    exact ((Fr.up (fr_M_wrong e446) (by first | rfl | decide +kernel | (simp [inT, frle] <;> omega) | (simp [inT, frle]; omega))).tr ((Fr.up (fr_M_go e447) (by first | rfl | decide +kernel | (simp [inT, frle] <;> omega) | (simp [inT, frle]; omega))).tr ((Fr.up (fr_M_number e448) (by first | rfl | decide +kernel | (simp [inT, frle] <;> omega) | (simp [inT, frle]; omega))).tr ((fr_wr e449 (by first | rfl | (intro _; rfl) | (simp [inT, frle] <;> omega) | (simp [inT, frle]; omega) | (intro _; simp [inT, frle]; omega))).tr ((Fr.up (fr_M_number e450) (by first | rfl | decide +kernel | (simp [inT, frle] <;> omega) | (simp [inT, frle]; omega))).tr ((fr_wr e451 (by first | rfl | (intro _; rfl) | (simp [inT, frle] <;> omega) | (simp [inT, frle]; omega) | (intro _; simp [inT, frle]; omega))).tr (Fr.up (fr_M_load_93 h) (by first | rfl | decide +kernel | (simp [inT, frle] <;> omega) | (simp [inT, frle]; omega)))))))))
theorem fr_M_load_6_i : ∀ (n : Nat) (l1 : Int32) (M : Mm) (w9 : Int32) (M9 : Mm), f_M_load_6 n l1 M = some (w9, M9) → Fr [(134, 134, 7), (134, 134, 15), (134, 134, 17), (134, 134, 18), (134, 134, 20), (134, 134, 21), (134, 134, 22), (134, 134, 23), (134, 134, 24), (134, 134, 25), (134, 134, 26), (135, 135, 0), (137, 137, 0), (147, 147, 0)] M M9 := by
  intro n; induction n with
  | zero => intro _ _ _ _ h; cases h
  | succ n ih =>
    intro l1 M w9 M9 h
    rw [f_M_load_6] at h
    rcases ite_i h with ⟨-, h⟩ | ⟨-, h⟩
    ·
      obtain ⟨_, e452, h⟩ := bn_i h
      rcases ite_i h with ⟨-, h⟩ | ⟨-, h⟩
      ·
        exact (Fr.up (fr_M_load_42 h) (by first | rfl | decide +kernel | (simp [inT, frle] <;> omega) | (simp [inT, frle]; omega)))
      ·
        exact (Fr.up (fr_M_load_42 h) (by first | rfl | decide +kernel | (simp [inT, frle] <;> omega) | (simp [inT, frle]; omega)))
    ·
      have h := (chk_i h).2
      obtain ⟨M19, e453, h⟩ := bm_i h
      exact ((fr_wr e453 (by first | rfl | (intro _; rfl) | (simp [inT, frle] <;> omega) | (simp [inT, frle]; omega) | (intro _; simp [inT, frle]; omega))).tr (ih _ _ _ _ h))
theorem fr_M_load_6 {n : Nat} {l1 : Int32} {M : Mm} {w9 : Int32} {M9 : Mm} (h : f_M_load_6 n l1 M = some (w9, M9)) : Fr [(134, 134, 7), (134, 134, 15), (134, 134, 17), (134, 134, 18), (134, 134, 20), (134, 134, 21), (134, 134, 22), (134, 134, 23), (134, 134, 24), (134, 134, 25), (134, 134, 26), (135, 135, 0), (137, 137, 0), (147, 147, 0)] M M9 := fr_M_load_6_i n _ _ _ _ h
theorem fr_M_load {M : Mm} {w9 : Int32} {M9 : Mm} (h : f_M_load M = some (w9, M9)) : Fr [(134, 134, 7), (134, 134, 8), (134, 134, 15), (134, 134, 17), (134, 134, 18), (134, 134, 20), (134, 134, 21), (134, 134, 22), (134, 134, 23), (134, 134, 24), (134, 134, 25), (134, 134, 26), (135, 135, 0), (137, 137, 0), (139, 139, 0), (147, 147, 0)] M M9 := by
  unfold f_M_load at h
  obtain ⟨M1, e454, h⟩ := bn_i h
  exact ((Fr.up (fr_M_starts e454) (by first | rfl | decide +kernel | (simp [inT, frle] <;> omega) | (simp [inT, frle]; omega))).tr (Fr.up (fr_M_load_6 h) (by first | rfl | decide +kernel | (simp [inT, frle] <;> omega) | (simp [inT, frle]; omega))))
theorem fr_M_play {M : Mm} {w9 : Int32} {M9 : Mm} (h : f_M_play M = some (w9, M9)) : Fr [(134, 134, 7), (134, 134, 8), (134, 134, 15), (134, 134, 17), (134, 134, 18), (134, 134, 20), (134, 134, 21), (134, 134, 22), (134, 134, 23), (134, 134, 24), (134, 134, 25), (134, 134, 26), (135, 135, 0), (137, 137, 0), (139, 139, 0), (147, 147, 0)] M M9 := by
  unfold f_M_play at h
  obtain ⟨M1, e455, h⟩ := bn_i h
  obtain ⟨_, M5, e456, h⟩ := bn2_i h
  cases h
  exact ((Fr.up (fr_M_starts e455) (by first | rfl | decide +kernel | (simp [inT, frle] <;> omega) | (simp [inT, frle]; omega))).tr (Fr.up (fr_M_commands e456) (by first | rfl | decide +kernel | (simp [inT, frle] <;> omega) | (simp [inT, frle]; omega))))
theorem fr_M_errorCode {M : Mm} {w9 : Int32} {M9 : Mm} (h : f_M_errorCode M = some (w9, M9)) : Fr [(134, 134, 8)] M M9 := by
  unfold f_M_errorCode at h
  obtain ⟨_, M5, e457, h⟩ := bn2_i h
  cases h
  exact (Fr.up (fr_M_told e457) (by first | rfl | decide +kernel | (simp [inT, frle] <;> omega) | (simp [inT, frle]; omega)))
theorem fr_M_errorOffset {M : Mm} {w9 : Int32} {M9 : Mm} (h : f_M_errorOffset M = some (w9, M9)) : Fr [(134, 134, 8)] M M9 := by
  unfold f_M_errorOffset at h
  obtain ⟨_, M5, e458, h⟩ := bn2_i h
  cases h
  exact (Fr.up (fr_M_told e458) (by first | rfl | decide +kernel | (simp [inT, frle] <;> omega) | (simp [inT, frle]; omega)))
theorem fr_M_mayAdd_52 {t0 : Int32} {M : Mm} {w9 : Int32} {M9 : Mm} (h : f_M_mayAdd_52 t0 M = some (w9, M9)) : Fr [] M M9 := by
  unfold f_M_mayAdd_52 at h
  have h := (chk_i h).2
  cases h
  exact Fr.rf _ _
theorem fr_M_mayAdd_51 {M : Mm} {w9 : Int32} {M9 : Mm} (h : f_M_mayAdd_51 M = some (w9, M9)) : Fr [] M M9 := by
  unfold f_M_mayAdd_51 at h
  exact (Fr.up (fr_M_mayAdd_52 h) (by first | rfl | decide +kernel | (simp [inT, frle] <;> omega) | (simp [inT, frle]; omega)))
theorem fr_M_mayAdd {M : Mm} {w9 : Int32} {M9 : Mm} (h : f_M_mayAdd M = some (w9, M9)) : Fr [(134, 134, 20), (147, 147, 0)] M M9 := by
  unfold f_M_mayAdd at h
  obtain ⟨M2, e459, h⟩ := bm_i h
  obtain ⟨M12, e460, h⟩ := bm_i h
  obtain ⟨M27, e461, h⟩ := bm_i h
  rcases ite_i h with ⟨-, h⟩ | ⟨-, h⟩
  ·
    exact ((fr_wr e459 (by first | rfl | (intro _; rfl) | (simp [inT, frle] <;> omega) | (simp [inT, frle]; omega) | (intro _; simp [inT, frle]; omega))).tr ((fr_wr e460 (by first | rfl | (intro _; rfl) | (simp [inT, frle] <;> omega) | (simp [inT, frle]; omega) | (intro _; simp [inT, frle]; omega))).tr ((fr_wr e461 (by first | rfl | (intro _; rfl) | (simp [inT, frle] <;> omega) | (simp [inT, frle]; omega) | (intro _; simp [inT, frle]; omega))).tr (Fr.up (fr_M_mayAdd_51 h) (by first | rfl | decide +kernel | (simp [inT, frle] <;> omega) | (simp [inT, frle]; omega))))))
  ·
    obtain ⟨_, e462, h⟩ := bn_i h
    rcases ite_i h with ⟨-, h⟩ | ⟨-, h⟩
    ·
      exact ((fr_wr e459 (by first | rfl | (intro _; rfl) | (simp [inT, frle] <;> omega) | (simp [inT, frle]; omega) | (intro _; simp [inT, frle]; omega))).tr ((fr_wr e460 (by first | rfl | (intro _; rfl) | (simp [inT, frle] <;> omega) | (simp [inT, frle]; omega) | (intro _; simp [inT, frle]; omega))).tr ((fr_wr e461 (by first | rfl | (intro _; rfl) | (simp [inT, frle] <;> omega) | (simp [inT, frle]; omega) | (intro _; simp [inT, frle]; omega))).tr (Fr.up (fr_M_mayAdd_52 h) (by first | rfl | decide +kernel | (simp [inT, frle] <;> omega) | (simp [inT, frle]; omega))))))
    ·
      exact ((fr_wr e459 (by first | rfl | (intro _; rfl) | (simp [inT, frle] <;> omega) | (simp [inT, frle]; omega) | (intro _; simp [inT, frle]; omega))).tr ((fr_wr e460 (by first | rfl | (intro _; rfl) | (simp [inT, frle] <;> omega) | (simp [inT, frle]; omega) | (intro _; simp [inT, frle]; omega))).tr ((fr_wr e461 (by first | rfl | (intro _; rfl) | (simp [inT, frle] <;> omega) | (simp [inT, frle]; omega) | (intro _; simp [inT, frle]; omega))).tr (Fr.up (fr_M_mayAdd_51 h) (by first | rfl | decide +kernel | (simp [inT, frle] <;> omega) | (simp [inT, frle]; omega))))))
theorem fr_M_adds {l1 : Int32} {l2 : Int32} {l3 : Int32} {l4 : Int32} {l5 : Int32} {l6 : Int32} {M : Mm} {w9 : Int32} {M9 : Mm} (h : f_M_adds l1 l2 l3 l4 l5 l6 M = some (w9, M9)) : Fr [(134, 134, 7), (135, 135, 0), (137, 137, 0)] M M9 := by
  unfold f_M_adds at h
  obtain ⟨M13, e463, h⟩ := bn_i h
  obtain ⟨M17, e464, h⟩ := bn_i h
  obtain ⟨M25, e465, h⟩ := bn_i h
  obtain ⟨M33, e466, h⟩ := bn_i h
  obtain ⟨M41, e467, h⟩ := bn_i h
  obtain ⟨M49, e468, h⟩ := bn_i h
  obtain ⟨M58, e469, h⟩ := bn_i h
  obtain ⟨M67, e470, h⟩ := bn_i h
  obtain ⟨M77, e471, h⟩ := bn_i h
  obtain ⟨M89, e472, h⟩ := bm_i h
  cases h
  exact ((Fr.up (fr_M_remember e463) (by first | rfl | decide +kernel | (simp [inT, frle] <;> omega) | (simp [inT, frle]; omega))).tr ((Fr.up (fr_M_layName e464) (by first | rfl | decide +kernel | (simp [inT, frle] <;> omega) | (simp [inT, frle]; omega))).tr ((Fr.up (fr_M_put e465) (by first | rfl | decide +kernel | (simp [inT, frle] <;> omega) | (simp [inT, frle]; omega))).tr ((Fr.up (fr_M_put e466) (by first | rfl | decide +kernel | (simp [inT, frle] <;> omega) | (simp [inT, frle]; omega))).tr ((Fr.up (fr_M_put e467) (by first | rfl | decide +kernel | (simp [inT, frle] <;> omega) | (simp [inT, frle]; omega))).tr ((Fr.up (fr_M_put e468) (by first | rfl | decide +kernel | (simp [inT, frle] <;> omega) | (simp [inT, frle]; omega))).tr ((Fr.up (fr_M_put e469) (by first | rfl | decide +kernel | (simp [inT, frle] <;> omega) | (simp [inT, frle]; omega))).tr ((Fr.up (fr_M_put e470) (by first | rfl | decide +kernel | (simp [inT, frle] <;> omega) | (simp [inT, frle]; omega))).tr ((Fr.up (fr_M_put e471) (by first | rfl | decide +kernel | (simp [inT, frle] <;> omega) | (simp [inT, frle]; omega))).tr (fr_wr e472 (by first | rfl | (intro _; rfl) | (simp [inT, frle] <;> omega) | (simp [inT, frle]; omega) | (intro _; simp [inT, frle]; omega))))))))))))
theorem fr_M_addLeg_80 {l1 : Int32} {l2 : Int32} {l3 : Int32} {l4 : Int32} {l5 : Int32} {t1 : Int32} {t2 : Int32} {M : Mm} {w9 : Int32} {M9 : Mm} (h : f_M_addLeg_80 l1 l2 l3 l4 l5 t1 t2 M = some (w9, M9)) : Fr [(134, 134, 7), (134, 134, 8), (135, 135, 0), (137, 137, 0)] M M9 := by
  unfold f_M_addLeg_80 at h
  obtain ⟨_, M81, e473, h⟩ := bn2_i h
  rcases ite_i h with ⟨-, h⟩ | ⟨-, h⟩
  ·
    obtain ⟨_, M98, e474, h⟩ := bn2_i h
    cases h
    exact ((Fr.up (fr_M_fails e473) (by first | rfl | decide +kernel | (simp [inT, frle] <;> omega) | (simp [inT, frle]; omega))).tr (Fr.up (fr_M_adds e474) (by first | rfl | decide +kernel | (simp [inT, frle] <;> omega) | (simp [inT, frle]; omega))))
  ·
    cases h
    exact (Fr.up (fr_M_fails e473) (by first | rfl | decide +kernel | (simp [inT, frle] <;> omega) | (simp [inT, frle]; omega)))
theorem fr_M_addLeg_68 {l1 : Int32} {l2 : Int32} {l3 : Int32} {l4 : Int32} {l5 : Int32} {t1 : Int32} {M : Mm} {w9 : Int32} {M9 : Mm} (h : f_M_addLeg_68 l1 l2 l3 l4 l5 t1 M = some (w9, M9)) : Fr [(134, 134, 7), (134, 134, 8), (134, 134, 20), (135, 135, 0), (137, 137, 0), (147, 147, 0)] M M9 := by
  unfold f_M_addLeg_68 at h
  obtain ⟨_, M69, e475, h⟩ := bn2_i h
  rcases ite_i h with ⟨-, h⟩ | ⟨-, h⟩
  ·
    exact ((Fr.up (fr_M_mayAdd e475) (by first | rfl | decide +kernel | (simp [inT, frle] <;> omega) | (simp [inT, frle]; omega))).tr (Fr.up (fr_M_addLeg_80 h) (by first | rfl | decide +kernel | (simp [inT, frle] <;> omega) | (simp [inT, frle]; omega))))
  ·
    exact ((Fr.up (fr_M_mayAdd e475) (by first | rfl | decide +kernel | (simp [inT, frle] <;> omega) | (simp [inT, frle]; omega))).tr (Fr.up (fr_M_addLeg_80 h) (by first | rfl | decide +kernel | (simp [inT, frle] <;> omega) | (simp [inT, frle]; omega))))
theorem fr_M_addLeg_55 {l1 : Int32} {l2 : Int32} {l3 : Int32} {l4 : Int32} {l5 : Int32} {t0 : Int32} {M : Mm} {w9 : Int32} {M9 : Mm} (h : f_M_addLeg_55 l1 l2 l3 l4 l5 t0 M = some (w9, M9)) : Fr [(134, 134, 7), (134, 134, 8), (134, 134, 20), (135, 135, 0), (137, 137, 0), (147, 147, 0)] M M9 := by
  unfold f_M_addLeg_55 at h
  rcases ite_i h with ⟨-, h⟩ | ⟨-, h⟩
  ·
    exact (Fr.up (fr_M_addLeg_68 h) (by first | rfl | decide +kernel | (simp [inT, frle] <;> omega) | (simp [inT, frle]; omega)))
  ·
    exact (Fr.up (fr_M_addLeg_68 h) (by first | rfl | decide +kernel | (simp [inT, frle] <;> omega) | (simp [inT, frle]; omega)))
theorem fr_M_addLeg_54 {l1 : Int32} {l2 : Int32} {l3 : Int32} {l4 : Int32} {l5 : Int32} {M : Mm} {w9 : Int32} {M9 : Mm} (h : f_M_addLeg_54 l1 l2 l3 l4 l5 M = some (w9, M9)) : Fr [(134, 134, 7), (134, 134, 8), (134, 134, 20), (135, 135, 0), (137, 137, 0), (147, 147, 0)] M M9 := by
  unfold f_M_addLeg_54 at h
  exact (Fr.up (fr_M_addLeg_55 h) (by first | rfl | decide +kernel | (simp [inT, frle] <;> omega) | (simp [inT, frle]; omega)))
theorem fr_M_addLeg {l1 : Int32} {l2 : Int32} {l3 : Int32} {l4 : Int32} {l5 : Int32} {M : Mm} {w9 : Int32} {M9 : Mm} (h : f_M_addLeg l1 l2 l3 l4 l5 M = some (w9, M9)) : Fr [(134, 134, 7), (134, 134, 8), (134, 134, 20), (135, 135, 0), (137, 137, 0), (147, 147, 0)] M M9 := by
  unfold f_M_addLeg at h
  obtain ⟨_, e476, h⟩ := bn_i h
  rcases ite_i h with ⟨-, h⟩ | ⟨-, h⟩
  ·
    exact (Fr.up (fr_M_addLeg_54 h) (by first | rfl | decide +kernel | (simp [inT, frle] <;> omega) | (simp [inT, frle]; omega)))
  ·
    obtain ⟨_, e477, h⟩ := bn_i h
    rcases ite_i h with ⟨-, h⟩ | ⟨-, h⟩
    ·
      exact (Fr.up (fr_M_addLeg_54 h) (by first | rfl | decide +kernel | (simp [inT, frle] <;> omega) | (simp [inT, frle]; omega)))
    ·
      obtain ⟨_, e478, h⟩ := bn_i h
      rcases ite_i h with ⟨-, h⟩ | ⟨-, h⟩
      ·
        exact (Fr.up (fr_M_addLeg_54 h) (by first | rfl | decide +kernel | (simp [inT, frle] <;> omega) | (simp [inT, frle]; omega)))
      ·
        obtain ⟨_, e479, h⟩ := bn_i h
        rcases ite_i h with ⟨-, h⟩ | ⟨-, h⟩
        ·
          exact (Fr.up (fr_M_addLeg_54 h) (by first | rfl | decide +kernel | (simp [inT, frle] <;> omega) | (simp [inT, frle]; omega)))
        ·
          obtain ⟨_, e480, h⟩ := bn_i h
          rcases ite_i h with ⟨-, h⟩ | ⟨-, h⟩
          ·
            exact (Fr.up (fr_M_addLeg_54 h) (by first | rfl | decide +kernel | (simp [inT, frle] <;> omega) | (simp [inT, frle]; omega)))
          ·
            exact (Fr.up (fr_M_addLeg_55 h) (by first | rfl | decide +kernel | (simp [inT, frle] <;> omega) | (simp [inT, frle]; omega)))
theorem fr_M_addBog_36 {l1 : Int32} {l2 : Int32} {t1 : Int32} {t2 : Int32} {M : Mm} {w9 : Int32} {M9 : Mm} (h : f_M_addBog_36 l1 l2 t1 t2 M = some (w9, M9)) : Fr [(134, 134, 7), (134, 134, 8), (135, 135, 0), (137, 137, 0)] M M9 := by
  unfold f_M_addBog_36 at h
  obtain ⟨_, M37, e481, h⟩ := bn2_i h
  rcases ite_i h with ⟨-, h⟩ | ⟨-, h⟩
  ·
    obtain ⟨_, M52, e482, h⟩ := bn2_i h
    cases h
    exact ((Fr.up (fr_M_fails e481) (by first | rfl | decide +kernel | (simp [inT, frle] <;> omega) | (simp [inT, frle]; omega))).tr (Fr.up (fr_M_adds e482) (by first | rfl | decide +kernel | (simp [inT, frle] <;> omega) | (simp [inT, frle]; omega))))
  ·
    cases h
    exact (Fr.up (fr_M_fails e481) (by first | rfl | decide +kernel | (simp [inT, frle] <;> omega) | (simp [inT, frle]; omega)))
theorem fr_M_addBog_24 {l1 : Int32} {l2 : Int32} {t1 : Int32} {M : Mm} {w9 : Int32} {M9 : Mm} (h : f_M_addBog_24 l1 l2 t1 M = some (w9, M9)) : Fr [(134, 134, 7), (134, 134, 8), (134, 134, 20), (135, 135, 0), (137, 137, 0), (147, 147, 0)] M M9 := by
  unfold f_M_addBog_24 at h
  obtain ⟨_, M25, e483, h⟩ := bn2_i h
  rcases ite_i h with ⟨-, h⟩ | ⟨-, h⟩
  ·
    exact ((Fr.up (fr_M_mayAdd e483) (by first | rfl | decide +kernel | (simp [inT, frle] <;> omega) | (simp [inT, frle]; omega))).tr (Fr.up (fr_M_addBog_36 h) (by first | rfl | decide +kernel | (simp [inT, frle] <;> omega) | (simp [inT, frle]; omega))))
  ·
    exact ((Fr.up (fr_M_mayAdd e483) (by first | rfl | decide +kernel | (simp [inT, frle] <;> omega) | (simp [inT, frle]; omega))).tr (Fr.up (fr_M_addBog_36 h) (by first | rfl | decide +kernel | (simp [inT, frle] <;> omega) | (simp [inT, frle]; omega))))
theorem fr_M_addBog_19 {l1 : Int32} {l2 : Int32} {M : Mm} {w9 : Int32} {M9 : Mm} (h : f_M_addBog_19 l1 l2 M = some (w9, M9)) : Fr [(134, 134, 7), (134, 134, 8), (134, 134, 20), (135, 135, 0), (137, 137, 0), (147, 147, 0)] M M9 := by
  unfold f_M_addBog_19 at h
  exact (Fr.up (fr_M_addBog_24 h) (by first | rfl | decide +kernel | (simp [inT, frle] <;> omega) | (simp [inT, frle]; omega)))
theorem fr_M_addBog {l1 : Int32} {l2 : Int32} {M : Mm} {w9 : Int32} {M9 : Mm} (h : f_M_addBog l1 l2 M = some (w9, M9)) : Fr [(134, 134, 7), (134, 134, 8), (134, 134, 20), (135, 135, 0), (137, 137, 0), (147, 147, 0)] M M9 := by
  unfold f_M_addBog at h
  obtain ⟨_, e484, h⟩ := bn_i h
  rcases ite_i h with ⟨-, h⟩ | ⟨-, h⟩
  ·
    exact (Fr.up (fr_M_addBog_19 h) (by first | rfl | decide +kernel | (simp [inT, frle] <;> omega) | (simp [inT, frle]; omega)))
  ·
    obtain ⟨_, e485, h⟩ := bn_i h
    rcases ite_i h with ⟨-, h⟩ | ⟨-, h⟩
    ·
      exact (Fr.up (fr_M_addBog_19 h) (by first | rfl | decide +kernel | (simp [inT, frle] <;> omega) | (simp [inT, frle]; omega)))
    ·
      exact (Fr.up (fr_M_addBog_24 h) (by first | rfl | decide +kernel | (simp [inT, frle] <;> omega) | (simp [inT, frle]; omega)))
theorem fr_M_dropPin_25 {l1 : Int32} {t1 : Int32} {t2 : Int32} {M : Mm} {w9 : Int32} {M9 : Mm} (h : f_M_dropPin_25 l1 t1 t2 M = some (w9, M9)) : Fr [(134, 134, 7), (134, 134, 8), (135, 135, 0), (137, 137, 0)] M M9 := by
  unfold f_M_dropPin_25 at h
  obtain ⟨_, M26, e486, h⟩ := bn2_i h
  rcases ite_i h with ⟨-, h⟩ | ⟨-, h⟩
  ·
    obtain ⟨M39, e487, h⟩ := bn_i h
    obtain ⟨_, M45, e488, h⟩ := bn2_i h
    cases h
    exact ((Fr.up (fr_M_fails e486) (by first | rfl | decide +kernel | (simp [inT, frle] <;> omega) | (simp [inT, frle]; omega))).tr ((Fr.up (fr_M_remember e487) (by first | rfl | decide +kernel | (simp [inT, frle] <;> omega) | (simp [inT, frle]; omega))).tr (Fr.up (fr_M_drops e488) (by first | rfl | decide +kernel | (simp [inT, frle] <;> omega) | (simp [inT, frle]; omega)))))
  ·
    cases h
    exact (Fr.up (fr_M_fails e486) (by first | rfl | decide +kernel | (simp [inT, frle] <;> omega) | (simp [inT, frle]; omega)))
theorem fr_M_dropPin_24 {l1 : Int32} {t1 : Int32} {M : Mm} {w9 : Int32} {M9 : Mm} (h : f_M_dropPin_24 l1 t1 M = some (w9, M9)) : Fr [(134, 134, 7), (134, 134, 8), (135, 135, 0), (137, 137, 0)] M M9 := by
  unfold f_M_dropPin_24 at h
  exact (Fr.up (fr_M_dropPin_25 h) (by first | rfl | decide +kernel | (simp [inT, frle] <;> omega) | (simp [inT, frle]; omega)))
theorem fr_M_dropPin {l1 : Int32} {M : Mm} {w9 : Int32} {M9 : Mm} (h : f_M_dropPin l1 M = some (w9, M9)) : Fr [(134, 134, 7), (134, 134, 8), (135, 135, 0), (137, 137, 0)] M M9 := by
  unfold f_M_dropPin at h
  obtain ⟨_, e489, h⟩ := bn_i h
  rcases ite_i h with ⟨-, h⟩ | ⟨-, h⟩
  ·
    obtain ⟨_, e490, h⟩ := bn_i h
    rcases ite_i h with ⟨-, h⟩ | ⟨-, h⟩
    ·
      exact (Fr.up (fr_M_dropPin_25 h) (by first | rfl | decide +kernel | (simp [inT, frle] <;> omega) | (simp [inT, frle]; omega)))
    ·
      exact (Fr.up (fr_M_dropPin_24 h) (by first | rfl | decide +kernel | (simp [inT, frle] <;> omega) | (simp [inT, frle]; omega)))
  ·
    exact (Fr.up (fr_M_dropPin_24 h) (by first | rfl | decide +kernel | (simp [inT, frle] <;> omega) | (simp [inT, frle]; omega)))
theorem fr_M_findPin_26 {l1 : Int32} {t1 : Int32} {t2 : Int32} {M : Mm} {w9 : Int32} {M9 : Mm} (h : f_M_findPin_26 l1 t1 t2 M = some (w9, M9)) : Fr [(134, 134, 7), (134, 134, 8), (135, 135, 0), (137, 137, 0)] M M9 := by
  unfold f_M_findPin_26 at h
  obtain ⟨_, M27, e491, h⟩ := bn2_i h
  rcases ite_i h with ⟨-, h⟩ | ⟨-, h⟩
  ·
    obtain ⟨M40, e492, h⟩ := bn_i h
    obtain ⟨_, M46, e493, h⟩ := bn2_i h
    cases h
    exact ((Fr.up (fr_M_fails e491) (by first | rfl | decide +kernel | (simp [inT, frle] <;> omega) | (simp [inT, frle]; omega))).tr ((Fr.up (fr_M_remember e492) (by first | rfl | decide +kernel | (simp [inT, frle] <;> omega) | (simp [inT, frle]; omega))).tr (Fr.up (fr_M_drops e493) (by first | rfl | decide +kernel | (simp [inT, frle] <;> omega) | (simp [inT, frle]; omega)))))
  ·
    cases h
    exact (Fr.up (fr_M_fails e491) (by first | rfl | decide +kernel | (simp [inT, frle] <;> omega) | (simp [inT, frle]; omega)))
theorem fr_M_findPin_25 {l1 : Int32} {t1 : Int32} {M : Mm} {w9 : Int32} {M9 : Mm} (h : f_M_findPin_25 l1 t1 M = some (w9, M9)) : Fr [(134, 134, 7), (134, 134, 8), (135, 135, 0), (137, 137, 0)] M M9 := by
  unfold f_M_findPin_25 at h
  exact (Fr.up (fr_M_findPin_26 h) (by first | rfl | decide +kernel | (simp [inT, frle] <;> omega) | (simp [inT, frle]; omega)))
theorem fr_M_findPin {l1 : Int32} {M : Mm} {w9 : Int32} {M9 : Mm} (h : f_M_findPin l1 M = some (w9, M9)) : Fr [(134, 134, 7), (134, 134, 8), (135, 135, 0), (137, 137, 0)] M M9 := by
  unfold f_M_findPin at h
  obtain ⟨_, e494, h⟩ := bn_i h
  rcases ite_i h with ⟨-, h⟩ | ⟨-, h⟩
  ·
    obtain ⟨_, e495, h⟩ := bn_i h
    rcases ite_i h with ⟨-, h⟩ | ⟨-, h⟩
    ·
      exact (Fr.up (fr_M_findPin_26 h) (by first | rfl | decide +kernel | (simp [inT, frle] <;> omega) | (simp [inT, frle]; omega)))
    ·
      exact (Fr.up (fr_M_findPin_25 h) (by first | rfl | decide +kernel | (simp [inT, frle] <;> omega) | (simp [inT, frle]; omega)))
  ·
    exact (Fr.up (fr_M_findPin_25 h) (by first | rfl | decide +kernel | (simp [inT, frle] <;> omega) | (simp [inT, frle]; omega)))
theorem fr_M_removeLast_15 {t1 : Int32} {M : Mm} {w9 : Int32} {M9 : Mm} (h : f_M_removeLast_15 t1 M = some (w9, M9)) : Fr [(134, 134, 7), (134, 134, 8), (135, 135, 0), (137, 137, 0)] M M9 := by
  unfold f_M_removeLast_15 at h
  obtain ⟨_, M17, e496, h⟩ := bn2_i h
  rcases ite_i h with ⟨-, h⟩ | ⟨-, h⟩
  ·
    obtain ⟨M30, e497, h⟩ := bn_i h
    obtain ⟨_, M34, e498, h⟩ := bn2_i h
    cases h
    exact ((Fr.up (fr_M_fails e496) (by first | rfl | decide +kernel | (simp [inT, frle] <;> omega) | (simp [inT, frle]; omega))).tr ((Fr.up (fr_M_remember e497) (by first | rfl | decide +kernel | (simp [inT, frle] <;> omega) | (simp [inT, frle]; omega))).tr (Fr.up (fr_M_removes e498) (by first | rfl | decide +kernel | (simp [inT, frle] <;> omega) | (simp [inT, frle]; omega)))))
  ·
    cases h
    exact (Fr.up (fr_M_fails e496) (by first | rfl | decide +kernel | (simp [inT, frle] <;> omega) | (simp [inT, frle]; omega)))
theorem fr_M_removeLast {M : Mm} {w9 : Int32} {M9 : Mm} (h : f_M_removeLast M = some (w9, M9)) : Fr [(134, 134, 7), (134, 134, 8), (135, 135, 0), (137, 137, 0)] M M9 := by
  unfold f_M_removeLast at h
  rcases ite_i h with ⟨-, h⟩ | ⟨-, h⟩
  ·
    exact (Fr.up (fr_M_removeLast_15 h) (by first | rfl | decide +kernel | (simp [inT, frle] <;> omega) | (simp [inT, frle]; omega)))
  ·
    exact (Fr.up (fr_M_removeLast_15 h) (by first | rfl | decide +kernel | (simp [inT, frle] <;> omega) | (simp [inT, frle]; omega)))
theorem fr_M_setWear_17 {l1 : Int32} {t1 : Int32} {M : Mm} {w9 : Int32} {M9 : Mm} (h : f_M_setWear_17 l1 t1 M = some (w9, M9)) : Fr [(134, 134, 7), (134, 134, 8), (135, 135, 0), (137, 137, 0)] M M9 := by
  unfold f_M_setWear_17 at h
  obtain ⟨_, M19, e499, h⟩ := bn2_i h
  rcases ite_i h with ⟨-, h⟩ | ⟨-, h⟩
  ·
    obtain ⟨M32, e500, h⟩ := bn_i h
    obtain ⟨_, M38, e501, h⟩ := bn2_i h
    cases h
    exact ((Fr.up (fr_M_fails e499) (by first | rfl | decide +kernel | (simp [inT, frle] <;> omega) | (simp [inT, frle]; omega))).tr ((Fr.up (fr_M_remember e500) (by first | rfl | decide +kernel | (simp [inT, frle] <;> omega) | (simp [inT, frle]; omega))).tr (Fr.up (fr_M_sets e501) (by first | rfl | decide +kernel | (simp [inT, frle] <;> omega) | (simp [inT, frle]; omega)))))
  ·
    cases h
    exact (Fr.up (fr_M_fails e499) (by first | rfl | decide +kernel | (simp [inT, frle] <;> omega) | (simp [inT, frle]; omega)))
theorem fr_M_setWear {l1 : Int32} {M : Mm} {w9 : Int32} {M9 : Mm} (h : f_M_setWear l1 M = some (w9, M9)) : Fr [(134, 134, 7), (134, 134, 8), (135, 135, 0), (137, 137, 0)] M M9 := by
  unfold f_M_setWear at h
  obtain ⟨_, e502, h⟩ := bn_i h
  rcases ite_i h with ⟨-, h⟩ | ⟨-, h⟩
  ·
    exact (Fr.up (fr_M_setWear_17 h) (by first | rfl | decide +kernel | (simp [inT, frle] <;> omega) | (simp [inT, frle]; omega)))
  ·
    exact (Fr.up (fr_M_setWear_17 h) (by first | rfl | decide +kernel | (simp [inT, frle] <;> omega) | (simp [inT, frle]; omega)))
theorem fr_M_setPace_18 {l1 : Int32} {t1 : Int32} {M : Mm} {w9 : Int32} {M9 : Mm} (h : f_M_setPace_18 l1 t1 M = some (w9, M9)) : Fr [(134, 134, 7), (134, 134, 8), (135, 135, 0), (137, 137, 0)] M M9 := by
  unfold f_M_setPace_18 at h
  obtain ⟨_, M20, e503, h⟩ := bn2_i h
  rcases ite_i h with ⟨-, h⟩ | ⟨-, h⟩
  ·
    obtain ⟨M33, e504, h⟩ := bn_i h
    obtain ⟨_, M39, e505, h⟩ := bn2_i h
    cases h
    exact ((Fr.up (fr_M_fails e503) (by first | rfl | decide +kernel | (simp [inT, frle] <;> omega) | (simp [inT, frle]; omega))).tr ((Fr.up (fr_M_remember e504) (by first | rfl | decide +kernel | (simp [inT, frle] <;> omega) | (simp [inT, frle]; omega))).tr (Fr.up (fr_M_sets e505) (by first | rfl | decide +kernel | (simp [inT, frle] <;> omega) | (simp [inT, frle]; omega)))))
  ·
    cases h
    exact (Fr.up (fr_M_fails e503) (by first | rfl | decide +kernel | (simp [inT, frle] <;> omega) | (simp [inT, frle]; omega)))
theorem fr_M_setPace {l1 : Int32} {M : Mm} {w9 : Int32} {M9 : Mm} (h : f_M_setPace l1 M = some (w9, M9)) : Fr [(134, 134, 7), (134, 134, 8), (135, 135, 0), (137, 137, 0)] M M9 := by
  unfold f_M_setPace at h
  obtain ⟨_, e506, h⟩ := bn_i h
  rcases ite_i h with ⟨-, h⟩ | ⟨-, h⟩
  ·
    exact (Fr.up (fr_M_setPace_18 h) (by first | rfl | decide +kernel | (simp [inT, frle] <;> omega) | (simp [inT, frle]; omega)))
  ·
    exact (Fr.up (fr_M_setPace_18 h) (by first | rfl | decide +kernel | (simp [inT, frle] <;> omega) | (simp [inT, frle]; omega)))
theorem fr_M_setAdjusted_36 {t0 : Int32} {M : Mm} {w9 : Int32} {M9 : Mm} (h : f_M_setAdjusted_36 t0 M = some (w9, M9)) : Fr [] M M9 := by
  unfold f_M_setAdjusted_36 at h
  have h := (chk_i h).2
  cases h
  exact Fr.rf _ _
theorem fr_M_setAdjusted_24 {t1 : Int32} {t2 : Int32} {M : Mm} {w9 : Int32} {M9 : Mm} (h : f_M_setAdjusted_24 t1 t2 M = some (w9, M9)) : Fr [(135, 135, 0)] M M9 := by
  unfold f_M_setAdjusted_24 at h
  obtain ⟨_, M24, e507, h⟩ := bn2_i h
  rcases ite_i h with ⟨-, h⟩ | ⟨-, h⟩
  ·
    exact ((Fr.up (fr_M_sets e507) (by first | rfl | decide +kernel | (simp [inT, frle] <;> omega) | (simp [inT, frle]; omega))).tr (Fr.up (fr_M_setAdjusted_36 h) (by first | rfl | decide +kernel | (simp [inT, frle] <;> omega) | (simp [inT, frle]; omega))))
  ·
    exact ((Fr.up (fr_M_sets e507) (by first | rfl | decide +kernel | (simp [inT, frle] <;> omega) | (simp [inT, frle]; omega))).tr (Fr.up (fr_M_setAdjusted_36 h) (by first | rfl | decide +kernel | (simp [inT, frle] <;> omega) | (simp [inT, frle]; omega))))
theorem fr_M_setAdjusted {l1 : Int32} {M : Mm} {w9 : Int32} {M9 : Mm} (h : f_M_setAdjusted l1 M = some (w9, M9)) : Fr [(134, 134, 7), (134, 134, 8), (135, 135, 0), (137, 137, 0)] M M9 := by
  unfold f_M_setAdjusted at h
  obtain ⟨M2, e508, h⟩ := bm_i h
  obtain ⟨M10, e509, h⟩ := bn_i h
  rcases ite_i h with ⟨-, h⟩ | ⟨-, h⟩
  ·
    exact ((fr_wr e508 (by first | rfl | (intro _; rfl) | (simp [inT, frle] <;> omega) | (simp [inT, frle]; omega) | (intro _; simp [inT, frle]; omega))).tr ((Fr.up (fr_M_remember e509) (by first | rfl | decide +kernel | (simp [inT, frle] <;> omega) | (simp [inT, frle]; omega))).tr (Fr.up (fr_M_setAdjusted_24 h) (by first | rfl | decide +kernel | (simp [inT, frle] <;> omega) | (simp [inT, frle]; omega)))))
  ·
    exact ((fr_wr e508 (by first | rfl | (intro _; rfl) | (simp [inT, frle] <;> omega) | (simp [inT, frle]; omega) | (intro _; simp [inT, frle]; omega))).tr ((Fr.up (fr_M_remember e509) (by first | rfl | decide +kernel | (simp [inT, frle] <;> omega) | (simp [inT, frle]; omega))).tr (Fr.up (fr_M_setAdjusted_24 h) (by first | rfl | decide +kernel | (simp [inT, frle] <;> omega) | (simp [inT, frle]; omega)))))
theorem fr_M_undo_13 {t1 : Int32} {M : Mm} {w9 : Int32} {M9 : Mm} (h : f_M_undo_13 t1 M = some (w9, M9)) : Fr [(134, 134, 7), (134, 134, 8), (135, 135, 0)] M M9 := by
  unfold f_M_undo_13 at h
  obtain ⟨_, M15, e510, h⟩ := bn2_i h
  rcases ite_i h with ⟨-, h⟩ | ⟨-, h⟩
  ·
    obtain ⟨M30, e511, h⟩ := bm_i h
    obtain ⟨M50, e512, h⟩ := bn_i h
    cases h
    exact ((Fr.up (fr_M_fails e510) (by first | rfl | decide +kernel | (simp [inT, frle] <;> omega) | (simp [inT, frle]; omega))).tr ((fr_wr e511 (by first | rfl | (intro _; rfl) | (simp [inT, frle] <;> omega) | (simp [inT, frle]; omega) | (intro _; simp [inT, frle]; omega))).tr (Fr.up (fr_M_copy e512) (by first | rfl | decide +kernel | (simp [inT, frle] <;> omega) | (simp [inT, frle]; omega)))))
  ·
    cases h
    exact (Fr.up (fr_M_fails e510) (by first | rfl | decide +kernel | (simp [inT, frle] <;> omega) | (simp [inT, frle]; omega)))
theorem fr_M_undo {M : Mm} {w9 : Int32} {M9 : Mm} (h : f_M_undo M = some (w9, M9)) : Fr [(134, 134, 7), (134, 134, 8), (135, 135, 0)] M M9 := by
  unfold f_M_undo at h
  rcases ite_i h with ⟨-, h⟩ | ⟨-, h⟩
  ·
    exact (Fr.up (fr_M_undo_13 h) (by first | rfl | decide +kernel | (simp [inT, frle] <;> omega) | (simp [inT, frle]; omega)))
  ·
    exact (Fr.up (fr_M_undo_13 h) (by first | rfl | decide +kernel | (simp [inT, frle] <;> omega) | (simp [inT, frle]; omega)))
theorem fr_M_save_15 {l1 : Int32} {t1 : Int32} {M : Mm} {w9 : Int32} {M9 : Mm} (h : f_M_save_15 l1 t1 M = some (w9, M9)) : Fr [(134, 134, 8), (138, 138, 0), (140, 140, 0)] M M9 := by
  unfold f_M_save_15 at h
  obtain ⟨_, M17, e513, h⟩ := bn2_i h
  rcases ite_i h with ⟨-, h⟩ | ⟨-, h⟩
  ·
    obtain ⟨M39, e514, h⟩ := bn_i h
    have h := (chk_i h).2
    obtain ⟨M48, e515, h⟩ := bm_i h
    cases h
    exact ((Fr.up (fr_M_fails e513) (by first | rfl | decide +kernel | (simp [inT, frle] <;> omega) | (simp [inT, frle]; omega))).tr ((Fr.up (fr_M_copy e514) (by first | rfl | decide +kernel | (simp [inT, frle] <;> omega) | (simp [inT, frle]; omega))).tr (fr_wr e515 (by first | rfl | (intro _; rfl) | (simp [inT, frle] <;> omega) | (simp [inT, frle]; omega) | (intro _; simp [inT, frle]; omega)))))
  ·
    cases h
    exact (Fr.up (fr_M_fails e513) (by first | rfl | decide +kernel | (simp [inT, frle] <;> omega) | (simp [inT, frle]; omega)))
theorem fr_M_save {l1 : Int32} {M : Mm} {w9 : Int32} {M9 : Mm} (h : f_M_save l1 M = some (w9, M9)) : Fr [(134, 134, 8), (138, 138, 0), (140, 140, 0)] M M9 := by
  unfold f_M_save at h
  obtain ⟨_, e516, h⟩ := bn_i h
  rcases ite_i h with ⟨-, h⟩ | ⟨-, h⟩
  ·
    exact (Fr.up (fr_M_save_15 h) (by first | rfl | decide +kernel | (simp [inT, frle] <;> omega) | (simp [inT, frle]; omega)))
  ·
    exact (Fr.up (fr_M_save_15 h) (by first | rfl | decide +kernel | (simp [inT, frle] <;> omega) | (simp [inT, frle]; omega)))
theorem fr_M_restore_35 {l1 : Int32} {t1 : Int32} {t2 : Int32} {M : Mm} {w9 : Int32} {M9 : Mm} (h : f_M_restore_35 l1 t1 t2 M = some (w9, M9)) : Fr [(134, 134, 7), (134, 134, 8), (135, 135, 0), (137, 137, 0)] M M9 := by
  unfold f_M_restore_35 at h
  obtain ⟨_, M36, e517, h⟩ := bn2_i h
  rcases ite_i h with ⟨-, h⟩ | ⟨-, h⟩
  ·
    obtain ⟨M49, e518, h⟩ := bn_i h
    obtain ⟨M66, e519, h⟩ := bn_i h
    cases h
    exact ((Fr.up (fr_M_fails e517) (by first | rfl | decide +kernel | (simp [inT, frle] <;> omega) | (simp [inT, frle]; omega))).tr ((Fr.up (fr_M_remember e518) (by first | rfl | decide +kernel | (simp [inT, frle] <;> omega) | (simp [inT, frle]; omega))).tr (Fr.up (fr_M_copy e519) (by first | rfl | decide +kernel | (simp [inT, frle] <;> omega) | (simp [inT, frle]; omega)))))
  ·
    cases h
    exact (Fr.up (fr_M_fails e517) (by first | rfl | decide +kernel | (simp [inT, frle] <;> omega) | (simp [inT, frle]; omega)))
theorem fr_M_restore_34 {l1 : Int32} {t1 : Int32} {M : Mm} {w9 : Int32} {M9 : Mm} (h : f_M_restore_34 l1 t1 M = some (w9, M9)) : Fr [(134, 134, 7), (134, 134, 8), (135, 135, 0), (137, 137, 0)] M M9 := by
  unfold f_M_restore_34 at h
  exact (Fr.up (fr_M_restore_35 h) (by first | rfl | decide +kernel | (simp [inT, frle] <;> omega) | (simp [inT, frle]; omega)))
theorem fr_M_restore_14 {l1 : Int32} {t0 : Int32} {M : Mm} {w9 : Int32} {M9 : Mm} (h : f_M_restore_14 l1 t0 M = some (w9, M9)) : Fr [(134, 134, 7), (134, 134, 8), (135, 135, 0), (137, 137, 0)] M M9 := by
  unfold f_M_restore_14 at h
  rcases ite_i h with ⟨-, h⟩ | ⟨-, h⟩
  ·
    have h := (chk_i h).2
    rcases ite_i h with ⟨-, h⟩ | ⟨-, h⟩
    ·
      exact (Fr.up (fr_M_restore_35 h) (by first | rfl | decide +kernel | (simp [inT, frle] <;> omega) | (simp [inT, frle]; omega)))
    ·
      exact (Fr.up (fr_M_restore_34 h) (by first | rfl | decide +kernel | (simp [inT, frle] <;> omega) | (simp [inT, frle]; omega)))
  ·
    exact (Fr.up (fr_M_restore_34 h) (by first | rfl | decide +kernel | (simp [inT, frle] <;> omega) | (simp [inT, frle]; omega)))
theorem fr_M_restore {l1 : Int32} {M : Mm} {w9 : Int32} {M9 : Mm} (h : f_M_restore l1 M = some (w9, M9)) : Fr [(134, 134, 7), (134, 134, 8), (135, 135, 0), (137, 137, 0)] M M9 := by
  unfold f_M_restore at h
  obtain ⟨_, e520, h⟩ := bn_i h
  rcases ite_i h with ⟨-, h⟩ | ⟨-, h⟩
  ·
    exact (Fr.up (fr_M_restore_14 h) (by first | rfl | decide +kernel | (simp [inT, frle] <;> omega) | (simp [inT, frle]; omega)))
  ·
    exact (Fr.up (fr_M_restore_14 h) (by first | rfl | decide +kernel | (simp [inT, frle] <;> omega) | (simp [inT, frle]; omega)))
theorem fr_M_legCount {M : Mm} {w9 : Int32} {M9 : Mm} (h : f_M_legCount M = some (w9, M9)) : Fr [(134, 134, 8)] M M9 := by
  unfold f_M_legCount at h
  obtain ⟨_, M7, e521, h⟩ := bn2_i h
  cases h
  exact (Fr.up (fr_M_told e521) (by first | rfl | decide +kernel | (simp [inT, frle] <;> omega) | (simp [inT, frle]; omega)))
theorem fr_M_stationCount {M : Mm} {w9 : Int32} {M9 : Mm} (h : f_M_stationCount M = some (w9, M9)) : Fr [(134, 134, 8)] M M9 := by
  unfold f_M_stationCount at h
  obtain ⟨_, M9, e522, h⟩ := bn2_i h
  cases h
  exact (Fr.up (fr_M_told e522) (by first | rfl | decide +kernel | (simp [inT, frle] <;> omega) | (simp [inT, frle]; omega)))
theorem fr_M_wear {M : Mm} {w9 : Int32} {M9 : Mm} (h : f_M_wear M = some (w9, M9)) : Fr [(134, 134, 8)] M M9 := by
  unfold f_M_wear at h
  obtain ⟨_, M7, e523, h⟩ := bn2_i h
  cases h
  exact (Fr.up (fr_M_told e523) (by first | rfl | decide +kernel | (simp [inT, frle] <;> omega) | (simp [inT, frle]; omega)))
theorem fr_M_pace {M : Mm} {w9 : Int32} {M9 : Mm} (h : f_M_pace M = some (w9, M9)) : Fr [(134, 134, 8)] M M9 := by
  unfold f_M_pace at h
  obtain ⟨_, M7, e524, h⟩ := bn2_i h
  cases h
  exact (Fr.up (fr_M_told e524) (by first | rfl | decide +kernel | (simp [inT, frle] <;> omega) | (simp [inT, frle]; omega)))
theorem fr_M_undoableChanges {M : Mm} {w9 : Int32} {M9 : Mm} (h : f_M_undoableChanges M = some (w9, M9)) : Fr [(134, 134, 8)] M M9 := by
  unfold f_M_undoableChanges at h
  obtain ⟨_, M5, e525, h⟩ := bn2_i h
  cases h
  exact (Fr.up (fr_M_told e525) (by first | rfl | decide +kernel | (simp [inT, frle] <;> omega) | (simp [inT, frle]; omega)))
theorem fr_M_isAdjusted_19 {t0 : Int32} {M : Mm} {w9 : Int32} {M9 : Mm} (h : f_M_isAdjusted_19 t0 M = some (w9, M9)) : Fr [] M M9 := by
  unfold f_M_isAdjusted_19 at h
  have h := (chk_i h).2
  cases h
  exact Fr.rf _ _
theorem fr_M_isAdjusted {M : Mm} {w9 : Int32} {M9 : Mm} (h : f_M_isAdjusted M = some (w9, M9)) : Fr [(134, 134, 8)] M M9 := by
  unfold f_M_isAdjusted at h
  obtain ⟨_, M7, e526, h⟩ := bn2_i h
  rcases ite_i h with ⟨-, h⟩ | ⟨-, h⟩
  ·
    exact ((Fr.up (fr_M_told e526) (by first | rfl | decide +kernel | (simp [inT, frle] <;> omega) | (simp [inT, frle]; omega))).tr (Fr.up (fr_M_isAdjusted_19 h) (by first | rfl | decide +kernel | (simp [inT, frle] <;> omega) | (simp [inT, frle]; omega))))
  ·
    exact ((Fr.up (fr_M_told e526) (by first | rfl | decide +kernel | (simp [inT, frle] <;> omega) | (simp [inT, frle]; omega))).tr (Fr.up (fr_M_isAdjusted_19 h) (by first | rfl | decide +kernel | (simp [inT, frle] <;> omega) | (simp [inT, frle]; omega))))
theorem fr_M_isBad {l1 : Int32} {M : Mm} {w9 : Int32} {M9 : Mm} (h : f_M_isBad l1 M = some (w9, M9)) : Fr [(134, 134, 8)] M M9 := by
  unfold f_M_isBad at h
  obtain ⟨_, e527, h⟩ := bn_i h
  obtain ⟨_, M8, e528, h⟩ := bn2_i h
  have h := (chk_i h).2
  cases h
  exact (Fr.up (fr_M_fails e528) (by first | rfl | decide +kernel | (simp [inT, frle] <;> omega) | (simp [inT, frle]; omega)))
theorem fr_M_bearing_18 {t0 : Int32} {M : Mm} {w9 : Int32} {M9 : Mm} (h : f_M_bearing_18 t0 M = some (w9, M9)) : Fr [] M M9 := by
  unfold f_M_bearing_18 at h
  cases h
  exact Fr.rf _ _
theorem fr_M_bearing {l1 : Int32} {M : Mm} {w9 : Int32} {M9 : Mm} (h : f_M_bearing l1 M = some (w9, M9)) : Fr [(134, 134, 8)] M M9 := by
  unfold f_M_bearing at h
  obtain ⟨_, M2, e529, h⟩ := bn2_i h
  rcases ite_i h with ⟨-, h⟩ | ⟨-, h⟩
  ·
    obtain ⟨_, e530, h⟩ := bn_i h
    exact ((Fr.up (fr_M_isBad e529) (by first | rfl | decide +kernel | (simp [inT, frle] <;> omega) | (simp [inT, frle]; omega))).tr (Fr.up (fr_M_bearing_18 h) (by first | rfl | decide +kernel | (simp [inT, frle] <;> omega) | (simp [inT, frle]; omega))))
  ·
    exact ((Fr.up (fr_M_isBad e529) (by first | rfl | decide +kernel | (simp [inT, frle] <;> omega) | (simp [inT, frle]; omega))).tr (Fr.up (fr_M_bearing_18 h) (by first | rfl | decide +kernel | (simp [inT, frle] <;> omega) | (simp [inT, frle]; omega))))
theorem fr_M_pins_18 {t0 : Int32} {M : Mm} {w9 : Int32} {M9 : Mm} (h : f_M_pins_18 t0 M = some (w9, M9)) : Fr [] M M9 := by
  unfold f_M_pins_18 at h
  cases h
  exact Fr.rf _ _
theorem fr_M_pins {l1 : Int32} {M : Mm} {w9 : Int32} {M9 : Mm} (h : f_M_pins l1 M = some (w9, M9)) : Fr [(134, 134, 8)] M M9 := by
  unfold f_M_pins at h
  obtain ⟨_, M2, e531, h⟩ := bn2_i h
  rcases ite_i h with ⟨-, h⟩ | ⟨-, h⟩
  ·
    obtain ⟨_, e532, h⟩ := bn_i h
    exact ((Fr.up (fr_M_isBad e531) (by first | rfl | decide +kernel | (simp [inT, frle] <;> omega) | (simp [inT, frle]; omega))).tr (Fr.up (fr_M_pins_18 h) (by first | rfl | decide +kernel | (simp [inT, frle] <;> omega) | (simp [inT, frle]; omega))))
  ·
    exact ((Fr.up (fr_M_isBad e531) (by first | rfl | decide +kernel | (simp [inT, frle] <;> omega) | (simp [inT, frle]; omega))).tr (Fr.up (fr_M_pins_18 h) (by first | rfl | decide +kernel | (simp [inT, frle] <;> omega) | (simp [inT, frle]; omega))))
theorem fr_M_droppedPins_18 {t0 : Int32} {M : Mm} {w9 : Int32} {M9 : Mm} (h : f_M_droppedPins_18 t0 M = some (w9, M9)) : Fr [] M M9 := by
  unfold f_M_droppedPins_18 at h
  cases h
  exact Fr.rf _ _
theorem fr_M_droppedPins {l1 : Int32} {M : Mm} {w9 : Int32} {M9 : Mm} (h : f_M_droppedPins l1 M = some (w9, M9)) : Fr [(134, 134, 8)] M M9 := by
  unfold f_M_droppedPins at h
  obtain ⟨_, M2, e533, h⟩ := bn2_i h
  rcases ite_i h with ⟨-, h⟩ | ⟨-, h⟩
  ·
    obtain ⟨_, e534, h⟩ := bn_i h
    exact ((Fr.up (fr_M_isBad e533) (by first | rfl | decide +kernel | (simp [inT, frle] <;> omega) | (simp [inT, frle]; omega))).tr (Fr.up (fr_M_droppedPins_18 h) (by first | rfl | decide +kernel | (simp [inT, frle] <;> omega) | (simp [inT, frle]; omega))))
  ·
    exact ((Fr.up (fr_M_isBad e533) (by first | rfl | decide +kernel | (simp [inT, frle] <;> omega) | (simp [inT, frle]; omega))).tr (Fr.up (fr_M_droppedPins_18 h) (by first | rfl | decide +kernel | (simp [inT, frle] <;> omega) | (simp [inT, frle]; omega))))
theorem fr_M_readLength_17 {t0 : Int32} {M : Mm} {w9 : Int32} {M9 : Mm} (h : f_M_readLength_17 t0 M = some (w9, M9)) : Fr [] M M9 := by
  unfold f_M_readLength_17 at h
  cases h
  exact Fr.rf _ _
theorem fr_M_readLength {l1 : Int32} {M : Mm} {w9 : Int32} {M9 : Mm} (h : f_M_readLength l1 M = some (w9, M9)) : Fr [(134, 134, 8)] M M9 := by
  unfold f_M_readLength at h
  obtain ⟨_, M2, e535, h⟩ := bn2_i h
  rcases ite_i h with ⟨-, h⟩ | ⟨-, h⟩
  ·
    obtain ⟨_, e536, h⟩ := bn_i h
    exact ((Fr.up (fr_M_isBad e535) (by first | rfl | decide +kernel | (simp [inT, frle] <;> omega) | (simp [inT, frle]; omega))).tr (Fr.up (fr_M_readLength_17 h) (by first | rfl | decide +kernel | (simp [inT, frle] <;> omega) | (simp [inT, frle]; omega))))
  ·
    exact ((Fr.up (fr_M_isBad e535) (by first | rfl | decide +kernel | (simp [inT, frle] <;> omega) | (simp [inT, frle]; omega))).tr (Fr.up (fr_M_readLength_17 h) (by first | rfl | decide +kernel | (simp [inT, frle] <;> omega) | (simp [inT, frle]; omega))))
theorem fr_M_slopeLength_17 {t0 : Int32} {M : Mm} {w9 : Int32} {M9 : Mm} (h : f_M_slopeLength_17 t0 M = some (w9, M9)) : Fr [] M M9 := by
  unfold f_M_slopeLength_17 at h
  cases h
  exact Fr.rf _ _
theorem fr_M_slopeLength {l1 : Int32} {M : Mm} {w9 : Int32} {M9 : Mm} (h : f_M_slopeLength l1 M = some (w9, M9)) : Fr [(134, 134, 8)] M M9 := by
  unfold f_M_slopeLength at h
  obtain ⟨_, M2, e537, h⟩ := bn2_i h
  rcases ite_i h with ⟨-, h⟩ | ⟨-, h⟩
  ·
    obtain ⟨_, e538, h⟩ := bn_i h
    exact ((Fr.up (fr_M_isBad e537) (by first | rfl | decide +kernel | (simp [inT, frle] <;> omega) | (simp [inT, frle]; omega))).tr (Fr.up (fr_M_slopeLength_17 h) (by first | rfl | decide +kernel | (simp [inT, frle] <;> omega) | (simp [inT, frle]; omega))))
  ·
    exact ((Fr.up (fr_M_isBad e537) (by first | rfl | decide +kernel | (simp [inT, frle] <;> omega) | (simp [inT, frle]; omega))).tr (Fr.up (fr_M_slopeLength_17 h) (by first | rfl | decide +kernel | (simp [inT, frle] <;> omega) | (simp [inT, frle]; omega))))
theorem fr_M_horizontalLength_17 {t0 : Int32} {M : Mm} {w9 : Int32} {M9 : Mm} (h : f_M_horizontalLength_17 t0 M = some (w9, M9)) : Fr [] M M9 := by
  unfold f_M_horizontalLength_17 at h
  cases h
  exact Fr.rf _ _
theorem fr_M_horizontalLength {l1 : Int32} {M : Mm} {w9 : Int32} {M9 : Mm} (h : f_M_horizontalLength l1 M = some (w9, M9)) : Fr [(134, 134, 8)] M M9 := by
  unfold f_M_horizontalLength at h
  obtain ⟨_, M2, e539, h⟩ := bn2_i h
  rcases ite_i h with ⟨-, h⟩ | ⟨-, h⟩
  ·
    obtain ⟨_, e540, h⟩ := bn_i h
    exact ((Fr.up (fr_M_isBad e539) (by first | rfl | decide +kernel | (simp [inT, frle] <;> omega) | (simp [inT, frle]; omega))).tr (Fr.up (fr_M_horizontalLength_17 h) (by first | rfl | decide +kernel | (simp [inT, frle] <;> omega) | (simp [inT, frle]; omega))))
  ·
    exact ((Fr.up (fr_M_isBad e539) (by first | rfl | decide +kernel | (simp [inT, frle] <;> omega) | (simp [inT, frle]; omega))).tr (Fr.up (fr_M_horizontalLength_17 h) (by first | rfl | decide +kernel | (simp [inT, frle] <;> omega) | (simp [inT, frle]; omega))))
theorem fr_M_eastStep_18 {t0 : Int32} {M : Mm} {w9 : Int32} {M9 : Mm} (h : f_M_eastStep_18 t0 M = some (w9, M9)) : Fr [] M M9 := by
  unfold f_M_eastStep_18 at h
  cases h
  exact Fr.rf _ _
theorem fr_M_eastStep {l1 : Int32} {M : Mm} {w9 : Int32} {M9 : Mm} (h : f_M_eastStep l1 M = some (w9, M9)) : Fr [(134, 134, 8)] M M9 := by
  unfold f_M_eastStep at h
  obtain ⟨_, M2, e541, h⟩ := bn2_i h
  rcases ite_i h with ⟨-, h⟩ | ⟨-, h⟩
  ·
    obtain ⟨_, e542, h⟩ := bn_i h
    exact ((Fr.up (fr_M_isBad e541) (by first | rfl | decide +kernel | (simp [inT, frle] <;> omega) | (simp [inT, frle]; omega))).tr (Fr.up (fr_M_eastStep_18 h) (by first | rfl | decide +kernel | (simp [inT, frle] <;> omega) | (simp [inT, frle]; omega))))
  ·
    exact ((Fr.up (fr_M_isBad e541) (by first | rfl | decide +kernel | (simp [inT, frle] <;> omega) | (simp [inT, frle]; omega))).tr (Fr.up (fr_M_eastStep_18 h) (by first | rfl | decide +kernel | (simp [inT, frle] <;> omega) | (simp [inT, frle]; omega))))
theorem fr_M_northStep_18 {t0 : Int32} {M : Mm} {w9 : Int32} {M9 : Mm} (h : f_M_northStep_18 t0 M = some (w9, M9)) : Fr [] M M9 := by
  unfold f_M_northStep_18 at h
  cases h
  exact Fr.rf _ _
theorem fr_M_northStep {l1 : Int32} {M : Mm} {w9 : Int32} {M9 : Mm} (h : f_M_northStep l1 M = some (w9, M9)) : Fr [(134, 134, 8)] M M9 := by
  unfold f_M_northStep at h
  obtain ⟨_, M2, e543, h⟩ := bn2_i h
  rcases ite_i h with ⟨-, h⟩ | ⟨-, h⟩
  ·
    obtain ⟨_, e544, h⟩ := bn_i h
    exact ((Fr.up (fr_M_isBad e543) (by first | rfl | decide +kernel | (simp [inT, frle] <;> omega) | (simp [inT, frle]; omega))).tr (Fr.up (fr_M_northStep_18 h) (by first | rfl | decide +kernel | (simp [inT, frle] <;> omega) | (simp [inT, frle]; omega))))
  ·
    exact ((Fr.up (fr_M_isBad e543) (by first | rfl | decide +kernel | (simp [inT, frle] <;> omega) | (simp [inT, frle]; omega))).tr (Fr.up (fr_M_northStep_18 h) (by first | rfl | decide +kernel | (simp [inT, frle] <;> omega) | (simp [inT, frle]; omega))))
theorem fr_M_tallies_28 {t0 : Int32} {M : Mm} {w9 : Int32} {M9 : Mm} (h : f_M_tallies_28 t0 M = some (w9, M9)) : Fr [] M M9 := by
  unfold f_M_tallies_28 at h
  cases h
  exact Fr.rf _ _
theorem fr_M_tallies {l1 : Int32} {M : Mm} {w9 : Int32} {M9 : Mm} (h : f_M_tallies l1 M = some (w9, M9)) : Fr [(134, 134, 8)] M M9 := by
  unfold f_M_tallies at h
  obtain ⟨_, M2, e545, h⟩ := bn2_i h
  rcases ite_i h with ⟨-, h⟩ | ⟨-, h⟩
  ·
    obtain ⟨_, e546, h⟩ := bn_i h
    obtain ⟨_, e547, h⟩ := bn_i h
    exact ((Fr.up (fr_M_isBad e545) (by first | rfl | decide +kernel | (simp [inT, frle] <;> omega) | (simp [inT, frle]; omega))).tr (Fr.up (fr_M_tallies_28 h) (by first | rfl | decide +kernel | (simp [inT, frle] <;> omega) | (simp [inT, frle]; omega))))
  ·
    exact ((Fr.up (fr_M_isBad e545) (by first | rfl | decide +kernel | (simp [inT, frle] <;> omega) | (simp [inT, frle]; omega))).tr (Fr.up (fr_M_tallies_28 h) (by first | rfl | decide +kernel | (simp [inT, frle] <;> omega) | (simp [inT, frle]; omega))))
theorem fr_M_isBog_21 {t0 : Int32} {M : Mm} {w9 : Int32} {M9 : Mm} (h : f_M_isBog_21 t0 M = some (w9, M9)) : Fr [] M M9 := by
  unfold f_M_isBog_21 at h
  have h := (chk_i h).2
  cases h
  exact Fr.rf _ _
theorem fr_M_isBog_20 {M : Mm} {w9 : Int32} {M9 : Mm} (h : f_M_isBog_20 M = some (w9, M9)) : Fr [] M M9 := by
  unfold f_M_isBog_20 at h
  exact (Fr.up (fr_M_isBog_21 h) (by first | rfl | decide +kernel | (simp [inT, frle] <;> omega) | (simp [inT, frle]; omega)))
theorem fr_M_isBog {l1 : Int32} {M : Mm} {w9 : Int32} {M9 : Mm} (h : f_M_isBog l1 M = some (w9, M9)) : Fr [(134, 134, 8)] M M9 := by
  unfold f_M_isBog at h
  obtain ⟨_, M2, e548, h⟩ := bn2_i h
  rcases ite_i h with ⟨-, h⟩ | ⟨-, h⟩
  ·
    obtain ⟨_, e549, h⟩ := bn_i h
    rcases ite_i h with ⟨-, h⟩ | ⟨-, h⟩
    ·
      exact ((Fr.up (fr_M_isBad e548) (by first | rfl | decide +kernel | (simp [inT, frle] <;> omega) | (simp [inT, frle]; omega))).tr (Fr.up (fr_M_isBog_20 h) (by first | rfl | decide +kernel | (simp [inT, frle] <;> omega) | (simp [inT, frle]; omega))))
    ·
      exact ((Fr.up (fr_M_isBad e548) (by first | rfl | decide +kernel | (simp [inT, frle] <;> omega) | (simp [inT, frle]; omega))).tr (Fr.up (fr_M_isBog_21 h) (by first | rfl | decide +kernel | (simp [inT, frle] <;> omega) | (simp [inT, frle]; omega))))
  ·
    exact ((Fr.up (fr_M_isBad e548) (by first | rfl | decide +kernel | (simp [inT, frle] <;> omega) | (simp [inT, frle]; omega))).tr (Fr.up (fr_M_isBog_20 h) (by first | rfl | decide +kernel | (simp [inT, frle] <;> omega) | (simp [inT, frle]; omega))))
theorem fr_M_nameByte_40 {t0 : Int32} {M : Mm} {w9 : Int32} {M9 : Mm} (h : f_M_nameByte_40 t0 M = some (w9, M9)) : Fr [] M M9 := by
  unfold f_M_nameByte_40 at h
  cases h
  exact Fr.rf _ _
theorem fr_M_nameByte {l1 : Int32} {l2 : Int32} {M : Mm} {w9 : Int32} {M9 : Mm} (h : f_M_nameByte l1 l2 M = some (w9, M9)) : Fr [(134, 134, 8)] M M9 := by
  unfold f_M_nameByte at h
  obtain ⟨_, M2, e550, h⟩ := bn2_i h
  rcases ite_i h with ⟨-, h⟩ | ⟨-, h⟩
  ·
    obtain ⟨_, e551, h⟩ := bn_i h
    obtain ⟨_, e552, h⟩ := bn_i h
    rcases ite_i h with ⟨-, h⟩ | ⟨-, h⟩
    ·
      exact ((Fr.up (fr_M_isBad e550) (by first | rfl | decide +kernel | (simp [inT, frle] <;> omega) | (simp [inT, frle]; omega))).tr (Fr.up (fr_M_nameByte_40 h) (by first | rfl | decide +kernel | (simp [inT, frle] <;> omega) | (simp [inT, frle]; omega))))
    ·
      obtain ⟨_, e553, h⟩ := bn_i h
      exact ((Fr.up (fr_M_isBad e550) (by first | rfl | decide +kernel | (simp [inT, frle] <;> omega) | (simp [inT, frle]; omega))).tr (Fr.up (fr_M_nameByte_40 h) (by first | rfl | decide +kernel | (simp [inT, frle] <;> omega) | (simp [inT, frle]; omega))))
  ·
    cases h
    exact (Fr.up (fr_M_isBad e550) (by first | rfl | decide +kernel | (simp [inT, frle] <;> omega) | (simp [inT, frle]; omega)))
theorem fr_M_findLeg_30_i : ∀ (n : Nat) (l1 : Int32) (M : Mm) (w9 : Int32) (M9 : Mm), f_M_findLeg_30 n l1 M = some (w9, M9) → Fr [(147, 147, 0)] M M9 := by
  intro n; induction n with
  | zero => intro _ _ _ _ h; cases h
  | succ n ih =>
    intro l1 M w9 M9 h
    rw [f_M_findLeg_30] at h
    rcases ite_i h with ⟨-, h⟩ | ⟨-, h⟩
    ·
      obtain ⟨_, e554, h⟩ := bn_i h
      cases h
      exact Fr.rf _ _
    ·
      have h := (chk_i h).2
      have h := (chk_i h).2
      obtain ⟨M49, e555, h⟩ := bm_i h
      exact ((fr_wr e555 (by first | rfl | (intro _; rfl) | (simp [inT, frle] <;> omega) | (simp [inT, frle]; omega) | (intro _; simp [inT, frle]; omega))).tr (ih _ _ _ _ h))
theorem fr_M_findLeg_30 {n : Nat} {l1 : Int32} {M : Mm} {w9 : Int32} {M9 : Mm} (h : f_M_findLeg_30 n l1 M = some (w9, M9)) : Fr [(147, 147, 0)] M M9 := fr_M_findLeg_30_i n _ _ _ _ h
theorem fr_M_findLeg {M : Mm} {w9 : Int32} {M9 : Mm} (h : f_M_findLeg M = some (w9, M9)) : Fr [(134, 134, 8), (134, 134, 20), (147, 147, 0)] M M9 := by
  unfold f_M_findLeg at h
  obtain ⟨M2, e556, h⟩ := bm_i h
  obtain ⟨_, e557, h⟩ := bn_i h
  rcases ite_i h with ⟨-, h⟩ | ⟨-, h⟩
  ·
    cases h
    exact (fr_wr e556 (by first | rfl | (intro _; rfl) | (simp [inT, frle] <;> omega) | (simp [inT, frle]; omega) | (intro _; simp [inT, frle]; omega)))
  ·
    obtain ⟨M25, e558, h⟩ := bm_i h
    exact ((fr_wr e556 (by first | rfl | (intro _; rfl) | (simp [inT, frle] <;> omega) | (simp [inT, frle]; omega) | (intro _; simp [inT, frle]; omega))).tr ((fr_wr e558 (by first | rfl | (intro _; rfl) | (simp [inT, frle] <;> omega) | (simp [inT, frle]; omega) | (intro _; simp [inT, frle]; omega))).tr (Fr.up (fr_M_findLeg_30 h) (by first | rfl | decide +kernel | (simp [inT, frle] <;> omega) | (simp [inT, frle]; omega)))))
theorem fr_M_noStation_20 {t1 : Int32} {M : Mm} {w9 : Int32} {M9 : Mm} (h : f_M_noStation_20 t1 M = some (w9, M9)) : Fr [(134, 134, 8)] M M9 := by
  unfold f_M_noStation_20 at h
  obtain ⟨_, M22, e559, h⟩ := bn2_i h
  have h := (chk_i h).2
  cases h
  exact (Fr.up (fr_M_fails e559) (by first | rfl | decide +kernel | (simp [inT, frle] <;> omega) | (simp [inT, frle]; omega)))
theorem fr_M_noStation {l1 : Int32} {M : Mm} {w9 : Int32} {M9 : Mm} (h : f_M_noStation l1 M = some (w9, M9)) : Fr [(134, 134, 8)] M M9 := by
  unfold f_M_noStation at h
  obtain ⟨_, e560, h⟩ := bn_i h
  rcases ite_i h with ⟨-, h⟩ | ⟨-, h⟩
  ·
    exact (Fr.up (fr_M_noStation_20 h) (by first | rfl | decide +kernel | (simp [inT, frle] <;> omega) | (simp [inT, frle]; omega)))
  ·
    exact (Fr.up (fr_M_noStation_20 h) (by first | rfl | decide +kernel | (simp [inT, frle] <;> omega) | (simp [inT, frle]; omega)))
theorem fr_M_rawEast {l1 : Int32} {M : Mm} {w9 : Int32} {M9 : Mm} (h : f_M_rawEast l1 M = some (w9, M9)) : Fr [(134, 134, 8), (143, 143, 0), (144, 144, 0), (145, 145, 0)] M M9 := by
  unfold f_M_rawEast at h
  obtain ⟨_, M2, e561, h⟩ := bn2_i h
  rcases ite_i h with ⟨-, h⟩ | ⟨-, h⟩
  ·
    obtain ⟨M11, e562, h⟩ := bn_i h
    have h := (chk_i h).2
    cases h
    exact ((Fr.up (fr_M_noStation e561) (by first | rfl | decide +kernel | (simp [inT, frle] <;> omega) | (simp [inT, frle]; omega))).tr (Fr.up (fr_M_findRaw e562) (by first | rfl | decide +kernel | (simp [inT, frle] <;> omega) | (simp [inT, frle]; omega))))
  ·
    cases h
    exact (Fr.up (fr_M_noStation e561) (by first | rfl | decide +kernel | (simp [inT, frle] <;> omega) | (simp [inT, frle]; omega)))
theorem fr_M_rawNorth {l1 : Int32} {M : Mm} {w9 : Int32} {M9 : Mm} (h : f_M_rawNorth l1 M = some (w9, M9)) : Fr [(134, 134, 8), (143, 143, 0), (144, 144, 0), (145, 145, 0)] M M9 := by
  unfold f_M_rawNorth at h
  obtain ⟨_, M2, e563, h⟩ := bn2_i h
  rcases ite_i h with ⟨-, h⟩ | ⟨-, h⟩
  ·
    obtain ⟨M11, e564, h⟩ := bn_i h
    have h := (chk_i h).2
    cases h
    exact ((Fr.up (fr_M_noStation e563) (by first | rfl | decide +kernel | (simp [inT, frle] <;> omega) | (simp [inT, frle]; omega))).tr (Fr.up (fr_M_findRaw e564) (by first | rfl | decide +kernel | (simp [inT, frle] <;> omega) | (simp [inT, frle]; omega))))
  ·
    cases h
    exact (Fr.up (fr_M_noStation e563) (by first | rfl | decide +kernel | (simp [inT, frle] <;> omega) | (simp [inT, frle]; omega)))
theorem fr_M_east {l1 : Int32} {M : Mm} {w9 : Int32} {M9 : Mm} (h : f_M_east l1 M = some (w9, M9)) : Fr [(134, 134, 8), (143, 143, 0), (144, 144, 0), (145, 145, 0)] M M9 := by
  unfold f_M_east at h
  obtain ⟨_, M2, e565, h⟩ := bn2_i h
  rcases ite_i h with ⟨-, h⟩ | ⟨-, h⟩
  ·
    obtain ⟨M11, e566, h⟩ := bn_i h
    have h := (chk_i h).2
    cases h
    exact ((Fr.up (fr_M_noStation e565) (by first | rfl | decide +kernel | (simp [inT, frle] <;> omega) | (simp [inT, frle]; omega))).tr (Fr.up (fr_M_findStations e566) (by first | rfl | decide +kernel | (simp [inT, frle] <;> omega) | (simp [inT, frle]; omega))))
  ·
    cases h
    exact (Fr.up (fr_M_noStation e565) (by first | rfl | decide +kernel | (simp [inT, frle] <;> omega) | (simp [inT, frle]; omega)))
theorem fr_M_north {l1 : Int32} {M : Mm} {w9 : Int32} {M9 : Mm} (h : f_M_north l1 M = some (w9, M9)) : Fr [(134, 134, 8), (143, 143, 0), (144, 144, 0), (145, 145, 0)] M M9 := by
  unfold f_M_north at h
  obtain ⟨_, M2, e567, h⟩ := bn2_i h
  rcases ite_i h with ⟨-, h⟩ | ⟨-, h⟩
  ·
    obtain ⟨M11, e568, h⟩ := bn_i h
    have h := (chk_i h).2
    cases h
    exact ((Fr.up (fr_M_noStation e567) (by first | rfl | decide +kernel | (simp [inT, frle] <;> omega) | (simp [inT, frle]; omega))).tr (Fr.up (fr_M_findStations e568) (by first | rfl | decide +kernel | (simp [inT, frle] <;> omega) | (simp [inT, frle]; omega))))
  ·
    cases h
    exact (Fr.up (fr_M_noStation e567) (by first | rfl | decide +kernel | (simp [inT, frle] <;> omega) | (simp [inT, frle]; omega)))
theorem fr_M_run {l1 : Int32} {M : Mm} {w9 : Int32} {M9 : Mm} (h : f_M_run l1 M = some (w9, M9)) : Fr [(134, 134, 8), (143, 143, 0), (144, 144, 0), (145, 145, 0)] M M9 := by
  unfold f_M_run at h
  obtain ⟨_, M2, e569, h⟩ := bn2_i h
  rcases ite_i h with ⟨-, h⟩ | ⟨-, h⟩
  ·
    obtain ⟨M11, e570, h⟩ := bn_i h
    have h := (chk_i h).2
    cases h
    exact ((Fr.up (fr_M_noStation e569) (by first | rfl | decide +kernel | (simp [inT, frle] <;> omega) | (simp [inT, frle]; omega))).tr (Fr.up (fr_M_findRaw e570) (by first | rfl | decide +kernel | (simp [inT, frle] <;> omega) | (simp [inT, frle]; omega))))
  ·
    cases h
    exact (Fr.up (fr_M_noStation e569) (by first | rfl | decide +kernel | (simp [inT, frle] <;> omega) | (simp [inT, frle]; omega)))
theorem fr_M_distanceFromStart {l1 : Int32} {M : Mm} {w9 : Int32} {M9 : Mm} (h : f_M_distanceFromStart l1 M = some (w9, M9)) : Fr [(134, 134, 8), (143, 143, 0), (144, 144, 0), (145, 145, 0)] M M9 := by
  unfold f_M_distanceFromStart at h
  obtain ⟨_, M2, e571, h⟩ := bn2_i h
  rcases ite_i h with ⟨-, h⟩ | ⟨-, h⟩
  ·
    obtain ⟨M11, e572, h⟩ := bn_i h
    have h := (chk_i h).2
    obtain ⟨_, e573, h⟩ := bn_i h
    cases h
    exact ((Fr.up (fr_M_noStation e571) (by first | rfl | decide +kernel | (simp [inT, frle] <;> omega) | (simp [inT, frle]; omega))).tr (Fr.up (fr_M_findStations e572) (by first | rfl | decide +kernel | (simp [inT, frle] <;> omega) | (simp [inT, frle]; omega))))
  ·
    cases h
    exact (Fr.up (fr_M_noStation e571) (by first | rfl | decide +kernel | (simp [inT, frle] <;> omega) | (simp [inT, frle]; omega)))
theorem fr_M_perimeterNow {M : Mm} {w9 : Int32} {M9 : Mm} (h : f_M_perimeterNow M = some (w9, M9)) : Fr [(143, 143, 0), (144, 144, 0), (145, 145, 0)] M M9 := by
  unfold f_M_perimeterNow at h
  obtain ⟨M1, e574, h⟩ := bn_i h
  obtain ⟨_, e575, h⟩ := bn_i h
  cases h
  exact (Fr.up (fr_M_findRaw e574) (by first | rfl | decide +kernel | (simp [inT, frle] <;> omega) | (simp [inT, frle]; omega)))
theorem fr_M_perimeter {M : Mm} {w9 : Int32} {M9 : Mm} (h : f_M_perimeter M = some (w9, M9)) : Fr [(134, 134, 8), (143, 143, 0), (144, 144, 0), (145, 145, 0)] M M9 := by
  unfold f_M_perimeter at h
  obtain ⟨_, M2, e576, h⟩ := bn2_i h
  obtain ⟨_, M5, e577, h⟩ := bn2_i h
  cases h
  exact ((Fr.up (fr_M_perimeterNow e576) (by first | rfl | decide +kernel | (simp [inT, frle] <;> omega) | (simp [inT, frle]; omega))).tr (Fr.up (fr_M_told e577) (by first | rfl | decide +kernel | (simp [inT, frle] <;> omega) | (simp [inT, frle]; omega))))
theorem fr_M_closingEast {M : Mm} {w9 : Int32} {M9 : Mm} (h : f_M_closingEast M = some (w9, M9)) : Fr [(134, 134, 8), (143, 143, 0), (144, 144, 0), (145, 145, 0)] M M9 := by
  unfold f_M_closingEast at h
  obtain ⟨M2, e578, h⟩ := bm_i h
  obtain ⟨M6, e579, h⟩ := bn_i h
  have h := (chk_i h).2
  cases h
  exact ((fr_wr e578 (by first | rfl | (intro _; rfl) | (simp [inT, frle] <;> omega) | (simp [inT, frle]; omega) | (intro _; simp [inT, frle]; omega))).tr (Fr.up (fr_M_findRaw e579) (by first | rfl | decide +kernel | (simp [inT, frle] <;> omega) | (simp [inT, frle]; omega))))
theorem fr_M_closingNorth {M : Mm} {w9 : Int32} {M9 : Mm} (h : f_M_closingNorth M = some (w9, M9)) : Fr [(134, 134, 8), (143, 143, 0), (144, 144, 0), (145, 145, 0)] M M9 := by
  unfold f_M_closingNorth at h
  obtain ⟨M2, e580, h⟩ := bm_i h
  obtain ⟨M6, e581, h⟩ := bn_i h
  have h := (chk_i h).2
  cases h
  exact ((fr_wr e580 (by first | rfl | (intro _; rfl) | (simp [inT, frle] <;> omega) | (simp [inT, frle]; omega) | (intro _; simp [inT, frle]; omega))).tr (Fr.up (fr_M_findRaw e581) (by first | rfl | decide +kernel | (simp [inT, frle] <;> omega) | (simp [inT, frle]; omega))))
theorem fr_M_misclosure {M : Mm} {w9 : Int32} {M9 : Mm} (h : f_M_misclosure M = some (w9, M9)) : Fr [(134, 134, 8), (143, 143, 0), (144, 144, 0), (145, 145, 0)] M M9 := by
  unfold f_M_misclosure at h
  obtain ⟨_, M2, e582, h⟩ := bn2_i h
  obtain ⟨_, M5, e583, h⟩ := bn2_i h
  cases h
  exact ((Fr.up (fr_M_miss e582) (by first | rfl | decide +kernel | (simp [inT, frle] <;> omega) | (simp [inT, frle]; omega))).tr (Fr.up (fr_M_told e583) (by first | rfl | decide +kernel | (simp [inT, frle] <;> omega) | (simp [inT, frle]; omega))))
theorem fr_M_precision_24 {t0 : Int32} {M : Mm} {w9 : Int32} {M9 : Mm} (h : f_M_precision_24 t0 M = some (w9, M9)) : Fr [] M M9 := by
  unfold f_M_precision_24 at h
  cases h
  exact Fr.rf _ _
theorem fr_M_precision {M : Mm} {w9 : Int32} {M9 : Mm} (h : f_M_precision M = some (w9, M9)) : Fr [(134, 134, 8), (143, 143, 0), (144, 144, 0), (145, 145, 0)] M M9 := by
  unfold f_M_precision at h
  obtain ⟨M2, e584, h⟩ := bm_i h
  obtain ⟨_, M6, e585, h⟩ := bn2_i h
  rcases ite_i h with ⟨-, h⟩ | ⟨-, h⟩
  ·
    exact ((fr_wr e584 (by first | rfl | (intro _; rfl) | (simp [inT, frle] <;> omega) | (simp [inT, frle]; omega) | (intro _; simp [inT, frle]; omega))).tr ((Fr.up (fr_M_miss e585) (by first | rfl | decide +kernel | (simp [inT, frle] <;> omega) | (simp [inT, frle]; omega))).tr (Fr.up (fr_M_precision_24 h) (by first | rfl | decide +kernel | (simp [inT, frle] <;> omega) | (simp [inT, frle]; omega)))))
  ·
    obtain ⟨_, e586, h⟩ := bn_i h
    have h := (chk_i h).2
    exact ((fr_wr e584 (by first | rfl | (intro _; rfl) | (simp [inT, frle] <;> omega) | (simp [inT, frle]; omega) | (intro _; simp [inT, frle]; omega))).tr ((Fr.up (fr_M_miss e585) (by first | rfl | decide +kernel | (simp [inT, frle] <;> omega) | (simp [inT, frle]; omega))).tr (Fr.up (fr_M_precision_24 h) (by first | rfl | decide +kernel | (simp [inT, frle] <;> omega) | (simp [inT, frle]; omega)))))
theorem fr_M_width {M : Mm} {w9 : Int32} {M9 : Mm} (h : f_M_width M = some (w9, M9)) : Fr [(134, 134, 8), (143, 143, 0), (144, 144, 0), (145, 145, 0)] M M9 := by
  unfold f_M_width at h
  obtain ⟨M2, e587, h⟩ := bm_i h
  obtain ⟨M6, e588, h⟩ := bn_i h
  obtain ⟨_, e589, h⟩ := bn_i h
  cases h
  exact ((fr_wr e587 (by first | rfl | (intro _; rfl) | (simp [inT, frle] <;> omega) | (simp [inT, frle]; omega) | (intro _; simp [inT, frle]; omega))).tr (Fr.up (fr_M_findStations e588) (by first | rfl | decide +kernel | (simp [inT, frle] <;> omega) | (simp [inT, frle]; omega))))
theorem fr_M_height {M : Mm} {w9 : Int32} {M9 : Mm} (h : f_M_height M = some (w9, M9)) : Fr [(134, 134, 8), (143, 143, 0), (144, 144, 0), (145, 145, 0)] M M9 := by
  unfold f_M_height at h
  obtain ⟨M2, e590, h⟩ := bm_i h
  obtain ⟨M6, e591, h⟩ := bn_i h
  obtain ⟨_, e592, h⟩ := bn_i h
  cases h
  exact ((fr_wr e590 (by first | rfl | (intro _; rfl) | (simp [inT, frle] <;> omega) | (simp [inT, frle]; omega) | (intro _; simp [inT, frle]; omega))).tr (Fr.up (fr_M_findStations e591) (by first | rfl | decide +kernel | (simp [inT, frle] <;> omega) | (simp [inT, frle]; omega))))
theorem fr_M_farthestStation_62 {r13 : Int32 → Int32 → Mm → Option (Int32 × Mm)} {l1 : Int32} {l2 : Int32} {M : Mm} {w9 : Int32} {M9 : Mm} (h_r13 : ∀ (v0 : Int32) (v1 : Int32) (v2 : Mm) (w9 : Int32) (M9 : Mm), r13 v0 v1 v2 = some (w9, M9) → Fr [] v2 M9) (h : f_M_farthestStation_62 r13 l1 l2 M = some (w9, M9)) : Fr [] M M9 := by
  unfold f_M_farthestStation_62 at h
  exact (h_r13 _ _ _ _ _ h)
theorem fr_M_farthestStation_13_i : ∀ (n : Nat) (l1 : Int32) (l2 : Int32) (M : Mm) (w9 : Int32) (M9 : Mm), f_M_farthestStation_13 n l1 l2 M = some (w9, M9) → Fr [] M M9 := by
  intro n; induction n with
  | zero => intro _ _ _ _ _ h; cases h
  | succ n ih =>
    intro l1 l2 M w9 M9 h
    rw [f_M_farthestStation_13] at h
    rcases ite_i h with ⟨-, h⟩ | ⟨-, h⟩
    ·
      cases h
      exact Fr.rf _ _
    ·
      have h := (chk_i h).2
      obtain ⟨_, e593, h⟩ := bn_i h
      have h := (chk_i h).2
      obtain ⟨_, e594, h⟩ := bn_i h
      rcases ite_i h with ⟨-, h⟩ | ⟨-, h⟩
      ·
        exact (Fr.up (fr_M_farthestStation_62 ih h) (by first | rfl | decide +kernel | (simp [inT, frle] <;> omega) | (simp [inT, frle]; omega)))
      ·
        exact (Fr.up (fr_M_farthestStation_62 ih h) (by first | rfl | decide +kernel | (simp [inT, frle] <;> omega) | (simp [inT, frle]; omega)))
theorem fr_M_farthestStation_13 {n : Nat} {l1 : Int32} {l2 : Int32} {M : Mm} {w9 : Int32} {M9 : Mm} (h : f_M_farthestStation_13 n l1 l2 M = some (w9, M9)) : Fr [] M M9 := fr_M_farthestStation_13_i n _ _ _ _ _ h
theorem fr_M_farthestStation {M : Mm} {w9 : Int32} {M9 : Mm} (h : f_M_farthestStation M = some (w9, M9)) : Fr [(134, 134, 8), (143, 143, 0), (144, 144, 0), (145, 145, 0)] M M9 := by
  unfold f_M_farthestStation at h
  obtain ⟨M2, e595, h⟩ := bm_i h
  obtain ⟨M6, e596, h⟩ := bn_i h
  exact ((fr_wr e595 (by first | rfl | (intro _; rfl) | (simp [inT, frle] <;> omega) | (simp [inT, frle]; omega) | (intro _; simp [inT, frle]; omega))).tr ((Fr.up (fr_M_findStations e596) (by first | rfl | decide +kernel | (simp [inT, frle] <;> omega) | (simp [inT, frle]; omega))).tr (Fr.up (fr_M_farthestStation_13 h) (by first | rfl | decide +kernel | (simp [inT, frle] <;> omega) | (simp [inT, frle]; omega)))))
theorem fr_M_longestLeg_39 {r9 : Int32 → Int32 → Mm → Option (Int32 × Mm)} {l1 : Int32} {l2 : Int32} {M : Mm} {w9 : Int32} {M9 : Mm} (h_r9 : ∀ (v0 : Int32) (v1 : Int32) (v2 : Mm) (w9 : Int32) (M9 : Mm), r9 v0 v1 v2 = some (w9, M9) → Fr [] v2 M9) (h : f_M_longestLeg_39 r9 l1 l2 M = some (w9, M9)) : Fr [] M M9 := by
  unfold f_M_longestLeg_39 at h
  exact (h_r9 _ _ _ _ _ h)
theorem fr_M_longestLeg_37 {r9 : Int32 → Int32 → Mm → Option (Int32 × Mm)} {l2 : Int32} {M : Mm} {w9 : Int32} {M9 : Mm} (h_r9 : ∀ (v0 : Int32) (v1 : Int32) (v2 : Mm) (w9 : Int32) (M9 : Mm), r9 v0 v1 v2 = some (w9, M9) → Fr [] v2 M9) (h : f_M_longestLeg_37 r9 l2 M = some (w9, M9)) : Fr [] M M9 := by
  unfold f_M_longestLeg_37 at h
  exact (Fr.up (fr_M_longestLeg_39 h_r9 h) (by first | rfl | decide +kernel | (simp [inT, frle] <;> omega) | (simp [inT, frle]; omega)))
theorem fr_M_longestLeg_9_i : ∀ (n : Nat) (l1 : Int32) (l2 : Int32) (M : Mm) (w9 : Int32) (M9 : Mm), f_M_longestLeg_9 n l1 l2 M = some (w9, M9) → Fr [] M M9 := by
  intro n; induction n with
  | zero => intro _ _ _ _ _ h; cases h
  | succ n ih =>
    intro l1 l2 M w9 M9 h
    rw [f_M_longestLeg_9] at h
    rcases ite_i h with ⟨-, h⟩ | ⟨-, h⟩
    ·
      cases h
      exact Fr.rf _ _
    ·
      rcases ite_i h with ⟨-, h⟩ | ⟨-, h⟩
      ·
        exact (Fr.up (fr_M_longestLeg_37 ih h) (by first | rfl | decide +kernel | (simp [inT, frle] <;> omega) | (simp [inT, frle]; omega)))
      ·
        obtain ⟨_, e597, h⟩ := bn_i h
        obtain ⟨_, e598, h⟩ := bn_i h
        rcases ite_i h with ⟨-, h⟩ | ⟨-, h⟩
        ·
          exact (Fr.up (fr_M_longestLeg_39 ih h) (by first | rfl | decide +kernel | (simp [inT, frle] <;> omega) | (simp [inT, frle]; omega)))
        ·
          exact (Fr.up (fr_M_longestLeg_37 ih h) (by first | rfl | decide +kernel | (simp [inT, frle] <;> omega) | (simp [inT, frle]; omega)))
theorem fr_M_longestLeg_9 {n : Nat} {l1 : Int32} {l2 : Int32} {M : Mm} {w9 : Int32} {M9 : Mm} (h : f_M_longestLeg_9 n l1 l2 M = some (w9, M9)) : Fr [] M M9 := fr_M_longestLeg_9_i n _ _ _ _ _ h
theorem fr_M_longestLeg {M : Mm} {w9 : Int32} {M9 : Mm} (h : f_M_longestLeg M = some (w9, M9)) : Fr [(134, 134, 8)] M M9 := by
  unfold f_M_longestLeg at h
  obtain ⟨M2, e599, h⟩ := bm_i h
  exact ((fr_wr e599 (by first | rfl | (intro _; rfl) | (simp [inT, frle] <;> omega) | (simp [inT, frle]; omega) | (intro _; simp [inT, frle]; omega))).tr (Fr.up (fr_M_longestLeg_9 h) (by first | rfl | decide +kernel | (simp [inT, frle] <;> omega) | (simp [inT, frle]; omega))))
theorem fr_M_bogLength {M : Mm} {w9 : Int32} {M9 : Mm} (h : f_M_bogLength M = some (w9, M9)) : Fr [(134, 134, 8)] M M9 := by
  unfold f_M_bogLength at h
  obtain ⟨_, e600, h⟩ := bn_i h
  obtain ⟨_, M5, e601, h⟩ := bn2_i h
  cases h
  exact (Fr.up (fr_M_told e601) (by first | rfl | decide +kernel | (simp [inT, frle] <;> omega) | (simp [inT, frle]; omega)))
theorem fr_M_area_23_i : ∀ (n : Nat) (l1 : Int64) (l3 : Int32) (l4 : Int32) (M : Mm) (w9 : Int64) (M9 : Mm), f_M_area_23 n l1 l3 l4 M = some (w9, M9) → Fr [] M M9 := by
  intro n; induction n with
  | zero => intro _ _ _ _ _ _ h; cases h
  | succ n ih =>
    intro l1 l3 l4 M w9 M9 h
    rw [f_M_area_23] at h
    rcases ite_i h with ⟨-, h⟩ | ⟨-, h⟩
    ·
      cases h
      exact Fr.rf _ _
    ·
      have h := (chk_i h).2
      have h := (chk_i h).2
      have h := (chk_i h).2
      exact (ih _ _ _ _ _ _ h)
theorem fr_M_area_23 {n : Nat} {l1 : Int64} {l3 : Int32} {l4 : Int32} {M : Mm} {w9 : Int64} {M9 : Mm} (h : f_M_area_23 n l1 l3 l4 M = some (w9, M9)) : Fr [] M M9 := fr_M_area_23_i n _ _ _ _ _ _ h
theorem fr_M_area {M : Mm} {w9 : Int64} {M9 : Mm} (h : f_M_area M = some (w9, M9)) : Fr [(134, 134, 8), (143, 143, 0), (144, 144, 0), (145, 145, 0)] M M9 := by
  unfold f_M_area at h
  obtain ⟨M2, e602, h⟩ := bm_i h
  obtain ⟨M6, e603, h⟩ := bn_i h
  exact ((fr_wr e602 (by first | rfl | (intro _; rfl) | (simp [inT, frle] <;> omega) | (simp [inT, frle]; omega) | (intro _; simp [inT, frle]; omega))).tr ((Fr.up (fr_M_findStations e603) (by first | rfl | decide +kernel | (simp [inT, frle] <;> omega) | (simp [inT, frle]; omega))).tr (Fr.up (fr_M_area_23 h) (by first | rfl | decide +kernel | (simp [inT, frle] <;> omega) | (simp [inT, frle]; omega)))))
theorem fr_M_missIfDropped {l1 : Int32} {M : Mm} {w9 : Int32} {M9 : Mm} (h : f_M_missIfDropped l1 M = some (w9, M9)) : Fr [(135, 135, 0), (143, 143, 0), (144, 144, 0), (145, 145, 0)] M M9 := by
  unfold f_M_missIfDropped at h
  obtain ⟨_, e604, h⟩ := bn_i h
  rcases ite_i h with ⟨-, h⟩ | ⟨-, h⟩
  ·
    cases h
    exact Fr.rf _ _
  ·
    obtain ⟨_, M13, e605, h⟩ := bn2_i h
    obtain ⟨_, M18, e606, h⟩ := bn2_i h
    obtain ⟨_, M25, e607, h⟩ := bn2_i h
    cases h
    exact ((Fr.up (fr_M_drops e605) (by first | rfl | decide +kernel | (simp [inT, frle] <;> omega) | (simp [inT, frle]; omega))).tr ((Fr.up (fr_M_miss e606) (by first | rfl | decide +kernel | (simp [inT, frle] <;> omega) | (simp [inT, frle]; omega))).tr (Fr.up (fr_M_drops e607) (by first | rfl | decide +kernel | (simp [inT, frle] <;> omega) | (simp [inT, frle]; omega)))))
theorem fr_M_misclosureIfDropped_17 {t0 : Int32} {M : Mm} {w9 : Int32} {M9 : Mm} (h : f_M_misclosureIfDropped_17 t0 M = some (w9, M9)) : Fr [] M M9 := by
  unfold f_M_misclosureIfDropped_17 at h
  cases h
  exact Fr.rf _ _
theorem fr_M_misclosureIfDropped {l1 : Int32} {M : Mm} {w9 : Int32} {M9 : Mm} (h : f_M_misclosureIfDropped l1 M = some (w9, M9)) : Fr [(134, 134, 8), (135, 135, 0), (143, 143, 0), (144, 144, 0), (145, 145, 0)] M M9 := by
  unfold f_M_misclosureIfDropped at h
  obtain ⟨_, M2, e608, h⟩ := bn2_i h
  rcases ite_i h with ⟨-, h⟩ | ⟨-, h⟩
  ·
    obtain ⟨_, M14, e609, h⟩ := bn2_i h
    exact ((Fr.up (fr_M_isBad e608) (by first | rfl | decide +kernel | (simp [inT, frle] <;> omega) | (simp [inT, frle]; omega))).tr ((Fr.up (fr_M_missIfDropped e609) (by first | rfl | decide +kernel | (simp [inT, frle] <;> omega) | (simp [inT, frle]; omega))).tr (Fr.up (fr_M_misclosureIfDropped_17 h) (by first | rfl | decide +kernel | (simp [inT, frle] <;> omega) | (simp [inT, frle]; omega)))))
  ·
    exact ((Fr.up (fr_M_isBad e608) (by first | rfl | decide +kernel | (simp [inT, frle] <;> omega) | (simp [inT, frle]; omega))).tr (Fr.up (fr_M_misclosureIfDropped_17 h) (by first | rfl | decide +kernel | (simp [inT, frle] <;> omega) | (simp [inT, frle]; omega))))
theorem fr_M_suspectLeg_51 {r14 : Int32 → Int32 → Int32 → Mm → Option (Int32 × Mm)} {l1 : Int32} {l2 : Int32} {l3 : Int32} {M : Mm} {w9 : Int32} {M9 : Mm} (h_r14 : ∀ (v0 : Int32) (v1 : Int32) (v2 : Int32) (v3 : Mm) (w9 : Int32) (M9 : Mm), r14 v0 v1 v2 v3 = some (w9, M9) → Fr [(135, 135, 0), (143, 143, 0), (144, 144, 0), (145, 145, 0)] v3 M9) (h : f_M_suspectLeg_51 r14 l1 l2 l3 M = some (w9, M9)) : Fr [(135, 135, 0), (143, 143, 0), (144, 144, 0), (145, 145, 0)] M M9 := by
  unfold f_M_suspectLeg_51 at h
  exact (h_r14 _ _ _ _ _ _ h)
theorem fr_M_suspectLeg_14_i : ∀ (n : Nat) (l1 : Int32) (l2 : Int32) (l3 : Int32) (M : Mm) (w9 : Int32) (M9 : Mm), f_M_suspectLeg_14 n l1 l2 l3 M = some (w9, M9) → Fr [(135, 135, 0), (143, 143, 0), (144, 144, 0), (145, 145, 0)] M M9 := by
  intro n; induction n with
  | zero => intro _ _ _ _ _ _ h; cases h
  | succ n ih =>
    intro l1 l2 l3 M w9 M9 h
    rw [f_M_suspectLeg_14] at h
    rcases ite_i h with ⟨-, h⟩ | ⟨-, h⟩
    ·
      cases h
      exact Fr.rf _ _
    ·
      obtain ⟨_, M26, e610, h⟩ := bn2_i h
      rcases ite_i h with ⟨-, h⟩ | ⟨-, h⟩
      ·
        exact ((Fr.up (fr_M_missIfDropped e610) (by first | rfl | decide +kernel | (simp [inT, frle] <;> omega) | (simp [inT, frle]; omega))).tr (Fr.up (fr_M_suspectLeg_51 ih h) (by first | rfl | decide +kernel | (simp [inT, frle] <;> omega) | (simp [inT, frle]; omega))))
      ·
        rcases ite_i h with ⟨-, h⟩ | ⟨-, h⟩
        ·
          exact ((Fr.up (fr_M_missIfDropped e610) (by first | rfl | decide +kernel | (simp [inT, frle] <;> omega) | (simp [inT, frle]; omega))).tr (Fr.up (fr_M_suspectLeg_51 ih h) (by first | rfl | decide +kernel | (simp [inT, frle] <;> omega) | (simp [inT, frle]; omega))))
        ·
          exact ((Fr.up (fr_M_missIfDropped e610) (by first | rfl | decide +kernel | (simp [inT, frle] <;> omega) | (simp [inT, frle]; omega))).tr (Fr.up (fr_M_suspectLeg_51 ih h) (by first | rfl | decide +kernel | (simp [inT, frle] <;> omega) | (simp [inT, frle]; omega))))
theorem fr_M_suspectLeg_14 {n : Nat} {l1 : Int32} {l2 : Int32} {l3 : Int32} {M : Mm} {w9 : Int32} {M9 : Mm} (h : f_M_suspectLeg_14 n l1 l2 l3 M = some (w9, M9)) : Fr [(135, 135, 0), (143, 143, 0), (144, 144, 0), (145, 145, 0)] M M9 := fr_M_suspectLeg_14_i n _ _ _ _ _ _ h
theorem fr_M_suspectLeg {M : Mm} {w9 : Int32} {M9 : Mm} (h : f_M_suspectLeg M = some (w9, M9)) : Fr [(134, 134, 8), (135, 135, 0), (143, 143, 0), (144, 144, 0), (145, 145, 0)] M M9 := by
  unfold f_M_suspectLeg at h
  obtain ⟨M2, e611, h⟩ := bm_i h
  obtain ⟨_, M8, e612, h⟩ := bn2_i h
  exact ((fr_wr e611 (by first | rfl | (intro _; rfl) | (simp [inT, frle] <;> omega) | (simp [inT, frle]; omega) | (intro _; simp [inT, frle]; omega))).tr ((Fr.up (fr_M_miss e612) (by first | rfl | decide +kernel | (simp [inT, frle] <;> omega) | (simp [inT, frle]; omega))).tr (Fr.up (fr_M_suspectLeg_14 h) (by first | rfl | decide +kernel | (simp [inT, frle] <;> omega) | (simp [inT, frle]; omega)))))
theorem fr_M_bestPace_99 {r55 : Int32 → Int32 → Int32 → Int32 → Mm → Option (Int32 × Mm)} {l2 : Int32} {l3 : Int32} {l4 : Int32} {l5 : Int32} {M : Mm} {w9 : Int32} {M9 : Mm} (h_r55 : ∀ (v0 : Int32) (v1 : Int32) (v2 : Int32) (v3 : Int32) (v4 : Mm) (w9 : Int32) (M9 : Mm), r55 v0 v1 v2 v3 v4 = some (w9, M9) → Fr [(135, 135, 0), (143, 143, 0), (144, 144, 0), (145, 145, 0)] v4 M9) (h : f_M_bestPace_99 r55 l2 l3 l4 l5 M = some (w9, M9)) : Fr [(135, 135, 0), (143, 143, 0), (144, 144, 0), (145, 145, 0)] M M9 := by
  unfold f_M_bestPace_99 at h
  exact (h_r55 _ _ _ _ _ _ _ h)
theorem fr_M_bestPace_92 {r55 : Int32 → Int32 → Int32 → Int32 → Mm → Option (Int32 × Mm)} {l2 : Int32} {l5 : Int32} {l6 : Int32} {M : Mm} {w9 : Int32} {M9 : Mm} (h_r55 : ∀ (v0 : Int32) (v1 : Int32) (v2 : Int32) (v3 : Int32) (v4 : Mm) (w9 : Int32) (M9 : Mm), r55 v0 v1 v2 v3 v4 = some (w9, M9) → Fr [(135, 135, 0), (143, 143, 0), (144, 144, 0), (145, 145, 0)] v4 M9) (h : f_M_bestPace_92 r55 l2 l5 l6 M = some (w9, M9)) : Fr [(135, 135, 0), (143, 143, 0), (144, 144, 0), (145, 145, 0)] M M9 := by
  unfold f_M_bestPace_92 at h
  exact (Fr.up (fr_M_bestPace_99 h_r55 h) (by first | rfl | decide +kernel | (simp [inT, frle] <;> omega) | (simp [inT, frle]; omega)))
theorem fr_M_bestPace_55_i : ∀ (n : Nat) (l2 : Int32) (l3 : Int32) (l4 : Int32) (l5 : Int32) (M : Mm) (w9 : Int32) (M9 : Mm), f_M_bestPace_55 n l2 l3 l4 l5 M = some (w9, M9) → Fr [(135, 135, 0), (143, 143, 0), (144, 144, 0), (145, 145, 0)] M M9 := by
  intro n; induction n with
  | zero => intro _ _ _ _ _ _ _ h; cases h
  | succ n ih =>
    intro l2 l3 l4 l5 M w9 M9 h
    rw [f_M_bestPace_55] at h
    rcases ite_i h with ⟨-, h⟩ | ⟨-, h⟩
    ·
      obtain ⟨M111, e613, h⟩ := bm_i h
      cases h
      exact (fr_wr e613 (by first | rfl | (intro _; rfl) | (simp [inT, frle] <;> omega) | (simp [inT, frle]; omega) | (intro _; simp [inT, frle]; omega)))
    ·
      obtain ⟨M70, e614, h⟩ := bm_i h
      obtain ⟨_, M72, e615, h⟩ := bn2_i h
      rcases ite_i h with ⟨-, h⟩ | ⟨-, h⟩
      ·
        exact ((fr_wr e614 (by first | rfl | (intro _; rfl) | (simp [inT, frle] <;> omega) | (simp [inT, frle]; omega) | (intro _; simp [inT, frle]; omega))).tr ((Fr.up (fr_M_miss e615) (by first | rfl | decide +kernel | (simp [inT, frle] <;> omega) | (simp [inT, frle]; omega))).tr (Fr.up (fr_M_bestPace_92 ih h) (by first | rfl | decide +kernel | (simp [inT, frle] <;> omega) | (simp [inT, frle]; omega)))))
      ·
        rcases ite_i h with ⟨-, h⟩ | ⟨-, h⟩
        ·
          exact ((fr_wr e614 (by first | rfl | (intro _; rfl) | (simp [inT, frle] <;> omega) | (simp [inT, frle]; omega) | (intro _; simp [inT, frle]; omega))).tr ((Fr.up (fr_M_miss e615) (by first | rfl | decide +kernel | (simp [inT, frle] <;> omega) | (simp [inT, frle]; omega))).tr (Fr.up (fr_M_bestPace_92 ih h) (by first | rfl | decide +kernel | (simp [inT, frle] <;> omega) | (simp [inT, frle]; omega)))))
        ·
          exact ((fr_wr e614 (by first | rfl | (intro _; rfl) | (simp [inT, frle] <;> omega) | (simp [inT, frle]; omega) | (intro _; simp [inT, frle]; omega))).tr ((Fr.up (fr_M_miss e615) (by first | rfl | decide +kernel | (simp [inT, frle] <;> omega) | (simp [inT, frle]; omega))).tr (Fr.up (fr_M_bestPace_99 ih h) (by first | rfl | decide +kernel | (simp [inT, frle] <;> omega) | (simp [inT, frle]; omega)))))
theorem fr_M_bestPace_55 {n : Nat} {l2 : Int32} {l3 : Int32} {l4 : Int32} {l5 : Int32} {M : Mm} {w9 : Int32} {M9 : Mm} (h : f_M_bestPace_55 n l2 l3 l4 l5 M = some (w9, M9)) : Fr [(135, 135, 0), (143, 143, 0), (144, 144, 0), (145, 145, 0)] M M9 := fr_M_bestPace_55_i n _ _ _ _ _ _ _ h
theorem fr_M_bestPace_9_i : ∀ (n : Nat) (l1 : Int32) (l2 : Int32) (M : Mm) (w9 : Int32) (M9 : Mm), f_M_bestPace_9 n l1 l2 M = some (w9, M9) → Fr [(135, 135, 0), (143, 143, 0), (144, 144, 0), (145, 145, 0)] M M9 := by
  intro n; induction n with
  | zero => intro _ _ _ _ _ h; cases h
  | succ n ih =>
    intro l1 l2 M w9 M9 h
    rw [f_M_bestPace_9] at h
    rcases ite_i h with ⟨-, h⟩ | ⟨-, h⟩
    ·
      rcases ite_i h with ⟨-, h⟩ | ⟨-, h⟩
      ·
        cases h
        exact Fr.rf _ _
      ·
        exact (Fr.up (fr_M_bestPace_55 h) (by first | rfl | decide +kernel | (simp [inT, frle] <;> omega) | (simp [inT, frle]; omega)))
    ·
      obtain ⟨_, e616, h⟩ := bn_i h
      exact (ih _ _ _ _ _ h)
theorem fr_M_bestPace_9 {n : Nat} {l1 : Int32} {l2 : Int32} {M : Mm} {w9 : Int32} {M9 : Mm} (h : f_M_bestPace_9 n l1 l2 M = some (w9, M9)) : Fr [(135, 135, 0), (143, 143, 0), (144, 144, 0), (145, 145, 0)] M M9 := fr_M_bestPace_9_i n _ _ _ _ _ h
theorem fr_M_bestPace {M : Mm} {w9 : Int32} {M9 : Mm} (h : f_M_bestPace M = some (w9, M9)) : Fr [(134, 134, 8), (135, 135, 0), (143, 143, 0), (144, 144, 0), (145, 145, 0)] M M9 := by
  unfold f_M_bestPace at h
  obtain ⟨M2, e617, h⟩ := bm_i h
  exact ((fr_wr e617 (by first | rfl | (intro _; rfl) | (simp [inT, frle] <;> omega) | (simp [inT, frle]; omega) | (intro _; simp [inT, frle]; omega))).tr (Fr.up (fr_M_bestPace_9 h) (by first | rfl | decide +kernel | (simp [inT, frle] <;> omega) | (simp [inT, frle]; omega))))
theorem fr_M_inconsistencies_90 {r64 : Int32 → Int32 → Mm → Option (Int32 × Mm)} {l1 : Int32} {l2 : Int32} {M : Mm} {w9 : Int32} {M9 : Mm} (h_r64 : ∀ (v0 : Int32) (v1 : Int32) (v2 : Mm) (w9 : Int32) (M9 : Mm), r64 v0 v1 v2 = some (w9, M9) → Fr [] v2 M9) (h : f_M_inconsistencies_90 r64 l1 l2 M = some (w9, M9)) : Fr [] M M9 := by
  unfold f_M_inconsistencies_90 at h
  exact (h_r64 _ _ _ _ _ h)
theorem fr_M_inconsistencies_64_i : ∀ (n : Nat) (l1 : Int32) (l2 : Int32) (M : Mm) (w9 : Int32) (M9 : Mm), f_M_inconsistencies_64 n l1 l2 M = some (w9, M9) → Fr [] M M9 := by
  intro n; induction n with
  | zero => intro _ _ _ _ _ h; cases h
  | succ n ih =>
    intro l1 l2 M w9 M9 h
    rw [f_M_inconsistencies_64] at h
    rcases ite_i h with ⟨-, h⟩ | ⟨-, h⟩
    ·
      cases h
      exact Fr.rf _ _
    ·
      obtain ⟨_, e618, h⟩ := bn_i h
      obtain ⟨_, e619, h⟩ := bn_i h
      rcases ite_i h with ⟨-, h⟩ | ⟨-, h⟩
      ·
        exact (Fr.up (fr_M_inconsistencies_90 ih h) (by first | rfl | decide +kernel | (simp [inT, frle] <;> omega) | (simp [inT, frle]; omega)))
      ·
        exact (Fr.up (fr_M_inconsistencies_90 ih h) (by first | rfl | decide +kernel | (simp [inT, frle] <;> omega) | (simp [inT, frle]; omega)))
theorem fr_M_inconsistencies_64 {n : Nat} {l1 : Int32} {l2 : Int32} {M : Mm} {w9 : Int32} {M9 : Mm} (h : f_M_inconsistencies_64 n l1 l2 M = some (w9, M9)) : Fr [] M M9 := fr_M_inconsistencies_64_i n _ _ _ _ _ h
theorem fr_M_inconsistencies_62 {l1 : Int32} {M : Mm} {w9 : Int32} {M9 : Mm} (h : f_M_inconsistencies_62 l1 M = some (w9, M9)) : Fr [] M M9 := by
  unfold f_M_inconsistencies_62 at h
  exact (Fr.up (fr_M_inconsistencies_64 h) (by first | rfl | decide +kernel | (simp [inT, frle] <;> omega) | (simp [inT, frle]; omega)))
theorem fr_M_inconsistencies_45 {l1 : Int32} {M : Mm} {w9 : Int32} {M9 : Mm} (h : f_M_inconsistencies_45 l1 M = some (w9, M9)) : Fr [] M M9 := by
  unfold f_M_inconsistencies_45 at h
  have h := (chk_i h).2
  rcases ite_i h with ⟨-, h⟩ | ⟨-, h⟩
  ·
    exact (Fr.up (fr_M_inconsistencies_62 h) (by first | rfl | decide +kernel | (simp [inT, frle] <;> omega) | (simp [inT, frle]; omega)))
  ·
    exact (Fr.up (fr_M_inconsistencies_62 h) (by first | rfl | decide +kernel | (simp [inT, frle] <;> omega) | (simp [inT, frle]; omega)))
theorem fr_M_inconsistencies {M : Mm} {w9 : Int32} {M9 : Mm} (h : f_M_inconsistencies M = some (w9, M9)) : Fr [(134, 134, 8), (143, 143, 0), (144, 144, 0), (145, 145, 0)] M M9 := by
  unfold f_M_inconsistencies at h
  obtain ⟨M2, e620, h⟩ := bm_i h
  obtain ⟨M6, e621, h⟩ := bn_i h
  rcases ite_i h with ⟨-, h⟩ | ⟨-, h⟩
  ·
    obtain ⟨_, e622, h⟩ := bn_i h
    rcases ite_i h with ⟨-, h⟩ | ⟨-, h⟩
    ·
      exact ((fr_wr e620 (by first | rfl | (intro _; rfl) | (simp [inT, frle] <;> omega) | (simp [inT, frle]; omega) | (intro _; simp [inT, frle]; omega))).tr ((Fr.up (fr_M_findStations e621) (by first | rfl | decide +kernel | (simp [inT, frle] <;> omega) | (simp [inT, frle]; omega))).tr (Fr.up (fr_M_inconsistencies_62 h) (by first | rfl | decide +kernel | (simp [inT, frle] <;> omega) | (simp [inT, frle]; omega)))))
    ·
      have h := (chk_i h).2
      rcases ite_i h with ⟨-, h⟩ | ⟨-, h⟩
      ·
        exact ((fr_wr e620 (by first | rfl | (intro _; rfl) | (simp [inT, frle] <;> omega) | (simp [inT, frle]; omega) | (intro _; simp [inT, frle]; omega))).tr ((Fr.up (fr_M_findStations e621) (by first | rfl | decide +kernel | (simp [inT, frle] <;> omega) | (simp [inT, frle]; omega))).tr (Fr.up (fr_M_inconsistencies_45 h) (by first | rfl | decide +kernel | (simp [inT, frle] <;> omega) | (simp [inT, frle]; omega)))))
      ·
        exact ((fr_wr e620 (by first | rfl | (intro _; rfl) | (simp [inT, frle] <;> omega) | (simp [inT, frle]; omega) | (intro _; simp [inT, frle]; omega))).tr ((Fr.up (fr_M_findStations e621) (by first | rfl | decide +kernel | (simp [inT, frle] <;> omega) | (simp [inT, frle]; omega))).tr (Fr.up (fr_M_inconsistencies_45 h) (by first | rfl | decide +kernel | (simp [inT, frle] <;> omega) | (simp [inT, frle]; omega)))))
  ·
    exact ((fr_wr e620 (by first | rfl | (intro _; rfl) | (simp [inT, frle] <;> omega) | (simp [inT, frle]; omega) | (intro _; simp [inT, frle]; omega))).tr ((Fr.up (fr_M_findStations e621) (by first | rfl | decide +kernel | (simp [inT, frle] <;> omega) | (simp [inT, frle]; omega))).tr (Fr.up (fr_M_inconsistencies_62 h) (by first | rfl | decide +kernel | (simp [inT, frle] <;> omega) | (simp [inT, frle]; omega)))))
theorem fr_M_meanLeg_31 {t0 : UInt64} {M : Mm} {w9 : UInt64} {M9 : Mm} (h : f_M_meanLeg_31 t0 M = some (w9, M9)) : Fr [] M M9 := by
  unfold f_M_meanLeg_31 at h
  cases h
  exact Fr.rf _ _
theorem fr_M_meanLeg {M : Mm} {w9 : UInt64} {M9 : Mm} (h : f_M_meanLeg M = some (w9, M9)) : Fr [(134, 134, 8), (143, 143, 0), (144, 144, 0), (145, 145, 0)] M M9 := by
  unfold f_M_meanLeg at h
  obtain ⟨M2, e623, h⟩ := bm_i h
  rcases ite_i h with ⟨-, h⟩ | ⟨-, h⟩
  ·
    exact ((fr_wr e623 (by first | rfl | (intro _; rfl) | (simp [inT, frle] <;> omega) | (simp [inT, frle]; omega) | (intro _; simp [inT, frle]; omega))).tr (Fr.up (fr_M_meanLeg_31 h) (by first | rfl | decide +kernel | (simp [inT, frle] <;> omega) | (simp [inT, frle]; omega))))
  ·
    obtain ⟨_, M19, e624, h⟩ := bn2_i h
    have h := (chkC_i h).2
    exact ((fr_wr e623 (by first | rfl | (intro _; rfl) | (simp [inT, frle] <;> omega) | (simp [inT, frle]; omega) | (intro _; simp [inT, frle]; omega))).tr ((Fr.up (fr_M_perimeterNow e624) (by first | rfl | decide +kernel | (simp [inT, frle] <;> omega) | (simp [inT, frle]; omega))).tr (Fr.up (fr_M_meanLeg_31 h) (by first | rfl | decide +kernel | (simp [inT, frle] <;> omega) | (simp [inT, frle]; omega)))))
theorem fr_M_bogShare_26 {t0 : UInt32} {M : Mm} {w9 : UInt32} {M9 : Mm} (h : f_M_bogShare_26 t0 M = some (w9, M9)) : Fr [] M M9 := by
  unfold f_M_bogShare_26 at h
  cases h
  exact Fr.rf _ _
theorem fr_M_bogShare {M : Mm} {w9 : UInt32} {M9 : Mm} (h : f_M_bogShare M = some (w9, M9)) : Fr [(134, 134, 8), (143, 143, 0), (144, 144, 0), (145, 145, 0)] M M9 := by
  unfold f_M_bogShare at h
  obtain ⟨M2, e625, h⟩ := bm_i h
  obtain ⟨_, M6, e626, h⟩ := bn2_i h
  rcases ite_i h with ⟨-, h⟩ | ⟨-, h⟩
  ·
    exact ((fr_wr e625 (by first | rfl | (intro _; rfl) | (simp [inT, frle] <;> omega) | (simp [inT, frle]; omega) | (intro _; simp [inT, frle]; omega))).tr ((Fr.up (fr_M_perimeterNow e626) (by first | rfl | decide +kernel | (simp [inT, frle] <;> omega) | (simp [inT, frle]; omega))).tr (Fr.up (fr_M_bogShare_26 h) (by first | rfl | decide +kernel | (simp [inT, frle] <;> omega) | (simp [inT, frle]; omega)))))
  ·
    obtain ⟨_, e627, h⟩ := bn_i h
    have h := (chkC_i h).2
    exact ((fr_wr e625 (by first | rfl | (intro _; rfl) | (simp [inT, frle] <;> omega) | (simp [inT, frle]; omega) | (intro _; simp [inT, frle]; omega))).tr ((Fr.up (fr_M_perimeterNow e626) (by first | rfl | decide +kernel | (simp [inT, frle] <;> omega) | (simp [inT, frle]; omega))).tr (Fr.up (fr_M_bogShare_26 h) (by first | rfl | decide +kernel | (simp [inT, frle] <;> omega) | (simp [inT, frle]; omega)))))
theorem fr_M_out {l1 : Int32} {M : Mm} {M9 : Mm} (h : f_M_out l1 M = some M9) : Fr [(134, 134, 16), (142, 142, 0)] M M9 := by
  unfold f_M_out at h
  have h := (chk_i h).2
  obtain ⟨M9, e628, h⟩ := bm_i h
  obtain ⟨M17, e629, h⟩ := bm_i h
  cases h
  exact ((fr_wr e628 (by first | rfl | (intro _; rfl) | (simp [inT, frle] <;> omega) | (simp [inT, frle]; omega) | (intro _; simp [inT, frle]; omega))).tr (fr_wr e629 (by first | rfl | (intro _; rfl) | (simp [inT, frle] <;> omega) | (simp [inT, frle]; omega) | (intro _; simp [inT, frle]; omega))))
theorem fr_M_outNumber_33_i : ∀ (n : Nat) (l2 : Int32) (l3 : Int32) (M : Mm) (M9 : Mm), f_M_outNumber_33 n l2 l3 M = some M9 → Fr [(134, 134, 16), (142, 142, 0)] M M9 := by
  intro n; induction n with
  | zero => intro _ _ _ _ h; cases h
  | succ n ih =>
    intro l2 l3 M M9 h
    rw [f_M_outNumber_33] at h
    rcases ite_i h with ⟨-, h⟩ | ⟨-, h⟩
    ·
      cases h
      exact Fr.rf _ _
    ·
      have h := (chk_i h).2
      obtain ⟨M47, e630, h⟩ := bn_i h
      exact ((Fr.up (fr_M_out e630) (by first | rfl | decide +kernel | (simp [inT, frle] <;> omega) | (simp [inT, frle]; omega))).tr (ih _ _ _ _ h))
theorem fr_M_outNumber_33 {n : Nat} {l2 : Int32} {l3 : Int32} {M : Mm} {M9 : Mm} (h : f_M_outNumber_33 n l2 l3 M = some M9) : Fr [(134, 134, 16), (142, 142, 0)] M M9 := fr_M_outNumber_33_i n _ _ _ _ h
theorem fr_M_outNumber_17_i : ∀ (n : Nat) (l2 : Int32) (l3 : Int32) (M : Mm) (M9 : Mm), f_M_outNumber_17 n l2 l3 M = some M9 → Fr [(134, 134, 16), (142, 142, 0)] M M9 := by
  intro n; induction n with
  | zero => intro _ _ _ _ h; cases h
  | succ n ih =>
    intro l2 l3 M M9 h
    rw [f_M_outNumber_17] at h
    have h := (chk_i h).2
    rcases ite_i h with ⟨-, h⟩ | ⟨-, h⟩
    ·
      exact (Fr.up (fr_M_outNumber_33 h) (by first | rfl | decide +kernel | (simp [inT, frle] <;> omega) | (simp [inT, frle]; omega)))
    ·
      exact (ih _ _ _ _ h)
theorem fr_M_outNumber_17 {n : Nat} {l2 : Int32} {l3 : Int32} {M : Mm} {M9 : Mm} (h : f_M_outNumber_17 n l2 l3 M = some M9) : Fr [(134, 134, 16), (142, 142, 0)] M M9 := fr_M_outNumber_17_i n _ _ _ _ h
theorem fr_M_outNumber_10 {l1 : Int32} {M : Mm} {M9 : Mm} (h : f_M_outNumber_10 l1 M = some M9) : Fr [(134, 134, 16), (142, 142, 0)] M M9 := by
  unfold f_M_outNumber_10 at h
  exact (Fr.up (fr_M_outNumber_17 h) (by first | rfl | decide +kernel | (simp [inT, frle] <;> omega) | (simp [inT, frle]; omega)))
theorem fr_M_outNumber {l1 : Int32} {M : Mm} {M9 : Mm} (h : f_M_outNumber l1 M = some M9) : Fr [(134, 134, 16), (142, 142, 0)] M M9 := by
  unfold f_M_outNumber at h
  rcases ite_i h with ⟨-, h⟩ | ⟨-, h⟩
  ·
    exact (Fr.up (fr_M_outNumber_10 h) (by first | rfl | decide +kernel | (simp [inT, frle] <;> omega) | (simp [inT, frle]; omega)))
  ·
    obtain ⟨M7, e631, h⟩ := bn_i h
    exact ((Fr.up (fr_M_out e631) (by first | rfl | decide +kernel | (simp [inT, frle] <;> omega) | (simp [inT, frle]; omega))).tr (Fr.up (fr_M_outNumber_10 h) (by first | rfl | decide +kernel | (simp [inT, frle] <;> omega) | (simp [inT, frle]; omega))))
theorem fr_M_writeStations_36 {r16 : Int32 → Mm → Option (Int32 × Mm)} {l1 : Int32} {M : Mm} {w9 : Int32} {M9 : Mm} (h_r16 : ∀ (v0 : Int32) (v1 : Mm) (w9 : Int32) (M9 : Mm), r16 v0 v1 = some (w9, M9) → Fr [(134, 134, 16), (142, 142, 0)] v1 M9) (h : f_M_writeStations_36 r16 l1 M = some (w9, M9)) : Fr [(134, 134, 16), (142, 142, 0)] M M9 := by
  unfold f_M_writeStations_36 at h
  have h := (chk_i h).2
  obtain ⟨M43, e632, h⟩ := bn_i h
  obtain ⟨M49, e633, h⟩ := bn_i h
  obtain ⟨M59, e634, h⟩ := bn_i h
  exact ((Fr.up (fr_M_outNumber e632) (by first | rfl | decide +kernel | (simp [inT, frle] <;> omega) | (simp [inT, frle]; omega))).tr ((Fr.up (fr_M_out e633) (by first | rfl | decide +kernel | (simp [inT, frle] <;> omega) | (simp [inT, frle]; omega))).tr ((Fr.up (fr_M_outNumber e634) (by first | rfl | decide +kernel | (simp [inT, frle] <;> omega) | (simp [inT, frle]; omega))).tr (h_r16 _ _ _ _ h))))
theorem fr_M_writeStations_16_i : ∀ (n : Nat) (l1 : Int32) (M : Mm) (w9 : Int32) (M9 : Mm), f_M_writeStations_16 n l1 M = some (w9, M9) → Fr [(134, 134, 16), (142, 142, 0)] M M9 := by
  intro n; induction n with
  | zero => intro _ _ _ _ h; cases h
  | succ n ih =>
    intro l1 M w9 M9 h
    rw [f_M_writeStations_16] at h
    rcases ite_i h with ⟨-, h⟩ | ⟨-, h⟩
    ·
      cases h
      exact Fr.rf _ _
    ·
      rcases ite_i h with ⟨-, h⟩ | ⟨-, h⟩
      ·
        exact (Fr.up (fr_M_writeStations_36 ih h) (by first | rfl | decide +kernel | (simp [inT, frle] <;> omega) | (simp [inT, frle]; omega)))
      ·
        obtain ⟨M33, e635, h⟩ := bn_i h
        exact ((Fr.up (fr_M_out e635) (by first | rfl | decide +kernel | (simp [inT, frle] <;> omega) | (simp [inT, frle]; omega))).tr (Fr.up (fr_M_writeStations_36 ih h) (by first | rfl | decide +kernel | (simp [inT, frle] <;> omega) | (simp [inT, frle]; omega))))
theorem fr_M_writeStations_16 {n : Nat} {l1 : Int32} {M : Mm} {w9 : Int32} {M9 : Mm} (h : f_M_writeStations_16 n l1 M = some (w9, M9)) : Fr [(134, 134, 16), (142, 142, 0)] M M9 := fr_M_writeStations_16_i n _ _ _ _ h
theorem fr_M_writeStations {M : Mm} {w9 : Int32} {M9 : Mm} (h : f_M_writeStations M = some (w9, M9)) : Fr [(134, 134, 8), (134, 134, 16), (142, 142, 0), (143, 143, 0), (144, 144, 0), (145, 145, 0)] M M9 := by
  unfold f_M_writeStations at h
  obtain ⟨M2, e636, h⟩ := bm_i h
  obtain ⟨M6, e637, h⟩ := bn_i h
  obtain ⟨M11, e638, h⟩ := bm_i h
  exact ((fr_wr e636 (by first | rfl | (intro _; rfl) | (simp [inT, frle] <;> omega) | (simp [inT, frle]; omega) | (intro _; simp [inT, frle]; omega))).tr ((Fr.up (fr_M_findStations e637) (by first | rfl | decide +kernel | (simp [inT, frle] <;> omega) | (simp [inT, frle]; omega))).tr ((fr_wr e638 (by first | rfl | (intro _; rfl) | (simp [inT, frle] <;> omega) | (simp [inT, frle]; omega) | (intro _; simp [inT, frle]; omega))).tr (Fr.up (fr_M_writeStations_16 h) (by first | rfl | decide +kernel | (simp [inT, frle] <;> omega) | (simp [inT, frle]; omega))))))
theorem fr_M_outputByte_29 {t0 : Int32} {M : Mm} {w9 : Int32} {M9 : Mm} (h : f_M_outputByte_29 t0 M = some (w9, M9)) : Fr [] M M9 := by
  unfold f_M_outputByte_29 at h
  cases h
  exact Fr.rf _ _
theorem fr_M_outputByte {l1 : Int32} {M : Mm} {w9 : Int32} {M9 : Mm} (h : f_M_outputByte l1 M = some (w9, M9)) : Fr [(134, 134, 8)] M M9 := by
  unfold f_M_outputByte at h
  obtain ⟨M2, e639, h⟩ := bm_i h
  obtain ⟨_, e640, h⟩ := bn_i h
  rcases ite_i h with ⟨-, h⟩ | ⟨-, h⟩
  ·
    exact ((fr_wr e639 (by first | rfl | (intro _; rfl) | (simp [inT, frle] <;> omega) | (simp [inT, frle]; omega) | (intro _; simp [inT, frle]; omega))).tr (Fr.up (fr_M_outputByte_29 h) (by first | rfl | decide +kernel | (simp [inT, frle] <;> omega) | (simp [inT, frle]; omega))))
  ·
    have h := (chk_i h).2
    exact ((fr_wr e639 (by first | rfl | (intro _; rfl) | (simp [inT, frle] <;> omega) | (simp [inT, frle]; omega) | (intro _; simp [inT, frle]; omega))).tr (Fr.up (fr_M_outputByte_29 h) (by first | rfl | decide +kernel | (simp [inT, frle] <;> omega) | (simp [inT, frle]; omega))))
theorem fr_M_lays_10_i {w : Nat} : ∀ (n : Nat) (l2 : Int32) (M : Mm) (M9 : Mm), f_M_lays_10 w n l2 M = some M9 → Fr [(134, 134, 7), (134, 134, 8), (134, 134, 15), (134, 134, 17), (134, 134, 18), (134, 134, 20), (134, 134, 21), (134, 134, 22), (134, 134, 23), (134, 134, 24), (134, 134, 25), (134, 134, 26), (135, 135, 0), (137, 137, 0), (139, 139, 0), (141, 141, 0), (147, 147, 0)] M M9 := by
  intro n; induction n with
  | zero => intro _ _ _ h; cases h
  | succ n ih =>
    intro l2 M M9 h
    rw [f_M_lays_10] at h
    rcases ite_i h with ⟨-, h⟩ | ⟨-, h⟩
    ·
      obtain ⟨_, M36, e641, h⟩ := bn2_i h
      obtain ⟨M42, e642, h⟩ := bm_i h
      cases h
      exact ((Fr.up (fr_M_load e641) (by first | rfl | decide +kernel | (simp [inT, frle] <;> omega) | (simp [inT, frle]; omega))).tr (fr_wr e642 (by first | rfl | (intro _; rfl) | (simp [inT, frle] <;> omega) | (simp [inT, frle]; omega) | (intro _; simp [inT, frle]; omega))))
    ·
      obtain ⟨_, e643, h⟩ := bn_i h
      have h := (chk_i h).2
      obtain ⟨M28, e644, h⟩ := bm_i h
      exact ((fr_wr e644 (by first | rfl | (intro _; rfl) | (simp [inT, frle] <;> omega) | (simp [inT, frle]; omega) | (intro _; simp [inT, frle]; omega))).tr (ih _ _ _ h))
theorem fr_M_lays_10 {w : Nat} {n : Nat} {l2 : Int32} {M : Mm} {M9 : Mm} (h : f_M_lays_10 w n l2 M = some M9) : Fr [(134, 134, 7), (134, 134, 8), (134, 134, 15), (134, 134, 17), (134, 134, 18), (134, 134, 20), (134, 134, 21), (134, 134, 22), (134, 134, 23), (134, 134, 24), (134, 134, 25), (134, 134, 26), (135, 135, 0), (137, 137, 0), (139, 139, 0), (141, 141, 0), (147, 147, 0)] M M9 := fr_M_lays_10_i n _ _ _ h
theorem fr_M_lays {w : Nat} {M : Mm} {M9 : Mm} (h : f_M_lays w M = some M9) : Fr [(134, 134, 7), (134, 134, 8), (134, 134, 15), (134, 134, 17), (134, 134, 18), (134, 134, 20), (134, 134, 21), (134, 134, 22), (134, 134, 23), (134, 134, 24), (134, 134, 25), (134, 134, 26), (135, 135, 0), (137, 137, 0), (139, 139, 0), (141, 141, 0), (147, 147, 0)] M M9 := by
  unfold f_M_lays at h
  obtain ⟨_, e645, h⟩ := bn_i h
  obtain ⟨M5, e646, h⟩ := bm_i h
  exact ((fr_wr e646 (by first | rfl | (intro _; rfl) | (simp [inT, frle] <;> omega) | (simp [inT, frle]; omega) | (intro _; simp [inT, frle]; omega))).tr (Fr.up (fr_M_lays_10 h) (by first | rfl | decide +kernel | (simp [inT, frle] <;> omega) | (simp [inT, frle]; omega))))
theorem fr_S_init {a : Nat} {M : Mm} {M9 : Mm} (h : f_S_init a M = some M9) : Fr [(a, a + 9, 0)] M M9 := by
  unfold f_S_init at h
  obtain ⟨M7, e647, h⟩ := bm_i h
  obtain ⟨M15, e648, h⟩ := bm_i h
  obtain ⟨M23, e649, h⟩ := bm_i h
  obtain ⟨M31, e650, h⟩ := bm_i h
  obtain ⟨M39, e651, h⟩ := bm_i h
  obtain ⟨M47, e652, h⟩ := bm_i h
  obtain ⟨M55, e653, h⟩ := bm_i h
  obtain ⟨M63, e654, h⟩ := bm_i h
  obtain ⟨M71, e655, h⟩ := bm_i h
  obtain ⟨M79, e656, h⟩ := bm_i h
  cases h
  exact ((fr_zr e647 (by first | rfl | (intro _; rfl) | (simp [inT, frle] <;> omega) | (simp [inT, frle]; omega) | (intro _; simp [inT, frle]; omega))).tr ((fr_zr e648 (by first | rfl | (intro _; rfl) | (simp [inT, frle] <;> omega) | (simp [inT, frle]; omega) | (intro _; simp [inT, frle]; omega))).tr ((fr_zr e649 (by first | rfl | (intro _; rfl) | (simp [inT, frle] <;> omega) | (simp [inT, frle]; omega) | (intro _; simp [inT, frle]; omega))).tr ((fr_zr e650 (by first | rfl | (intro _; rfl) | (simp [inT, frle] <;> omega) | (simp [inT, frle]; omega) | (intro _; simp [inT, frle]; omega))).tr ((fr_zr e651 (by first | rfl | (intro _; rfl) | (simp [inT, frle] <;> omega) | (simp [inT, frle]; omega) | (intro _; simp [inT, frle]; omega))).tr ((fr_zr e652 (by first | rfl | (intro _; rfl) | (simp [inT, frle] <;> omega) | (simp [inT, frle]; omega) | (intro _; simp [inT, frle]; omega))).tr ((fr_zr e653 (by first | rfl | (intro _; rfl) | (simp [inT, frle] <;> omega) | (simp [inT, frle]; omega) | (intro _; simp [inT, frle]; omega))).tr ((fr_zr e654 (by first | rfl | (intro _; rfl) | (simp [inT, frle] <;> omega) | (simp [inT, frle]; omega) | (intro _; simp [inT, frle]; omega))).tr ((fr_zr e655 (by first | rfl | (intro _; rfl) | (simp [inT, frle] <;> omega) | (simp [inT, frle]; omega) | (intro _; simp [inT, frle]; omega))).tr (fr_wr e656 (by first | rfl | (intro _; rfl) | (simp [inT, frle] <;> omega) | (simp [inT, frle]; omega) | (intro _; simp [inT, frle]; omega))))))))))))
theorem fr_L_init {M : Mm} {M9 : Mm} (h : f_L_init M = some M9) : Fr [(3, 3, 0)] M M9 := by
  unfold f_L_init at h
  obtain ⟨M8, e657, h⟩ := bm_i h
  cases h
  exact (fr_zr e657 (by first | rfl | (intro _; rfl) | (simp [inT, frle] <;> omega) | (simp [inT, frle]; omega) | (intro _; simp [inT, frle]; omega)))
theorem fr_T_init {M : Mm} {M9 : Mm} (h : f_T_init M = some M9) : Fr [(26, 26, 0), (27, 27, 0), (28, 28, 0), (29, 29, 0), (30, 30, 0)] M M9 := by
  unfold f_T_init at h
  obtain ⟨M7, e658, h⟩ := bm_i h
  obtain ⟨M15, e659, h⟩ := bm_i h
  obtain ⟨M23, e660, h⟩ := bm_i h
  obtain ⟨M31, e661, h⟩ := bm_i h
  obtain ⟨M39, e662, h⟩ := bm_i h
  cases h
  exact ((fr_zr e658 (by first | rfl | (intro _; rfl) | (simp [inT, frle] <;> omega) | (simp [inT, frle]; omega) | (intro _; simp [inT, frle]; omega))).tr ((fr_zr e659 (by first | rfl | (intro _; rfl) | (simp [inT, frle] <;> omega) | (simp [inT, frle]; omega) | (intro _; simp [inT, frle]; omega))).tr ((fr_zr e660 (by first | rfl | (intro _; rfl) | (simp [inT, frle] <;> omega) | (simp [inT, frle]; omega) | (intro _; simp [inT, frle]; omega))).tr ((fr_zr e661 (by first | rfl | (intro _; rfl) | (simp [inT, frle] <;> omega) | (simp [inT, frle]; omega) | (intro _; simp [inT, frle]; omega))).tr (fr_zr e662 (by first | rfl | (intro _; rfl) | (simp [inT, frle] <;> omega) | (simp [inT, frle]; omega) | (intro _; simp [inT, frle]; omega)))))))
theorem fr_I_init {M : Mm} {M9 : Mm} (h : f_I_init M = some M9) : Fr [(1, 1, 5), (2, 2, 0), (3, 3, 0), (4, 13, 0)] M M9 := by
  unfold f_I_init at h
  obtain ⟨M5, e663, h⟩ := bm_i h
  obtain ⟨M9, e664, h⟩ := bn_i h
  obtain ⟨M16, e665, h⟩ := bm_i h
  obtain ⟨M20, e666, h⟩ := bn_i h
  obtain ⟨M28, e667, h⟩ := bm_i h
  cases h
  exact ((fr_zr e663 (by first | rfl | (intro _; rfl) | (simp [inT, frle] <;> omega) | (simp [inT, frle]; omega) | (intro _; simp [inT, frle]; omega))).tr ((Fr.up (fr_L_init e664) (by first | rfl | decide +kernel | (simp [inT, frle] <;> omega) | (simp [inT, frle]; omega))).tr ((fr_zr e665 (by first | rfl | (intro _; rfl) | (simp [inT, frle] <;> omega) | (simp [inT, frle]; omega) | (intro _; simp [inT, frle]; omega))).tr ((Fr.up (fr_S_init e666) (by first | rfl | decide +kernel | (simp [inT, frle] <;> omega) | (simp [inT, frle]; omega))).tr (fr_wr e667 (by first | rfl | (intro _; rfl) | (simp [inT, frle] <;> omega) | (simp [inT, frle]; omega) | (intro _; simp [inT, frle]; omega)))))))
theorem fr_C_init_233 {M : Mm} {M9 : Mm} (h : f_C_init_233 M = some M9) : Fr [] M M9 := by
  unfold f_C_init_233 at h
  cases h
  exact Fr.rf _ _
theorem fr_C_init_190 {M : Mm} {M9 : Mm} (h : f_C_init_190 M = some M9) : Fr [(1, 1, 3), (1, 1, 4), (1, 1, 5), (2, 2, 2), (2, 2, 3), (2, 2, 4), (2, 2, 5), (2, 2, 6), (4, 13, 0), (15, 24, 0)] M M9 := by
  unfold f_C_init_190 at h
  obtain ⟨_, e668, h⟩ := bn_i h
  obtain ⟨M199, e669, h⟩ := bn_i h
  obtain ⟨_, M206, e670, h⟩ := bn2_i h
  rcases ite_i h with ⟨-, h⟩ | ⟨-, h⟩
  ·
    exact ((Fr.up (fr_I_begin e669) (by first | rfl | decide +kernel | (simp [inT, frle] <;> omega) | (simp [inT, frle]; omega))).tr ((Fr.up (fr_I_readsHead e670) (by first | rfl | decide +kernel | (simp [inT, frle] <;> omega) | (simp [inT, frle]; omega))).tr (Fr.up (fr_C_init_233 h) (by first | rfl | decide +kernel | (simp [inT, frle] <;> omega) | (simp [inT, frle]; omega)))))
  ·
    obtain ⟨_, M216, e671, h⟩ := bn2_i h
    rcases ite_i h with ⟨-, h⟩ | ⟨-, h⟩
    ·
      exact ((Fr.up (fr_I_begin e669) (by first | rfl | decide +kernel | (simp [inT, frle] <;> omega) | (simp [inT, frle]; omega))).tr ((Fr.up (fr_I_readsHead e670) (by first | rfl | decide +kernel | (simp [inT, frle] <;> omega) | (simp [inT, frle]; omega))).tr ((Fr.up (fr_I_readsCommands e671) (by first | rfl | decide +kernel | (simp [inT, frle] <;> omega) | (simp [inT, frle]; omega))).tr (Fr.up (fr_C_init_233 h) (by first | rfl | decide +kernel | (simp [inT, frle] <;> omega) | (simp [inT, frle]; omega))))))
    ·
      obtain ⟨M230, e672, h⟩ := bn_i h
      exact ((Fr.up (fr_I_begin e669) (by first | rfl | decide +kernel | (simp [inT, frle] <;> omega) | (simp [inT, frle]; omega))).tr ((Fr.up (fr_I_readsHead e670) (by first | rfl | decide +kernel | (simp [inT, frle] <;> omega) | (simp [inT, frle]; omega))).tr ((Fr.up (fr_I_readsCommands e671) (by first | rfl | decide +kernel | (simp [inT, frle] <;> omega) | (simp [inT, frle]; omega))).tr ((Fr.up (fr_S_copyFrom e672) (by first | rfl | decide +kernel | (simp [inT, frle] <;> omega) | (simp [inT, frle]; omega))).tr (Fr.up (fr_C_init_233 h) (by first | rfl | decide +kernel | (simp [inT, frle] <;> omega) | (simp [inT, frle]; omega)))))))
theorem fr_C_init_155_i : ∀ (n : Nat) (l1 : Int32) (M : Mm) (M9 : Mm), f_C_init_155 n l1 M = some M9 → Fr [(1, 1, 3), (1, 1, 4), (1, 1, 5), (2, 2, 2), (2, 2, 3), (2, 2, 4), (2, 2, 5), (2, 2, 6), (3, 3, 0), (4, 13, 0), (15, 24, 0)] M M9 := by
  intro n; induction n with
  | zero => intro _ _ _ h; cases h
  | succ n ih =>
    intro l1 M M9 h
    rw [f_C_init_155] at h
    obtain ⟨_, e673, h⟩ := bn_i h
    rcases ite_i h with ⟨-, h⟩ | ⟨-, h⟩
    ·
      exact (Fr.up (fr_C_init_190 h) (by first | rfl | decide +kernel | (simp [inT, frle] <;> omega) | (simp [inT, frle]; omega)))
    ·
      rcases ite_i h with ⟨-, h⟩ | ⟨-, h⟩
      ·
        exact (Fr.up (fr_C_init_190 h) (by first | rfl | decide +kernel | (simp [inT, frle] <;> omega) | (simp [inT, frle]; omega)))
      ·
        obtain ⟨_, e674, h⟩ := bn_i h
        have h := (chk_i h).2
        obtain ⟨M183, e675, h⟩ := bm_i h
        exact ((fr_wr e675 (by first | rfl | (intro _; rfl) | (simp [inT, frle] <;> omega) | (simp [inT, frle]; omega) | (intro _; simp [inT, frle]; omega))).tr (ih _ _ _ h))
theorem fr_C_init_155 {n : Nat} {l1 : Int32} {M : Mm} {M9 : Mm} (h : f_C_init_155 n l1 M = some M9) : Fr [(1, 1, 3), (1, 1, 4), (1, 1, 5), (2, 2, 2), (2, 2, 3), (2, 2, 4), (2, 2, 5), (2, 2, 6), (3, 3, 0), (4, 13, 0), (15, 24, 0)] M M9 := fr_C_init_155_i n _ _ _ h
theorem fr_C_init {M : Mm} {M9 : Mm} (h : f_C_init M = some M9) : Fr [(0, 0, 5), (1, 1, 0), (2, 2, 0), (3, 3, 0), (4, 13, 0), (14, 14, 0), (15, 24, 0), (25, 25, 0), (26, 26, 0), (27, 27, 0), (28, 28, 0), (29, 29, 0), (30, 30, 0), (31, 31, 0), (32, 32, 0), (33, 33, 0), (34, 43, 0), (44, 53, 0), (54, 63, 0), (64, 73, 0), (74, 83, 0), (84, 93, 0), (94, 103, 0), (104, 113, 0), (114, 123, 0), (124, 133, 0)] M M9 := by
  unfold f_C_init at h
  obtain ⟨M5, e676, h⟩ := bm_i h
  obtain ⟨M9, e677, h⟩ := bn_i h
  obtain ⟨M31, e678, h⟩ := bm_i h
  obtain ⟨M38, e679, h⟩ := bm_i h
  obtain ⟨M44, e680, h⟩ := bm_i h
  obtain ⟨M48, e681, h⟩ := bn_i h
  obtain ⟨M66, e682, h⟩ := bm_i h
  obtain ⟨M70, e683, h⟩ := bn_i h
  obtain ⟨M79, e684, h⟩ := bm_i h
  obtain ⟨M87, e685, h⟩ := bm_i h
  obtain ⟨M95, e686, h⟩ := bm_i h
  obtain ⟨M113, e687, h⟩ := bm_i h
  obtain ⟨M117, e688, h⟩ := bn_i h
  obtain ⟨M113, e689, h⟩ := bm_i h
  obtain ⟨M117, e690, h⟩ := bn_i h
  obtain ⟨M113, e691, h⟩ := bm_i h
  obtain ⟨M117, e692, h⟩ := bn_i h
  obtain ⟨M113, e693, h⟩ := bm_i h
  obtain ⟨M117, e694, h⟩ := bn_i h
  obtain ⟨M113, e695, h⟩ := bm_i h
  obtain ⟨M117, e696, h⟩ := bn_i h
  obtain ⟨M113, e697, h⟩ := bm_i h
  obtain ⟨M117, e698, h⟩ := bn_i h
  obtain ⟨M113, e699, h⟩ := bm_i h
  obtain ⟨M117, e700, h⟩ := bn_i h
  obtain ⟨M113, e701, h⟩ := bm_i h
  obtain ⟨M117, e702, h⟩ := bn_i h
  obtain ⟨M139, e703, h⟩ := bm_i h
  obtain ⟨M143, e704, h⟩ := bn_i h
  obtain ⟨M139, e705, h⟩ := bm_i h
  obtain ⟨M143, e706, h⟩ := bn_i h
  exact ((fr_zr e676 (by first | rfl | (intro _; rfl) | (simp [inT, frle] <;> omega) | (simp [inT, frle]; omega) | (intro _; simp [inT, frle]; omega))).tr ((Fr.up (fr_I_init e677) (by first | rfl | decide +kernel | (simp [inT, frle] <;> omega) | (simp [inT, frle]; omega))).tr ((fr_wr e678 (by first | rfl | (intro _; rfl) | (simp [inT, frle] <;> omega) | (simp [inT, frle]; omega) | (intro _; simp [inT, frle]; omega))).tr ((fr_zr e679 (by first | rfl | (intro _; rfl) | (simp [inT, frle] <;> omega) | (simp [inT, frle]; omega) | (intro _; simp [inT, frle]; omega))).tr ((fr_zr e680 (by first | rfl | (intro _; rfl) | (simp [inT, frle] <;> omega) | (simp [inT, frle]; omega) | (intro _; simp [inT, frle]; omega))).tr ((Fr.up (fr_S_init e681) (by first | rfl | decide +kernel | (simp [inT, frle] <;> omega) | (simp [inT, frle]; omega))).tr ((fr_zr e682 (by first | rfl | (intro _; rfl) | (simp [inT, frle] <;> omega) | (simp [inT, frle]; omega) | (intro _; simp [inT, frle]; omega))).tr ((Fr.up (fr_T_init e683) (by first | rfl | decide +kernel | (simp [inT, frle] <;> omega) | (simp [inT, frle]; omega))).tr ((fr_zr e684 (by first | rfl | (intro _; rfl) | (simp [inT, frle] <;> omega) | (simp [inT, frle]; omega) | (intro _; simp [inT, frle]; omega))).tr ((fr_zr e685 (by first | rfl | (intro _; rfl) | (simp [inT, frle] <;> omega) | (simp [inT, frle]; omega) | (intro _; simp [inT, frle]; omega))).tr ((fr_zr e686 (by first | rfl | (intro _; rfl) | (simp [inT, frle] <;> omega) | (simp [inT, frle]; omega) | (intro _; simp [inT, frle]; omega))).tr ((fr_zr e687 (by first | rfl | (intro _; rfl) | (simp [inT, frle] <;> omega) | (simp [inT, frle]; omega) | (intro _; simp [inT, frle]; omega))).tr ((Fr.up (fr_S_init e688) (by first | rfl | decide +kernel | (simp [inT, frle] <;> omega) | (simp [inT, frle]; omega))).tr ((fr_zr e689 (by first | rfl | (intro _; rfl) | (simp [inT, frle] <;> omega) | (simp [inT, frle]; omega) | (intro _; simp [inT, frle]; omega))).tr ((Fr.up (fr_S_init e690) (by first | rfl | decide +kernel | (simp [inT, frle] <;> omega) | (simp [inT, frle]; omega))).tr ((fr_zr e691 (by first | rfl | (intro _; rfl) | (simp [inT, frle] <;> omega) | (simp [inT, frle]; omega) | (intro _; simp [inT, frle]; omega))).tr ((Fr.up (fr_S_init e692) (by first | rfl | decide +kernel | (simp [inT, frle] <;> omega) | (simp [inT, frle]; omega))).tr ((fr_zr e693 (by first | rfl | (intro _; rfl) | (simp [inT, frle] <;> omega) | (simp [inT, frle]; omega) | (intro _; simp [inT, frle]; omega))).tr ((Fr.up (fr_S_init e694) (by first | rfl | decide +kernel | (simp [inT, frle] <;> omega) | (simp [inT, frle]; omega))).tr ((fr_zr e695 (by first | rfl | (intro _; rfl) | (simp [inT, frle] <;> omega) | (simp [inT, frle]; omega) | (intro _; simp [inT, frle]; omega))).tr ((Fr.up (fr_S_init e696) (by first | rfl | decide +kernel | (simp [inT, frle] <;> omega) | (simp [inT, frle]; omega))).tr ((fr_zr e697 (by first | rfl | (intro _; rfl) | (simp [inT, frle] <;> omega) | (simp [inT, frle]; omega) | (intro _; simp [inT, frle]; omega))).tr ((Fr.up (fr_S_init e698) (by first | rfl | decide +kernel | (simp [inT, frle] <;> omega) | (simp [inT, frle]; omega))).tr ((fr_zr e699 (by first | rfl | (intro _; rfl) | (simp [inT, frle] <;> omega) | (simp [inT, frle]; omega) | (intro _; simp [inT, frle]; omega))).tr ((Fr.up (fr_S_init e700) (by first | rfl | decide +kernel | (simp [inT, frle] <;> omega) | (simp [inT, frle]; omega))).tr ((fr_zr e701 (by first | rfl | (intro _; rfl) | (simp [inT, frle] <;> omega) | (simp [inT, frle]; omega) | (intro _; simp [inT, frle]; omega))).tr ((Fr.up (fr_S_init e702) (by first | rfl | decide +kernel | (simp [inT, frle] <;> omega) | (simp [inT, frle]; omega))).tr ((fr_zr e703 (by first | rfl | (intro _; rfl) | (simp [inT, frle] <;> omega) | (simp [inT, frle]; omega) | (intro _; simp [inT, frle]; omega))).tr ((Fr.up (fr_S_init e704) (by first | rfl | decide +kernel | (simp [inT, frle] <;> omega) | (simp [inT, frle]; omega))).tr ((fr_zr e705 (by first | rfl | (intro _; rfl) | (simp [inT, frle] <;> omega) | (simp [inT, frle]; omega) | (intro _; simp [inT, frle]; omega))).tr ((Fr.up (fr_S_init e706) (by first | rfl | decide +kernel | (simp [inT, frle] <;> omega) | (simp [inT, frle]; omega))).tr (Fr.up (fr_C_init_155 h) (by first | rfl | decide +kernel | (simp [inT, frle] <;> omega) | (simp [inT, frle]; omega))))))))))))))))))))))))))))))))))
theorem fr_M_init {M : Mm} {M9 : Mm} (h : f_M_init M = some M9) : Fr [(134, 134, 7), (134, 134, 8), (134, 134, 15), (134, 134, 17), (134, 134, 18), (134, 134, 20), (134, 134, 21), (134, 134, 22), (134, 134, 23), (134, 134, 24), (134, 134, 25), (134, 134, 26), (135, 135, 0), (136, 136, 0), (137, 137, 0), (138, 138, 0), (139, 139, 0), (140, 140, 0), (141, 141, 0), (142, 142, 0), (143, 143, 0), (144, 144, 0), (145, 145, 0), (146, 146, 0), (147, 147, 0)] M M9 := by
  unfold f_M_init at h
  obtain ⟨M8, e707, h⟩ := bm_i h
  obtain ⟨M17, e708, h⟩ := bm_i h
  obtain ⟨M26, e709, h⟩ := bm_i h
  obtain ⟨M35, e710, h⟩ := bm_i h
  obtain ⟨M44, e711, h⟩ := bm_i h
  obtain ⟨M51, e712, h⟩ := bm_i h
  obtain ⟨M60, e713, h⟩ := bm_i h
  obtain ⟨M69, e714, h⟩ := bm_i h
  obtain ⟨M77, e715, h⟩ := bm_i h
  obtain ⟨M85, e716, h⟩ := bm_i h
  obtain ⟨M93, e717, h⟩ := bm_i h
  obtain ⟨M101, e718, h⟩ := bm_i h
  obtain ⟨M108, e719, h⟩ := bm_i h
  obtain ⟨M114, e720, h⟩ := bm_i h
  obtain ⟨M120, e721, h⟩ := bm_i h
  obtain ⟨M126, e722, h⟩ := bm_i h
  obtain ⟨M132, e723, h⟩ := bm_i h
  obtain ⟨M138, e724, h⟩ := bm_i h
  obtain ⟨M143, e725, h⟩ := bm_i h
  obtain ⟨M149, e726, h⟩ := bm_i h
  obtain ⟨M155, e727, h⟩ := bm_i h
  obtain ⟨M163, e728, h⟩ := bn_i h
  cases h
  exact ((fr_zr e707 (by first | rfl | (intro _; rfl) | (simp [inT, frle] <;> omega) | (simp [inT, frle]; omega) | (intro _; simp [inT, frle]; omega))).tr ((fr_zr e708 (by first | rfl | (intro _; rfl) | (simp [inT, frle] <;> omega) | (simp [inT, frle]; omega) | (intro _; simp [inT, frle]; omega))).tr ((fr_zr e709 (by first | rfl | (intro _; rfl) | (simp [inT, frle] <;> omega) | (simp [inT, frle]; omega) | (intro _; simp [inT, frle]; omega))).tr ((fr_zr e710 (by first | rfl | (intro _; rfl) | (simp [inT, frle] <;> omega) | (simp [inT, frle]; omega) | (intro _; simp [inT, frle]; omega))).tr ((fr_zr e711 (by first | rfl | (intro _; rfl) | (simp [inT, frle] <;> omega) | (simp [inT, frle]; omega) | (intro _; simp [inT, frle]; omega))).tr ((fr_zr e712 (by first | rfl | (intro _; rfl) | (simp [inT, frle] <;> omega) | (simp [inT, frle]; omega) | (intro _; simp [inT, frle]; omega))).tr ((fr_zr e713 (by first | rfl | (intro _; rfl) | (simp [inT, frle] <;> omega) | (simp [inT, frle]; omega) | (intro _; simp [inT, frle]; omega))).tr ((fr_zr e714 (by first | rfl | (intro _; rfl) | (simp [inT, frle] <;> omega) | (simp [inT, frle]; omega) | (intro _; simp [inT, frle]; omega))).tr ((fr_zr e715 (by first | rfl | (intro _; rfl) | (simp [inT, frle] <;> omega) | (simp [inT, frle]; omega) | (intro _; simp [inT, frle]; omega))).tr ((fr_zr e716 (by first | rfl | (intro _; rfl) | (simp [inT, frle] <;> omega) | (simp [inT, frle]; omega) | (intro _; simp [inT, frle]; omega))).tr ((fr_zr e717 (by first | rfl | (intro _; rfl) | (simp [inT, frle] <;> omega) | (simp [inT, frle]; omega) | (intro _; simp [inT, frle]; omega))).tr ((fr_zr e718 (by first | rfl | (intro _; rfl) | (simp [inT, frle] <;> omega) | (simp [inT, frle]; omega) | (intro _; simp [inT, frle]; omega))).tr ((fr_wr e719 (by first | rfl | (intro _; rfl) | (simp [inT, frle] <;> omega) | (simp [inT, frle]; omega) | (intro _; simp [inT, frle]; omega))).tr ((fr_wr e720 (by first | rfl | (intro _; rfl) | (simp [inT, frle] <;> omega) | (simp [inT, frle]; omega) | (intro _; simp [inT, frle]; omega))).tr ((fr_wr e721 (by first | rfl | (intro _; rfl) | (simp [inT, frle] <;> omega) | (simp [inT, frle]; omega) | (intro _; simp [inT, frle]; omega))).tr ((fr_wr e722 (by first | rfl | (intro _; rfl) | (simp [inT, frle] <;> omega) | (simp [inT, frle]; omega) | (intro _; simp [inT, frle]; omega))).tr ((fr_wr e723 (by first | rfl | (intro _; rfl) | (simp [inT, frle] <;> omega) | (simp [inT, frle]; omega) | (intro _; simp [inT, frle]; omega))).tr ((fr_wr e724 (by first | rfl | (intro _; rfl) | (simp [inT, frle] <;> omega) | (simp [inT, frle]; omega) | (intro _; simp [inT, frle]; omega))).tr ((fr_wr e725 (by first | rfl | (intro _; rfl) | (simp [inT, frle] <;> omega) | (simp [inT, frle]; omega) | (intro _; simp [inT, frle]; omega))).tr ((fr_wr e726 (by first | rfl | (intro _; rfl) | (simp [inT, frle] <;> omega) | (simp [inT, frle]; omega) | (intro _; simp [inT, frle]; omega))).tr ((fr_zr e727 (by first | rfl | (intro _; rfl) | (simp [inT, frle] <;> omega) | (simp [inT, frle]; omega) | (intro _; simp [inT, frle]; omega))).tr (Fr.up (fr_M_lays e728) (by first | rfl | decide +kernel | (simp [inT, frle] <;> omega) | (simp [inT, frle]; omega))))))))))))))))))))))))
