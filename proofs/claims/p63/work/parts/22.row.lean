/-! rows: what a survey is; its lengths and steps -/
abbrev Rw : Type := Nat → Nat
abbrev oN (n : Nat) : Int32 := Int32.ofNat n
theorem oN_add (a b : Nat) : oN (a + b) = oN a + oN b := Int32.ofNat_add a b
theorem oN_mul (a b : Nat) : oN (a * b) = oN a * oN b := Int32.ofNat_mul a b
def pkN (f : Nat → Nat) : Nat → Nat
  | 0 => 0
  | n + 1 => pkN f n * 32 + (f n - 96)
def nmN (r : Rw) (i : Nat) : Nat := pkN (fun j => r (4 + 14 * i + 8 + j)) (r (4 + 14 * i + 7))
/-- leg i of the survey at a is that of the row -/
def CL (M : Mm) (a : Nat) (r : Rw) (i : Nat) : Prop :=
  M (a + 1 + 0) i = oN (nmN r i) ∧ M (a + 1 + 1) i = oN (r (4 + 14 * i + 0)) ∧ M (a + 1 + 2) i = (if r (4 + 14 * i + 6) = 0 then 0 else 1) ∧ M (a + 1 + 3) i = oN (r (4 + 14 * i + 6)) ∧ M (a + 1 + 4) i = oN (r (4 + 14 * i + 1)) ∧ M (a + 1 + 5) i = oN (r (4 + 14 * i + 2)) ∧ M (a + 1 + 6) i = oN (r (4 + 14 * i + 3)) ∧ M (a + 1 + 7) i = oN (r (4 + 14 * i + 4)) ∧ (r (4 + 14 * i + 6) = 0 → M (a + 1 + 8) i = oN (r (4 + 14 * i + 5)))
def CS (M : Mm) (a : Nat) (r : Rw) : Prop :=
  M a 9 = oN (r 0) ∧ M a 10 = oN (r 1) ∧ M a 11 = oN (r 2) ∧ M a 12 = oN (r 3) ∧ (∀ i, i < 20 → isZ (M (a + 1 + 2) i)) ∧ ∀ i, i < r 0 → CL M a r i
def VL (r : Rw) (i : Nat) : Prop :=
  (∃ b, b < 24 ∧ r (4 + 14 * i + 0) = 15 * b) ∧ r (4 + 14 * i + 1) ≤ 99 ∧ r (4 + 14 * i + 2) ≤ 99 ∧ r (4 + 14 * i + 3) ≤ 9 ∧ r (4 + 14 * i + 4) ≤ 9999 ∧ r (4 + 14 * i + 5) ≤ 50 ∧ r (4 + 14 * i + 6) ≤ 999 ∧ (r (4 + 14 * i + 6) ≠ 0 → r (4 + 14 * i + 1) = 0 ∧ r (4 + 14 * i + 2) = 0 ∧ r (4 + 14 * i + 3) = 0 ∧ r (4 + 14 * i + 4) = 0) ∧ 1 ≤ r (4 + 14 * i + 7) ∧ r (4 + 14 * i + 7) ≤ 6 ∧ ∀ j, j < r (4 + 14 * i + 7) → 97 ≤ r (4 + 14 * i + 8 + j) ∧ r (4 + 14 * i + 8 + j) ≤ 122
def V (r : Rw) : Prop := r 0 ≤ 20 ∧ r 1 ≤ 999 ∧ 100 ≤ r 2 ∧ r 2 ≤ 999 ∧ r 3 ≤ 1 ∧ ∀ i, i < r 0 → VL r i
/-- the model's row -/
def MS (N : Mm) (c off : Nat) (r : Rw) : Prop := ∀ k, k < 284 → N c (off + k) = oN (r k)
theorem oI {i : Nat} (h : i < 2147483648) : ix (oN i) = i := ix_oN h
theorem CS.cg {M M' : Mm} {a : Nat} {r : Rw} (h : CS M a r) (e : ∀ b k, a ≤ b → b ≤ a + 9 → M' b k = M b k) : CS M' a r := by
  obtain ⟨h0, h1, h2, h3, h4, h5⟩ := h
  refine ⟨(e _ _ (by omega) (by omega)).trans h0, (e _ _ (by omega) (by omega)).trans h1, (e _ _ (by omega) (by omega)).trans h2, (e _ _ (by omega) (by omega)).trans h3, fun i hi => by rw [e _ _ (by omega) (by omega)]; exact h4 i hi, fun i hi => ?_⟩
  have := h5 i hi
  unfold CL at this ⊢
  rw [e _ _ (by omega) (by omega), e _ _ (by omega) (by omega), e _ _ (by omega) (by omega), e _ _ (by omega) (by omega), e _ _ (by omega) (by omega), e _ _ (by omega) (by omega), e _ _ (by omega) (by omega), e _ _ (by omega) (by omega), e (a + 1 + 8) _ (by omega) (by omega)]
  exact this
def inR (l : List (Nat × Nat × Nat)) (lo hi : Nat) : Bool := l.all fun q => Nat.blt q.2.1 lo || Nat.blt hi q.1
theorem inR_T {l : List (Nat × Nat × Nat)} {lo hi : Nat} (h : inR l lo hi = true) {b : Nat} (h1 : lo ≤ b) (h2 : b ≤ hi) (k : Nat) : inT l b k = false := by
  unfold inT
  rw [List.any_eq_false]
  intro q hq hq2
  have h3 := List.all_eq_true.mp h q hq
  simp only [Bool.and_eq_true, Bool.or_eq_true, Nat.ble_eq, Nat.blt_eq] at h3 hq2
  omega
theorem CS.fr {l : List (Nat × Nat × Nat)} {M M' : Mm} {a : Nat} {r : Rw} (h : CS M a r) (f : Fr l M M') (e : inR l a (a + 9) = true) : CS M' a r :=
  h.cg fun b k h1 h2 => f b k (inR_T e h1 h2 k)
theorem MS.fr {l : List (Nat × Nat × Nat)} {M M' : Mm} {c off : Nat} {r : Rw} (h : MS M c off r) (f : Fr l M M') (e : inR l c c = true) : MS M' c off r :=
  fun k hk => (f c _ (inR_T e (Nat.le_refl _) (Nat.le_refl _) _)).trans (h k hk)
def rdN (r : Rw) (i : Nat) : Nat := if r (4 + 14 * i + 6) = 0 then (r (4 + 14 * i + 1) + r (4 + 14 * i + 3)) * 10000 + r (4 + 14 * i + 2) * 100 else r (4 + 14 * i + 6) * r 2
def slN (r : Rw) (i : Nat) : Nat := if r (4 + 14 * i + 6) = 0 then (slI (rdN r i) (r 1) (r (4 + 14 * i + 5))).toNat else rdN r i
def flN (r : Rw) (i : Nat) : Nat := if slN r i < 100 * r (4 + 14 * i + 4) then 0 else isq (slN r i * slN r i - (100 * r (4 + 14 * i + 4)) * (100 * r (4 + 14 * i + 4)))
def csL : List Int32 := [10000, 9659, 8660, 7071, 5000, 2588, 0, -2588, -5000, -7071, -8660, -9659, -10000, -9659, -8660, -7071, -5000, -2588, 0, 2588, 5000, 7071, 8660, 9659]
def csT (b : Nat) : Int32 := csL.getD b 0
def snT (b : Nat) : Int32 := csL.getD ((b + 18) % 24) 0
theorem cs_c : ∀ b, b < 24 → f_C_cosine (oN (15 * b)) = some (csT b) ∧ f_C_sine (oN (15 * b)) = some (snT b) := by decide +kernel
theorem cs_bd : ∀ b, b < 24 → (csT b).toInt.natAbs ≤ 10000 ∧ (snT b).toInt.natAbs ≤ 10000 := by decide +kernel
theorem cs_15 : ∀ b, b < 24 → oN (15 * b) / 15 = oN b := by decide +kernel
def N0 : Mm := fun _ k => cosL.getD k 0
theorem mcos_N {N : Mm} (h : ∀ k, N 146 k = cosL.getD k 0) (l : Int32) : f_M_cosine N l = f_M_cosine N0 l := by
  have e : N 146 = N0 146 := funext h
  unfold f_M_cosine f_M_cosine_16 f_M_cosine_41
  rw [e]
theorem cs_m0 : ∀ b, b < 24 → f_M_cosine N0 (oN b) = some (csT b) ∧ f_M_cosine N0 (oN b + 18) = some (snT b) := by decide +kernel
def stpW (f : Nat) (c : Int32) : Int32 := (((Int32.ofNat f).toInt64 * c.toInt64) / (10000 : Int64)).toInt32
def stE (r : Rw) (i : Nat) : Int32 := stpW (flN r i) (snT (r (4 + 14 * i + 0) / 15))
def stN (r : Rw) (i : Nat) : Int32 := stpW (flN r i) (csT (r (4 + 14 * i + 0) / 15))
def smW (f : Nat → Int32) : Nat → Int32
  | 0 => 0
  | k + 1 => smW f k + f k
def eW (r : Rw) (k : Nat) : Int32 := smW (stE r) k
def nW (r : Rw) (k : Nat) : Int32 := smW (stN r) k
def ruN (r : Rw) : Nat → Nat
  | 0 => 0
  | k + 1 => ruN r k + flN r k
def aE (r : Rw) (k : Nat) : Int32 := if r 3 = 0 then eW r k else eW r k - shW (eW r (r 0)) (oN (ruN r k)) (oN (ruN r (r 0)))
def aN (r : Rw) (k : Nat) : Int32 := if r 3 = 0 then nW r k else nW r k - shW (nW r (r 0)) (oN (ruN r k)) (oN (ruN r (r 0)))
section ROW
variable {r : Rw} {M N : Mm} {a i : Nat}
theorem rd_le (v : V r) (hi : i < r 0) : rdN r i ≤ 1089900 := by
  obtain ⟨v0, v1, v2, v3, v4, v5⟩ := v
  obtain ⟨-, w1, w2, w3, -, -, w6, -⟩ := v5 i hi
  unfold rdN
  split
  · omega
  · have := Nat.mul_le_mul w6 v3
    omega
theorem sl_le (v : V r) (hi : i < r 0) : slN r i ≤ 1199284 := by
  have h1 := rd_le v hi
  obtain ⟨v0, v1, v2, v3, v4, v5⟩ := v
  obtain ⟨-, w1, w2, w3, w4, w5, w6, -⟩ := v5 i hi
  unfold slN
  split
  · have := slI_b h1 v1 w5
    omega
  · omega
theorem fl_le (v : V r) (hi : i < r 0) : flN r i ≤ slN r i := by
  have h1 := sl_le v hi
  unfold flN
  split
  · omega
  · have h2 : slN r i * slN r i ≤ 1199284 * 1199284 := Nat.mul_le_mul h1 h1
    exact isq_le (by omega) (Nat.sub_le _ _)
theorem fl_bog (v : V r) (hi : i < r 0) (h : r (4 + 14 * i + 6) ≠ 0 ∨ r (4 + 14 * i + 4) = 0) : flN r i = slN r i := by
  have h1 := sl_le v hi
  have h4 : r (4 + 14 * i + 4) = 0 := by
    rcases h with h | h
    · exact ((v.2.2.2.2.2 i hi).2.2.2.2.2.2.2.1 h).2.2.2
    · exact h
  unfold flN
  rw [h4]
  simp only [Nat.mul_zero, Nat.not_lt_zero, if_false, Nat.sub_zero]
  exact isq_sq (by omega)
theorem c_read (h : CS M a r) (v : V r) (hi : i < r 0) : f_S_readUnits a M (oN i) = some (oN (rdN r i)) := by
  have hv := v.1
  have h20 : i < 20 := by omega
  obtain ⟨-, -, hp, -, -, hl⟩ := h
  obtain ⟨n0, b1, z2, p3, p4, l5, d6, r7, t8⟩ := hl i hi
  unfold f_S_readUnits rdN
  rw [chk_t ((iin_oN (by omega)).mpr h20), oI (by omega), z2, p3, p4, l5, d6, hp]
  by_cases c : r (4 + 14 * i + 6) = 0
  · simp only [c, if_true]
    rw [oN_add, oN_mul, oN_mul, oN_add]; rfl
  · simp only [c, if_false]
    rw [if_neg (by decide), oN_mul]
theorem c_slope (h : CS M a r) (v : V r) (hi : i < r 0) : f_S_slopeUnits a M (oN i) = some (oN (slN r i)) := by
  have hv := v.1
  have h20 : i < 20 := by omega
  have hr := rd_le v hi
  unfold f_S_slopeUnits
  rw [c_read h v hi, bn_s, chk_t ((iin_oN (by omega)).mpr h20), oI (by omega)]
  obtain ⟨-, hw, hp, -, -, hl⟩ := h
  obtain ⟨n0, b1, z2, p3, p4, l5, d6, r7, t8⟩ := hl i hi
  rw [z2]
  unfold f_S_slopeUnits_53 slN
  by_cases c : r (4 + 14 * i + 6) = 0
  · simp only [c, if_true]
    rw [t8 c, hw]
    exact congrArg some (sl_eq hr v.2.1 (v.2.2.2.2.2 i hi).2.2.2.2.2.1)
  · simp only [c, if_false]
    rw [if_neg (by decide), Int32.toInt32_toInt64]
theorem c_flat (h : CS M a r) (v : V r) (hi : i < r 0) : f_S_horizontalUnits a M (oN i) = some (oN (flN r i)) := by
  have hv := v.1
  have h20 : i < 20 := by omega
  have hs := sl_le v hi
  unfold f_S_horizontalUnits
  rw [c_slope h v hi, bn_s, chk_t ((iin_oN (by omega)).mpr h20), oI (by omega)]
  obtain ⟨-, hw, hp, -, -, hl⟩ := h
  obtain ⟨n0, b1, z2, p3, p4, l5, d6, r7, t8⟩ := hl i hi
  have w4 := (v.2.2.2.2.2 i hi).2.2.2.2.1
  rw [r7]
  by_cases c : r (4 + 14 * i + 4) = 0
  · rw [c, if_pos (by rfl), fl_bog v hi (Or.inr c)]
  · rw [if_neg (by rw [show (0 : Int32) = oN 0 from rfl, oN_inj (by omega) (by omega)]; exact c)]
    have e : oN (r (4 + 14 * i + 4)) * 100 = oN (100 * r (4 + 14 * i + 4)) := by
      rw [oN_mul, Int32.mul_comm]; rfl
    rw [e, oN_J (by omega), oN_J (by omega)]
    unfold flN f_S_horizontalUnits_51
    by_cases d : slN r i < 100 * r (4 + 14 * i + 4)
    · rw [if_neg (by rw [lg_cmp_le, jN_le (by omega) (by omega)]; omega), if_pos d]; rfl
    · rw [if_pos (by rw [lg_cmp_le, jN_le (by omega) (by omega)]; omega), if_neg d]
      have h2 : slN r i * slN r i ≤ 1199284 * 1199284 := Nat.mul_le_mul hs hs
      have h3 : 100 * r (4 + 14 * i + 4) * (100 * r (4 + 14 * i + 4)) ≤ slN r i * slN r i := Nat.mul_le_mul (by omega) (by omega)
      rw [← Int64.ofNat_mul, ← Int64.ofNat_mul, ← Int64.ofNat_sub _ _ h3, croot (by omega)]; rfl
theorem m_of (h : MS N 135 0 r) {j : Nat} (hi : i < 20) (hj : j < 14) : f_M_of N (oN i) (oN j) = some (oN (r (4 + 14 * i + j))) := by
  unfold f_M_of
  have e : (4 : Int32) + 14 * oN i + oN j = oN (4 + 14 * i + j) := by
    rw [oN_add, oN_add, oN_mul]; rfl
  rw [e, chk_t ((iin_oN (by omega)).mpr (by omega)), oI (by omega)]
  have := h (4 + 14 * i + j) (by omega)
  rw [Nat.zero_add] at this
  rw [this]
theorem m_at (h : MS N 135 0 r) {k : Nat} (hk : k < 284) : N 135 k = oN (r k) := by
  have := h k hk
  rwa [Nat.zero_add] at this
theorem m_bog (h : MS N 135 0 r) (v : V r) (hi : i < r 0) : f_M_bog N (oN i) = some (if r (4 + 14 * i + 6) = 0 then 0 else 1) := by
  have hv := v.1
  have w6 := (v.2.2.2.2.2 i hi).2.2.2.2.2.2.1
  unfold f_M_bog
  rw [show (6 : Int32) = oN 6 from rfl, m_of h (by omega) (by decide), bn_s]
  unfold f_M_bog_15
  by_cases c : r (4 + 14 * i + 6) = 0
  · rw [c, if_pos (by decide), chk_t (by decide), if_pos rfl]
  · rw [if_neg (by rw [show (0 : Int32) = oN 0 from rfl, oN_le (by omega) (by omega)]; omega), chk_t (by decide), if_neg c]
theorem m_read (h : MS N 135 0 r) (v : V r) (hi : i < r 0) : f_M_read N (oN i) = some (oN (rdN r i)) := by
  have hv := v.1
  unfold f_M_read rdN
  rw [m_bog h v hi, bn_s]
  by_cases c : r (4 + 14 * i + 6) = 0
  · rw [if_pos c, if_pos rfl, if_pos c, show (1 : Int32) = oN 1 from rfl, show (3 : Int32) = oN 3 from rfl, show (2 : Int32) = oN 2 from rfl, m_of h (by omega) (by decide), bn_s, m_of h (by omega) (by decide), bn_s, m_of h (by omega) (by decide), bn_s]
    rw [oN_add, oN_mul, oN_mul, oN_add, Int32.mul_comm 10000, Int32.mul_comm 100]; rfl
  · rw [if_neg c, if_neg (by decide), if_neg c, show (6 : Int32) = oN 6 from rfl, m_of h (by omega) (by decide), bn_s, show (2 : Int32) = oN 2 from rfl, oI (by decide), m_at h (by decide), oN_mul]
theorem m_slope (h : MS N 135 0 r) (v : V r) (hi : i < r 0) : f_M_slope N (oN i) = some (oN (slN r i)) := by
  have hv := v.1
  have hr := rd_le v hi
  unfold f_M_slope slN
  rw [m_read h v hi, bn_s, m_bog h v hi, bn_s]
  by_cases c : r (4 + 14 * i + 6) = 0
  · rw [if_pos c, if_pos rfl, if_pos c, show (5 : Int32) = oN 5 from rfl, m_of h (by omega) (by decide), bn_s, show ix (1 : Int32) = 1 from rfl, m_at h (by decide)]
    exact congrArg some (sl_eq hr v.2.1 (v.2.2.2.2.2 i hi).2.2.2.2.2.1)
  · rw [if_neg c, if_neg (by decide), if_neg c, Int32.toInt32_toInt64]
theorem m_flat (h : MS N 135 0 r) (v : V r) (hi : i < r 0) : f_M_flat N (oN i) = some (oN (flN r i)) := by
  have hv := v.1
  have hs := sl_le v hi
  have w4 := (v.2.2.2.2.2 i hi).2.2.2.2.1
  unfold f_M_flat
  rw [m_slope h v hi, bn_s, m_bog h v hi, bn_s]
  by_cases c : r (4 + 14 * i + 6) = 0
  · rw [if_pos c, if_pos rfl, show (4 : Int32) = oN 4 from rfl, m_of h (by omega) (by decide), bn_s]
    have e : (100 : Int64) * (oN (r (4 + 14 * i + 4))).toInt64 = Int64.ofNat (100 * r (4 + 14 * i + 4)) := by
      rw [oN_J (by omega), Int64.ofNat_mul]; rfl
    rw [e, oN_J (by omega)]
    unfold flN f_M_flat_55
    by_cases d : slN r i < 100 * r (4 + 14 * i + 4)
    · rw [if_neg (by rw [lg_cmp_le, jN_le (by omega) (by omega)]; omega), if_pos d]; rfl
    · rw [if_pos (by rw [lg_cmp_le, jN_le (by omega) (by omega)]; omega), if_neg d]
      have h2 : slN r i * slN r i ≤ 1199284 * 1199284 := Nat.mul_le_mul hs hs
      have h3 : 100 * r (4 + 14 * i + 4) * (100 * r (4 + 14 * i + 4)) ≤ slN r i * slN r i := Nat.mul_le_mul (by omega) (by omega)
      rw [← Int64.ofNat_mul, ← Int64.ofNat_mul, ← Int64.ofNat_sub _ _ h3, mroot (by omega), bn_s, Int64.toInt32_ofNat']
  · rw [if_neg c, if_neg (by decide), Int32.toInt32_toInt64, fl_bog v hi (Or.inl c)]
theorem bear (v : V r) (hi : i < r 0) : r (4 + 14 * i + 0) / 15 < 24 ∧ r (4 + 14 * i + 0) = 15 * (r (4 + 14 * i + 0) / 15) := by
  obtain ⟨b, hb, e⟩ := (v.2.2.2.2.2 i hi).1
  omega
theorem c_cos (v : V r) (hi : i < r 0) : f_C_cosine (oN (r (4 + 14 * i + 0))) = some (csT (r (4 + 14 * i + 0) / 15)) := by
  obtain ⟨h1, h2⟩ := bear v hi
  have := (cs_c _ h1).1
  rwa [← h2] at this
theorem c_sin (v : V r) (hi : i < r 0) : f_C_sine (oN (r (4 + 14 * i + 0))) = some (snT (r (4 + 14 * i + 0) / 15)) := by
  obtain ⟨h1, h2⟩ := bear v hi
  have := (cs_c _ h1).2
  rwa [← h2] at this
theorem m_div15 (v : V r) (hi : i < r 0) : oN (r (4 + 14 * i + 0)) / 15 = oN (r (4 + 14 * i + 0) / 15) := by
  obtain ⟨h1, h2⟩ := bear v hi
  have := cs_15 _ h1
  rwa [← h2] at this
theorem m_step (h : MS N 135 0 r) (hc : ∀ k, N 146 k = cosL.getD k 0) (v : V r) (hi : i < r 0) (s : Int32) : f_M_step N (oN i) s = some (if s = 0 then stN r i else stE r i) := by
  have hv := v.1
  obtain ⟨h1, h2⟩ := bear v hi
  unfold f_M_step
  rw [show (0 : Int32) = oN 0 from rfl, m_of h (by omega) (by decide), bn_s, m_flat h v hi, bn_s, m_div15 v hi, show oN 0 = (0 : Int32) from rfl]
  unfold f_M_step_29
  rw [mcos_N hc, mcos_N hc, (cs_m0 _ h1).1, (cs_m0 _ h1).2, bn_s, bn_s]
  by_cases c : s = 0
  · rw [if_pos c, if_pos c]; rfl
  · rw [if_neg c, if_neg c]; rfl
theorem ru_le (v : V r) : ∀ k, k ≤ r 0 → ruN r k ≤ 1199284 * k := by
  intro k
  induction k with
  | zero => intro _; exact Nat.le_refl _
  | succ k ih =>
    intro hk
    have := ih (by omega)
    have h1 := fl_le v (i := k) (by omega)
    have h2 := sl_le v (i := k) (by omega)
    show ruN r k + flN r k ≤ _
    omega
theorem ru_mono (k : Nat) : ∀ d, ruN r k ≤ ruN r (k + d) := by
  intro d
  induction d with
  | zero => exact Nat.le_refl _
  | succ d ih => exact Nat.le_trans ih (Nat.le_add_right _ _)
theorem e_bd (v : V r) : ∀ k, k ≤ r 0 → bd (1199284 * k) (eW r k) ∧ bd (1199284 * k) (nW r k) := by
  intro k
  induction k with
  | zero => intro _; exact ⟨bd_0 _, bd_0 _⟩
  | succ k ih =>
    intro hk
    have hv := v.1
    obtain ⟨i1, i2⟩ := ih (by omega)
    have h1 := fl_le v (i := k) (by omega)
    have h2 := sl_le v (i := k) (by omega)
    obtain ⟨b1, b2⟩ := bear v (i := k) (by omega)
    have s1 : bd 1199284 (stE r k) := bd_mono (bd_step (by omega) (cs_bd _ b1).2) (by omega)
    have s2 : bd 1199284 (stN r k) := bd_mono (bd_step (by omega) (cs_bd _ b1).1) (by omega)
    exact ⟨bd_mono (bd_add i1 s1 (by omega)) (by omega), bd_mono (bd_add i2 s2 (by omega)) (by omega)⟩
theorem a_bd (v : V r) {k : Nat} (hk : k ≤ r 0) : bd 1000000000 (aE r k) ∧ bd 1000000000 (aN r k) := by
  have hv := v.1
  obtain ⟨e1, e2⟩ := e_bd v k hk
  obtain ⟨f1, f2⟩ := e_bd v (r 0) (Nat.le_refl _)
  have u0 := ru_le v (r 0) (Nat.le_refl _)
  have um : ruN r k ≤ ruN r (r 0) := by
    have := ru_mono (r := r) k (r 0 - k)
    rwa [show k + (r 0 - k) = r 0 by omega] at this
  unfold aE aN
  split
  · exact ⟨bd_mono e1 (by omega), bd_mono e2 (by omega)⟩
  · exact ⟨bd_mono (bd_sub e1 (bd_sh f1 (by omega) um (by omega)) (by omega)) (by omega), bd_mono (bd_sub e2 (bd_sh f2 (by omega) um (by omega)) (by omega)) (by omega)⟩
theorem ew_bd (v : V r) {k : Nat} (hk : k ≤ r 0) : bd 1000000000 (eW r k) ∧ bd 1000000000 (nW r k) := by
  have hv := v.1
  obtain ⟨e1, e2⟩ := e_bd v k hk
  exact ⟨bd_mono e1 (by omega), bd_mono e2 (by omega)⟩
end ROW
