/-! pure: ints as numbers -/
theorem chk_t {α : Type} {p : Prop} [Decidable p] {k : Option α} (h : p) : chk p k = k := by unfold chk; rw [if_pos h]
theorem bn_s {α β : Type} (a : α) (k : α → Option β) : bn (some a) k = k a := rfl
theorem bn2_s {α β : Type} (a : α) (M : Mm) (k : α → Mm → Option β) : bn2 (some (a, M)) k = k a M := rfl
theorem bm_s {β : Type} (m : Mm) (k : Mm → Option β) : bm m k = k m := rfl
theorem ix_oN {n : Nat} (h : n < 2147483648) : ix (Int32.ofNat n) = n := Int32.toNatClampNeg_ofNat_of_lt h
theorem oN_lt {a b : Nat} (ha : a < 2147483648) (hb : b < 2147483648) : Int32.ofNat a < Int32.ofNat b ↔ a < b := Int32.ofNat_lt_iff_lt ha hb
theorem oN_le {a b : Nat} (ha : a < 2147483648) (hb : b < 2147483648) : Int32.ofNat a ≤ Int32.ofNat b ↔ a ≤ b := Int32.ofNat_le_iff_le ha hb
theorem oN_inj {a b : Nat} (ha : a < 2147483648) (hb : b < 2147483648) : Int32.ofNat a = Int32.ofNat b ↔ a = b :=
  ⟨fun h => by have := congrArg ix h; rwa [ix_oN ha, ix_oN hb] at this, congrArg _⟩
theorem oN_nn {a : Nat} (ha : a < 2147483648) : ¬ Int32.ofNat a < 0 := by
  have : ¬ Int32.ofNat a < Int32.ofNat 0 := by rw [oN_lt ha (by decide)]; omega
  exact this
theorem oN_ge0 {a : Nat} (ha : a < 2147483648) : 0 ≤ Int32.ofNat a := by
  have : Int32.ofNat 0 ≤ Int32.ofNat a := by rw [oN_le (by decide) ha]; omega
  exact this
theorem iin_oN {k n : Nat} (hk : k < 2147483648) : iin (Int32.ofNat k) n ↔ k < n := by
  have h1 : (Int32.ofNat k).toNatClampNeg = k := ix_oN hk
  constructor
  · intro h
    have := iin_lt h
    rwa [ix_oN hk] at this
  · rintro h (q | q)
    · exact oN_nn hk q
    · omega
theorem oN_S (k : Nat) : Int32.ofNat k + 1 = Int32.ofNat (k + 1) := by rw [Int32.ofNat_add]; rfl
theorem oN_ex {x : Int32} (h : 0 ≤ x) : ∃ n : Nat, n < 2147483648 ∧ x = Int32.ofNat n := ⟨x.toNatClampNeg, x.toNatClampNeg_lt, (Int32.ofNat_toNatClampNeg x h).symm⟩
theorem i_nl {x y : Int32} : ¬ x < y ↔ y ≤ x := Int32.not_lt
theorem i_nle {x y : Int32} : ¬ x ≤ y ↔ y < x := Int32.not_le
theorem j_nl {x y : Int64} : ¬ x < y ↔ y ≤ x := Int64.not_lt
theorem j_nle {x y : Int64} : ¬ x ≤ y ↔ y < x := Int64.not_le
theorem jN_lt {a b : Nat} (ha : a < 9223372036854775808) (hb : b < 9223372036854775808) : Int64.ofNat a < Int64.ofNat b ↔ a < b := Int64.ofNat_lt_iff_lt ha hb
theorem jN_le {a b : Nat} (ha : a < 9223372036854775808) (hb : b < 9223372036854775808) : Int64.ofNat a ≤ Int64.ofNat b ↔ a ≤ b := Int64.ofNat_le_iff_le ha hb
theorem oN_J {n : Nat} (h : n < 2147483648) : (Int32.ofNat n).toInt64 = Int64.ofNat n := by
  have e : Int32.maxValue.toInt = 2147483647 := by decide
  exact Int32.toInt64_ofNat' (by rw [e]; omega)
/-! the square root -/
def nrt : Nat → Nat → Nat → Nat
  | 0, _, r => r
  | k + 1, n, r => if n < (r + 2 ^ k) * (r + 2 ^ k) then nrt k n r else nrt k n (r + 2 ^ k)
theorem nrt_spec : ∀ (k n r : Nat), r * r ≤ n → n < (r + 2 ^ k) * (r + 2 ^ k) → nrt k n r * nrt k n r ≤ n ∧ n < (nrt k n r + 1) * (nrt k n r + 1) := by
  intro k
  induction k with
  | zero => intro n r h1 h2; exact ⟨h1, h2⟩
  | succ k ih =>
    intro n r h1 h2
    show (if n < (r + 2 ^ k) * (r + 2 ^ k) then nrt k n r else nrt k n (r + 2 ^ k)) * _ ≤ n ∧ _
    rw [show nrt (k + 1) n r = (if n < (r + 2 ^ k) * (r + 2 ^ k) then nrt k n r else nrt k n (r + 2 ^ k)) from rfl]
    by_cases c : n < (r + 2 ^ k) * (r + 2 ^ k)
    · rw [if_pos c]; exact ih n r h1 c
    · rw [if_neg c]
      refine ih n _ (Nat.not_lt.mp c) ?_
      have e : r + 2 ^ (k + 1) = r + 2 ^ k + 2 ^ k := by rw [Nat.pow_succ]; omega
      rw [e] at h2; exact h2
theorem sq_lt {a b : Nat} (h : a * a < b * b) : a < b := by
  by_cases c : a < b
  · exact c
  · have := Nat.mul_le_mul (Nat.not_lt.mp c) (Nat.not_lt.mp c)
    omega
def isq (n : Nat) : Nat := nrt 31 n 0
theorem isq_spec {n : Nat} (h : n < 4611686018427387904) : isq n * isq n ≤ n ∧ n < (isq n + 1) * (isq n + 1) :=
  nrt_spec 31 n 0 (by omega) (by omega)
theorem isq_of {n r : Nat} (h : n < 4611686018427387904) (h1 : r * r ≤ n) (h2 : n < (r + 1) * (r + 1)) : isq n = r := by
  have h3 := isq_spec h
  have a : isq n < r + 1 := sq_lt (Nat.lt_of_le_of_lt h3.1 h2)
  have b : r < isq n + 1 := sq_lt (Nat.lt_of_le_of_lt h1 h3.2)
  omega
theorem isq_sq {r : Nat} (h : r < 2147483648) : isq (r * r) = r :=
  isq_of (by have : r * r ≤ 2147483647 * 2147483647 := Nat.mul_le_mul (by omega) (by omega)
             omega) (Nat.le_refl _) (by rw [Nat.mul_add, Nat.add_mul]; omega)
theorem isq_le {n r : Nat} (h : n < 4611686018427387904) (h1 : n ≤ r * r) : isq n ≤ r := by
  have h3 := isq_spec h
  exact Nat.le_of_lt_succ (sq_lt (Nat.lt_of_le_of_lt (Nat.le_trans h3.1 h1) (by show r * r < (r + 1) * (r + 1); rw [Nat.mul_add, Nat.add_mul]; omega)))
theorem isq_lt {n : Nat} (h : n < 4611686018427387904) : isq n < 2147483648 := by
  have h3 := isq_spec h
  exact sq_lt (Nat.lt_of_le_of_lt h3.1 (Nat.lt_of_lt_of_le h (by decide)))
def bitJ (k : Nat) : Int64 := if k = 0 then 0 else Int64.ofNat (2 ^ (k - 1))
theorem bitJ_sh : ∀ k, k < 33 → bitJ (k + 1) >>> ((1 : Int32).toInt64 &&& 63) = bitJ k := by decide
theorem two_le : ∀ k, k < 31 → 2 ^ k ≤ 1073741824 := by decide
theorem two_pos (k : Nat) : 0 < 2 ^ k := Nat.two_pow_pos k
theorem mroot_l : ∀ (k : Nat), k ≤ 31 → ∀ (f n r : Nat), n < 4611686018427387904 → r + 2 ^ k ≤ 2147483648 → f_M_root_7 (k + 1 + f) (Int64.ofNat n) (Int64.ofNat r) (bitJ k) = some (Int64.ofNat (nrt k n r)) := by
  intro k
  induction k with
  | zero =>
    intro _ f n r hn hr
    rw [show 0 + 1 + f = f + 1 by omega]
    rw [f_M_root_7, if_pos (by decide)]
    rfl
  | succ k ih =>
    intro hk f n r hn hr
    have e : (2 : Nat) ^ (k + 1) = 2 ^ k + 2 ^ k := by rw [Nat.pow_succ]; omega
    have hb : 2 ^ k ≤ 1073741824 := two_le k (by omega)
    have hp := two_pos k
    rw [show k + 1 + 1 + f = (k + 1 + f) + 1 by omega]
    rw [f_M_root_7]
    have h0 : ¬ lg_cmp (bitJ (k + 1)) (0 : Int64) ≤ 0 := by
      rw [lg_cmp_le]
      show ¬ Int64.ofNat (2 ^ k) ≤ Int64.ofNat 0
      rw [jN_le (by omega) (by decide)]
      omega
    rw [if_neg h0]
    have ht : Int64.ofNat r + bitJ (k + 1) = Int64.ofNat (r + 2 ^ k) := by rw [Int64.ofNat_add]; rfl
    have hsq : (r + 2 ^ k) * (r + 2 ^ k) ≤ 2147483648 * 2147483648 := Nat.mul_le_mul (by omega) (by omega)
    rw [ht, ← Int64.ofNat_mul]
    unfold f_M_root_33
    rw [bitJ_sh k (by omega), show nrt (k + 1) n r = (if n < (r + 2 ^ k) * (r + 2 ^ k) then nrt k n r else nrt k n (r + 2 ^ k)) from rfl]
    have hc : 0 < lg_cmp (Int64.ofNat ((r + 2 ^ k) * (r + 2 ^ k))) (Int64.ofNat n) ↔ n < (r + 2 ^ k) * (r + 2 ^ k) := by rw [lg_cmp_gt, jN_lt (by omega) (by omega)]
    by_cases c : n < (r + 2 ^ k) * (r + 2 ^ k)
    · rw [if_pos (hc.mpr c), if_pos c]
      exact ih (by omega) f n r hn (by omega)
    · rw [if_neg (fun q => c (hc.mp q)), if_neg c]
      exact ih (by omega) f n _ hn (by omega)
theorem mroot {n : Nat} (hn : n < 4611686018427387904) : f_M_root (Int64.ofNat n) = some (Int64.ofNat (isq n)) := by
  unfold f_M_root
  show f_M_root_7 ((31 + 1 + 99967) + 1) _ _ _ = _
  rw [f_M_root_7]
  rw [if_neg (by decide)]
  have ht : (0 : Int64) + 2147483648 = Int64.ofNat 2147483648 := by decide
  rw [ht, ← Int64.ofNat_mul]
  unfold f_M_root_33
  rw [if_pos (by rw [lg_cmp_gt, jN_lt (by omega) (by decide)]; omega)]
  exact mroot_l 31 (by decide) 99967 n 0 hn (by decide)
def bitI (k : Nat) : Int32 := if k = 0 then 0 else Int32.ofNat (2 ^ (k - 1))
theorem bitI_sh : ∀ k, k < 31 → bitI (k + 1) >>> ((1 : Int32) &&& 31) = bitI k := by decide
theorem oN_or (a b : Nat) : Int32.ofNat a ||| Int32.ofNat b = Int32.ofNat (a ||| b) := by
  apply Int32.toBitVec_inj.mp
  show BitVec.ofNat 32 a ||| BitVec.ofNat 32 b = BitVec.ofNat 32 (a ||| b)
  exact BitVec.ofNat_or.symm
theorem croot_l : ∀ (k : Nat), k ≤ 31 → ∀ (f n r m : Nat), n < 4611686018427387904 → r = 2 ^ k * m → r + 2 ^ k ≤ 2147483648 → f_C_root_6 (k + 1 + f) (Int64.ofNat n) (Int32.ofNat r) (bitI k) = some (Int32.ofNat (nrt k n r)) := by
  intro k
  induction k with
  | zero =>
    intro _ f n r m hn hm hr
    rw [show 0 + 1 + f = f + 1 by omega]
    rw [f_C_root_6, if_pos (by decide)]
    rfl
  | succ k ih =>
    intro hk f n r m hn hm hr
    have e : (2 : Nat) ^ (k + 1) = 2 ^ k + 2 ^ k := by rw [Nat.pow_succ]; omega
    have hb : 2 ^ k ≤ 1073741824 := two_le k (by omega)
    have hp := two_pos k
    rw [show k + 1 + 1 + f = (k + 1 + f) + 1 by omega]
    rw [f_C_root_6]
    have h0 : ¬ bitI (k + 1) ≤ 0 := by
      show ¬ Int32.ofNat (2 ^ k) ≤ Int32.ofNat 0
      rw [oN_le (by omega) (by decide)]
      omega
    rw [if_neg h0]
    have ht : Int32.ofNat r ||| bitI (k + 1) = Int32.ofNat (r + 2 ^ k) := by
      show Int32.ofNat r ||| Int32.ofNat (2 ^ k) = _
      rw [oN_or, hm, ← Nat.two_pow_add_eq_or_of_lt (by omega)]
    have hsq : (r + 2 ^ k) * (r + 2 ^ k) ≤ 2147483648 * 2147483648 := Nat.mul_le_mul (by omega) (by omega)
    rw [ht, oN_J (by omega), ← Int64.ofNat_mul]
    unfold f_C_root_30
    rw [bitI_sh k (by omega), show nrt (k + 1) n r = (if n < (r + 2 ^ k) * (r + 2 ^ k) then nrt k n r else nrt k n (r + 2 ^ k)) from rfl]
    have hc : 0 < lg_cmp (Int64.ofNat ((r + 2 ^ k) * (r + 2 ^ k))) (Int64.ofNat n) ↔ n < (r + 2 ^ k) * (r + 2 ^ k) := by rw [lg_cmp_gt, jN_lt (by omega) (by omega)]
    by_cases c : n < (r + 2 ^ k) * (r + 2 ^ k)
    · rw [if_pos (hc.mpr c), if_pos c]
      exact ih (by omega) f n r (2 * m) hn (by rw [hm, Nat.pow_succ, Nat.mul_assoc]) (by omega)
    · rw [if_neg (fun q => c (hc.mp q)), if_neg c]
      exact ih (by omega) f n _ (2 * m + 1) hn (by rw [hm, Nat.pow_succ, Nat.mul_add, Nat.mul_assoc, Nat.mul_one]) (by omega)
theorem croot {n : Nat} (hn : n < 4611686018427387904) : f_C_root (Int64.ofNat n) = some (Int32.ofNat (isq n)) := by
  unfold f_C_root
  rw [show fu = 31 + 1 + 99968 from rfl]
  exact croot_l 31 (by decide) _ n 0 0 hn (by omega) (by decide)

/-! signed values -/
theorem j_mul (a b : Int32) : (a.toInt64 * b.toInt64).toInt = a.toInt * b.toInt := by
  rw [Int64.toInt_mul, Int32.toInt_toInt64, Int32.toInt_toInt64]
  have h1 := a.toInt_lt; have h2 := a.le_toInt; have h3 := b.toInt_lt; have h4 := b.le_toInt
  have hA : (a.toInt * b.toInt).natAbs ≤ 2147483648 * 2147483648 := by
    rw [Int.natAbs_mul]
    exact Nat.mul_le_mul (by omega) (by omega)
  apply Int.bmod_eq_of_le <;> omega
theorem j_div {p q : Int64} (hq : q ≠ -1) (h : (p.toInt.tdiv q.toInt).natAbs < 2147483648) : (p / q).toInt32.toInt = p.toInt.tdiv q.toInt := by
  rw [Int64.toInt_toInt32, Int64.toInt_div_of_ne_right _ _ hq]
  apply Int.bmod_eq_of_le <;> omega
theorem i_add {a b : Int32} (h : (a.toInt + b.toInt).natAbs < 2147483648) : (a + b).toInt = a.toInt + b.toInt := by
  rw [Int32.toInt_add]
  apply Int.bmod_eq_of_le <;> omega
theorem i_sub {a b : Int32} (h : (a.toInt - b.toInt).natAbs < 2147483648) : (a - b).toInt = a.toInt - b.toInt := by
  rw [Int32.toInt_sub]
  apply Int.bmod_eq_of_le <;> omega
theorem oN_int {n : Nat} (h : n < 2147483648) : (Int32.ofNat n).toInt = n := Int32.toInt_ofNat_of_lt h
theorem oI_of {z : Int} (h : 0 ≤ z) : Int32.ofInt z = Int32.ofNat z.toNat := by
  rw [← Int32.ofInt_eq_ofNat, Int.toNat_of_nonneg h]
/-- the slope of a read length -/
def slI (x w t : Nat) : Int := (x + x * w / 10000 : Nat) + (((x + x * w / 10000 : Nat) : Int) * ((t : Int) - 15) * 12).tdiv 1000000
theorem slI_b {x w t : Nat} (hx : x ≤ 1089900) (hw : w ≤ 999) (ht : t ≤ 50) : 0 ≤ slI x w t ∧ slI x w t ≤ 1199284 := by
  have h1 : x * w ≤ 1089900 * 999 := Nat.mul_le_mul hx hw
  unfold slI
  generalize hy : x + x * w / 10000 = y
  have hy2 : y ≤ 1198781 := by omega
  have hb : ((y : Int) * ((t : Int) - 15) * 12).natAbs ≤ y * 35 * 12 := by
    rw [Int.natAbs_mul, Int.natAbs_mul, Int.natAbs_natCast]
    exact Nat.mul_le_mul (Nat.mul_le_mul (Nat.le_refl _) (by omega)) (by decide)
  have hd : (((y : Int) * ((t : Int) - 15) * 12).tdiv 1000000).natAbs = ((y : Int) * ((t : Int) - 15) * 12).natAbs / 1000000 := Int.natAbs_tdiv _ _
  omega
theorem sl_eq {x w t : Nat} (hx : x ≤ 1089900) (hw : w ≤ 999) (ht : t ≤ 50) :
    (((Int32.ofNat x).toInt64 + (((Int32.ofNat x).toInt64 * ((Int32.ofNat w).toInt64)) / (10000 : Int64))) + (((((Int32.ofNat x).toInt64 + (((Int32.ofNat x).toInt64 * ((Int32.ofNat w).toInt64)) / (10000 : Int64))) * (((Int32.ofNat t) - (15 : Int32)).toInt64)) * (12 : Int64)) / (1000000 : Int64))).toInt32 = Int32.ofNat (slI x w t).toNat := by
  have h1 : x * w ≤ 1089900 * 999 := Nat.mul_le_mul hx hw
  have m1 : Int64.minValue.toInt = -9223372036854775808 := by decide
  have m2 : Int64.maxValue.toInt = 9223372036854775807 := by decide
  have m3 : Int32.minValue.toInt = -2147483648 := by decide
  have m4 : Int32.maxValue.toInt = 2147483647 := by decide
  rw [oN_J (show x < 2147483648 by omega), oN_J (show w < 2147483648 by omega), ← Int64.ofNat_mul]
  have e1 : Int64.ofNat (x * w) / (10000 : Int64) = Int64.ofNat (x * w / 10000) := by
    rw [Int64.ofNat_div (by omega) (by decide), show Int64.ofNat 10000 = 10000 from rfl]
  rw [e1, ← Int64.ofNat_add]
  have e2 : Int32.ofNat t - 15 = Int32.ofInt ((t : Int) - 15) := by
    rw [Int32.ofInt_sub, Int32.ofInt_eq_ofNat, show Int32.ofInt 15 = 15 from by decide]
  rw [e2, Int32.toInt64_ofInt (by rw [m3]; omega) (by rw [m4]; omega)]
  have hy2 : x + x * w / 10000 ≤ 1198781 := by omega
  have hs := slI_b hx hw ht
  rw [← oI_of hs.1]
  unfold slI
  generalize x + x * w / 10000 = y at hy2 ⊢
  have hb : ((y : Int) * ((t : Int) - 15) * 12).natAbs ≤ y * 35 * 12 := by
    rw [Int.natAbs_mul, Int.natAbs_mul, Int.natAbs_natCast]
    exact Nat.mul_le_mul (Nat.mul_le_mul (Nat.le_refl _) (by omega)) (by decide)
  have e3 : Int64.ofNat y * Int64.ofInt ((t : Int) - 15) * 12 = Int64.ofInt ((y : Int) * ((t : Int) - 15) * 12) := by
    rw [Int64.ofInt_mul, Int64.ofInt_mul, Int64.ofInt_eq_ofNat, show Int64.ofInt 12 = 12 from by decide]
  have e4 : Int64.ofInt ((y : Int) * ((t : Int) - 15) * 12) / (1000000 : Int64) = Int64.ofInt (((y : Int) * ((t : Int) - 15) * 12).tdiv 1000000) :=
    by rw [Int64.ofInt_tdiv (by rw [m1]; omega) (by rw [m2]; omega) (by rw [m1]; omega) (by rw [m2]; omega), show Int64.ofInt 1000000 = 1000000 from by decide]
  rw [e3, e4, ← Int64.ofInt_eq_ofNat, ← Int64.ofInt_add, Int64.toInt32_ofInt]
/-- within -b and b -/
def bd (b : Nat) (x : Int32) : Prop := x.toInt.natAbs ≤ b
theorem bd_0 (b : Nat) : bd b 0 := by unfold bd; exact Nat.zero_le _
theorem bd_mono {a b : Nat} {x : Int32} (h : bd a x) (hb : a ≤ b) : bd b x := Nat.le_trans h hb
theorem bd_add {a b : Nat} {x y : Int32} (hx : bd a x) (hy : bd b y) (h : a + b < 2147483648) : bd (a + b) (x + y) := by
  unfold bd at *
  rw [i_add (by omega)]; omega
theorem bd_sub {a b : Nat} {x y : Int32} (hx : bd a x) (hy : bd b y) (h : a + b < 2147483648) : bd (a + b) (x - y) := by
  unfold bd at *
  rw [i_sub (by omega)]; omega
theorem bd_step {f : Nat} {c : Int32} (hf : f ≤ 100000000) (hc : bd 10000 c) : bd f (((Int32.ofNat f).toInt64 * c.toInt64) / (10000 : Int64)).toInt32 := by
  unfold bd at *
  have h : (((Int32.ofNat f).toInt64 * c.toInt64).toInt.tdiv (10000 : Int64).toInt).natAbs ≤ f := by
    rw [j_mul, oN_int (by omega), Int.natAbs_tdiv, Int.natAbs_mul, Int.natAbs_natCast]
    show f * c.toInt.natAbs / 10000 ≤ f
    have := Nat.mul_le_mul (Nat.le_refl f) hc
    omega
  rw [j_div (by decide) (by omega)]; exact h
/-- the part of a closing error -/
def shW (c u w : Int32) : Int32 := if w = 0 then 0 else ((c.toInt64 * u.toInt64) / w.toInt64).toInt32
theorem bd_sh {c : Int32} {u w C : Nat} (hc : bd C c) (hC : C < 2147483648) (hu : u ≤ w) (hw : w < 2147483648) : bd C (shW c (Int32.ofNat u) (Int32.ofNat w)) := by
  unfold shW
  by_cases e : Int32.ofNat w = 0
  · rw [if_pos e]; exact bd_0 _
  · rw [if_neg e]
    have hw0 : w ≠ 0 := fun q => e (by rw [q]; rfl)
    unfold bd at *
    have h : ((c.toInt64 * (Int32.ofNat u).toInt64).toInt.tdiv (Int32.ofNat w).toInt64.toInt).natAbs ≤ C := by
      rw [j_mul, Int32.toInt_toInt64, oN_int hw, oN_int (by omega), Int.natAbs_tdiv, Int.natAbs_mul, Int.natAbs_natCast, Int.natAbs_natCast]
      have h1 : c.toInt.natAbs * u ≤ C * w := Nat.mul_le_mul hc hu
      exact Nat.div_le_of_le_mul (by rw [Nat.mul_comm w C]; exact h1)
    rw [j_div ?_ (by omega)]
    · exact h
    · intro q
      have := congrArg Int64.toInt q
      rw [Int32.toInt_toInt64, oN_int hw] at this
      have e1 : (-1 : Int64).toInt = -1 := by decide
      rw [e1] at this
      omega
/-- the distance -/
def dW (e n : Int32) : Int32 := Int32.ofNat (isq (e.toInt.natAbs * e.toInt.natAbs + n.toInt.natAbs * n.toInt.natAbs))
theorem d_arg {e n : Int32} (he : bd 1000000000 e) (hn : bd 1000000000 n) : e.toInt64 * e.toInt64 + n.toInt64 * n.toInt64 = Int64.ofNat (e.toInt.natAbs * e.toInt.natAbs + n.toInt.natAbs * n.toInt.natAbs) := by
  unfold bd at *
  have h1 : e.toInt.natAbs * e.toInt.natAbs ≤ 1000000000 * 1000000000 := Nat.mul_le_mul he he
  have h2 : n.toInt.natAbs * n.toInt.natAbs ≤ 1000000000 * 1000000000 := Nat.mul_le_mul hn hn
  have s1 : e.toInt * e.toInt = ((e.toInt.natAbs * e.toInt.natAbs : Nat) : Int) := by rw [Int.natAbs_mul_self]
  have s2 : n.toInt * n.toInt = ((n.toInt.natAbs * n.toInt.natAbs : Nat) : Int) := by rw [Int.natAbs_mul_self]
  apply Int64.toInt_inj.mp
  rw [Int64.toInt_add, j_mul, j_mul, Int64.toInt_ofNat_of_lt (by omega), s1, s2]
  apply Int.bmod_eq_of_le <;> omega
theorem d_lt {e n : Int32} (he : bd 1000000000 e) (hn : bd 1000000000 n) : e.toInt.natAbs * e.toInt.natAbs + n.toInt.natAbs * n.toInt.natAbs < 4611686018427387904 := by
  unfold bd at *
  have h1 : e.toInt.natAbs * e.toInt.natAbs ≤ 1000000000 * 1000000000 := Nat.mul_le_mul he he
  have h2 : n.toInt.natAbs * n.toInt.natAbs ≤ 1000000000 * 1000000000 := Nat.mul_le_mul hn hn
  omega
theorem c_dist {e n : Int32} (he : bd 1000000000 e) (hn : bd 1000000000 n) : f_C_distance e n = some (dW e n) := by
  unfold f_C_distance
  rw [d_arg he hn, croot (d_lt he hn)]; rfl
theorem m_far {e n : Int32} (he : bd 1000000000 e) (hn : bd 1000000000 n) : f_M_far e.toInt64 n.toInt64 = some (dW e n) := by
  unfold f_M_far
  rw [d_arg he hn, mroot (d_lt he hn)]
  show some (Int64.ofNat _).toInt32 = _
  rw [Int64.toInt32_ofNat']; rfl
