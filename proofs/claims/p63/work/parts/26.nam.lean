/-! names -/
theorem pk_dig {f : Nat → Nat} : ∀ (d j : Nat), (∀ k, k < j + 1 + d → 97 ≤ f k ∧ f k ≤ 122) → pkN f (j + 1 + d) / 32 ^ d % 32 = f j - 96 := by
  intro d
  induction d with
  | zero =>
    intro j h
    have := h j (by omega)
    show (pkN f j * 32 + (f j - 96)) / 1 % 32 = _
    omega
  | succ d ih =>
    intro j h
    have h1 := h (j + 1 + d) (by omega)
    show (pkN f (j + 1 + d) * 32 + (f (j + 1 + d) - 96)) / 32 ^ (d + 1) % 32 = _
    rw [Nat.pow_succ, Nat.mul_comm (32 ^ d) 32, ← Nat.div_div_eq_div_mul]
    rw [show (pkN f (j + 1 + d) * 32 + (f (j + 1 + d) - 96)) / 32 = pkN f (j + 1 + d) by omega]
    exact ih j (fun k hk => h k (by omega))
theorem pk_inj {f g : Nat → Nat} : ∀ (n m : Nat), (∀ k, k < n → 97 ≤ f k ∧ f k ≤ 122) → (∀ k, k < m → 97 ≤ g k ∧ g k ≤ 122) → pkN f n = pkN g m → n = m ∧ ∀ k, k < n → f k = g k := by
  intro n
  induction n with
  | zero =>
    intro m hf hg e
    cases m with
    | zero => exact ⟨rfl, fun k hk => absurd hk (Nat.not_lt_zero k)⟩
    | succ m =>
      have := hg m (by omega)
      have e : 0 = pkN g m * 32 + (g m - 96) := e
      omega
  | succ n ih =>
    intro m hf hg e
    cases m with
    | zero =>
      have := hf n (by omega)
      have e : pkN f n * 32 + (f n - 96) = 0 := e
      omega
    | succ m =>
      have h1 := hf n (by omega)
      have h2 := hg m (by omega)
      have e : pkN f n * 32 + (f n - 96) = pkN g m * 32 + (g m - 96) := e
      obtain ⟨rfl, h3⟩ := ih m (fun k hk => hf k (by omega)) (fun k hk => hg k (by omega)) (by omega)
      refine ⟨rfl, fun k hk => ?_⟩
      by_cases c : k < n
      · exact h3 k c
      · obtain rfl : k = n := by omega
        omega
theorem pk_cg {f g : Nat → Nat} : ∀ n, (∀ k, k < n → f k = g k) → pkN f n = pkN g n := by
  intro n
  induction n with
  | zero => intro _; rfl
  | succ n ih =>
    intro h
    show pkN f n * 32 + (f n - 96) = pkN g n * 32 + (g n - 96)
    rw [ih (fun k hk => h k (by omega)), h n (by omega)]
theorem an_31 (n : Nat) : oN n &&& 31 = oN (n % 32) := by
  apply Int32.toBitVec_inj.mp
  show BitVec.ofNat 32 n &&& BitVec.ofNat 32 31 = BitVec.ofNat 32 (n % 32)
  rw [← BitVec.ofNat_and, show (31 : Nat) = 2 ^ 5 - 1 from rfl, Nat.and_two_pow_sub_one_eq_mod]
theorem shl5 (n : Nat) : oN n <<< ((5 : Int32) &&& 31) = oN (n * 32) := by
  rw [show ((5 : Int32) &&& 31) = 5 from by decide]
  apply Int32.toBitVec_inj.mp
  rw [Int32.toBitVec_shiftLeft]
  show BitVec.ofNat 32 n <<< (BitVec.ofNat 32 5).smod 32 = BitVec.ofNat 32 (n * 32)
  rw [show (BitVec.ofNat 32 5).smod 32 = BitVec.ofNat 32 5 from by decide]
  rw [BitVec.shiftLeft_eq', show (BitVec.ofNat 32 5).toNat = 5 from by decide]
  apply BitVec.eq_of_toNat_eq
  rw [BitVec.toNat_shiftLeft, BitVec.toNat_ofNat, BitVec.toNat_ofNat, Nat.shiftLeft_eq, Nat.mod_mul_mod]
/-- v is the first with the property -/
def Fst (P : Nat → Prop) (n : Nat) (v : Int32) : Prop := (∃ i, i < n ∧ P i ∧ (∀ j, j < i → ¬ P j) ∧ v = oN i) ∨ ((∀ j, j < n → ¬ P j) ∧ v = -1)
theorem Fst.eq {P : Nat → Prop} {n : Nat} {v w : Int32} (h : Fst P n v) (h2 : Fst P n w) : v = w := by
  rcases h with ⟨i, hi, p, q, rfl⟩ | ⟨q, rfl⟩
  · rcases h2 with ⟨j, hj, p2, q2, rfl⟩ | ⟨q2, rfl⟩
    · obtain rfl : i = j := by
        rcases Nat.lt_trichotomy i j with c | c | c
        · exact absurd p (q2 i c)
        · exact c
        · exact absurd p2 (q j c)
      rfl
    · exact absurd p (q2 i hi)
  · rcases h2 with ⟨j, hj, p2, q2, rfl⟩ | ⟨q2, rfl⟩
    · exact absurd p2 (q j hj)
    · rfl
theorem Fst.cg {P Q : Nat → Prop} {n : Nat} {v : Int32} (h : Fst P n v) (e : ∀ i, i < n → (P i ↔ Q i)) : Fst Q n v := by
  rcases h with ⟨i, hi, p, q, rfl⟩ | ⟨q, rfl⟩
  · exact Or.inl ⟨i, hi, (e i hi).mp p, fun j hj z => q j hj ((e j (by omega)).mpr z), rfl⟩
  · exact Or.inr ⟨fun j hj z => q j hj ((e j hj).mpr z), rfl⟩
section NAM
variable {M N : Mm} {r : Rw} {a : Nat}
theorem nm_lt (v : V r) {i : Nat} (hi : i < r 0) : nmN r i < 1073741824 := by
  obtain ⟨-, -, -, -, -, -, -, -, h1, h2, h3⟩ := v.2.2.2.2.2 i hi
  exact Nat.lt_of_lt_of_le (pkN_lt _ h3) (p32_le h2)
theorem c_named2 (h : CS M a r) (v : V r) {x : Nat} (hx : x < 1073741824) : ∀ (d i f : Nat), d + i = r 0 → d < f → (∀ j, j < i → ¬ nmN r j = x) → ∃ w, f_S_legNamed_2 a M f (oN x) (oN i) = some w ∧ Fst (fun j => nmN r j = x) (r 0) w := by
  have hv := v.1
  intro d
  induction d with
  | zero =>
    intro i f hd hf hp
    obtain ⟨f, rfl⟩ : ∃ g, f = g + 1 := ⟨f - 1, by omega⟩
    rw [f_S_legNamed_2, h.1, if_pos (by rw [oN_le (by omega) (by omega)]; omega)]
    exact ⟨_, rfl, Or.inr ⟨fun j hj => hp j (by omega), rfl⟩⟩
  | succ d ih =>
    intro i f hd hf hp
    obtain ⟨f, rfl⟩ : ∃ g, f = g + 1 := ⟨f - 1, by omega⟩
    have hi : i < r 0 := by omega
    obtain ⟨n0, -⟩ := h.2.2.2.2.2 i hi
    rw [f_S_legNamed_2, h.1, if_neg (by rw [oN_le (by omega) (by omega)]; omega), chk_t (iin20 v hi), oI20 v hi, n0]
    have hn := nm_lt v hi
    by_cases c : nmN r i = x
    · rw [if_pos (congrArg oN c)]
      exact ⟨_, rfl, Or.inl ⟨i, hi, c, hp, rfl⟩⟩
    · rw [if_neg (fun q => c ((oN_inj (by omega) (by omega)).mp q)), oN_S]
      refine ih (i + 1) f (by omega) (by omega) (fun j hj => ?_)
      by_cases e : j = i
      · subst e; exact c
      · exact hp j (by omega)
theorem c_named (h : CS M a r) (v : V r) {x : Nat} (hx : x < 1073741824) : ∃ w, f_S_legNamed a M (oN x) = some w ∧ Fst (fun j => nmN r j = x) (r 0) w :=
  c_named2 h v hx (r 0) 0 fu (by omega) (by have := v.1; unfold fu; omega) (fun j hj => absurd hj (Nat.not_lt_zero j))
/-- leg i has the name of nl letters w -/
def Nm (r : Rw) (nl : Nat) (w : Nat → Nat) (i : Nat) : Prop := r (4 + 14 * i + 7) = nl ∧ ∀ j, j < nl → r (4 + 14 * i + 8 + j) = w j
theorem nm_iff (v : V r) {i nl : Nat} {w : Nat → Nat} (hi : i < r 0) (hw : ∀ j, j < nl → 97 ≤ w j ∧ w j ≤ 122) : nmN r i = pkN w nl ↔ Nm r nl w i := by
  obtain ⟨-, -, -, -, -, -, -, -, h1, h2, h3⟩ := v.2.2.2.2.2 i hi
  constructor
  · intro e
    obtain ⟨q1, q2⟩ := pk_inj _ _ h3 hw e
    exact ⟨q1, fun j hj => q2 j (by omega)⟩
  · rintro ⟨q1, q2⟩
    unfold nmN
    rw [q1]
    exact pk_cg _ q2
theorem m_named44 (h : MS N 135 0 r) {i nl : Nat} {w : Nat → Nat} (hi : i < 20) (h19 : N 134 19 = oN nl) (hnl : nl ≤ 6) (h147 : ∀ j, j < nl → N 147 j = oN (w j)) (hr : ∀ j, j < nl → r (4 + 14 * i + 8 + j) < 2147483648) (hw : ∀ j, j < nl → w j < 2147483648) (r2 : Int32 → Option Int32) :
    ∀ (d j f : Nat), d + j = nl → d + 1 < f → ∀ (t : Int32), ((t = 1 ∧ r (4 + 14 * i + 7) = nl ∧ ∀ k, k < j → r (4 + 14 * i + 8 + k) = w k) ∨ (t = 0 ∧ ¬ Nm r nl w i)) →
    f_M_named_44 N r2 f (oN i) (oN (4 + 14 * i + 7)) t (oN j) = (if (r (4 + 14 * i + 7) = nl ∧ ∀ j, j < nl → r (4 + 14 * i + 8 + j) = w j) then some (oN i) else r2 (oN (i + 1))) := by
  intro d
  induction d with
  | zero =>
    intro j f hd hf t ht
    obtain ⟨f, rfl⟩ : ∃ g, f = g + 1 := ⟨f - 1, by omega⟩
    rw [f_M_named_44]
    rcases ht with ⟨rfl, h1, h2⟩ | ⟨rfl, h1⟩
    · rw [if_neg (by decide), h19, if_pos (by rw [oN_le (by omega) (by omega)]; omega), if_pos ⟨h1, fun k hk => h2 k (by omega)⟩]
      rfl
    · rw [if_pos rfl, if_neg (show ¬ (r (4 + 14 * i + 7) = nl ∧ ∀ j, j < nl → r (4 + 14 * i + 8 + j) = w j) from h1)]
      unfold f_M_named_90
      rw [if_pos rfl, oN_S]
  | succ d ih =>
    intro j f hd hf t ht
    obtain ⟨f, rfl⟩ : ∃ g, f = g + 1 := ⟨f - 1, by omega⟩
    rw [f_M_named_44]
    rcases ht with ⟨rfl, h1, h2⟩ | ⟨rfl, h1⟩
    · have e : oN (4 + 14 * i + 7) + oN j + 1 = oN (4 + 14 * i + 8 + j) := by
        rw [← oN_add, oN_S]; congr 1; omega
      rw [if_neg (by decide), h19, if_neg (by rw [oN_le (by omega) (by omega)]; omega), e, chk_t ((iin_oN (by omega)).mpr (by omega)), chk_t ((iin_oN (by omega)).mpr (by omega)), oI (by omega), oI (by omega), m_at h (by omega), h147 j (by omega)]
      unfold f_M_named_83
      by_cases c : r (4 + 14 * i + 8 + j) = w j
      · rw [if_pos (congrArg oN c), oN_S]
        refine ih (j + 1) f (by omega) (by omega) 1 (Or.inl ⟨rfl, h1, fun k hk => ?_⟩)
        by_cases e : k = j
        · subst e; exact c
        · exact h2 k (by omega)
      · rw [if_neg (fun q => c ((oN_inj (hr j (by omega)) (hw j (by omega))).mp q)), oN_S]
        exact ih (j + 1) f (by omega) (by omega) 0 (Or.inr ⟨rfl, fun q => c (q.2 j (by omega))⟩)
    · rw [if_pos rfl, if_neg (show ¬ (r (4 + 14 * i + 7) = nl ∧ ∀ j, j < nl → r (4 + 14 * i + 8 + j) = w j) from h1)]
      unfold f_M_named_90
      rw [if_pos rfl, oN_S]
theorem vl_ch (v : V r) {i j nl : Nat} (hi : i < r 0) (e : r (4 + 14 * i + 7) = nl) (hj : j < nl) : r (4 + 14 * i + 8 + j) < 2147483648 := by
  obtain ⟨-, -, -, -, -, -, -, -, h1, h2, h3⟩ := v.2.2.2.2.2 i hi
  have := h3 j (by omega)
  omega
theorem m_named2 (h : MS N 135 0 r) (v : V r) {nl : Nat} {w : Nat → Nat} (h19 : N 134 19 = oN nl) (hnl : nl ≤ 6) (h147 : ∀ j, j < nl → N 147 j = oN (w j)) (hw : ∀ j, j < nl → w j < 2147483648) :
    ∀ (d i f : Nat), d + i = r 0 → d < f → (∀ j, j < i → ¬ Nm r nl w j) → ∃ x, f_M_named_2 N f (oN i) = some x ∧ Fst (Nm r nl w) (r 0) x := by
  have hv := v.1
  intro d
  induction d with
  | zero =>
    intro i f hd hf hp
    obtain ⟨f, rfl⟩ : ∃ g, f = g + 1 := ⟨f - 1, by omega⟩
    rw [f_M_named_2, show ix (0 : Int32) = 0 from rfl, m_at h (by decide), if_pos (by rw [oN_le (by omega) (by omega)]; omega)]
    exact ⟨_, rfl, Or.inr ⟨fun j hj => hp j (by omega), rfl⟩⟩
  | succ d ih =>
    intro i f hd hf hp
    obtain ⟨f, rfl⟩ : ∃ g, f = g + 1 := ⟨f - 1, by omega⟩
    have hi : i < r 0 := by omega
    have w7 : r (4 + 14 * i + 7) ≤ 6 := (v.2.2.2.2.2 i hi).2.2.2.2.2.2.2.2.2.1
    have e : (4 : Int32) + 14 * oN i + 7 = oN (4 + 14 * i + 7) := by
      rw [oN_add, oN_add, oN_mul]; rfl
    rw [f_M_named_2, show ix (0 : Int32) = 0 from rfl, m_at h (by decide), if_neg (by rw [oN_le (by omega) (by omega)]; omega), e, chk_t ((iin_oN (by omega)).mpr (by omega)), oI (by omega), m_at h (by omega), h19]
    unfold f_M_named_40
    by_cases c : r (4 + 14 * i + 7) = nl
    · rw [if_pos (congrArg oN c), show (0 : Int32) = oN 0 from rfl, m_named44 h (lt20 v hi) h19 hnl h147 (fun j hj => vl_ch v hi c hj) hw _ nl 0 fu (by omega) (by unfold fu; omega) 1 (Or.inl ⟨rfl, c, fun k hk => absurd hk (Nat.not_lt_zero k)⟩)]
      by_cases c2 : (r (4 + 14 * i + 7) = nl ∧ ∀ j, j < nl → r (4 + 14 * i + 8 + j) = w j)
      · rw [if_pos c2]
        exact ⟨_, rfl, Or.inl ⟨i, hi, c2, hp, rfl⟩⟩
      · rw [if_neg c2]
        refine ih (i + 1) f (by omega) (by omega) (fun j hj => ?_)
        by_cases e : j = i
        · subst e; exact c2
        · exact hp j (by omega)
    · rw [if_neg (fun q => c ((oN_inj (by omega) (by omega)).mp q))]
      have hne : ¬ Nm r nl w i := fun q => c q.1
      rw [show fu = 99999 + 1 from rfl, f_M_named_44, if_pos rfl]
      unfold f_M_named_90
      rw [if_pos rfl, oN_S]
      refine ih (i + 1) f (by omega) (by omega) (fun j hj => ?_)
      by_cases e : j = i
      · subst e; exact hne
      · exact hp j (by omega)
theorem m_named (h : MS N 135 0 r) (v : V r) {nl : Nat} {w : Nat → Nat} (h19 : N 134 19 = oN nl) (hnl : nl ≤ 6) (h147 : ∀ j, j < nl → N 147 j = oN (w j)) (hw : ∀ j, j < nl → w j < 2147483648) :
    ∃ x, f_M_named N = some x ∧ Fst (Nm r nl w) (r 0) x :=
  m_named2 h v h19 hnl h147 hw (r 0) 0 fu (by omega) (by have := v.1; unfold fu; omega) (fun j hj => absurd hj (Nat.not_lt_zero j))
/-! a name out of the text -/
theorem by_let : ∀ c, c ≤ 255 → (97 ≤ c ∧ c ≤ 122 → ¬ ((oN c).toInt8.toInt32 - 96 < 1) ∧ (oN c).toInt8.toInt32 - 96 ≤ 26 ∧ (oN c).toInt8.toInt32 - 96 = oN (c - 96)) ∧ (¬ (97 ≤ c ∧ c ≤ 122) → (oN c).toInt8.toInt32 - 96 < 1 ∨ ¬ ((oN c).toInt8.toInt32 - 96 ≤ 26)) := by
  intro c hc
  have : ∀ c, c < 256 → (97 ≤ c ∧ c ≤ 122 → ¬ ((oN c).toInt8.toInt32 - 96 < 1) ∧ (oN c).toInt8.toInt32 - 96 ≤ 26 ∧ (oN c).toInt8.toInt32 - 96 = oN (c - 96)) ∧ (¬ (97 ≤ c ∧ c ≤ 122) → (oN c).toInt8.toInt32 - 96 < 1 ∨ ¬ ((oN c).toInt8.toInt32 - 96 ≤ 26)) := by decide +kernel
  exact this c (by omega)
theorem c_pk20 {tx : Nat → Nat} {s e : Nat} (he : e ≤ 900) (ht : ∀ k, k < e → tx k ≤ 255 ∧ M 3 k = (oN (tx k)).toInt8.toInt32) :
    ∀ (d i f : Nat), s + i + d = e → i + d ≤ 6 → d < f → (∀ j, j < i → 97 ≤ tx (s + j) ∧ tx (s + j) ≤ 122) →
    f_C_packedName_20 M f (oN e) (oN (pkN (fun j => tx (s + j)) i)) (oN (s + i)) = some (if (∀ j, j < i + d → 97 ≤ tx (s + j) ∧ tx (s + j) ≤ 122) then oN (pkN (fun j => tx (s + j)) (i + d)) else -1) := by
  intro d
  induction d with
  | zero =>
    intro i f h1 h6 hf hp
    obtain ⟨f, rfl⟩ : ∃ g, f = g + 1 := ⟨f - 1, by omega⟩
    rw [f_C_packedName_20, if_pos (by rw [oN_le (by omega) (by omega)]; omega), if_pos (fun j hj => hp j (by omega))]; rfl
  | succ d ih =>
    intro i f h1 h6 hf hp
    obtain ⟨f, rfl⟩ : ∃ g, f = g + 1 := ⟨f - 1, by omega⟩
    obtain ⟨t1, t2⟩ := ht (s + i) (by omega)
    obtain ⟨b1, b2⟩ := by_let _ t1
    rw [f_C_packedName_20, if_neg (by rw [oN_le (by omega) (by omega)]; omega), chk_t ((iin_oN (by omega)).mpr (by omega)), oI (by omega), t2]
    unfold f_C_packedName_48
    by_cases c : 97 ≤ tx (s + i) ∧ tx (s + i) ≤ 122
    · obtain ⟨c1, c2, c3⟩ := b1 c
      rw [if_neg c1, if_pos c2, c3, shl5, ← oN_add, oN_S]
      have := ih (i + 1) f (by omega) (by omega) (by omega) (fun j hj => by
        by_cases e : j = i
        · subst e; exact c
        · exact hp j (by omega))
      rw [show s + i + 1 = s + (i + 1) by omega, show i + (d + 1) = i + 1 + d by omega]
      exact this
    · have hnn : ¬ ∀ j, j < i + (d + 1) → 97 ≤ tx (s + j) ∧ tx (s + j) ≤ 122 := fun q => c (q i (by omega))
      rw [if_neg hnn]
      by_cases c1 : (oN (tx (s + i))).toInt8.toInt32 - 96 < 1
      · rw [if_pos c1]
      · rw [if_neg c1]
        rcases b2 c with z | z
        · exact absurd z c1
        · rw [if_neg z]
theorem c_packed {tx : Nat → Nat} {s e : Nat} (hs : s ≤ e) (he : e ≤ 900) (ht : ∀ k, k < e → tx k ≤ 255 ∧ M 3 k = (oN (tx k)).toInt8.toInt32) :
    f_C_packedName M (oN s) (oN e) = some (if (1 ≤ e - s ∧ e - s ≤ 6 ∧ ∀ j, j < e - s → 97 ≤ tx (s + j) ∧ tx (s + j) ≤ 122) then oN (pkN (fun j => tx (s + j)) (e - s)) else -1) := by
  unfold f_C_packedName f_C_packedName_13
  by_cases c1 : e ≤ s
  · rw [if_pos ((oN_le (by omega) (by omega)).mpr c1), if_neg (by omega)]
  · have e1 : oN e - oN s = oN (e - s) := (Int32.ofNat_sub e s hs).symm
    rw [if_neg (fun q => c1 ((oN_le (by omega) (by omega)).mp q)), e1, show (6 : Int32) = oN 6 from rfl]
    by_cases c2 : e - s ≤ 6
    · rw [if_pos ((oN_le (by omega) (by omega)).mpr c2)]
      have := c_pk20 (s := s) he ht (e - s) 0 fu (by omega) (by omega) (by unfold fu; omega) (fun j hj => absurd hj (Nat.not_lt_zero j))
      rw [Nat.zero_add] at this
      rw [show (0 : Int32) = oN (pkN (fun j => tx (s + j)) 0) from rfl]
      refine this.trans ?_
      by_cases c3 : ∀ j, j < e - s → 97 ≤ tx (s + j) ∧ tx (s + j) ≤ 122
      · rw [if_pos c3, if_pos ⟨by omega, c2, c3⟩]
      · rw [if_neg c3, if_neg (fun q => c3 q.2.2)]
    · rw [if_neg (fun q => c2 ((oN_le (by omega) (by omega)).mp q)), if_neg (fun q => c2 q.2.1)]
theorem TX.fn (h : TX M N) : ∃ (len : Nat) (tx : Nat → Nat), len ≤ 900 ∧ M 0 2 = oN len ∧ N 134 14 = oN len ∧ ∀ k, k < len → tx k ≤ 255 ∧ M 3 k = (oN (tx k)).toInt8.toInt32 ∧ N 141 k = oN (tx k) := by
  obtain ⟨len, h1, h2, h3, h4⟩ := h
  refine ⟨len, fun k => ix (N 141 k), h1, h2, h3, fun k hk => ?_⟩
  obtain ⟨c, q1, q2, q3⟩ := h4 k hk
  have e : ix (N 141 k) = c := by rw [q2, oI (by omega)]
  show ix (N 141 k) ≤ 255 ∧ M 3 k = (oN (ix (N 141 k))).toInt8.toInt32 ∧ N 141 k = oN (ix (N 141 k))
  rw [e]
  exact ⟨q1, q3, q2⟩
theorem s_nameByte (h : RI M N) (l l2 : Int32) : ∃ o v N1, f_C_nameByte M l l2 = some o ∧ f_M_nameByte l l2 N = some (v, N1) ∧ RI M N1 ∧ An 3 9 o v (N1 134 7) := by
  refine s_leg (l := l) h (fun q => by unfold f_C_nameByte; rw [q]; rfl) (fun q => ⟨0, by unfold f_M_nameByte; rw [q]; rfl⟩) (fun r i p hi e q1 q2 m => ?_)
  obtain ⟨n0, b1, z2, p3, p4, l5, d6, r7, t8⟩ := p.2.1.2.2.2.2.2 i hi
  obtain ⟨-, -, -, -, -, -, -, -, w1, w2, w3⟩ := p.1.2.2.2.2.2 i hi
  have n0 : M 16 i = oN (nmN r i) := n0
  have hn := nm_lt p.1 hi
  have hlen : f_C_nameLength (oN (nmN r i)) = some (oN (r (4 + 14 * i + 7))) := by
    have := pk_len (f := fun j => r (4 + 14 * i + 8 + j)) (r (4 + 14 * i + 7)) w2 w3 fu 0 (by unfold fu; omega)
    rw [Nat.zero_add] at this
    exact this
  have h20 := lt20 p.1 hi
  by_cases c : ∃ j, j < r (4 + 14 * i + 7) ∧ l2 = oN j
  · obtain ⟨j, hj, rfl⟩ := c
    refine ⟨oN (r (4 + 14 * i + 8 + j)), ?_, ?_⟩
    · unfold f_C_nameByte; rw [q1, e]
      show chk _ _ = _
      rw [chk_t (iin20 p.1 hi), oI20 p.1 hi, n0, hlen, bn_s, c_between, if_pos ((in_p (by omega)).mpr ⟨j, hj, rfl⟩), bn_s, if_neg (by decide)]
      rw [oN_P (by omega), show oN (r (4 + 14 * i + 7) - 1) - oN j = oN (r (4 + 14 * i + 7) - 1 - j) from (Int32.ofNat_sub _ _ (by omega)).symm, show (5 : Int32) = oN 5 from rfl, ← oN_mul, sh_oN (by omega) _ (by omega), an_31, Nat.shiftRight_eq_div_pow]
      have e5 : 2 ^ (5 * (r (4 + 14 * i + 7) - 1 - j)) = 32 ^ (r (4 + 14 * i + 7) - 1 - j) := by rw [Nat.pow_mul]
      have hd := pk_dig (f := fun j => r (4 + 14 * i + 8 + j)) (r (4 + 14 * i + 7) - 1 - j) j (fun k hk => w3 k (by omega))
      rw [show j + 1 + (r (4 + 14 * i + 7) - 1 - j) = r (4 + 14 * i + 7) by omega] at hd
      rw [e5]
      unfold nmN
      rw [hd, show (96 : Int32) = oN 96 from rfl, ← oN_add]
      have := w3 j hj
      congr 3; omega
    · unfold f_M_nameByte f_M_nameByte_40
      rw [q2, e, bn2_s, if_pos rfl, m_of7 m h20, bn_s, m_isIn, if_pos ((in_p (by omega)).mpr ⟨j, hj, rfl⟩), bn_s, if_neg (by decide), show (8 : Int32) + oN j = oN (8 + j) from (oN_add 8 j).symm]
      by_cases c6 : 8 + j < 14
      · rw [m_of m h20 c6, ← Nat.add_assoc]; rfl
      · omega
  · refine ⟨-1, ?_, ?_⟩
    · unfold f_C_nameByte; rw [q1, e]
      show chk _ _ = _
      rw [chk_t (iin20 p.1 hi), oI20 p.1 hi, n0, hlen, bn_s, c_between, if_neg (fun q => c ((in_p (by omega)).mp q)), bn_s, if_pos rfl]
    · unfold f_M_nameByte f_M_nameByte_40
      rw [q2, e, bn2_s, if_pos rfl, m_of7 m h20, bn_s, m_isIn, if_neg (fun q => c ((in_p (by omega)).mp q)), bn_s, if_pos rfl]
theorem m_fl30 {len : Nat} {tx : Nat → Nat} (hl : len ≤ 6) : ∀ (d i f : Nat) (N : Mm), d + i = len → d < f → N 134 19 = oN len → (∀ k, k < len → N 141 k = oN (tx k)) → (∀ k, k < i → N 147 k = oN (tx k)) →
    ∃ N', f_M_findLeg_30 f (oN i) N = bn (f_M_named N') (fun r57 => some (r57, N')) ∧ N' 134 19 = oN len ∧ (∀ k, k < len → N' 147 k = oN (tx k)) ∧ Fr [(147, 147, 0)] N N' := by
  intro d
  induction d with
  | zero =>
    intro i f N hd hf h1 h2 h3
    obtain ⟨f, rfl⟩ : ∃ g, f = g + 1 := ⟨f - 1, by omega⟩
    refine ⟨N, ?_, h1, fun k hk => h3 k (by omega), Fr.rf _ _⟩
    rw [f_M_findLeg_30, h1, if_pos (by rw [oN_le (by omega) (by omega)]; omega)]
  | succ d ih =>
    intro i f N hd hf h1 h2 h3
    obtain ⟨f, rfl⟩ : ∃ g, f = g + 1 := ⟨f - 1, by omega⟩
    obtain ⟨N', e1, e2, e3, e4⟩ := ih (i + 1) f (wr N 147 i (oN (tx i))) (by omega) (by omega) (by rw [wr_n (by omega)]; exact h1) (fun k hk => by rw [wr_n (by omega)]; exact h2 k hk) (fun k hk => by
      by_cases e : k = i
      · subst e; rw [wr_s]
      · rw [wr_n (by omega)]; exact h3 k (by omega))
    refine ⟨N', ?_, e2, e3, (fr_wr rfl (by rfl)).tr e4⟩
    rw [f_M_findLeg_30, h1, if_neg (by rw [oN_le (by omega) (by omega)]; omega), chk_t ((iin_oN (by omega)).mpr (by omega)), chk_t ((iin_oN (by omega)).mpr (by omega)), oI (by omega), bm_s, h2 i (by omega), oN_S]
    exact e1
theorem s_findLeg (h : RI M N) : ∃ v N1, f_C_findLeg M = some v ∧ f_M_findLeg N = some (v, N1) ∧ RI M N1 := by
  obtain ⟨r, v, c, m⟩ := h.1
  obtain ⟨len, tx, h1, h2, h3, h4⟩ := TX.fn h.2.2.2.1
  unfold f_C_findLeg f_C_findLeg_30 f_M_findLeg
  rw [bm_s, wr_n (by decide), h3, m_isIn, bn_s, h2, show (0 : Int32) = oN 0 from rfl, c_packed (Nat.zero_le _) h1 (fun k hk => ⟨(h4 k hk).1, (h4 k hk).2.1⟩), bn_s, show oN 0 = (0 : Int32) from rfl]
  simp only [Nat.sub_zero, Nat.zero_add]
  by_cases c1 : 1 ≤ len ∧ len ≤ 6
  · rw [if_pos (show (1 : Int32) ≤ oN len ∧ oN len ≤ 6 from ⟨(oN_le (a := 1) (by omega) (by omega)).mpr c1.1, (oN_le (b := 6) (by omega) (by omega)).mpr c1.2⟩), if_neg (show ¬ (1 : Int32) = 0 by decide), bm_s]
    obtain ⟨N', e1, e2, e3, e4⟩ := m_fl30 c1.2 len 0 fu (wr (wr N 134 7 0) 134 19 (oN len)) (by omega) (by unfold fu; omega) (wr_s _ _ _ _) (fun k hk => by rw [wr_n (by omega), wr_n (by omega)]; exact (h4 k hk).2.2) (fun k hk => absurd hk (Nat.not_lt_zero k))
    have f9 : Fr [(134, 134, 8), (134, 134, 20), (147, 147, 0)] N N' := (fr_wr rfl (by rfl)).tr ((fr_wr rfl (by rfl)).tr (e4.up (by rfl)))
    have m' : MS N' 135 0 r := m.fr f9 (by rfl)
    obtain ⟨x, x1, x2⟩ := m_named m' v e2 c1.2 e3 (fun j hj => by have := (h4 j (by omega)).1; omega)
    have h9 : RI M N' := h.frN f9 (by rfl)
    by_cases c3 : ∀ j, j < len → 97 ≤ tx j ∧ tx j ≤ 122
    · have hx : pkN tx len < 1073741824 := Nat.lt_of_lt_of_le (pkN_lt _ c3) (p32_le c1.2)
      have hP : 1 ≤ len ∧ len ≤ 6 ∧ ∀ j, j < len → 97 ≤ tx j ∧ tx j ≤ 122 := ⟨c1.1, c1.2, c3⟩
      have hne : ¬ oN (pkN (fun j => tx j) len) = -1 := fun q => by
        have := congrArg Int32.toInt q
        rw [oN_int (by show pkN tx len < _; omega)] at this
        have e1 : (-1 : Int32).toInt = -1 := by decide
        omega
      rw [if_pos hP, if_neg hne]
      obtain ⟨y, y1, y2⟩ := c_named c v hx
      have hxy : y = x := (y2.cg (fun i hi => nm_iff v hi c3)).eq x2
      subst hxy
      refine ⟨y, N', by rw [y1]; rfl, ?_, h9⟩
      refine e1.trans ?_
      rw [x1]; rfl
    · have hP : ¬ (1 ≤ len ∧ len ≤ 6 ∧ ∀ j, j < len → 97 ≤ tx j ∧ tx j ≤ 122) := fun q => c3 q.2.2
      rw [if_neg hP, if_pos rfl]
      have hx : x = -1 := by
        rcases x2 with ⟨i, hi, p, -, -⟩ | ⟨-, e⟩
        · exfalso
          apply c3
          intro j hj
          obtain ⟨-, -, -, -, -, -, -, -, w1, w2, w3⟩ := v.2.2.2.2.2 i hi
          have := w3 j (by rw [p.1]; exact hj)
          rw [p.2 j hj] at this
          exact this
        · exact e
      refine ⟨-1, N', rfl, ?_, h9⟩
      refine e1.trans ?_
      rw [x1, hx]; rfl
  · rw [if_neg (fun q : (1 : Int32) ≤ oN len ∧ oN len ≤ 6 => c1 ⟨(oN_le (a := 1) (by omega) (by omega)).mp q.1, (oN_le (b := 6) (by omega) (by omega)).mp q.2⟩), if_pos rfl, if_neg (show ¬ (1 ≤ len ∧ len ≤ 6 ∧ ∀ j, j < len → 97 ≤ tx j ∧ tx j ≤ 122) from fun q => c1 ⟨q.1, q.2.1⟩), if_pos rfl]
    exact ⟨-1, _, rfl, rfl, h.n7 0⟩
end NAM
