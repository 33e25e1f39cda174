/-! output and input -/
section OUT
variable {M N : Mm} {r : Rw}
def Ou (M N : Mm) (len : Nat) : Prop := M 0 6 = oN len ∧ N 134 15 = oN len ∧ ∀ k, k < len → M 14 k = N 142 k
theorem by_id : ∀ c, c < 128 → (oN c).toInt8.toInt32.toInt8.toInt32 = oN c := by decide +kernel
theorem s_byte {len c : Nat} (h : Ou M N len) (hl : len < 512) (hc : c < 128) : ∃ M1 N1, f_C_writeByte (oN c) M = some M1 ∧ f_M_out (oN c) N = some N1 ∧ Ou M1 N1 (len + 1) := by
  obtain ⟨h1, h2, h3⟩ := h
  unfold f_C_writeByte f_C_writeByte_31 f_M_out
  rw [h1, h2, if_neg (show ¬ (512 : Int32) ≤ oN len by rw [show (512 : Int32) = oN 512 from rfl, oN_le (by omega) (by omega)]; omega), chk_t ((iin_oN (by omega)).mpr (by omega)), chk_t ((iin_oN (by omega)).mpr (by omega)), oI (by omega), by_id c hc, bm_s, bm_s, bm_s, bm_s, wr_n (by omega), wr_n (by omega), h1, h2, oN_S]
  refine ⟨_, _, rfl, rfl, wr_s _ _ _ _, wr_s _ _ _ _, fun k hk => ?_⟩
  by_cases e : k = len
  · subst e; simp [wr]
  · simp [wr, e]; exact h3 k (by omega)
theorem p10_le : ∀ j, j < 10 → 10 ^ j ≤ 1000000000 := by decide
theorem dv_oN {a b : Nat} (ha : a < 2147483648) (hb : b < 2147483648) : oN a / oN b = oN (a / b) := (Int32.ofNat_div ha hb).symm
theorem s_dig {a : Nat} (ha : a < 2147483648) : ∀ (j : Nat), j < 10 → ∀ (f1 f2 : Nat) (M N : Mm) (len : Nat), j + 1 < f1 → j + 1 < f2 → Ou M N len → len + j + 1 ≤ 512 → (j = 0 ∨ 10 ^ j ≤ a) →
    ∃ M1 N1, f_C_writeNumber_19 f1 (oN a) (oN (10 ^ j)) M = some M1 ∧ f_M_outNumber_33 f2 (oN a) (oN (10 ^ j)) N = some N1 ∧ Ou M1 N1 (len + j + 1) := by
  have step : ∀ (j : Nat), j < 10 → ∀ (M N : Mm) (len : Nat), Ou M N len → len < 512 → ∃ M1 N1, f_C_writeByte ((48 : Int32) + ((oN a / oN (10 ^ j)) - (oN a / oN (10 ^ j)) / (10 : Int32) * (10 : Int32))) M = some M1 ∧ f_M_out ((48 : Int32) + ((oN a / oN (10 ^ j)) - (oN a / oN (10 ^ j)) / (10 : Int32) * (10 : Int32))) N = some N1 ∧ Ou M1 N1 (len + 1) := by
    intro j hj M N len h hl
    have hp := p10_le j hj
    have hd : a / 10 ^ j ≤ a := Nat.div_le_self _ _
    rw [dv_oN ha (by omega), show (10 : Int32) = oN 10 from rfl, rem_oN (by omega) (by omega), show (48 : Int32) = oN 48 from rfl, ← oN_add]
    exact s_byte h hl (by omega)
  intro j
  induction j with
  | zero =>
    intro _ f1 f2 M N len h1 h2 h hl hj
    obtain ⟨f1, rfl⟩ : ∃ g, f1 = g + 2 := ⟨f1 - 2, by omega⟩
    obtain ⟨f2, rfl⟩ : ∃ g, f2 = g + 2 := ⟨f2 - 2, by omega⟩
    obtain ⟨M1, N1, e1, e2, e3⟩ := step 0 (by decide) M N len h (by omega)
    refine ⟨M1, N1, ?_, ?_, e3⟩
    · rw [show f1 + 2 = (f1 + 1) + 1 from rfl, f_C_writeNumber_19, if_neg (by decide)]
      unfold f_C_writeNumber_33 f_C_writeNumber_46
      have e : (bn (f_C_writeByte ((48 : Int32) + ((oN a / oN (10 ^ 0)) - (oN a / oN (10 ^ 0)) / (10 : Int32) * (10 : Int32))) M) fun M43 => f_C_writeNumber_19 (f1 + 1) (oN a) (oN (10 ^ 0) / 10) M43) = some M1 := by
        rw [e1, bn_s, f_C_writeNumber_19, if_pos (by decide)]
      rw [chk_t (by decide)]
      split
      · exact e
      · rw [if_pos (by rfl)]; exact e
    · rw [show f2 + 2 = (f2 + 1) + 1 from rfl, f_M_outNumber_33, if_neg (by decide), chk_t (by decide), e2, bn_s, f_M_outNumber_33, if_pos (by decide)]
  | succ j ih =>
    intro hj f1 f2 M N len h1 h2 h hl hj2
    obtain ⟨f1, rfl⟩ : ∃ g, f1 = g + 1 := ⟨f1 - 1, by omega⟩
    obtain ⟨f2, rfl⟩ : ∃ g, f2 = g + 1 := ⟨f2 - 1, by omega⟩
    have hp := p10_le (j + 1) hj
    have hp0 : 0 < 10 ^ (j + 1) := Nat.pow_pos (by decide)
    have hp1 : 0 < 10 ^ j := Nat.pow_pos (by decide)
    have hpe : 10 ^ (j + 1) = 10 ^ j * 10 := Nat.pow_succ 10 j
    obtain ⟨M1, N1, e1, e2, e3⟩ := step (j + 1) hj M N len h (by omega)
    obtain ⟨M2, N2, g1, g2, g3⟩ := ih (by omega) f1 f2 M1 N1 (len + 1) (by omega) (by omega) e3 (by omega) (by omega)
    have d10 : oN (10 ^ (j + 1)) / 10 = oN (10 ^ j) := by
      rw [show (10 : Int32) = oN 10 from rfl, dv_oN (by omega) (by decide)]
      congr 1; omega
    have n0 : ¬ oN (10 ^ (j + 1)) ≤ 0 := by rw [show (0 : Int32) = oN 0 from rfl, oN_le (by omega) (by omega)]; omega
    have nz : ¬ oN (10 ^ (j + 1)) = 0 := by rw [oN0 (by omega)]; omega
    refine ⟨M2, N2, ?_, ?_, by rw [show len + (j + 1) + 1 = len + 1 + j + 1 by omega]; exact g3⟩
    · rw [f_C_writeNumber_19, if_neg n0, if_pos ((oN_le (by omega) ha).mpr (by omega))]
      unfold f_C_writeNumber_33 f_C_writeNumber_46
      rw [chk_t nz, e1, bn_s, d10]
      exact g1
    · rw [f_M_outNumber_33, if_neg n0, chk_t nz, e2, bn_s, d10]
      exact g2
theorem first_p {a : Nat} : ∀ n, (∃ t, t < n ∧ a / 10 ^ t ≤ 9 ∧ ∀ i, i < t → 9 < a / 10 ^ i) ∨ ∀ i, i < n → 9 < a / 10 ^ i := by
  intro n
  induction n with
  | zero => exact Or.inr fun i hi => absurd hi (Nat.not_lt_zero i)
  | succ n ih =>
    rcases ih with ⟨t, ht, h1, h2⟩ | h
    · exact Or.inl ⟨t, by omega, h1, h2⟩
    · by_cases c : a / 10 ^ n ≤ 9
      · exact Or.inl ⟨n, by omega, c, h⟩
      · refine Or.inr fun i hi => ?_
        by_cases e : i = n
        · subst e; omega
        · exact h i (by omega)
theorem m_find {a t : Nat} (ha : a < 2147483648) (ht : t < 10) (h1 : a / 10 ^ t ≤ 9) (h2 : ∀ i, i < t → 9 < a / 10 ^ i) : ∀ (d i f : Nat), d + i = t → d < f → f_M_outNumber_17 f (oN a) (oN (10 ^ i)) N = f_M_outNumber_33 fu (oN a) (oN (10 ^ t)) N := by
  intro d
  induction d with
  | zero =>
    intro i f hd hf
    obtain ⟨f, rfl⟩ : ∃ g, f = g + 1 := ⟨f - 1, by omega⟩
    obtain rfl : i = t := by omega
    have hp := p10_le i ht
    have hp0 : 0 < 10 ^ i := Nat.pow_pos (by decide)
    have hd : a / 10 ^ i ≤ a := Nat.div_le_self _ _
    rw [f_M_outNumber_17, chk_t (by rw [oN0 (by omega)]; omega), dv_oN ha (by omega), show (9 : Int32) = oN 9 from rfl, if_pos ((oN_le (by omega) (by omega)).mpr h1)]
  | succ d ih =>
    intro i f hd hf
    obtain ⟨f, rfl⟩ : ∃ g, f = g + 1 := ⟨f - 1, by omega⟩
    have hp := p10_le i (by omega)
    have hp0 : 0 < 10 ^ i := Nat.pow_pos (by decide)
    have hd : a / 10 ^ i ≤ a := Nat.div_le_self _ _
    have h9 := h2 i (by omega)
    have e : oN (10 ^ i) * 10 = oN (10 ^ (i + 1)) := by rw [Nat.pow_succ, oN_mul]; rfl
    rw [f_M_outNumber_17, chk_t (by rw [oN0 (by omega)]; omega), dv_oN ha (by omega), show (9 : Int32) = oN 9 from rfl, if_neg (by rw [oN_le (by omega) (by omega)]; omega), e]
    exact ih (i + 1) f (by omega) (by omega)
theorem c_skip {a t : Nat} (ha : a < 2147483648) (h1 : a / 10 ^ t ≤ 9) : ∀ (d f : Nat), t + d < 10 → f_C_writeNumber_19 (f + d) (oN a) (oN (10 ^ (t + d))) M = f_C_writeNumber_19 f (oN a) (oN (10 ^ t)) M := by
  intro d
  induction d with
  | zero => intro f _; rfl
  | succ d ih =>
    intro f hd
    have hp := p10_le (t + d + 1) (by omega)
    have hp0 : 0 < 10 ^ (t + d) := Nat.pow_pos (by decide)
    have hp1 : 0 < 10 ^ t := Nat.pow_pos (by decide)
    have hpe : 10 ^ (t + d + 1) = 10 ^ (t + d) * 10 := Nat.pow_succ 10 _
    have hle : 10 ^ t ≤ 10 ^ (t + d) := Nat.pow_le_pow_right (by decide) (by omega)
    have hlt : a < 10 * 10 ^ t := by
      have := Nat.lt_mul_div_succ a hp1
      have h3 : 10 ^ t * (a / 10 ^ t + 1) ≤ 10 ^ t * 10 := Nat.mul_le_mul_left _ (by omega)
      omega
    have d10 : oN (10 ^ (t + d + 1)) / 10 = oN (10 ^ (t + d)) := by
      rw [show (10 : Int32) = oN 10 from rfl, dv_oN (by omega) (by decide)]
      congr 1; omega
    rw [← Nat.add_assoc, ← Nat.add_assoc, f_C_writeNumber_19, if_neg (by rw [show (0 : Int32) = oN 0 from rfl, oN_le (by omega) (by omega)]; omega), if_neg (by rw [oN_le (by omega) (by omega)]; omega), if_neg (by rw [show (1 : Int32) = oN 1 from rfl, oN_inj (by omega) (by omega)]; omega)]
    unfold f_C_writeNumber_46
    rw [d10]
    exact ih f (by omega)
theorem ab_oN {x : Int32} (h : bd 1000000000 x) : (if 0 ≤ x then x else 0 - x) = oN x.toInt.natAbs := by
  unfold bd at h
  by_cases c : 0 ≤ x
  · rw [if_pos c]
    obtain ⟨n, hn, rfl⟩ := oN_ex c
    rw [oN_int hn]; rfl
  · rw [if_neg c]
    have hx : x.toInt < 0 := by
      have := Int32.lt_iff_toInt_lt.mp (i_nle.mp c)
      simpa using this
    apply Int32.toInt_inj.mp
    rw [i_sub (by show ((0 : Int32).toInt - x.toInt).natAbs < _; rw [show (0 : Int32).toInt = 0 from rfl]; omega), oN_int (by omega), show (0 : Int32).toInt = 0 from rfl]
    omega
theorem s_abs {a len : Nat} (ha : a < 2147483648) (h : Ou M N len) (hl : len + 10 ≤ 512) : ∃ M1 N1 len1, f_C_writeNumber_19 fu (oN a) (1000000000 : Int32) M = some M1 ∧ f_M_outNumber_17 fu (oN a) (1 : Int32) N = some N1 ∧ Ou M1 N1 len1 ∧ len1 ≤ len + 10 := by
  have ⟨t, ht, h1, h2⟩ : ∃ t, t < 10 ∧ a / 10 ^ t ≤ 9 ∧ ∀ i, i < t → 9 < a / 10 ^ i := by
    rcases first_p (a := a) 10 with h | h
    · exact h
    · exfalso
      have := h 9 (by decide)
      omega
  have hj : t = 0 ∨ 10 ^ t ≤ a := by
    by_cases c : t = 0
    · exact Or.inl c
    · right
      have := h2 (t - 1) (by omega)
      have hp1 : 0 < 10 ^ (t - 1) := Nat.pow_pos (by decide)
      have e : 10 ^ t = 10 * 10 ^ (t - 1) := by rw [Nat.mul_comm, ← Nat.pow_succ]; congr 1; omega
      rw [e]
      exact (Nat.le_div_iff_mul_le hp1).mp (by omega)
  obtain ⟨M1, N1, e1, e2, e3⟩ := s_dig ha t ht (fu - (9 - t)) fu M N len (by unfold fu; omega) (by unfold fu; omega) h (by omega) hj
  refine ⟨M1, N1, _, ?_, ?_, e3, by omega⟩
  · have := c_skip (M := M) ha h1 (9 - t) (fu - (9 - t)) (by omega)
    rw [show fu - (9 - t) + (9 - t) = fu by unfold fu; omega, show t + (9 - t) = 9 by omega] at this
    exact this.trans e1
  · exact (m_find (N := N) ha ht h1 h2 t 0 fu (by omega) (by unfold fu; omega)).trans e2
theorem s_num {x : Int32} {len : Nat} (hx : bd 1000000000 x) (h : Ou M N len) (hl : len + 11 ≤ 512) : ∃ M1 N1 len1, f_C_writeNumber x M = some M1 ∧ f_M_outNumber x N = some N1 ∧ Ou M1 N1 len1 ∧ len1 ≤ len + 11 := by
  unfold f_C_writeNumber f_M_outNumber f_C_writeNumber_10 f_M_outNumber_10
  have ha : x.toInt.natAbs < 2147483648 := by unfold bd at hx; omega
  rw [ab_oN hx]
  by_cases c : 0 ≤ x
  · rw [if_pos c, if_pos c]
    obtain ⟨M1, N1, l1, e1, e2, e3, e4⟩ := s_abs ha h (by omega)
    exact ⟨M1, N1, l1, e1, e2, e3, by omega⟩
  · rw [if_neg c, if_neg c]
    obtain ⟨M1, N1, e1, e2, e3⟩ := s_byte (c := 45) h (by omega) (by decide)
    have e1 : f_C_writeByte (45 : Int32) M = some M1 := e1
    have e2 : f_M_out (45 : Int32) N = some N1 := e2
    rw [e1, e2, bn_s, bn_s]
    obtain ⟨M2, N2, l1, g1, g2, g3, g4⟩ := s_abs ha e3 (by omega)
    exact ⟨M2, N2, l1, g1, g2, g3, by omega⟩
theorem s_ws (v : V r) : ∀ (d i f1 f2 : Nat) (M N : Mm) (len : Nat), d + i = r 0 + 1 → d < f1 → d < f2 → Ou M N len → len ≤ 24 * i → M 25 5 = oN (r 0) → (∀ k, k ≤ r 0 → M 29 k = aE r k ∧ M 30 k = aN r k) → N 135 0 = oN (r 0) → (∀ k, k ≤ r 0 → N 143 k = aE r k ∧ N 144 k = aN r k) →
    ∃ M1 N1 len1, f_C_writeStations_12 f1 (oN i) M = some (oN len1, M1) ∧ f_M_writeStations_16 f2 (oN i) N = some (oN len1, N1) ∧ Ou M1 N1 len1 ∧ len1 ≤ 512 := by
  have hv := v.1
  intro d
  induction d with
  | zero =>
    intro i f1 f2 M N len hd h1 h2 h hl h5 hA h0 hB
    obtain ⟨f1, rfl⟩ : ∃ g, f1 = g + 1 := ⟨f1 - 1, by omega⟩
    obtain ⟨f2, rfl⟩ : ∃ g, f2 = g + 1 := ⟨f2 - 1, by omega⟩
    have c : oN (r 0) < oN i := by rw [oN_lt (by omega) (by omega)]; omega
    rw [f_C_writeStations_12, f_M_writeStations_16, show ix (0 : Int32) = 0 from rfl, h5, h0, if_pos c, if_pos c, h.1, h.2.1]
    exact ⟨M, N, len, rfl, rfl, h, by omega⟩
  | succ d ih =>
    intro i f1 f2 M N len hd h1 h2 h hl h5 hA h0 hB
    obtain ⟨f1, rfl⟩ : ∃ g, f1 = g + 1 := ⟨f1 - 1, by omega⟩
    obtain ⟨f2, rfl⟩ : ∃ g, f2 = g + 1 := ⟨f2 - 1, by omega⟩
    have hi : i ≤ r 0 := by omega
    have c : ¬ oN (r 0) < oN i := by rw [oN_lt (by omega) (by omega)]; omega
    have key : ∀ (M N : Mm) (len : Nat), Ou M N len → len ≤ 24 * i + 1 → M 25 5 = oN (r 0) → (∀ k, k ≤ r 0 → M 29 k = aE r k ∧ M 30 k = aN r k) → N 135 0 = oN (r 0) → (∀ k, k ≤ r 0 → N 143 k = aE r k ∧ N 144 k = aN r k) → ∃ M1 N1 len1, f_C_writeStations_30 (f_C_writeStations_12 f1) (oN i) M = some (oN len1, M1) ∧ f_M_writeStations_36 (f_M_writeStations_16 f2) (oN i) N = some (oN len1, N1) ∧ Ou M1 N1 len1 ∧ len1 ≤ 512 := by
      intro M N len h hl h5 hA h0 hB
      have b := a_bd v hi
      obtain ⟨M1, N1, l1, e1, e2, e3, e4⟩ := s_num b.1 h (by omega)
      obtain ⟨M2, N2, e5, e6, e7⟩ := s_byte (c := 44) e3 (by omega) (by decide)
      have e5 : f_C_writeByte (44 : Int32) M1 = some M2 := e5
      have e6 : f_M_out (44 : Int32) N1 = some N2 := e6
      obtain ⟨M3, N3, l3, e8, e9, e10, e11⟩ := s_num b.2 e7 (by omega)
      have fM : Fr [(0, 0, 7), (14, 14, 0)] M M3 := ((fr_C_writeNumber e1).up (by rfl)).tr (((fr_C_writeByte e5).up (by rfl)).tr ((fr_C_writeNumber e8).up (by rfl)))
      have fN : Fr [(134, 134, 16), (142, 142, 0)] N N3 := ((fr_M_outNumber e2).up (by rfl)).tr (((fr_M_out e6).up (by rfl)).tr ((fr_M_outNumber e9).up (by rfl)))
      have fM2 : Fr [(0, 0, 7), (14, 14, 0)] M M2 := ((fr_C_writeNumber e1).up (by rfl)).tr ((fr_C_writeByte e5).up (by rfl))
      have fN2 : Fr [(134, 134, 16), (142, 142, 0)] N N2 := ((fr_M_outNumber e2).up (by rfl)).tr ((fr_M_out e6).up (by rfl))
      unfold f_C_writeStations_30 f_M_writeStations_36
      rw [chk_t (iin21 v hi), chk_t (iin21 v hi), oI21 v hi, (hA i hi).1, (hB i hi).1, e1, e2, bn_s, bn_s, e5, e6, bn_s, bn_s, fM2 30 i (by rfl), fN2 144 i (by rfl), (hA i hi).2, (hB i hi).2, e8, e9, bn_s, bn_s, oN_S]
      exact ih (i + 1) f1 f2 M3 N3 l3 (by omega) (by omega) (by omega) e10 (by omega) ((fM 25 5 (by rfl)).trans h5) (fun k hk => by rw [fM 29 k (by rfl), fM 30 k (by rfl)]; exact hA k hk) ((fN 135 0 (by rfl)).trans h0) (fun k hk => by rw [fN 143 k (by rfl), fN 144 k (by rfl)]; exact hB k hk)
    rw [f_C_writeStations_12, f_M_writeStations_16, show ix (0 : Int32) = 0 from rfl, h5, h0, if_neg c, if_neg c]
    by_cases c0 : i = 0
    · subst c0
      rw [if_pos (by decide), if_pos (by decide)]
      exact key M N len h (by omega) h5 hA h0 hB
    · have c1 : ¬ oN i ≤ 0 := by rw [show (0 : Int32) = oN 0 from rfl, oN_le (by omega) (by omega)]; omega
      obtain ⟨M1, N1, e1, e2, e3⟩ := s_byte (c := 32) h (by omega) (by decide)
      have e1 : f_C_writeByte (32 : Int32) M = some M1 := e1
      have e2 : f_M_out (32 : Int32) N = some N1 := e2
      have fM := fr_C_writeByte e1
      have fN := fr_M_out e2
      rw [if_neg c1, if_neg c1, e1, e2, bn_s, bn_s]
      exact key M1 N1 (len + 1) e3 (by omega) ((fM 25 5 (by rfl)).trans h5) (fun k hk => by rw [fM 29 k (by rfl), fM 30 k (by rfl)]; exact hA k hk) ((fN 135 0 (by rfl)).trans h0) (fun k hk => by rw [fN 143 k (by rfl), fN 144 k (by rfl)]; exact hB k hk)
theorem s_writeStations (h : RI M N) : ∃ v M1 N1, f_C_writeStations M = some (v, M1) ∧ f_M_writeStations N = some (v, N1) ∧ RI M1 N1 := by
  obtain ⟨r, p⟩ := h.1
  have hv := p.1.1
  obtain ⟨M1, e1, e2, e3, fo⟩ := c_fo h p
  obtain ⟨N1, f1, f2, f3, f4, f5, f6⟩ := m_staQ (e2.n7 0) (e3.n7 0)
  obtain ⟨M2, N2, l2, g1, g2, g3, g4⟩ := s_ws p.1 (r 0 + 1) 0 fu fu (wr M1 0 6 0) (wr N1 134 15 0) 0 (by omega) (by unfold fu; omega) (by unfold fu; omega) ⟨wr_s _ _ _ _, wr_s _ _ _ _, fun k hk => absurd hk (Nat.not_lt_zero k)⟩ (by omega) (by rw [wr_n (by decide)]; exact fo.1) (fun k hk => by rw [wr_n (by omega), wr_n (by omega)]; exact fo.2.2 k hk) (by rw [wr_n (by decide)]; exact m_at f3.2.2 (by decide)) (fun k hk => by rw [wr_n (by omega), wr_n (by omega)]; exact f6 k hk)
  have k1 : f_C_writeStations M = some (oN l2, M2) := by
    unfold f_C_writeStations
    rw [e1, bn_s, bm_s]; exact g1
  have k2 : f_M_writeStations N = some (oN l2, N2) := by
    unfold f_M_writeStations
    rw [bm_s, f1, bn_s, bm_s]; exact g2
  refine ⟨_, M2, N2, k1, k2, ?_⟩
  have q1 : Fr [(0, 0, 7), (14, 14, 0)] M1 M2 := (fr_wr rfl (by rfl)).tr ((fr_C_writeStations_12 g1).up (by rfl))
  have q2 : Fr [(134, 134, 16), (142, 142, 0)] N1 N2 := (fr_wr rfl (by rfl)).tr ((fr_M_writeStations_16 g2).up (by rfl))
  obtain ⟨_, u, s, t, _, e, z, co, dz⟩ := f2
  have a1 := Ag.of (cs := [(15, 24, 0), (0, 0, 12), (0, 0, 13), (34, 113, 0), (33, 33, 0), (114, 133, 0), (0, 0, 3), (3, 3, 0), (0, 0, 4), (0, 0, 5), (26, 28, 1), (7, 7, 0)]) q1 (by rfl)
  have a2 := Ag.of (cs := [(135, 135, 0), (134, 134, 7), (137, 137, 0), (138, 138, 0), (140, 140, 0), (134, 134, 15), (141, 141, 0), (134, 134, 17), (134, 134, 18), (146, 146, 0)]) q2 (by rfl)
  exact ⟨⟨r, f3.ag (a1.su (by rfl)) (a2.su (by rfl))⟩, u.ag (a1.su (by rfl)) (a2.su (by rfl)), s.ag (a1.su (by rfl)) (a2.su (by rfl)), t.ag (a1.su (by rfl)) (a2.su (by rfl)), ⟨l2, g4, g3⟩, e.ag (a1.su (by rfl)) (a2.su (by rfl)), z.ag (a1.su (by rfl)), co.ag (a2.su (by rfl)), dz.ag (a1.su (by rfl))⟩
theorem s_outputByte (h : RI M N) (l : Int32) : ∃ v N1, f_C_outputByte M l = some v ∧ f_M_outputByte l N = some (v, N1) ∧ RI M N1 := by
  obtain ⟨len, h1, h2, h3, h4⟩ := h.2.2.2.2.1
  unfold f_C_outputByte f_C_outputByte_24 f_M_outputByte f_M_outputByte_29
  rw [bm_s, wr_n (by decide), h2, h3, c_between, m_isIn, bn_s, bn_s]
  by_cases c : 0 ≤ l ∧ l ≤ oN len - 1
  · obtain ⟨i, hi, rfl⟩ := (in_p (by omega)).mp c
    rw [if_pos c, if_neg (show ¬ (1 : Int32) = 0 by decide), if_neg (show ¬ (1 : Int32) = 0 by decide), chk_t ((iin_oN (by omega)).mpr (by omega)), chk_t ((iin_oN (by omega)).mpr (by omega)), oI (by omega), wr_n (by omega), h4 i hi]
    exact ⟨_, _, rfl, rfl, h.n7 0⟩
  · rw [if_neg c, if_pos rfl, if_pos rfl]
    exact ⟨_, _, rfl, rfl, h.n7 0⟩
/-! the text -/
def Tx (M N : Mm) (len : Nat) : Prop := M 0 2 = oN len ∧ N 134 14 = oN len ∧ ∀ k, k < len → byt (M 3 k) (N 141 k)
theorem byt_of (z : Int32) : byt z.toInt8.toInt32.toInt8.toInt32 (z &&& 255) := by
  refine ⟨z.toBitVec.toNat % 256, by omega, ?_, ?_⟩
  · apply Int32.toBitVec_inj.mp
    show z.toBitVec &&& BitVec.ofNat 32 255 = BitVec.ofNat 32 (z.toBitVec.toNat % 256)
    apply BitVec.eq_of_toNat_eq
    rw [BitVec.toNat_and, BitVec.toNat_ofNat, BitVec.toNat_ofNat, show 255 % 2 ^ 32 = 2 ^ 8 - 1 from rfl, Nat.and_two_pow_sub_one_eq_mod]
    omega
  · have e : z.toInt8 = (oN (z.toBitVec.toNat % 256)).toInt8 := by
      apply Int8.toBitVec_inj.mp
      show z.toBitVec.signExtend 8 = (BitVec.ofNat 32 (z.toBitVec.toNat % 256)).signExtend 8
      rw [BitVec.signExtend_eq_setWidth_of_le _ (by decide), BitVec.signExtend_eq_setWidth_of_le _ (by decide)]
      apply BitVec.eq_of_toNat_eq
      rw [BitVec.toNat_setWidth, BitVec.toNat_setWidth, BitVec.toNat_ofNat]
      omega
    rw [e]
    rw [Int8.toInt8_toInt32]
theorem s_aw (w : Int32) : ∀ (k f1 f2 : Nat) (M N : Mm) (len : Nat), k ≤ 4 → k < f1 → k < f2 → Tx M N len → len + k ≤ 900 →
    ∃ M1 N1, f_C_appendWord_3 f1 w (oN (8 * k) + (-8)) M = some M1 ∧ f_M_four_3 f2 w (oN (8 * k) + (-8)) N = some N1 ∧ Tx M1 N1 (len + k) := by
  intro k
  induction k with
  | zero =>
    intro f1 f2 M N len h4 h1 h2 h hl
    obtain ⟨f1, rfl⟩ : ∃ g, f1 = g + 1 := ⟨f1 - 1, by omega⟩
    obtain ⟨f2, rfl⟩ : ∃ g, f2 = g + 1 := ⟨f2 - 1, by omega⟩
    rw [f_C_appendWord_3, f_M_four_3, if_pos (by decide), if_pos (by decide)]
    exact ⟨M, N, rfl, rfl, h⟩
  | succ k ih =>
    intro f1 f2 M N len h4 h1 h2 h hl
    obtain ⟨f1, rfl⟩ : ∃ g, f1 = g + 1 := ⟨f1 - 1, by omega⟩
    obtain ⟨f2, rfl⟩ : ∃ g, f2 = g + 1 := ⟨f2 - 1, by omega⟩
    obtain ⟨t1, t2, t3⟩ := h
    have e8 : oN (8 * (k + 1)) + (-8) = oN (8 * k) := by
      rw [show 8 * (k + 1) = 8 * k + 8 by omega, oN_add, Int32.add_assoc]
      exact Int32.add_zero _
    rw [e8, f_C_appendWord_3, f_M_four_3, if_neg (oN_nn (by omega)), if_neg (oN_nn (by omega)), t1, t2, if_neg (show ¬ (900 : Int32) ≤ oN len by rw [show (900 : Int32) = oN 900 from rfl, oN_le (by omega) (by omega)]; omega), chk_t ((iin_oN (by omega)).mpr (by omega)), chk_t ((iin_oN (by omega)).mpr (by omega)), oI (by omega), bm_s, bm_s, bm_s, bm_s, wr_n (by omega), wr_n (by omega), t1, t2, oN_S]
    have hT : Tx (wr (wr M 3 len (w >>> (oN (8 * k) &&& 31)).toInt8.toInt32.toInt8.toInt32) 0 2 (oN (len + 1))) (wr (wr N 141 len (w >>> (oN (8 * k) &&& 31) &&& 255)) 134 14 (oN (len + 1))) (len + 1) := by
      refine ⟨wr_s _ _ _ _, wr_s _ _ _ _, fun j hj => ?_⟩
      have hz := byt_of (w >>> (oN (8 * k) &&& 31))
      by_cases c : j = len
      · subst c; simp only [wr, true_and, and_true, if_true]; simpa using hz
      · have := t3 j (by omega); simp only [wr]; simpa [c] using this
    obtain ⟨M1, N1, g1, g2, g3⟩ := ih f1 f2 _ _ (len + 1) (by omega) (by omega) (by omega) hT (by omega)
    exact ⟨M1, N1, g1, g2, by rw [show len + (k + 1) = len + 1 + k by omega]; exact g3⟩
theorem s_word (w : Int32) {len : Nat} (h : Tx M N len) (hl : len + 4 ≤ 900) : ∃ M1 N1, f_C_appendWord w M = some M1 ∧ f_M_four w N = some N1 ∧ Tx M1 N1 (len + 4) :=
  s_aw w 4 fu fu M N len (by decide) (by unfold fu; omega) (by unfold fu; omega) h hl
theorem RI.mk2 {M' N' : Mm} (h : RI M N) (t : TX M' N') (f : Ag [(15, 24, 0), (0, 0, 12), (0, 0, 13), (34, 113, 0), (33, 33, 0), (114, 133, 0), (0, 0, 7), (14, 14, 0), (0, 0, 4), (0, 0, 5), (26, 28, 1), (7, 7, 0)] M M') (g : Ag [(135, 135, 0), (134, 134, 7), (137, 137, 0), (138, 138, 0), (140, 140, 0), (134, 134, 16), (142, 142, 0), (134, 134, 17), (134, 134, 18), (146, 146, 0)] N N') : RI M' N' := by
  obtain ⟨⟨r, p⟩, u, s, _, o, e, z, c, d⟩ := h
  exact ⟨⟨r, p.ag (f.su (by rfl)) (g.su (by rfl))⟩, u.ag (f.su (by rfl)) (g.su (by rfl)), s.ag (f.su (by rfl)) (g.su (by rfl)), t, o.ag (f.su (by rfl)) (g.su (by rfl)), e.ag (f.su (by rfl)) (g.su (by rfl)), z.ag (f.su (by rfl)), c.ag (g.su (by rfl)), d.ag (f.su (by rfl))⟩
theorem s_append (h : RI M N) (a b c d e : Int32) : ∃ v M1 N1, f_C_append a b c d e M = some (v, M1) ∧ f_M_append a b c d e N = some (v, N1) ∧ RI M1 N1 := by
  obtain ⟨len, hl, t⟩ := h.2.2.2.1
  have hR := h.n7 0
  have t0 : Tx M (wr N 134 7 0) len := ⟨t.1, by rw [wr_n (by decide)]; exact t.2.1, fun k hk => by rw [wr_n (by omega)]; exact t.2.2 k hk⟩
  by_cases q : len + 20 ≤ 900
  · obtain ⟨M1, N1, a1, a2, a3⟩ := s_word a t0 (by omega)
    obtain ⟨M2, N2, b1, b2, b3⟩ := s_word b a3 (by omega)
    obtain ⟨M3, N3, c1, c2, c3⟩ := s_word c b3 (by omega)
    obtain ⟨M4, N4, d1, d2, d3⟩ := s_word d c3 (by omega)
    obtain ⟨M5, N5, e1, e2, e3⟩ := s_word e d3 (by omega)
    have k1 : f_C_append a b c d e M = some (oN (len + 4 + 4 + 4 + 4 + 4), M5) := by
      unfold f_C_append
      rw [t.1, if_pos (show oN len + 20 ≤ 900 by rw [show (20 : Int32) = oN 20 from rfl, ← oN_add, show (900 : Int32) = oN 900 from rfl, oN_le (by omega) (by omega)]; exact q), a1, bn_s, b1, bn_s, c1, bn_s, d1, bn_s, e1, bn_s, e3.1]
    have k2 : f_M_append a b c d e N = some (oN (len + 4 + 4 + 4 + 4 + 4), N5) := by
      unfold f_M_append
      rw [bm_s, t0.2.1, if_pos (show oN len + 20 ≤ 900 by rw [show (20 : Int32) = oN 20 from rfl, ← oN_add, show (900 : Int32) = oN 900 from rfl, oN_le (by omega) (by omega)]; exact q), a2, bn_s, b2, bn_s, c2, bn_s, d2, bn_s, e2, bn_s, e3.2.1]
    exact ⟨_, M5, N5, k1, k2, h.mk2 ⟨_, by omega, e3⟩ (Ag.of (fr_C_append k1) (by rfl)) (Ag.of (fr_M_append k2) (by rfl))⟩
  · have k1 : f_C_append a b c d e M = some (-1, M) := by
      unfold f_C_append
      rw [t.1, if_neg (show ¬ oN len + 20 ≤ 900 by rw [show (20 : Int32) = oN 20 from rfl, ← oN_add, show (900 : Int32) = oN 900 from rfl, oN_le (by omega) (by omega)]; exact q)]
    have k2 : f_M_append a b c d e N = some (-1, wr N 134 7 0) := by
      unfold f_M_append
      rw [bm_s, t0.2.1, if_neg (show ¬ oN len + 20 ≤ 900 by rw [show (20 : Int32) = oN 20 from rfl, ← oN_add, show (900 : Int32) = oN 900 from rfl, oN_le (by omega) (by omega)]; exact q)]
    exact ⟨_, _, _, k1, k2, hR⟩
theorem s_truncateInput (h : RI M N) (l : Int32) : ∃ o v M1 N1, f_C_truncateInput l M = some (o, M1) ∧ f_M_truncateInput l N = some (v, N1) ∧ RI M1 N1 ∧ An 1 9 o v (N1 134 7) := by
  obtain ⟨len, hl, t⟩ := h.2.2.2.1
  unfold f_C_truncateInput f_M_truncateInput f_M_truncateInput_18
  rw [t.1, t.2.1, c_between, m_isIn, bn_s, bn_s]
  by_cases c : 0 ≤ l ∧ l ≤ oN len
  · obtain ⟨i, hi, rfl⟩ := (in_n (by omega)).mp c
    rw [if_pos c, if_neg (show ¬ (1 : Int32) = 0 by decide), if_neg (show ¬ (1 : Int32) = 0 by decide), m_fail0, bn2_s, if_pos rfl, bm_s, bm_s, wr_s]
    have f1 : Fr [(0, 0, 3)] M (wr M 0 2 (oN i)) := fr_wr rfl (by rfl)
    have f2 : Fr [(134, 134, 8), (134, 134, 15)] N (wr (wr N 134 7 0) 134 14 (oN i)) := (fr_wr rfl (by rfl)).tr (fr_wr rfl (by rfl))
    refine ⟨_, _, _, _, rfl, rfl, h.mk2 ⟨i, by omega, wr_s _ _ _ _, wr_s _ _ _ _, fun k hk => ?_⟩ (Ag.of f1 (by rfl)) (Ag.of f2 (by rfl)), rfl, by rw [wr_n (by decide), wr_s]⟩
    rw [f1 3 k (by rfl), f2 141 k (by rfl)]; exact t.2.2 k (by omega)
  · rw [if_neg c, if_pos rfl, if_pos rfl, m_fail1, bn2_s, if_neg (by decide)]
    exact ⟨_, _, _, _, rfl, rfl, h.n7 1, Or.inl ⟨rfl, wr_s _ _ _ _⟩⟩
end OUT
