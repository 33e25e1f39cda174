/-! quotients of ints are no NaN -/
section FLT
/-- what is asked of a format -/
def GF (f : FP.Core.Fmt) : Prop := 3 ≤ f.exps ∧ 0 < f.tails ∧ 2 ^ f.p = 2 * f.tails ∧ f.qmin < 0 ∧ (40 : Int) ≤ f.qmax ∧ (f.qmax - f.qmin).toNat + 3 ≤ f.exps ∧ (0 : Int) ≤ (f.p : Int) - 1
theorem gf64 : GF FP.Core.b64 := by unfold GF; decide +kernel
theorem gf32 : GF FP.Core.b32 := by unfold GF; decide +kernel
def okD (f : FP.Core.Fmt) : FP.Core.Datum → Prop
  | .nan => False
  | .inf _ => True
  | .fin _ c q => c < 2 ^ f.p ∧ q ≤ f.qmax
theorem ok_bound {f : FP.Core.Fmt} {s : Bool} {c : Nat} {q : Int} (h : c < 2 ^ f.p) : okD f (FP.Core.bound f s c q) := by
  unfold FP.Core.bound
  split
  · exact ⟨h, by assumption⟩
  · exact True.intro
theorem ok_ratio {f : FP.Core.Fmt} (hf : GF f) (s : Bool) (n d : Nat) (e : Int) : okD f (FP.Core.roundRatio f s n d e) := by
  unfold FP.Core.roundRatio
  have hp := hf.2.2.1
  have ht := hf.2.1
  split
  · exact ⟨by omega, by have := hf.2.2.2.1; have := hf.2.2.2.2.1; omega⟩
  · unfold FP.Core.roundAt FP.Core.settle
    split
    · exact ok_bound (by assumption)
    · exact ok_bound (by omega)
theorem asm_mod {f : FP.Core.Fmt} {s : Bool} {e t : Nat} (he : e < f.exps) (ht : t < f.tails) : FP.Core.assemble f s e t % (f.exps * f.tails) = e * f.tails + t := by
  unfold FP.Core.assemble
  have h1 : e * f.tails + t < f.exps * f.tails := by
    have : (e + 1) * f.tails ≤ f.exps * f.tails := Nat.mul_le_mul_right _ he
    rw [Nat.add_mul] at this; omega
  rw [Nat.add_mul, Nat.mul_assoc, Nat.add_assoc, Nat.add_comm, Nat.add_mul_mod_self_right]
  exact Nat.mod_eq_of_lt h1
theorem enc_mag {f : FP.Core.Fmt} (hf : GF f) {d : FP.Core.Datum} (h : okD f d) : FP.Core.encode f d % (f.exps * f.tails) ≤ (f.exps - 1) * f.tails := by
  obtain ⟨h1, h2, h3, h4, h5, h6, h7⟩ := hf
  cases d with
  | nan => exact False.elim h
  | inf s =>
    show FP.Core.assemble f s (f.exps - 1) 0 % _ ≤ _
    rw [asm_mod (by omega) h2]; exact Nat.le_refl _
  | fin s c q =>
    obtain ⟨hc, hq⟩ := h
    unfold FP.Core.encode
    simp only
    split
    · rw [asm_mod (by omega) (by assumption)]
      have : 1 * f.tails ≤ (f.exps - 1) * f.tails := Nat.mul_le_mul_right _ (by omega)
      omega
    · have he : (q - f.qmin).toNat + 1 + 2 ≤ f.exps := by omega
      rw [asm_mod (by omega) (by omega)]
      have : ((q - f.qmin).toNat + 1 + 1) * f.tails ≤ (f.exps - 1) * f.tails := Nat.mul_le_mul_right _ (by omega)
      rw [Nat.add_mul] at this; omega
theorem dec_ok {f : FP.Core.Fmt} (hf : GF f) {n : Nat} (h : n % (f.exps * f.tails) ≤ (f.exps - 1) * f.tails) : FP.Core.decode f n ≠ .nan := by
  obtain ⟨h1, h2, h3, h4, h5, h6, h7⟩ := hf
  unfold FP.Core.decode
  split
  · rename_i hE
    split
    · intro q; cases q
    · rename_i hT
      exfalso
      unfold FP.Core.fieldE at hE
      unfold FP.Core.fieldT at hT
      have e : n % (f.exps * f.tails) = n / f.tails % f.exps * f.tails + n % f.tails := by
        rw [Nat.mul_comm f.exps, Nat.mod_mul]
        rw [Nat.mul_comm f.tails]; omega
      rw [hE] at e
      omega
  · split
    · intro q; cases q
    · intro q; cases q
/-- an int as a datum -/
theorem dec_int {f : FP.Core.Fmt} (hf : GF f) {i : Int} (hi : i.natAbs ≤ 2147483648) : ∃ s c q, FP.Core.decode f (FP.Core.fromInt f i) = .fin s c q ∧ (i ≠ 0 → c ≠ 0) := by
  have hF := hf
  obtain ⟨h1, h2, h3, h4, h5, h6, h7⟩ := hf
  have key : ∀ s c q, c < 2 ^ f.p → q ≤ f.qmax → ∃ s' c' q', FP.Core.decode f (FP.Core.encode f (.fin s c q)) = .fin s' c' q' ∧ (c ≠ 0 → c' ≠ 0) := by
    intro s c q hc hq
    have dv : ∀ e t, e < f.exps → t < f.tails → FP.Core.fieldE f (FP.Core.assemble f s e t) = e ∧ FP.Core.fieldT f (FP.Core.assemble f s e t) = t := by
      intro e t he ht
      unfold FP.Core.fieldE FP.Core.fieldT FP.Core.assemble
      constructor
      · rw [Nat.add_comm, Nat.add_mul_div_right _ _ h2, Nat.div_eq_of_lt ht, Nat.zero_add, Nat.mul_add_mod_self_right, Nat.mod_eq_of_lt he]
      · rw [Nat.mul_add_mod_self_right, Nat.mod_eq_of_lt ht]
    unfold FP.Core.encode
    simp only
    by_cases c1 : c < f.tails
    · rw [if_pos c1]
      obtain ⟨d1, d2⟩ := dv 0 c (by omega) c1
      unfold FP.Core.decode
      rw [d1, if_neg (by omega), if_pos rfl, d2]
      exact ⟨_, _, _, rfl, fun z => z⟩
    · rw [if_neg c1]
      obtain ⟨d1, d2⟩ := dv ((q - f.qmin).toNat + 1) (c - f.tails) (by omega) (by omega)
      unfold FP.Core.decode
      rw [d1, if_neg (by omega), if_neg (by omega), d2]
      exact ⟨_, _, _, rfl, fun z => by omega⟩
  show ∃ s c q, FP.Core.decode f (FP.Core.encode f (FP.Core.roundRatio f (decide (i < 0)) i.natAbs 1 0)) = .fin s c q ∧ (i ≠ 0 → c ≠ 0)
  unfold FP.Core.roundRatio
  by_cases c0 : i.natAbs = 0
  · rw [if_pos c0]
    obtain ⟨s', c', q', k1, -⟩ := key (decide (i < 0)) 0 f.qmin (by omega) (by omega)
    exact ⟨s', c', q', k1, fun z => by omega⟩
  · rw [if_neg c0]
    have hlog : i.natAbs.log2 ≤ 31 := by
      have := (Nat.log2_lt (n := i.natAbs) (k := 32) c0).mpr (by omega)
      omega
    have hlead : FP.Core.leading i.natAbs 1 ≤ (i.natAbs.log2 : Int) := by
      unfold FP.Core.leading
      simp only
      rw [show Nat.log2 1 = 0 from rfl]
      split <;> omega
    generalize hq : FP.Core.quantum f i.natAbs 1 0 = q
    have hq1 : q ≤ (i.natAbs.log2 : Int) := by
      rw [← hq]
      unfold FP.Core.quantum
      omega
    have hc : 1 ≤ FP.Core.nearest (FP.Core.unitsNum i.natAbs 0 q) (FP.Core.unitsDen 1 0 q) := by
      have hm : 1 ≤ FP.Core.unitsNum i.natAbs 0 q / FP.Core.unitsDen 1 0 q := by
        have hd : 0 < FP.Core.unitsDen 1 0 q := by unfold FP.Core.unitsDen; rw [Nat.one_mul]; exact Nat.two_pow_pos _
        rw [Nat.le_div_iff_mul_le hd, Nat.one_mul]
        unfold FP.Core.unitsDen FP.Core.unitsNum
        rw [Nat.one_mul]
        by_cases cq : q ≤ 0
        · rw [show (q - 0).toNat = 0 by omega]
          have : 0 < 2 ^ (0 - q).toNat := Nat.two_pow_pos _
          exact Nat.mul_pos (by omega) this
        · rw [show (0 - q).toNat = 0 by omega, Nat.pow_zero, Nat.mul_one]
          exact Nat.le_trans (Nat.pow_le_pow_right (by decide) (show (q - 0).toNat ≤ i.natAbs.log2 by omega)) (Nat.log2_self_le c0)
      unfold FP.Core.nearest
      split
      · exact hm
      · split <;> omega
    unfold FP.Core.roundAt FP.Core.settle
    split
    · unfold FP.Core.bound
      rw [if_pos (by omega)]
      obtain ⟨s', c', q', k1, k2⟩ := key (decide (i < 0)) (FP.Core.nearest (FP.Core.unitsNum i.natAbs 0 q) (FP.Core.unitsDen 1 0 q)) q (by assumption) (by omega)
      exact ⟨s', c', q', k1, fun _ => k2 (by omega)⟩
    · unfold FP.Core.bound
      rw [if_pos (by omega)]
      obtain ⟨s', c', q', k1, k2⟩ := key (decide (i < 0)) f.tails (q + 1) (by omega) (by omega)
      exact ⟨s', c', q', k1, fun _ => k2 (by omega)⟩
theorem quot_ok {f : FP.Core.Fmt} (hf : GF f) {i j : Int} (hi : i.natAbs ≤ 2147483648) (hj : j.natAbs ≤ 2147483648) (h0 : j ≠ 0) : FP.Core.div f (FP.Core.fromInt f i) (FP.Core.fromInt f j) % (f.exps * f.tails) ≤ (f.exps - 1) * f.tails := by
  obtain ⟨s, c, q, e1, -⟩ := dec_int hf hi
  obtain ⟨s2, c2, q2, e2, e3⟩ := dec_int hf hj
  unfold FP.Core.div
  rw [e1, e2]
  unfold FP.Core.quotient
  simp only
  rw [if_neg (e3 h0)]
  exact enc_mag hf (ok_ratio hf _ _ _ _)
theorem enc_lt {f : FP.Core.Fmt} (hf : GF f) (d : FP.Core.Datum) (h : okD f d) : FP.Core.encode f d < 2 * (f.exps * f.tails) := by
  obtain ⟨h1, h2, h3, h4, h5, h6, h7⟩ := hf
  have key : ∀ s e t, e < f.exps → t < f.tails → FP.Core.assemble f s e t < 2 * (f.exps * f.tails) := by
    intro s e t he ht
    unfold FP.Core.assemble
    have hs : s.toNat ≤ 1 := by cases s <;> decide
    have a1 : s.toNat * f.exps ≤ 1 * f.exps := Nat.mul_le_mul_right _ hs
    have a2 : (s.toNat * f.exps + e + 1) * f.tails ≤ (2 * f.exps) * f.tails := Nat.mul_le_mul_right _ (by omega)
    rw [Nat.mul_assoc 2, Nat.add_mul _ 1] at a2
    omega
  cases d with
  | nan => exact False.elim h
  | inf s => exact key _ _ _ (by omega) h2
  | fin s c q =>
    obtain ⟨hc, hq⟩ := h
    unfold FP.Core.encode
    simp only
    split
    · exact key _ _ _ (by omega) (by assumption)
    · exact key _ _ _ (by omega) (by omega)
theorem ok_round {f g : FP.Core.Fmt} (hf : GF f) {n : Nat} (h : FP.Core.decode g n ≠ .nan) : okD f (FP.Core.round f (FP.Core.decode g n)) := by
  cases e : FP.Core.decode g n with
  | nan => exact absurd e h
  | inf s => exact True.intro
  | fin s c q => exact ok_ratio hf _ _ _ _
theorem i_abs (v : Int32) : v.toInt.natAbs ≤ 2147483648 := by
  have h1 := v.toInt_lt
  have h2 := v.le_toInt
  omega
theorem vf64_of {n : Nat} (hn : n < 18446744073709551616) (h : n % 9223372036854775808 ≤ 9218868437227405312) : vf_n64 (UInt64.ofNat n) := by
  unfold vf_n64
  rw [UInt64.le_iff_toNat_le, UInt64.toNat_and]
  have e1 : (UInt64.ofNat n).toNat = n := UInt64.toNat_ofNat_of_lt' hn
  rw [e1, show (0x7fffffffffffffff : UInt64).toNat = 2 ^ 63 - 1 from rfl, Nat.and_two_pow_sub_one_eq_mod]
  exact h
theorem vf32_of {n : Nat} (hn : n < 4294967296) (h : n % 2147483648 ≤ 2139095040) : vf_n32 (UInt32.ofNat n) := by
  unfold vf_n32
  rw [UInt32.le_iff_toNat_le, UInt32.toNat_and]
  have e1 : (UInt32.ofNat n).toNat = n := UInt32.toNat_ofNat_of_lt' hn
  rw [e1, show (0x7fffffff : UInt32).toNat = 2 ^ 31 - 1 from rfl, Nat.and_two_pow_sub_one_eq_mod]
  exact h
theorem vf32_to {a : UInt32} (h : vf_n32 a) : a.toNat % 2147483648 ≤ 2139095040 := by
  unfold vf_n32 at h
  rw [UInt32.le_iff_toNat_le, UInt32.toNat_and, show (0x7fffffff : UInt32).toNat = 2 ^ 31 - 1 from rfl, Nat.and_two_pow_sub_one_eq_mod] at h
  exact h
theorem from_lt {f : FP.Core.Fmt} (hf : GF f) (i : Int) : FP.Core.fromInt f i < 2 * (f.exps * f.tails) :=
  enc_lt hf _ (ok_ratio hf _ _ _ _)
theorem div_lt {f : FP.Core.Fmt} (hf : GF f) {i j : Int} (hi : i.natAbs ≤ 2147483648) (hj : j.natAbs ≤ 2147483648) (h0 : j ≠ 0) : FP.Core.div f (FP.Core.fromInt f i) (FP.Core.fromInt f j) < 2 * (f.exps * f.tails) := by
  obtain ⟨s, c, q, e1, -⟩ := dec_int hf hi
  obtain ⟨s2, c2, q2, e2, e3⟩ := dec_int hf hj
  unfold FP.Core.div
  rw [e1, e2]
  unfold FP.Core.quotient
  simp only
  rw [if_neg (e3 h0)]
  exact enc_lt hf _ (ok_ratio hf _ _ _ _)
theorem i_ne0 {v : Int32} (h : v ≠ 0) : v.toInt ≠ 0 := fun q => h (Int32.toInt_inj.mp (by rw [q]; rfl))
theorem c64 : FP.Core.b64.exps * FP.Core.b64.tails = 9223372036854775808 ∧ (FP.Core.b64.exps - 1) * FP.Core.b64.tails = 9218868437227405312 := by decide +kernel
theorem c32 : FP.Core.b32.exps * FP.Core.b32.tails = 2147483648 ∧ (FP.Core.b32.exps - 1) * FP.Core.b32.tails = 2139095040 := by decide +kernel
theorem ddiv_vf (a b : Int32) (h : b ≠ 0) : vf_n64 (FP.ddiv (FP.i2d a) (FP.i2d b)) := by
  have l1 := from_lt gf64 a.toInt
  have l2 := from_lt gf64 b.toInt
  have l3 := div_lt gf64 (i_abs a) (i_abs b) (i_ne0 h)
  have l4 := quot_ok gf64 (i_abs a) (i_abs b) (i_ne0 h)
  rw [c64.1] at l1 l2 l3 l4
  rw [c64.2] at l4
  show vf_n64 (UInt64.ofNat (FP.Core.div FP.Core.b64 (UInt64.ofNat (FP.Core.fromInt FP.Core.b64 a.toInt)).toNat (UInt64.ofNat (FP.Core.fromInt FP.Core.b64 b.toInt)).toNat))
  rw [UInt64.toNat_ofNat_of_lt' (by omega), UInt64.toNat_ofNat_of_lt' (by omega)]
  exact vf64_of (by omega) l4
theorem fdiv_vf (a b : Int32) (h : b ≠ 0) : vf_n32 (FP.fdiv (FP.i2f a) (FP.i2f b)) := by
  have l1 := from_lt gf32 a.toInt
  have l2 := from_lt gf32 b.toInt
  have l3 := div_lt gf32 (i_abs a) (i_abs b) (i_ne0 h)
  have l4 := quot_ok gf32 (i_abs a) (i_abs b) (i_ne0 h)
  rw [c32.1] at l1 l2 l3 l4
  rw [c32.2] at l4
  show vf_n32 (UInt32.ofNat (FP.Core.div FP.Core.b32 (UInt32.ofNat (FP.Core.fromInt FP.Core.b32 a.toInt)).toNat (UInt32.ofNat (FP.Core.fromInt FP.Core.b32 b.toInt)).toNat))
  rw [UInt32.toNat_ofNat_of_lt' (by omega), UInt32.toNat_ofNat_of_lt' (by omega)]
  exact vf32_of (by omega) l4
theorem f2d_vf {a : UInt32} (h : vf_n32 a) : vf_n64 (FP.f2d a) := by
  have h1 := vf32_to h
  have h2 : FP.Core.decode FP.Core.b32 a.toNat ≠ .nan := dec_ok gf32 (by rw [c32.1, c32.2]; exact h1)
  have h3 : FP.Core.fIsNaN a = false := by
    unfold FP.Core.fIsNaN FP.Core.isNaN
    exact decide_eq_false h2
  have h4 : FP.f2d a = FP.Core.f2d a := by
    unfold FP.f2d
    rw [h3]; rfl
  rw [h4]
  have ok := ok_round gf64 h2
  have l1 := enc_lt gf64 _ ok
  have l2 := enc_mag gf64 ok
  rw [c64.1] at l1 l2
  rw [c64.2] at l2
  exact vf64_of (n := FP.Core.encode FP.Core.b64 (FP.Core.round FP.Core.b64 (FP.Core.decode FP.Core.b32 a.toNat))) (by omega) l2
end FLT
section FLS
variable {M N : Mm} {r : Rw}
theorem s_meanLeg (h : RI M N) : ∃ v M1 N1, f_C_meanLeg M = some (v, M1) ∧ f_M_meanLeg N = some (v, N1) ∧ RI M1 N1 := by
  obtain ⟨r, p⟩ := h.1
  have hv := p.1.1
  unfold f_C_meanLeg f_M_meanLeg f_M_meanLeg_31
  rw [p.2.1.1, bm_s, show ix (0 : Int32) = 0 from rfl, m_at (p.2.2.n7 (by decide) 0) (by decide)]
  by_cases c : oN (r 0) = 0
  · rw [if_pos c, if_pos c]
    exact ⟨_, _, _, rfl, rfl, h.n7 0⟩
  · obtain ⟨M1, e1, e2, e3⟩ := c_peri h p
    obtain ⟨N1, f1, f2, f3, f4⟩ := m_peri (e2.n7 0) (e3.n7 0)
    rw [if_neg c, if_neg c, e1, bn2_s, f1, bn2_s, e3.2.1.1, m_at f3.2.2 (by decide), chkC_p (ddiv_vf _ _ c), chkC_p (ddiv_vf _ _ c)]
    exact ⟨_, _, _, rfl, rfl, f2⟩
theorem s_bogShare (h : RI M N) : ∃ v M1 N1, f_C_bogShare M = some (v, M1) ∧ f_M_bogShare N = some (v, N1) ∧ RI M1 N1 ∧ vf_n64 (FP.f2d v) := by
  obtain ⟨r, p⟩ := h.1
  have hv := p.1.1
  obtain ⟨M1, e1, e2, e3⟩ := c_peri h p
  obtain ⟨N1, f1, f2, f3, f4⟩ := m_peri (e2.n7 0) (e3.n7 0)
  unfold f_C_bogShare f_M_bogShare f_M_bogShare_26
  rw [e1, bn2_s, bm_s, f1, bn2_s]
  by_cases c : oN (ruN r (r 0)) = 0
  · rw [if_pos c, if_pos c]
    refine ⟨_, _, _, rfl, rfl, f2, f2d_vf ?_⟩
    unfold vf_n32; decide
  · rw [if_neg c, if_neg c, c_bogLength e3.2.1 p.1, bn_s, m_onBogs f3.2.2 p.1, bn_s, chkC_p (fdiv_vf _ _ c), chkC_p (fdiv_vf _ _ c)]
    exact ⟨_, _, _, rfl, rfl, f2, f2d_vf (fdiv_vf _ _ c)⟩
end FLS
