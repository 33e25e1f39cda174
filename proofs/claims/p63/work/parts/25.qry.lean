/-! the plain questions -/
theorem sh_oN {n : Nat} (h : n < 2147483648) (k : Nat) (hk : k < 31) : oN n >>> (oN k &&& 31) = oN (n >>> k) := by
  have e : oN k &&& 31 = oN k := by
    revert k; decide
  rw [e]
  apply Int32.toInt_inj.mp
  rw [oN_int (Nat.lt_of_le_of_lt (Nat.shiftRight_le _ _) h)]
  show BitVec.toInt ((oN n) >>> (oN k)).toBitVec = _
  rw [Int32.toBitVec_shiftRight]
  have e2 : (oN k).toBitVec.smod 32 = BitVec.ofNat 32 k := by
    clear e; revert k; decide
  rw [e2, BitVec.sshiftRight_eq', BitVec.toInt_sshiftRight]
  have e3 : (oN n).toBitVec.toInt = (n : Int) := oN_int h
  have e4 : (BitVec.ofNat 32 k).toNat = k := by rw [BitVec.toNat_ofNat]; omega
  rw [e3, e4]; rfl
theorem m_of0 {N : Mm} {r : Rw} {i : Nat} (h : MS N 135 0 r) (hi : i < 20) : f_M_of N (oN i) 0 = some (oN (r (4 + 14 * i + 0))) := m_of h hi (j := 0) (by decide)
theorem m_of1 {N : Mm} {r : Rw} {i : Nat} (h : MS N 135 0 r) (hi : i < 20) : f_M_of N (oN i) 1 = some (oN (r (4 + 14 * i + 1))) := m_of h hi (j := 1) (by decide)
theorem m_of3 {N : Mm} {r : Rw} {i : Nat} (h : MS N 135 0 r) (hi : i < 20) : f_M_of N (oN i) 3 = some (oN (r (4 + 14 * i + 3))) := m_of h hi (j := 3) (by decide)
theorem m_of7 {N : Mm} {r : Rw} {i : Nat} (h : MS N 135 0 r) (hi : i < 20) : f_M_of N (oN i) 7 = some (oN (r (4 + 14 * i + 7))) := m_of h hi (j := 7) (by decide)
section QRY
variable {M N : Mm}
theorem PR.n (p : ∃ r, PR M N r) : ∃ r, V r ∧ CS M 15 r ∧ MS N 135 0 r := p
theorem s_legCount (h : RI M N) : ∃ v N1, f_C_legCount M = some v ∧ f_M_legCount N = some (v, N1) ∧ RI M N1 := by
  obtain ⟨r, v, c, m⟩ := h.1
  refine ⟨oN (r 0), wr N 134 7 0, by unfold f_C_legCount; rw [c.1], ?_, h.n7 0⟩
  unfold f_M_legCount
  rw [show ix (0 : Int32) = 0 from rfl, m_at m (by decide)]; rfl
theorem s_stationCount (h : RI M N) : ∃ v N1, f_C_stationCount M = some v ∧ f_M_stationCount N = some (v, N1) ∧ RI M N1 := by
  obtain ⟨r, v, c, m⟩ := h.1
  refine ⟨oN (r 0) + 1, wr N 134 7 0, by unfold f_C_stationCount; rw [c.1], ?_, h.n7 0⟩
  unfold f_M_stationCount
  rw [show ix (0 : Int32) = 0 from rfl, m_at m (by decide)]; rfl
theorem s_wear (h : RI M N) : ∃ v N1, f_C_wear M = some v ∧ f_M_wear N = some (v, N1) ∧ RI M N1 := by
  obtain ⟨r, v, c, m⟩ := h.1
  refine ⟨oN (r 1), wr N 134 7 0, by unfold f_C_wear; rw [c.2.1], ?_, h.n7 0⟩
  unfold f_M_wear
  rw [show ix (1 : Int32) = 1 from rfl, m_at m (by decide)]; rfl
theorem s_pace (h : RI M N) : ∃ v N1, f_C_pace M = some v ∧ f_M_pace N = some (v, N1) ∧ RI M N1 := by
  obtain ⟨r, v, c, m⟩ := h.1
  refine ⟨oN (r 2), wr N 134 7 0, by unfold f_C_pace; rw [c.2.2.1], ?_, h.n7 0⟩
  unfold f_M_pace
  rw [show ix (2 : Int32) = 2 from rfl, m_at m (by decide)]; rfl
theorem s_undoableChanges (h : RI M N) : ∃ v N1, f_C_undoableChanges M = some v ∧ f_M_undoableChanges N = some (v, N1) ∧ RI M N1 := by
  obtain ⟨cnt, nx, h1, h2, h3, h4, h5, h6⟩ := h.2.1
  refine ⟨oN cnt, wr N 134 7 0, by unfold f_C_undoableChanges; rw [h4], ?_, h.n7 0⟩
  unfold f_M_undoableChanges
  rw [h5]; rfl
theorem r3_Z {r : Rw} (v : V r) : isZ (oN (r 3)) := by
  have := v.2.2.2.2.1
  rcases (show r 3 = 0 ∨ r 3 = 1 by omega) with e | e
  · rw [e]; exact Or.inl rfl
  · rw [e]; exact Or.inr rfl
theorem s_isAdjusted (h : RI M N) : ∃ v N1, f_C_isAdjusted M = some v ∧ f_M_isAdjusted N = some (v, N1) ∧ RI M N1 := by
  obtain ⟨r, v, c, m⟩ := h.1
  refine ⟨oN (r 3), wr N 134 7 0, ?_, ?_, h.n7 0⟩
  · unfold f_C_isAdjusted
    rw [c.2.2.2.1, chk_t (r3_Z v)]
  · unfold f_M_isAdjusted f_M_isAdjusted_19
    rw [show ix (3 : Int32) = 3 from rfl, m_at m (by decide), m_told, bn2_s]
    have := v.2.2.2.2.1
    rcases (show r 3 = 0 ∨ r 3 = 1 by omega) with e | e <;> rw [e] <;> rfl
theorem s_errorCode (h : RI M N) : ∃ v N1, f_C_errorCode M = some v ∧ f_M_errorCode N = some (v, N1) ∧ RI M N1 :=
  ⟨M 0 3, wr N 134 7 0, rfl, by unfold f_M_errorCode; rw [h.2.2.2.2.2.1.1]; rfl, h.n7 0⟩
theorem s_errorOffset (h : RI M N) : ∃ v N1, f_C_errorOffset M = some v ∧ f_M_errorOffset N = some (v, N1) ∧ RI M N1 :=
  ⟨M 0 4, wr N 134 7 0, rfl, by unfold f_M_errorOffset; rw [h.2.2.2.2.2.1.2]; rfl, h.n7 0⟩
/-- a question on a leg -/
theorem s_leg {l : Int32} {fC : Option (Nat ⊕ Int32)} {fM : Option (Int32 × Mm)} (h : RI M N)
    (hn : f_C_requireLeg M l = some (.inl 3) → fC = some (.inl 3)) (hm : f_M_isBad l N = some (1, wr N 134 7 1) → ∃ x, fM = some (x, wr N 134 7 1))
    (hy : ∀ r i, PR M N r → i < r 0 → l = oN i → f_C_requireLeg M l = some (.inr ()) → f_M_isBad l N = some (0, wr N 134 7 0) → MS (wr N 134 7 0) 135 0 r → ∃ x, fC = some (.inr x) ∧ fM = some (x, wr N 134 7 0)) :
    ∃ o v N1, fC = some o ∧ fM = some (v, N1) ∧ RI M N1 ∧ An 3 9 o v (N1 134 7) := by
  obtain ⟨r, v, c, m⟩ := h.1
  rcases c_leg v c l with ⟨i, hi, e, hc⟩ | ⟨hi, hc⟩
  · obtain ⟨x, h1, h2⟩ := hy r i ⟨v, c, m⟩ hi e hc (m_bad_y v m ⟨i, hi, e⟩) (m.n7 (by decide) 0)
    exact ⟨_, _, _, h1, h2, h.n7 0, rfl, wr_s _ _ _ _⟩
  · obtain ⟨x, h2⟩ := hm (m_bad_n v m hi)
    exact ⟨_, _, _, hn hc, h2, h.n7 1, Or.inl ⟨rfl, wr_s _ _ _ _⟩⟩
theorem lt20 {r : Rw} {i : Nat} (v : V r) (hi : i < r 0) : i < 20 := Nat.lt_of_lt_of_le hi v.1
theorem iin20 {r : Rw} {i : Nat} (v : V r) (hi : i < r 0) : iin (oN i) 20 := (iin_oN (by have := v.1; omega)).mpr (lt20 v hi)
theorem oI20 {r : Rw} {i : Nat} (v : V r) (hi : i < r 0) : ix (oN i) = i := oI (by have := v.1; omega)
theorem s_bearing (h : RI M N) (l : Int32) : ∃ o v N1, f_C_bearing M l = some o ∧ f_M_bearing l N = some (v, N1) ∧ RI M N1 ∧ An 3 9 o v (N1 134 7) := by
  refine s_leg (l := l) h (fun q => by unfold f_C_bearing; rw [q]; rfl) (fun q => ⟨0, by unfold f_M_bearing; rw [q]; rfl⟩) (fun r i p hi e q1 q2 m => ?_)
  obtain ⟨n0, b1, z2, p3, p4, l5, d6, r7, t8⟩ := p.2.1.2.2.2.2.2 i hi
  refine ⟨oN (r (4 + 14 * i + 0)), ?_, ?_⟩
  · unfold f_C_bearing; rw [q1, e]
    show chk _ _ = _
    rw [chk_t (iin20 p.1 hi), oI20 p.1 hi]; exact congrArg (fun z => some (Sum.inr z)) b1
  · unfold f_M_bearing f_M_bearing_18; rw [q2, e, bn2_s, if_pos rfl, m_of0 m (lt20 p.1 hi)]; rfl
theorem s_pins (h : RI M N) (l : Int32) : ∃ o v N1, f_C_pins M l = some o ∧ f_M_pins l N = some (v, N1) ∧ RI M N1 ∧ An 3 9 o v (N1 134 7) := by
  refine s_leg (l := l) h (fun q => by unfold f_C_pins; rw [q]; rfl) (fun q => ⟨0, by unfold f_M_pins; rw [q]; rfl⟩) (fun r i p hi e q1 q2 m => ?_)
  obtain ⟨n0, b1, z2, p3, p4, l5, d6, r7, t8⟩ := p.2.1.2.2.2.2.2 i hi
  refine ⟨oN (r (4 + 14 * i + 1)), ?_, ?_⟩
  · unfold f_C_pins; rw [q1, e]
    show chk _ _ = _
    rw [chk_t (iin20 p.1 hi), oI20 p.1 hi]; exact congrArg (fun z => some (Sum.inr z)) p4
  · unfold f_M_pins f_M_pins_18; rw [q2, e, bn2_s, if_pos rfl, m_of1 m (lt20 p.1 hi)]; rfl
theorem s_droppedPins (h : RI M N) (l : Int32) : ∃ o v N1, f_C_droppedPins M l = some o ∧ f_M_droppedPins l N = some (v, N1) ∧ RI M N1 ∧ An 3 9 o v (N1 134 7) := by
  refine s_leg (l := l) h (fun q => by unfold f_C_droppedPins; rw [q]; rfl) (fun q => ⟨0, by unfold f_M_droppedPins; rw [q]; rfl⟩) (fun r i p hi e q1 q2 m => ?_)
  obtain ⟨n0, b1, z2, p3, p4, l5, d6, r7, t8⟩ := p.2.1.2.2.2.2.2 i hi
  refine ⟨oN (r (4 + 14 * i + 3)), ?_, ?_⟩
  · unfold f_C_droppedPins; rw [q1, e]
    show chk _ _ = _
    rw [chk_t (iin20 p.1 hi), oI20 p.1 hi]; exact congrArg (fun z => some (Sum.inr z)) d6
  · unfold f_M_droppedPins f_M_droppedPins_18; rw [q2, e, bn2_s, if_pos rfl, m_of3 m (lt20 p.1 hi)]; rfl
theorem s_readLength (h : RI M N) (l : Int32) : ∃ o v N1, f_C_readLength M l = some o ∧ f_M_readLength l N = some (v, N1) ∧ RI M N1 ∧ An 3 9 o v (N1 134 7) := by
  refine s_leg (l := l) h (fun q => by unfold f_C_readLength; rw [q]; rfl) (fun q => ⟨0, by unfold f_M_readLength; rw [q]; rfl⟩) (fun r i p hi e q1 q2 m => ?_)
  refine ⟨oN (rdN r i), ?_, ?_⟩
  · unfold f_C_readLength; rw [q1, e]
    show bn _ _ = _
    rw [c_read p.2.1 p.1 hi]; rfl
  · unfold f_M_readLength f_M_readLength_17; rw [q2, e, bn2_s, if_pos rfl, m_read m p.1 hi]; rfl
theorem s_slopeLength (h : RI M N) (l : Int32) : ∃ o v N1, f_C_slopeLength M l = some o ∧ f_M_slopeLength l N = some (v, N1) ∧ RI M N1 ∧ An 3 9 o v (N1 134 7) := by
  refine s_leg (l := l) h (fun q => by unfold f_C_slopeLength; rw [q]; rfl) (fun q => ⟨0, by unfold f_M_slopeLength; rw [q]; rfl⟩) (fun r i p hi e q1 q2 m => ?_)
  refine ⟨oN (slN r i), ?_, ?_⟩
  · unfold f_C_slopeLength; rw [q1, e]
    show bn _ _ = _
    rw [c_slope p.2.1 p.1 hi]; rfl
  · unfold f_M_slopeLength f_M_slopeLength_17; rw [q2, e, bn2_s, if_pos rfl, m_slope m p.1 hi]; rfl
theorem s_horizontalLength (h : RI M N) (l : Int32) : ∃ o v N1, f_C_horizontalLength M l = some o ∧ f_M_horizontalLength l N = some (v, N1) ∧ RI M N1 ∧ An 3 9 o v (N1 134 7) := by
  refine s_leg (l := l) h (fun q => by unfold f_C_horizontalLength; rw [q]; rfl) (fun q => ⟨0, by unfold f_M_horizontalLength; rw [q]; rfl⟩) (fun r i p hi e q1 q2 m => ?_)
  refine ⟨oN (flN r i), ?_, ?_⟩
  · unfold f_C_horizontalLength; rw [q1, e]
    show bn _ _ = _
    rw [c_flat p.2.1 p.1 hi]; rfl
  · unfold f_M_horizontalLength f_M_horizontalLength_17; rw [q2, e, bn2_s, if_pos rfl, m_flat m p.1 hi]; rfl
theorem s_eastStep (h : RI M N) (l : Int32) : ∃ o v N1, f_C_eastStep M l = some o ∧ f_M_eastStep l N = some (v, N1) ∧ RI M N1 ∧ An 3 9 o v (N1 134 7) := by
  refine s_leg (l := l) h (fun q => by unfold f_C_eastStep; rw [q]; rfl) (fun q => ⟨0, by unfold f_M_eastStep; rw [q]; rfl⟩) (fun r i p hi e q1 q2 m => ?_)
  obtain ⟨n0, b1, z2, p3, p4, l5, d6, r7, t8⟩ := p.2.1.2.2.2.2.2 i hi
  have b1 : M 17 i = oN (r (4 + 14 * i + 0)) := b1
  refine ⟨stE r i, ?_, ?_⟩
  · unfold f_C_eastStep f_C_stepOf; rw [q1, e]
    show bn _ _ = _
    rw [c_flat p.2.1 p.1 hi, bn_s, chk_t (iin20 p.1 hi), oI20 p.1 hi, b1, c_sin p.1 hi]; rfl
  · unfold f_M_eastStep f_M_eastStep_18; rw [q2, e, bn2_s, if_pos rfl, m_step m (h.co.n7 0) p.1 hi]; rfl
theorem s_northStep (h : RI M N) (l : Int32) : ∃ o v N1, f_C_northStep M l = some o ∧ f_M_northStep l N = some (v, N1) ∧ RI M N1 ∧ An 3 9 o v (N1 134 7) := by
  refine s_leg (l := l) h (fun q => by unfold f_C_northStep; rw [q]; rfl) (fun q => ⟨0, by unfold f_M_northStep; rw [q]; rfl⟩) (fun r i p hi e q1 q2 m => ?_)
  obtain ⟨n0, b1, z2, p3, p4, l5, d6, r7, t8⟩ := p.2.1.2.2.2.2.2 i hi
  have b1 : M 17 i = oN (r (4 + 14 * i + 0)) := b1
  refine ⟨stN r i, ?_, ?_⟩
  · unfold f_C_northStep f_C_stepOf; rw [q1, e]
    show bn _ _ = _
    rw [c_flat p.2.1 p.1 hi, bn_s, chk_t (iin20 p.1 hi), oI20 p.1 hi, b1, c_cos p.1 hi]; rfl
  · unfold f_M_northStep f_M_northStep_18; rw [q2, e, bn2_s, if_pos rfl, m_step m (h.co.n7 0) p.1 hi]; rfl
theorem s_tallies (h : RI M N) (l : Int32) : ∃ o v N1, f_C_tallies M l = some o ∧ f_M_tallies l N = some (v, N1) ∧ RI M N1 ∧ An 3 9 o v (N1 134 7) := by
  refine s_leg (l := l) h (fun q => by unfold f_C_tallies; rw [q]; rfl) (fun q => ⟨0, by unfold f_M_tallies; rw [q]; rfl⟩) (fun r i p hi e q1 q2 m => ?_)
  obtain ⟨n0, b1, z2, p3, p4, l5, d6, r7, t8⟩ := p.2.1.2.2.2.2.2 i hi
  have p4 : M 20 i = oN (r (4 + 14 * i + 1)) := p4
  have d6 : M 22 i = oN (r (4 + 14 * i + 3)) := d6
  refine ⟨(oN (r (4 + 14 * i + 1)) + oN (r (4 + 14 * i + 3))) / 10, ?_, ?_⟩
  · unfold f_C_tallies; rw [q1, e]
    show chk _ _ = _
    rw [chk_t (iin20 p.1 hi), oI20 p.1 hi, p4, d6]
  · unfold f_M_tallies f_M_tallies_28; rw [q2, e, bn2_s, if_pos rfl, m_of1 m (lt20 p.1 hi), bn_s, m_of3 m (lt20 p.1 hi)]; rfl
theorem s_isBog (h : RI M N) (l : Int32) : ∃ o v N1, f_C_isBog M l = some o ∧ f_M_isBog l N = some (v, N1) ∧ RI M N1 ∧ An 3 9 o v (N1 134 7) := by
  refine s_leg (l := l) h (fun q => by unfold f_C_isBog; rw [q]; rfl) (fun q => ⟨0, by unfold f_M_isBog; rw [q]; rfl⟩) (fun r i p hi e q1 q2 m => ?_)
  obtain ⟨n0, b1, z2, p3, p4, l5, d6, r7, t8⟩ := p.2.1.2.2.2.2.2 i hi
  have z2 : M 18 i = if r (4 + 14 * i + 6) = 0 then 0 else 1 := z2
  refine ⟨if r (4 + 14 * i + 6) = 0 then 0 else 1, ?_, ?_⟩
  · unfold f_C_isBog; rw [q1, e]
    show chk _ _ = _
    rw [chk_t (iin20 p.1 hi), oI20 p.1 hi, z2, chk_t]
    split
    · exact Or.inl rfl
    · exact Or.inr rfl
  · unfold f_M_isBog f_M_isBog_20 f_M_isBog_21; rw [q2, e, bn2_s, if_pos rfl, m_bog m p.1 hi, bn_s]
    by_cases c : r (4 + 14 * i + 6) = 0
    · rw [if_pos c]; rfl
    · rw [if_neg c]; rfl
/-! names as numbers -/
theorem pkN_lt {f : Nat → Nat} : ∀ n, (∀ j, j < n → 97 ≤ f j ∧ f j ≤ 122) → pkN f n < 32 ^ n := by
  intro n
  induction n with
  | zero => intro _; show 0 < 1; decide
  | succ n ih =>
    intro h
    have h1 := ih (fun j hj => h j (by omega))
    have h2 := h n (by omega)
    show pkN f n * 32 + (f n - 96) < 32 ^ (n + 1)
    rw [Nat.pow_succ]; omega
theorem pk_ge {f : Nat → Nat} {n : Nat} (hn : 1 ≤ n) (h : ∀ j, j < n → 97 ≤ f j ∧ f j ≤ 122) : 32 ^ (n - 1) ≤ pkN f n := by
  induction n with
  | zero => omega
  | succ n ih =>
    have h2 := h n (by omega)
    show 32 ^ n ≤ pkN f n * 32 + (f n - 96)
    by_cases c : n = 0
    · subst c; show 1 ≤ _; omega
    · have h1 := ih (by omega) (fun j hj => h j (by omega))
      have e : 32 ^ n = 32 ^ (n - 1) * 32 := by rw [← Nat.pow_succ]; congr 1; omega
      rw [e]; omega
theorem p32_le {n : Nat} (h : n ≤ 6) : 32 ^ n ≤ 1073741824 := Nat.pow_le_pow_right (by decide) h
theorem pk_len {f : Nat → Nat} : ∀ (n : Nat), n ≤ 6 → (∀ j, j < n → 97 ≤ f j ∧ f j ≤ 122) → ∀ (k m : Nat), n < k → f_C_nameLength_4 k (oN m) (oN (pkN f n)) = some (oN (m + n)) := by
  intro n
  induction n with
  | zero =>
    intro _ _ k m hk
    obtain ⟨k, rfl⟩ : ∃ g, k = g + 1 := ⟨k - 1, by omega⟩
    rw [f_C_nameLength_4, if_pos (by show oN 0 ≤ 0; decide)]; rfl
  | succ n ih =>
    intro hn h k m hk
    obtain ⟨k, rfl⟩ : ∃ g, k = g + 1 := ⟨k - 1, by omega⟩
    have h1 := pkN_lt (n + 1) h
    have h2 := p32_le hn
    have h3 := pk_ge (n := n + 1) (by omega) h
    have h4 : 0 < 32 ^ (n + 1 - 1) := Nat.pow_pos (by decide)
    have h5 := h n (by omega)
    rw [f_C_nameLength_4, if_neg (by rw [show (0 : Int32) = oN 0 from rfl, oN_le (by omega) (by decide)]; omega), oN_S]
    have e : oN (pkN f (n + 1)) >>> ((5 : Int32) &&& 31) = oN (pkN f n) := by
      have e2 : pkN f n = pkN f (n + 1) >>> 5 := by
        rw [Nat.shiftRight_eq_div_pow]
        show _ = (pkN f n * 32 + (f n - 96)) / 32
        omega
      rw [e2]
      exact sh_oN (by omega) 5 (by decide)
    rw [e, ih (by omega) (fun j hj => h j (by omega)) k (m + 1) (by omega)]
    congr 2; omega
end QRY
