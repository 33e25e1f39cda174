/-! the tokens -/
section LEX
variable {M N : Mm} {tx : Nat → Nat} {len : Nat}
/-- the text in both -/
def Tt (M N : Mm) (tx : Nat → Nat) (len : Nat) : Prop := len ≤ 900 ∧ M 2 1 = oN len ∧ N 134 14 = oN len ∧ ∀ k, k < len → tx k ≤ 255 ∧ M 3 k = (oN (tx k)).toInt8.toInt32 ∧ N 141 k = oN (tx k)
/-- the token in both: kind, start, end, number -/
def Lx (M N : Mm) (tx : Nat → Nat) (len κ s e v : Nat) : Prop := M 2 2 = oN κ ∧ N 134 20 = oN κ ∧ M 2 3 = oN s ∧ N 134 21 = oN s ∧ M 2 4 = oN e ∧ N 134 22 = oN e ∧ s ≤ e ∧ e ≤ len ∧ κ ≤ 4 ∧ (κ ≠ 0 → s < e) ∧ (s < len → κ ≠ 0) ∧ (κ = 1 → ∀ j, s ≤ j → j < e → 97 ≤ tx j ∧ tx j ≤ 122) ∧ (κ = 2 → v ≤ 1000000 ∧ M 2 5 = oN v ∧ N 134 23 = oN v)
theorem Tt.ag {M' N' : Mm} (h : Tt M N tx len) (f : Ag [(2, 2, 2), (3, 3, 0)] M M') (g : Ag [(134, 134, 15), (141, 141, 0)] N N') : Tt M' N' tx len := by
  obtain ⟨h0, h1, h2, h3⟩ := h
  refine ⟨h0, (f _ _ (by rfl)).trans h1, (g _ _ (by rfl)).trans h2, fun k hk => ?_⟩
  rw [f 3 k (by rfl), g 141 k (by rfl)]; exact h3 k hk
theorem Lx.ag {M' N' : Mm} {κ s e v : Nat} (h : Lx M N tx len κ s e v) (f : Ag [(2, 2, 3), (2, 2, 4), (2, 2, 5), (2, 2, 6)] M M') (g : Ag [(134, 134, 21), (134, 134, 22), (134, 134, 23), (134, 134, 24)] N N') : Lx M' N' tx len κ s e v := by
  obtain ⟨h1, h2, h3, h4, h5, h6, h7⟩ := h
  refine ⟨(f _ _ (by rfl)).trans h1, (g _ _ (by rfl)).trans h2, (f _ _ (by rfl)).trans h3, (g _ _ (by rfl)).trans h4, (f _ _ (by rfl)).trans h5, (g _ _ (by rfl)).trans h6, h7.1, h7.2.1, h7.2.2.1, h7.2.2.2.1, h7.2.2.2.2.1, h7.2.2.2.2.2.1, fun q => ?_⟩
  obtain ⟨q1, q2, q3⟩ := h7.2.2.2.2.2.2 q
  exact ⟨q1, (f _ _ (by rfl)).trans q2, (g _ _ (by rfl)).trans q3⟩
theorem cl_let : ∀ c, c < 256 → f_C_isLetter (oN c).toInt8.toInt32 = some (if 97 ≤ c ∧ c ≤ 122 then 1 else 0) := by decide +kernel
theorem cl_dig : ∀ c, c < 256 → f_C_isDigit (oN c).toInt8.toInt32 = some (if 48 ≤ c ∧ c ≤ 57 then 1 else 0) := by decide +kernel
theorem cl_is : ∀ c, c < 256 → ((oN c).toInt8.toInt32 = 32 ↔ c = 32) ∧ ((oN c).toInt8.toInt32 = 59 ↔ c = 59) := by decide +kernel
theorem cl_d : ∀ c, c < 128 → (oN c).toInt8.toInt32 = oN c := by decide +kernel
theorem m_isLet {i : Nat} (h : Tt M N tx len) (hi : i ≤ len) : f_M_isLetter N (oN i) = some (if i < len ∧ 97 ≤ tx i ∧ tx i ≤ 122 then 1 else 0) := by
  obtain ⟨h0, h1, h2, h3⟩ := h
  unfold f_M_isLetter f_M_isLetter_28 f_M_isLetter_29
  rw [h2]
  by_cases c : i < len
  · obtain ⟨k1, k2, k3⟩ := h3 i c
    rw [if_neg (by rw [oN_le (by omega) (by omega)]; omega), chk_t ((iin_oN (by omega)).mpr (by omega)), oI (by omega), k3, m_isIn, bn_s]
    have e : (97 ≤ oN (tx i) ∧ oN (tx i) ≤ 122) ↔ (97 ≤ tx i ∧ tx i ≤ 122) := by
      rw [show (97 : Int32) = oN 97 from rfl, show (122 : Int32) = oN 122 from rfl, oN_le (by omega) (by omega), oN_le (by omega) (by omega)]
    by_cases d : 97 ≤ tx i ∧ tx i ≤ 122
    · rw [if_pos (e.mpr d), if_neg (by decide), chk_t (by decide), if_pos ⟨c, d⟩]
    · rw [if_neg (fun q => d (e.mp q)), if_pos rfl, chk_t (by decide), if_neg (fun q => d q.2)]
  · rw [if_pos (by rw [oN_le (by omega) (by omega)]; omega), chk_t (by decide), if_neg (fun q => c q.1)]
theorem m_isDig {i : Nat} (h : Tt M N tx len) (hi : i ≤ len) : f_M_isDigit N (oN i) = some (if i < len ∧ 48 ≤ tx i ∧ tx i ≤ 57 then 1 else 0) := by
  obtain ⟨h0, h1, h2, h3⟩ := h
  unfold f_M_isDigit f_M_isDigit_28 f_M_isDigit_29
  rw [h2]
  by_cases c : i < len
  · obtain ⟨k1, k2, k3⟩ := h3 i c
    rw [if_neg (by rw [oN_le (by omega) (by omega)]; omega), chk_t ((iin_oN (by omega)).mpr (by omega)), oI (by omega), k3, m_isIn, bn_s]
    have e : (48 ≤ oN (tx i) ∧ oN (tx i) ≤ 57) ↔ (48 ≤ tx i ∧ tx i ≤ 57) := by
      rw [show (48 : Int32) = oN 48 from rfl, show (57 : Int32) = oN 57 from rfl, oN_le (by omega) (by omega), oN_le (by omega) (by omega)]
    by_cases d : 48 ≤ tx i ∧ tx i ≤ 57
    · rw [if_pos (e.mpr d), if_neg (by decide), chk_t (by decide), if_pos ⟨c, d⟩]
    · rw [if_neg (fun q => d (e.mp q)), if_pos rfl, chk_t (by decide), if_neg (fun q => d q.2)]
  · rw [if_pos (by rw [oN_le (by omega) (by omega)]; omega), chk_t (by decide), if_neg (fun q => c q.1)]
theorem l_sp : ∀ (d i f1 f2 : Nat) (M N : Mm), d + i = len → d < f1 → d < f2 → Tt M N tx len → M 2 3 = oN i → N 134 22 = oN i →
    ∃ i' M1 N1, i ≤ i' ∧ i' ≤ len ∧ f_L_advance_8 f1 M = f_L_advance_46 M1 ∧ f_M_next_0 f2 N = f_M_next_38 N1 ∧ Fr [(2, 2, 4)] M M1 ∧ Fr [(134, 134, 23)] N N1 ∧ M1 2 3 = oN i' ∧ N1 134 22 = oN i' := by
  intro d
  induction d with
  | zero =>
    intro i f1 f2 M N hd h1 h2 hT a b
    obtain ⟨f1, rfl⟩ : ∃ g, f1 = g + 1 := ⟨f1 - 1, by omega⟩
    obtain ⟨f2, rfl⟩ : ∃ g, f2 = g + 1 := ⟨f2 - 1, by omega⟩
    obtain ⟨t0, t1, t2, t3⟩ := hT
    have c : oN len ≤ oN i := by rw [oN_le (by omega) (by omega)]; omega
    rw [f_L_advance_8, f_M_next_0, t1, t2, a, b, if_pos c, if_pos c]
    exact ⟨i, M, N, by omega, by omega, rfl, rfl, Fr.rf _ _, Fr.rf _ _, a, b⟩
  | succ d ih =>
    intro i f1 f2 M N hd h1 h2 hT a b
    obtain ⟨f1, rfl⟩ : ∃ g, f1 = g + 1 := ⟨f1 - 1, by omega⟩
    obtain ⟨f2, rfl⟩ : ∃ g, f2 = g + 1 := ⟨f2 - 1, by omega⟩
    have hT' := hT
    obtain ⟨t0, t1, t2, t3⟩ := hT
    have c : ¬ oN len ≤ oN i := by rw [oN_le (by omega) (by omega)]; omega
    obtain ⟨k1, k2, k3⟩ := t3 i (by omega)
    have b9 : iin (oN i) 900 := (iin_oN (by omega)).mpr (by omega)
    rw [f_L_advance_8, f_M_next_0, t1, t2, a, b, if_neg c, if_neg c, chk_t b9, chk_t b9, oI (by omega), k2, k3]
    by_cases z : tx i = 32
    · rw [if_pos ((cl_is _ (by omega)).1.mpr z), if_pos (by rw [z]; rfl), bm_s, bm_s, oN_S]
      have g1 : Fr [(2, 2, 4)] M (wr M 2 3 (oN (i + 1))) := fr_wr rfl (by rfl)
      have g2 : Fr [(134, 134, 23)] N (wr N 134 22 (oN (i + 1))) := fr_wr rfl (by rfl)
      obtain ⟨i', M1, N1, q1, q2, q3, q4, q5, q6, q7, q8⟩ := ih (i + 1) f1 f2 (wr M 2 3 (oN (i + 1))) (wr N 134 22 (oN (i + 1))) (by omega) (by omega) (by omega) (hT'.ag (Ag.of g1 (by rfl)) (Ag.of g2 (by rfl))) (wr_s _ _ _ _) (wr_s _ _ _ _)
      exact ⟨i', M1, N1, by omega, q2, q3, q4, g1.tr q5, g2.tr q6, q7, q8⟩
    · rw [if_neg (fun q => z ((cl_is _ (by omega)).1.mp q)), if_neg (show ¬ oN (tx i) = 32 from fun q => z ((oN_inj (b := 32) (by omega) (by omega)).mp q))]
      exact ⟨i, M, N, by omega, by omega, rfl, rfl, Fr.rf _ _, Fr.rf _ _, a, b⟩
theorem l_word : ∀ (d i f1 f2 : Nat) (M N : Mm), d + i = len → d < f1 → d < f2 → Tt M N tx len → M 2 4 = oN i → N 134 22 = oN i →
    ∃ i' M1 N1, i ≤ i' ∧ i' ≤ len ∧ f_L_advance_93 f1 M = some M1 ∧ f_M_next_81 f2 N = some N1 ∧ Fr [(2, 2, 5)] M M1 ∧ Fr [(134, 134, 23)] N N1 ∧ M1 2 4 = oN i' ∧ N1 134 22 = oN i' ∧ (∀ j, i ≤ j → j < i' → 97 ≤ tx j ∧ tx j ≤ 122) ∧ (i < len → 97 ≤ tx i ∧ tx i ≤ 122 → i < i') := by
  intro d
  induction d with
  | zero =>
    intro i f1 f2 M N hd h1 h2 hT a b
    obtain ⟨f1, rfl⟩ : ∃ g, f1 = g + 1 := ⟨f1 - 1, by omega⟩
    obtain ⟨f2, rfl⟩ : ∃ g, f2 = g + 1 := ⟨f2 - 1, by omega⟩
    have hL := m_isLet (i := i) hT (by omega)
    obtain ⟨t0, t1, t2, t3⟩ := hT
    have c : oN len ≤ oN i := by rw [oN_le (by omega) (by omega)]; omega
    rw [f_L_advance_93, f_M_next_81, t1, a, b, if_pos c, hL, bn_s, if_neg (show ¬ (i < len ∧ 97 ≤ tx i ∧ tx i ≤ 122) by omega), if_pos rfl]
    exact ⟨i, M, N, by omega, by omega, rfl, rfl, Fr.rf _ _, Fr.rf _ _, a, b, fun j h1 h2 => by omega, fun h => by omega⟩
  | succ d ih =>
    intro i f1 f2 M N hd h1 h2 hT a b
    obtain ⟨f1, rfl⟩ : ∃ g, f1 = g + 1 := ⟨f1 - 1, by omega⟩
    obtain ⟨f2, rfl⟩ : ∃ g, f2 = g + 1 := ⟨f2 - 1, by omega⟩
    have hL := m_isLet (i := i) hT (by omega)
    have hT' := hT
    obtain ⟨t0, t1, t2, t3⟩ := hT
    have c : ¬ oN len ≤ oN i := by rw [oN_le (by omega) (by omega)]; omega
    obtain ⟨k1, k2, k3⟩ := t3 i (by omega)
    have b9 : iin (oN i) 900 := (iin_oN (by omega)).mpr (by omega)
    rw [f_L_advance_93, f_M_next_81, t1, a, b, if_neg c, chk_t b9, oI (by omega), k2, cl_let _ (by omega), hL, bn_s, bn_s]
    by_cases z : 97 ≤ tx i ∧ tx i ≤ 122
    · rw [if_pos z, if_pos (show i < len ∧ 97 ≤ tx i ∧ tx i ≤ 122 from ⟨by omega, z⟩), if_neg (show ¬ (1 : Int32) = 0 by decide), if_neg (show ¬ (1 : Int32) = 0 by decide), bm_s, bm_s, oN_S]
      have g1 : Fr [(2, 2, 5)] M (wr M 2 4 (oN (i + 1))) := fr_wr rfl (by rfl)
      have g2 : Fr [(134, 134, 23)] N (wr N 134 22 (oN (i + 1))) := fr_wr rfl (by rfl)
      obtain ⟨i', M1, N1, q1, q2, q3, q4, q5, q6, q7, q8, q9, q10⟩ := ih (i + 1) f1 f2 (wr M 2 4 (oN (i + 1))) (wr N 134 22 (oN (i + 1))) (by omega) (by omega) (by omega) (hT'.ag (Ag.of g1 (by rfl)) (Ag.of g2 (by rfl))) (wr_s _ _ _ _) (wr_s _ _ _ _)
      refine ⟨i', M1, N1, by omega, q2, q3, q4, g1.tr q5, g2.tr q6, q7, q8, fun j h1 h2 => ?_, fun _ _ => by omega⟩
      by_cases e : j = i
      · subst e; exact z
      · exact q9 j (by omega) h2
    · rw [if_neg z, if_neg (show ¬ (i < len ∧ 97 ≤ tx i ∧ tx i ≤ 122) from fun q => z q.2), if_pos rfl, if_pos rfl]
      exact ⟨i, M, N, by omega, by omega, rfl, rfl, Fr.rf _ _, Fr.rf _ _, a, b, fun j h1 h2 => by omega, fun _ q => absurd q z⟩
theorem l_num : ∀ (d i f1 f2 : Nat) (M N : Mm) (v : Nat), d + i = len → d < f1 → d < f2 → Tt M N tx len → M 2 4 = oN i → N 134 22 = oN i → v ≤ 1000000 → M 2 5 = oN v → N 134 23 = oN v →
    ∃ i' v' M1 N1, i ≤ i' ∧ i' ≤ len ∧ f_L_advance_157 f1 M = some M1 ∧ f_M_next_126 f2 N = some N1 ∧ Fr [(2, 2, 5), (2, 2, 6)] M M1 ∧ Fr [(134, 134, 23), (134, 134, 24)] N N1 ∧ M1 2 4 = oN i' ∧ N1 134 22 = oN i' ∧ v' ≤ 1000000 ∧ M1 2 5 = oN v' ∧ N1 134 23 = oN v' ∧ (i < len → 48 ≤ tx i ∧ tx i ≤ 57 → i < i') := by
  intro d
  induction d with
  | zero =>
    intro i f1 f2 M N v hd h1 h2 hT a b hv a5 b5
    obtain ⟨f1, rfl⟩ : ∃ g, f1 = g + 1 := ⟨f1 - 1, by omega⟩
    obtain ⟨f2, rfl⟩ : ∃ g, f2 = g + 1 := ⟨f2 - 1, by omega⟩
    have hL := m_isDig (i := i) hT (by omega)
    obtain ⟨t0, t1, t2, t3⟩ := hT
    have c : oN len ≤ oN i := by rw [oN_le (by omega) (by omega)]; omega
    rw [f_L_advance_157, f_M_next_126, t1, a, b, if_pos c, hL, bn_s, if_neg (show ¬ (i < len ∧ 48 ≤ tx i ∧ tx i ≤ 57) by omega), if_pos rfl]
    exact ⟨i, v, M, N, by omega, by omega, rfl, rfl, Fr.rf _ _, Fr.rf _ _, a, b, hv, a5, b5, fun h => by omega⟩
  | succ d ih =>
    intro i f1 f2 M N v hd h1 h2 hT a b hv a5 b5
    obtain ⟨f1, rfl⟩ : ∃ g, f1 = g + 1 := ⟨f1 - 1, by omega⟩
    obtain ⟨f2, rfl⟩ : ∃ g, f2 = g + 1 := ⟨f2 - 1, by omega⟩
    have hL := m_isDig (i := i) hT (by omega)
    have hT' := hT
    obtain ⟨t0, t1, t2, t3⟩ := hT
    have c : ¬ oN len ≤ oN i := by rw [oN_le (by omega) (by omega)]; omega
    obtain ⟨k1, k2, k3⟩ := t3 i (by omega)
    have b9 : iin (oN i) 900 := (iin_oN (by omega)).mpr (by omega)
    rw [f_L_advance_157, f_M_next_126, t1, a, b, if_neg c, chk_t b9, oI (by omega), k2, cl_dig _ (by omega), hL, bn_s, bn_s]
    by_cases z : 48 ≤ tx i ∧ tx i ≤ 57
    · have en : oN v * 10 + oN (tx i) - 48 = oN (v * 10 + tx i - 48) := by
        rw [show (10 : Int32) = oN 10 from rfl, ← oN_mul, ← oN_add]
        exact (Int32.ofNat_sub _ 48 (by omega)).symm
      rw [if_pos z, if_pos (show i < len ∧ 48 ≤ tx i ∧ tx i ≤ 57 from ⟨by omega, z⟩), if_neg (show ¬ (1 : Int32) = 0 by decide), if_neg (show ¬ (1 : Int32) = 0 by decide), chk_t b9, k3, a5, b5, cl_d _ (by omega), en, bm_s, bm_s, bm_s, bm_s, wr_n (by decide), wr_n (by decide), a, b, oN_S]
      have hmin : ∃ w, w ≤ 1000000 ∧ (if (1000000 : Int32) < oN (v * 10 + tx i - 48) then (1000000 : Int32) else oN (v * 10 + tx i - 48)) = oN w ∧ (if oN (v * 10 + tx i - 48) < (1000000 : Int32) then oN (v * 10 + tx i - 48) else (1000000 : Int32)) = oN w := by
        have e1 : (1000000 : Int32) < oN (v * 10 + tx i - 48) ↔ 1000000 < v * 10 + tx i - 48 := oN_lt (a := 1000000) (by omega) (by omega)
        have e2 : oN (v * 10 + tx i - 48) < (1000000 : Int32) ↔ v * 10 + tx i - 48 < 1000000 := oN_lt (b := 1000000) (by omega) (by omega)
        rcases Nat.lt_trichotomy (v * 10 + tx i - 48) 1000000 with q | q | q
        · refine ⟨_, Nat.le_of_lt q, ?_, ?_⟩
          · rw [if_neg (fun y => by have := e1.mp y; omega)]
          · rw [if_pos (e2.mpr q)]
        · refine ⟨1000000, Nat.le_refl _, ?_, ?_⟩
          · rw [if_neg (fun y => by have := e1.mp y; omega), q]
          · rw [if_neg (fun y => by have := e2.mp y; omega)]; rfl
        · refine ⟨1000000, Nat.le_refl _, ?_, ?_⟩
          · rw [if_pos (e1.mpr q)]; rfl
          · rw [if_neg (fun y => by have := e2.mp y; omega)]; rfl
      obtain ⟨w, w1, w2, w3⟩ := hmin
      rw [w2, w3]
      have g1 : Fr [(2, 2, 5), (2, 2, 6)] M (wr (wr M 2 5 (oN w)) 2 4 (oN (i + 1))) := (fr_wr rfl (by rfl)).tr (fr_wr rfl (by rfl))
      have g2 : Fr [(134, 134, 23), (134, 134, 24)] N (wr (wr N 134 23 (oN w)) 134 22 (oN (i + 1))) := (fr_wr rfl (by rfl)).tr (fr_wr rfl (by rfl))
      obtain ⟨i', v', M1, N1, q1, q2, q3, q4, q5, q6, q7, q8, q9, q10, q11, q12⟩ := ih (i + 1) f1 f2 (wr (wr M 2 5 (oN w)) 2 4 (oN (i + 1))) (wr (wr N 134 23 (oN w)) 134 22 (oN (i + 1))) w (by omega) (by omega) (by omega) (hT'.ag (Ag.of g1 (by rfl)) (Ag.of g2 (by rfl))) (wr_s _ _ _ _) (wr_s _ _ _ _) w1 (by rw [wr_n (by decide), wr_s]) (by rw [wr_n (by decide), wr_s])
      exact ⟨i', v', M1, N1, by omega, q2, q3, q4, g1.tr q5, g2.tr q6, q7, q8, q9, q10, q11, fun _ _ => by omega⟩
    · rw [if_neg z, if_neg (show ¬ (i < len ∧ 48 ≤ tx i ∧ tx i ≤ 57) from fun q => z q.2), if_pos rfl, if_pos rfl]
      exact ⟨i, v, M, N, by omega, by omega, rfl, rfl, Fr.rf _ _, Fr.rf _ _, a, b, hv, a5, b5, fun _ q => absurd q z⟩
end LEX
