section LEX2
variable {M N : Mm} {tx : Nat → Nat} {len : Nat}
theorem l_tok {i : Nat} (hi : i ≤ len) (hT : Tt M N tx len) (a : M 2 3 = oN i) (b : N 134 22 = oN i) :
    ∃ κ e v M1 N1, f_L_advance_46 M = some M1 ∧ f_M_next_38 N = some N1 ∧ Tt M1 N1 tx len ∧ Lx M1 N1 tx len κ i e v := by
  unfold f_L_advance_46 f_M_next_38
  simp only [bm_s]
  rw [a, b]
  have g1 : Fr [(2, 2, 5)] M (wr M 2 4 (oN i)) := fr_wr rfl (by rfl)
  have g2 : Fr [(134, 134, 22)] N (wr N 134 21 (oN i)) := fr_wr rfl (by rfl)
  have T1 : Tt (wr M 2 4 (oN i)) (wr N 134 21 (oN i)) tx len := hT.ag (Ag.of g1 (by rfl)) (Ag.of g2 (by rfl))
  have a3 : (wr M 2 4 (oN i)) 2 3 = oN i := (g1 2 3 (by rfl)).trans a
  have a4 : (wr M 2 4 (oN i)) 2 4 = oN i := wr_s _ _ _ _
  have b21 : (wr N 134 21 (oN i)) 134 21 = oN i := wr_s _ _ _ _
  have b22 : (wr N 134 21 (oN i)) 134 22 = oN i := (g2 134 22 (by rfl)).trans b
  generalize wr M 2 4 (oN i) = M0 at T1 a3 a4
  generalize wr N 134 21 (oN i) = N0 at T1 b21 b22
  have T1' := T1
  obtain ⟨t0, t1, t2, t3⟩ := T1
  rw [a3, t1, b22, t2]
  by_cases c : i < len
  · obtain ⟨k1, k2, k3⟩ := t3 i c
    have b9 : iin (oN i) 900 := (iin_oN (by omega)).mpr (by omega)
    rw [if_pos ((oN_lt (by omega) (by omega)).mpr c), if_neg (show ¬ oN i = oN len from fun q => by have := (oN_inj (by omega) (by omega)).mp q; omega), chk_t b9, oI (by omega), k2, cl_let _ (by omega), bn_s, m_isLet T1' hi, bn_s]
    by_cases zl : 97 ≤ tx i ∧ tx i ≤ 122
    · rw [if_pos zl, if_pos (show i < len ∧ 97 ≤ tx i ∧ tx i ≤ 122 from ⟨c, zl⟩), if_neg (show ¬ (1 : Int32) = 0 by decide), if_neg (show ¬ (1 : Int32) = 0 by decide)]
      have h1 : Fr [(2, 2, 3)] M0 (wr M0 2 2 1) := fr_wr rfl (by rfl)
      have h2 : Fr [(134, 134, 21)] N0 (wr N0 134 20 1) := fr_wr rfl (by rfl)
      obtain ⟨i', M1, N1, q1, q2, q3, q4, q5, q6, q7, q8, q9, q10⟩ := l_word (tx := tx) (len := len) (len - i) i fu fu (wr M0 2 2 1) (wr N0 134 20 1) (by omega) (by unfold fu; omega) (by unfold fu; omega) (T1'.ag (Ag.of h1 (by rfl)) (Ag.of h2 (by rfl))) (by rw [wr_n (by decide)]; exact a4) (by rw [wr_n (by decide)]; exact b22)
      refine ⟨1, i', 0, M1, N1, q3, q4, (T1'.ag (Ag.of h1 (by rfl)) (Ag.of h2 (by rfl))).ag (Ag.of q5 (by rfl)) (Ag.of q6 (by rfl)), ?_, ?_, ?_, ?_, q7, q8, by omega, q2, by decide, fun _ => q10 c zl, fun _ => by decide, fun _ => q9, fun z => absurd z (by decide)⟩
      · rw [q5 2 2 (by rfl), wr_s]; rfl
      · rw [q6 134 20 (by rfl), wr_s]; rfl
      · rw [q5 2 3 (by rfl), wr_n (by decide)]; exact a3
      · rw [q6 134 21 (by rfl), wr_n (by decide)]; exact b21
    · rw [if_neg zl, if_neg (show ¬ (i < len ∧ 97 ≤ tx i ∧ tx i ≤ 122) from fun q => zl q.2), if_pos rfl, if_pos rfl, cl_dig _ (by omega), bn_s, m_isDig T1' hi, bn_s]
      by_cases zd : 48 ≤ tx i ∧ tx i ≤ 57
      · rw [if_pos zd, if_pos (show i < len ∧ 48 ≤ tx i ∧ tx i ≤ 57 from ⟨c, zd⟩), if_neg (show ¬ (1 : Int32) = 0 by decide), if_neg (show ¬ (1 : Int32) = 0 by decide)]
        have h1 : Fr [(2, 2, 3), (2, 2, 6)] M0 (wr (wr M0 2 2 2) 2 5 0) := (fr_wr rfl (by rfl)).tr (fr_wr rfl (by rfl))
        have h2 : Fr [(134, 134, 21), (134, 134, 24)] N0 (wr (wr N0 134 20 2) 134 23 0) := (fr_wr rfl (by rfl)).tr (fr_wr rfl (by rfl))
        obtain ⟨i', v', M1, N1, q1, q2, q3, q4, q5, q6, q7, q8, q9, q10, q11, q12⟩ := l_num (tx := tx) (len := len) (len - i) i fu fu (wr (wr M0 2 2 2) 2 5 0) (wr (wr N0 134 20 2) 134 23 0) 0 (by omega) (by unfold fu; omega) (by unfold fu; omega) (T1'.ag (Ag.of h1 (by rfl)) (Ag.of h2 (by rfl))) ((h1 2 4 (by rfl)).trans a4) ((h2 134 22 (by rfl)).trans b22) (by omega) (wr_s _ _ _ _) (wr_s _ _ _ _)
        refine ⟨2, i', v', M1, N1, q3, q4, (T1'.ag (Ag.of h1 (by rfl)) (Ag.of h2 (by rfl))).ag (Ag.of q5 (by rfl)) (Ag.of q6 (by rfl)), ?_, ?_, ?_, ?_, q7, q8, by omega, q2, by decide, fun _ => q12 c zd, fun _ => by decide, fun z => absurd z (by decide), fun _ => ⟨q9, q10, q11⟩⟩
        · rw [q5 2 2 (by rfl), wr_n (by decide), wr_s]; rfl
        · rw [q6 134 20 (by rfl), wr_n (by decide), wr_s]; rfl
        · rw [q5 2 3 (by rfl), h1 2 3 (by rfl)]; exact a3
        · rw [q6 134 21 (by rfl), h2 134 21 (by rfl)]; exact b21
      · rw [if_neg zd, if_neg (show ¬ (i < len ∧ 48 ≤ tx i ∧ tx i ≤ 57) from fun q => zd q.2), if_pos rfl, if_pos rfl, chk_t b9, k3]
        unfold f_L_advance_245 f_L_advance_258 f_M_next_199 f_M_next_212
        have fin : ∀ κ, κ = 3 ∨ κ = 4 → ∃ e v M1 N1, (bm (wr M0 2 2 (oN κ)) fun M245 => bm (wr M245 2 4 (M245 2 4 + 1)) fun M255 => some M255) = some M1 ∧ (bm (wr N0 134 20 (oN κ)) fun M199 => bm (wr M199 134 22 (M199 134 22 + 1)) fun M209 => some M209) = some N1 ∧ Tt M1 N1 tx len ∧ Lx M1 N1 tx len κ i e v := by
          intro κ hκ
          rw [bm_s, bm_s, bm_s, bm_s, wr_n (by decide), wr_n (by decide), a4, b22, oN_S]
          have h1 : Fr [(2, 2, 3), (2, 2, 5)] M0 (wr (wr M0 2 2 (oN κ)) 2 4 (oN (i + 1))) := (fr_wr rfl (by rfl)).tr (fr_wr rfl (by rfl))
          have h2 : Fr [(134, 134, 21), (134, 134, 23)] N0 (wr (wr N0 134 20 (oN κ)) 134 22 (oN (i + 1))) := (fr_wr rfl (by rfl)).tr (fr_wr rfl (by rfl))
          refine ⟨i + 1, 0, _, _, rfl, rfl, T1'.ag (Ag.of h1 (by rfl)) (Ag.of h2 (by rfl)), ?_, ?_, ?_, ?_, wr_s _ _ _ _, wr_s _ _ _ _, by omega, by omega, by omega, fun _ => by omega, fun _ => by omega, fun z => by omega, fun z => by omega⟩
          · rw [wr_n (by decide), wr_s]
          · rw [wr_n (by decide), wr_s]
          · rw [h1 2 3 (by rfl)]; exact a3
          · rw [h2 134 21 (by rfl)]; exact b21
        by_cases z : tx i = 59
        · rw [if_pos ((cl_is _ (by omega)).2.mpr z), if_pos (by rw [z]; rfl)]
          obtain ⟨e, v, M1, N1, q⟩ := fin 3 (Or.inl rfl)
          exact ⟨3, e, v, M1, N1, q⟩
        · rw [if_neg (fun q => z ((cl_is _ (by omega)).2.mp q)), if_neg (show ¬ oN (tx i) = 59 from fun q => z ((oN_inj (b := 59) (by omega) (by omega)).mp q))]
          obtain ⟨e, v, M1, N1, q⟩ := fin 4 (Or.inr rfl)
          exact ⟨4, e, v, M1, N1, q⟩
  · obtain rfl : i = len := by omega
    rw [if_neg (fun q => by have := (oN_lt (by omega) (by omega)).mp q; omega), if_pos rfl]
    have h1 : Fr [(2, 2, 3)] M0 (wr M0 2 2 0) := fr_wr rfl (by rfl)
    have h2 : Fr [(134, 134, 21)] N0 (wr N0 134 20 0) := fr_wr rfl (by rfl)
    refine ⟨0, i, 0, _, _, rfl, rfl, T1'.ag (Ag.of h1 (by rfl)) (Ag.of h2 (by rfl)), by rw [wr_s]; rfl, by rw [wr_s]; rfl, by rw [wr_n (by decide)]; exact a3, by rw [wr_n (by decide)]; exact b21, by rw [wr_n (by decide)]; exact a4, by rw [wr_n (by decide)]; exact b22, Nat.le_refl _, Nat.le_refl _, by decide, fun z => absurd rfl z, fun z => absurd z (Nat.lt_irrefl _), fun z => absurd z (by decide), fun z => absurd z (by decide)⟩
/-- the next token -/
theorem l_adv {e : Nat} (he : e ≤ len) (hT : Tt M N tx len) (a : M 2 4 = oN e) (b : N 134 22 = oN e) :
    ∃ κ s e' v M1 N1, f_L_advance M = some M1 ∧ f_M_next N = some N1 ∧ Tt M1 N1 tx len ∧ Lx M1 N1 tx len κ s e' v ∧ e ≤ s := by
  have en : f_M_next N = f_M_next_0 (fu + 1) N := by rw [f_M_next_0]; rfl
  unfold f_L_advance
  rw [bm_s, en, a]
  have g1 : Fr [(2, 2, 4)] M (wr M 2 3 (oN e)) := fr_wr rfl (by rfl)
  obtain ⟨i', M1, N1, q1, q2, q3, q4, q5, q6, q7, q8⟩ := l_sp (tx := tx) (len := len) (len - e) e fu (fu + 1) (wr M 2 3 (oN e)) N (by omega) (by have := hT.1; unfold fu; omega) (by have := hT.1; unfold fu; omega) (hT.ag (Ag.of g1 (by rfl)) (Ag.rf _ _)) (wr_s _ _ _ _) b
  obtain ⟨κ, e', v, M2, N2, r1, r2, r3, r4⟩ := l_tok q2 ((hT.ag (Ag.of g1 (by rfl)) (Ag.rf _ _)).ag (Ag.of q5 (by rfl)) (Ag.of q6 (by rfl))) q7 q8
  exact ⟨κ, i', e', v, M2, N2, q3.trans r1, q4.trans r2, r3, r4, q1⟩
end LEX2
