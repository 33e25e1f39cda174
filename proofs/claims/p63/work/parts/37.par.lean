/-! reading: words, numbers, names -/
section PAR
variable {M N : Mm} {tx : Nat → Nat} {len κ s e v : Nat} {r : Rw}
/-- both are reading, nothing wrong so far -/
def PX (M N : Mm) (tx : Nat → Nat) (len κ s e v : Nat) (r : Rw) : Prop := Tt M N tx len ∧ Lx M N tx len κ s e v ∧ V r ∧ CS M 4 r ∧ MS N 135 0 r ∧ N 134 24 = 0 ∧ (M 1 3 = 0 ∧ N 134 16 = 0 ∧ M 1 4 = -1 ∧ N 134 17 = -1)
/-- both have found the same wrong token -/
def FX (M N : Mm) : Prop := N 134 24 = 1 ∧ M 1 3 = N 134 16 ∧ M 1 4 = N 134 17 ∧ DZ M ∧ M 1 3 ≠ 0
def WR (N N' : Mm) : Prop := N' 134 24 = 1 ∧ N' 134 16 = N 134 16 ∧ N' 134 17 = N 134 17
theorem FX.wr {N' : Mm} (h : FX M N) (w : WR N N') : FX M N' := ⟨w.1, h.2.1.trans w.2.1.symm, h.2.2.1.trans w.2.2.symm, h.2.2.2⟩
theorem WR.tr {N1 N2 : Mm} (h : WR N N1) (h2 : WR N1 N2) : WR N N2 := ⟨h2.1, h2.2.1.trans h.2.1, h2.2.2.trans h.2.2⟩
theorem WR.rf (h : N 134 24 = 1) : WR N N := ⟨h, rfl, rfl⟩
theorem WR.of {l : List (Nat × Nat × Nat)} {N1 : Mm} (h : N 134 24 = 1) (f : Fr l N N1) (e : dis l [(134, 134, 25), (134, 134, 17), (134, 134, 18)] = true) : WR N N1 := by
  have g := Ag.of f e
  exact ⟨(g 134 24 (by rfl)).trans h, g 134 16 (by rfl), g 134 17 (by rfl)⟩
theorem PX.ag {M' N' : Mm} (h : PX M N tx len κ s e v r) (f : Ag [(2, 2, 0), (3, 3, 0), (4, 13, 0), (1, 1, 4), (1, 1, 5)] M M') (g : Ag [(134, 134, 15), (134, 134, 17), (134, 134, 18), (134, 134, 21), (134, 134, 22), (134, 134, 23), (134, 134, 24), (134, 134, 25), (135, 135, 0), (141, 141, 0)] N N') : PX M' N' tx len κ s e v r := by
  obtain ⟨t, l, w, c, m, z, e1, e2, e3, e4⟩ := h
  refine ⟨t.ag (f.su (by rfl)) (g.su (by rfl)), l.ag (f.su (by rfl)) (g.su (by rfl)), w, c.ag (f.su (ds := [(4, 13, 0)]) (by rfl)) (by decide) (by decide), m.ag (g.su (by rfl)), (g _ _ (by rfl)).trans z, (f _ _ (by rfl)).trans e1, (g _ _ (by rfl)).trans e2, (f _ _ (by rfl)).trans e3, (g _ _ (by rfl)).trans e4⟩
theorem PX.fx {M1 N1 : Mm} {c : Int32} (h : PX M N tx len κ s e v r) (hc : c ≠ 0) (e1 : M1 = wr (wr M 1 3 c) 1 4 (oN s)) (e2 : N1 = wr (wr (wr N 134 24 1) 134 16 c) 134 17 (oN s)) : FX M1 N1 := by
  subst e1; subst e2
  refine ⟨?_, ?_, ?_, ?_, ?_⟩
  · rw [wr_n (by decide), wr_n (by decide), wr_s]
  · rw [wr_n (by decide), wr_s, wr_n (by decide), wr_s]
  · rw [wr_s, wr_s]
  · intro i hi
    rw [wr_n (by omega), wr_n (by omega)]
    exact h.2.2.2.1.2.2.2.2.1 i hi
  · rw [wr_n (by decide), wr_s]; exact hc
theorem p_wr0 {c : Int32} (h : N 134 24 = 0) : f_M_wrong 0 c N = some N := by
  unfold f_M_wrong f_M_wrong_11
  rw [if_pos h, if_pos rfl]
theorem w_wr {t c : Int32} (h : N 134 24 = 1) : f_M_wrong t c N = some N := by
  unfold f_M_wrong f_M_wrong_11
  rw [if_neg (by rw [h]; decide)]
theorem w_go (h : N 134 24 = 1) : f_M_go N = some N := by
  unfold f_M_go f_M_go_11
  rw [if_neg (by rw [h]; decide)]
theorem p_go (h : N 134 24 = 0) : f_M_go N = f_M_next N := by
  unfold f_M_go f_M_go_11
  rw [if_pos h]
  cases f_M_next N <;> rfl
/-- the error, noted in both -/
theorem p_fail {c : Int32} (h : PX M N tx len κ s e v r) (hc : c ≠ 0) : ∃ M1 N1, f_I_fail c M = some (0, M1) ∧ (∀ t, t ≠ 0 → f_M_wrong t c N = some N1) ∧ FX M1 N1 ∧ Fr [(134, 134, 25), (134, 134, 17), (134, 134, 18)] N N1 := by
  have hs : M 2 3 = oN s := h.2.1.2.2.1
  have hs2 : N 134 21 = oN s := h.2.1.2.2.2.1
  have hz : N 134 24 = 0 := h.2.2.2.2.2.1
  refine ⟨_, _, ?_, fun t ht => ?_, h.fx hc rfl rfl, (fr_wr rfl (by rfl)).tr ((fr_wr rfl (by rfl)).tr (fr_wr rfl (by rfl)))⟩
  · unfold f_I_fail
    rw [bm_s, bm_s, wr_n (by decide), hs]
  · unfold f_M_wrong
    rw [if_pos hz, if_neg ht, bm_s, bm_s, bm_s, wr_n (by decide), wr_n (by decide), hs2]
/-- the next token, in both -/
theorem p_adv (h : PX M N tx len κ s e v r) : ∃ κ' s' e' v' M1 N1, f_L_advance M = some M1 ∧ f_M_go N = some N1 ∧ PX M1 N1 tx len κ' s' e' v' r ∧ e ≤ s' := by
  obtain ⟨t, l, w, c, m, z, er⟩ := h
  obtain ⟨κ', s', e', v', M1, N1, a1, a2, a3, a4, a5⟩ := l_adv l.2.2.2.2.2.2.2.1 t l.2.2.2.2.1 l.2.2.2.2.2.1
  have f1 := fr_L_advance a1
  have f2 := fr_M_next a2
  exact ⟨κ', s', e', v', M1, N1, a1, (p_go z).trans a2, ⟨a3, a4, w, c.fr f1 (by rfl), m.fr f2 (by rfl), (f2 134 24 (by rfl)).trans z, (f1 1 3 (by rfl)).trans er.1, (f2 134 16 (by rfl)).trans er.2.1, (f1 1 4 (by rfl)).trans er.2.2.1, (f2 134 17 (by rfl)).trans er.2.2.2⟩, a5⟩
/-- behind the semicolon: the class goes on and then does, the model does and then goes on -/
theorem p_semi {N0 : Mm} {r' : Rw} (h : PX M N tx len κ s e v r) (w' : V r') (m' : MS N0 135 0 r') (f0 : Fr [(135, 135, 0), (134, 134, 26)] N N0) :
    ∃ κ' s' e' v' M1 N1, f_L_advance M = some M1 ∧ f_M_go N0 = some N1 ∧ e ≤ s' ∧ CS M1 4 r ∧ (∀ M2, Fr [(4, 13, 0)] M1 M2 → CS M2 4 r' → PX M2 N1 tx len κ' s' e' v' r') := by
  obtain ⟨t, l, w, c, m, z, er⟩ := h
  have t0 : Tt M N0 tx len := t.ag (Ag.rf _ _) (Ag.of f0 (by rfl))
  obtain ⟨κ', s', e', v', M1, N1, a1, a2, a3, a4, a5⟩ := l_adv l.2.2.2.2.2.2.2.1 t0 l.2.2.2.2.1 ((f0 134 22 (by rfl)).trans l.2.2.2.2.2.1)
  have f1 := fr_L_advance a1
  have f2 := fr_M_next a2
  have z0 : N0 134 24 = 0 := (f0 134 24 (by rfl)).trans z
  refine ⟨κ', s', e', v', M1, N1, a1, (p_go z0).trans a2, a5, c.fr f1 (by rfl), fun M2 g c2 => ?_⟩
  exact ⟨a3.ag (Ag.of g (by rfl)) (Ag.rf _ _), a4.ag (Ag.of g (by rfl)) (Ag.rf _ _), w', c2, m'.fr f2 (by rfl), (f2 134 24 (by rfl)).trans z0, (g 1 3 (by rfl)).trans ((f1 1 3 (by rfl)).trans er.1), (f2 134 16 (by rfl)).trans ((f0 134 16 (by rfl)).trans er.2.1), (g 1 4 (by rfl)).trans ((f1 1 4 (by rfl)).trans er.2.2.1), (f2 134 17 (by rfl)).trans ((f0 134 17 (by rfl)).trans er.2.2.2)⟩
/-! the words -/
theorem cl_ng : ∀ c, c < 256 → ¬ c < 128 → (oN c).toInt8.toInt32 < 0 := by decide +kernel
theorem cl_eq {c n : Nat} (hc : c < 256) (hn : n < 128) : (oN c).toInt8.toInt32 = oN n ↔ c = n := by
  by_cases z : c < 128
  · rw [cl_d c z, oN_inj (by omega) (by omega)]
  · constructor
    · intro q
      have := cl_ng c hc z
      rw [q] at this
      exact absurd this (oN_nn (by omega))
    · intro q; omega
theorem p_is2 {w w' : Nat} {L : List Nat} (h : PX M N tx len κ s e v r) (h1 : stB w = L.map oN) (h2 : stB w' = L.map oN) (hL : ∀ c ∈ L, c < 128) (he : s + L.length ≤ len) : ∀ (d i f1 f2 : Nat), d + i = L.length → d < f1 → d < f2 → L.length < 900 →
    ∃ b : Int32, isZ b ∧ f_L_isAt_28 w M f1 (oN i) = some b ∧ f_M_is_35 w' N f2 (oN i) = some b := by
  have hs : M 2 3 = oN s := h.2.1.2.2.1
  have hs2 : N 134 21 = oN s := h.2.1.2.2.2.1
  have hT := h.1
  intro d
  induction d with
  | zero =>
    intro i f1 f2 hd g1 g2 hl
    obtain ⟨f1, rfl⟩ : ∃ g, f1 = g + 1 := ⟨f1 - 1, by omega⟩
    obtain ⟨f2, rfl⟩ : ∃ g, f2 = g + 1 := ⟨f2 - 1, by omega⟩
    refine ⟨1, Or.inr rfl, ?_, ?_⟩
    · rw [f_L_isAt_28]
      unfold f_U_length
      rw [bn_s, h1, List.length_map, if_pos ((oN_le (by omega) (by omega)).mpr (by omega))]
    · rw [f_M_is_35]
      unfold f_U_length
      rw [bn_s, h2, List.length_map, if_pos ((oN_le (by omega) (by omega)).mpr (by omega))]
  | succ d ih =>
    intro i f1 f2 hd g1 g2 hl
    obtain ⟨f1, rfl⟩ : ∃ g, f1 = g + 1 := ⟨f1 - 1, by omega⟩
    obtain ⟨f2, rfl⟩ : ∃ g, f2 = g + 1 := ⟨f2 - 1, by omega⟩
    obtain ⟨t0, t1, t2, t3⟩ := hT
    obtain ⟨k1, k2, k3⟩ := t3 (s + i) (by omega)
    have hi : i < L.length := by omega
    have hg : (L.map oN).getD i 0 = oN (L[i]) := by
      rw [List.getD_eq_getElem?_getD, List.getElem?_map, List.getElem?_eq_getElem hi]; rfl
    have hc : L[i] < 128 := hL _ (List.getElem_mem hi)
    have e1 : f_U_charAt w (oN i) = some (oN (L[i])) := by
      unfold f_U_charAt
      rw [h1, chk_t ((iin_oN (by omega)).mpr (by rw [List.length_map]; exact hi)), oI (by omega), hg]
    have e2 : f_U_charAt w' (oN i) = some (oN (L[i])) := by
      unfold f_U_charAt
      rw [h2, chk_t ((iin_oN (by omega)).mpr (by rw [List.length_map]; exact hi)), oI (by omega), hg]
    have c1 : ¬ oN L.length ≤ oN i := by rw [oN_le (by omega) (by omega)]; omega
    have b9 : iin (oN (s + i)) 900 := (iin_oN (by omega)).mpr (by omega)
    have a1 : f_L_isAt_28 w M (f1 + 1) (oN i) = if tx (s + i) = L[i] then f_L_isAt_28 w M f1 (oN (i + 1)) else some 0 := by
      rw [f_L_isAt_28, e1]
      unfold f_U_length
      rw [bn_s, h1, List.length_map, if_neg c1, hs, show oN s + oN i = oN (s + i) from (oN_add s i).symm, chk_t b9, bn_s, oI (by omega), k2, oN_S]
      by_cases z : tx (s + i) = L[i]
      · rw [if_pos ((cl_eq (by omega) hc).mpr z), if_pos z]
      · rw [if_neg (fun q => z ((cl_eq (by omega) hc).mp q)), if_neg z]
    have a2 : f_M_is_35 w' N (f2 + 1) (oN i) = if tx (s + i) = L[i] then f_M_is_35 w' N f2 (oN (i + 1)) else some 0 := by
      rw [f_M_is_35, e2]
      unfold f_U_length
      rw [bn_s, h2, List.length_map, if_neg c1, hs2, show oN s + oN i = oN (s + i) from (oN_add s i).symm, chk_t b9, bn_s, oI (by omega), k3, oN_S]
      by_cases z : tx (s + i) = L[i]
      · rw [if_pos (congrArg oN z), if_pos z]
      · rw [if_neg (fun q => z ((oN_inj (by omega) (by omega)).mp q)), if_neg z]
    rw [a1, a2]
    by_cases z : tx (s + i) = L[i]
    · rw [if_pos z, if_pos z]
      exact ih (i + 1) f1 f2 (by omega) (by omega) (by omega) hl
    · rw [if_neg z, if_neg z]
      exact ⟨0, Or.inl rfl, rfl, rfl⟩
/-- a word in both: the same answer -/
theorem p_is {w w' : Nat} {L : List Nat} (h : PX M N tx len κ s e v r) (h1 : stB w = L.map oN) (h2 : stB w' = L.map oN) (hL : ∀ c ∈ L, c < 128) (hl : L.length < 900) :
    (f_L_isAt w M = some 0 ∧ f_M_is w' N = some 0) ∨ (f_L_isAt w M = some 1 ∧ f_M_is w' N = some 1 ∧ κ = 1 ∧ e - s = L.length) := by
  obtain ⟨q1, q2, q3, q4, q5, q6, q7, q8, q9, q10, q11, q12, q13⟩ := h.2.1
  have t0 := h.1.1
  unfold f_L_isAt f_M_is f_L_isAt_24 f_M_is_31
  rw [q1, q2, if_pos h.2.2.2.2.2.1]
  by_cases c : κ = 1
  · subst c
    rw [if_pos (show oN 1 = 1 from rfl), if_pos (show oN 1 = 1 from rfl), q3, q4, q5, q6]
    have e1 : oN e - oN s = oN (e - s) := (Int32.ofNat_sub e s q7).symm
    unfold f_U_length
    rw [bn_s, bn_s, h1, h2, List.length_map, e1]
    by_cases z : e - s = L.length
    · rw [if_pos (congrArg oN z), if_pos (congrArg oN z)]
      obtain ⟨b, b1, b2, b3⟩ := p_is2 h h1 h2 hL (by omega) L.length 0 fu fu (by omega) (by unfold fu; omega) (by unfold fu; omega) hl
      rcases b1 with rfl | rfl
      · exact Or.inl ⟨b2, b3⟩
      · exact Or.inr ⟨b2, b3, rfl, z⟩
    · have zz : ¬ oN (e - s) = Int32.ofNat L.length := fun q => z ((oN_inj (by omega) (by omega)).mp q)
      rw [if_neg zz, if_neg zz]
      exact Or.inl ⟨rfl, rfl⟩
  · have cc : ¬ oN κ = 1 := fun q => c ((oN_inj (b := 1) (by omega) (by omega)).mp q)
    rw [if_neg cc, if_neg cc]
    exact Or.inl ⟨rfl, rfl⟩
theorem w_is {w : Nat} (h : N 134 24 = 1) : f_M_is w N = some 0 := by
  unfold f_M_is f_M_is_31
  rw [if_neg (by rw [h]; decide)]
/-! numbers -/
theorem w_number {a b : Int32} (h : N 134 24 = 1) : f_M_number a b N = some (a, N) := by
  have k : ∀ t, f_M_number_14 a b t N = some (a, N) := by
    intro t
    unfold f_M_number_14 f_M_number_42 f_M_number_43 f_M_number_62
    rw [w_wr h, bn_s, if_neg (by rw [h]; decide), w_wr h, bn_s, if_neg (by rw [h]; decide), w_go h]; rfl
  unfold f_M_number
  split
  · exact k _
  · exact k _
theorem p_number {a b : Nat} (ha : a ≤ 1000) (hb : b ≤ 9999) (h : PX M N tx len κ s e v r) :
    (∃ x κ' s' e' v' M1 N1, a ≤ x ∧ x ≤ b ∧ f_I_numberHere (oN a) (oN b) M = some (oN x, M1) ∧ f_M_number (oN a) (oN b) N = some (oN x, N1) ∧ PX M1 N1 tx len κ' s' e' v' r ∧ s ≤ s' ∧ κ = 2 ∧ x = v) ∨
    (∃ M1 N1, f_I_numberHere (oN a) (oN b) M = some (-1, M1) ∧ f_M_number (oN a) (oN b) N = some (oN a, N1) ∧ FX M1 N1 ∧ WR N1 N1) := by
  obtain ⟨q1, q2, q3, q4, q5, q6, q7, q8, q9, q10, q11, q12, q13⟩ := h.2.1
  have hz : N 134 24 = 0 := h.2.2.2.2.2.1
  unfold f_I_numberHere f_M_number
  rw [q1, q2]
  by_cases c : κ = 2
  · subst c
    obtain ⟨v1, v2, v3⟩ := q13 rfl
    rw [if_pos (show oN 2 = 2 from rfl), if_pos (show oN 2 = 2 from rfl)]
    unfold f_M_number_14
    rw [p_wr0 hz, bn_s, if_pos hz, v2, v3, c_between, m_isIn, bn_s, bn_s]
    have hin : (oN a ≤ oN v ∧ oN v ≤ oN b) ↔ (a ≤ v ∧ v ≤ b) := by rw [oN_le (by omega) (by omega), oN_le (by omega) (by omega)]
    by_cases z : a ≤ v ∧ v ≤ b
    · rw [if_pos (hin.mpr z), if_neg (show ¬ (1 : Int32) = 0 by decide), if_neg (show ¬ (1 : Int32) = 0 by decide)]
      obtain ⟨κ', s', e', v', M1, N1, a1, a2, a3, a4⟩ := p_adv h
      unfold f_M_number_42 f_M_number_43 f_M_number_62
      rw [a1, bn_s, p_wr0 hz, bn_s, if_pos hz, v3, a2, bn_s]
      exact Or.inl ⟨v, κ', s', e', v', M1, N1, z.1, z.2, rfl, rfl, a3, by omega, rfl, rfl⟩
    · rw [if_neg (fun q => z (hin.mp q)), if_pos rfl, if_pos rfl]
      obtain ⟨M1, N1, f1, f2, f3, f4⟩ := p_fail (c := 2) h (by decide)
      unfold f_M_number_43 f_M_number_62
      rw [f1, bn2_s, f2 1 (by decide), bn_s, if_neg (by rw [f3.1]; decide), w_go f3.1, bn_s]
      exact Or.inr ⟨M1, N1, rfl, rfl, f3, WR.rf f3.1⟩
  · have cc : ¬ oN κ = 2 := fun q => c ((oN_inj (b := 2) (by omega) (by omega)).mp q)
    rw [if_neg cc, if_neg cc]
    obtain ⟨M1, N1, f1, f2, f3, f4⟩ := p_fail (c := 1) h (by decide)
    unfold f_M_number_14 f_M_number_42 f_M_number_43 f_M_number_62
    rw [f1, bn2_s, f2 1 (by decide), bn_s, if_neg (by rw [f3.1]; decide), w_wr f3.1, bn_s, if_neg (by rw [f3.1]; decide), w_go f3.1, bn_s]
    exact Or.inr ⟨M1, N1, rfl, rfl, f3, WR.rf f3.1⟩
/-! names -/
theorem m_nh55 {nl s : Nat} {tx : Nat → Nat} (hnl : nl ≤ 6) (hs : s + nl ≤ 900) : ∀ (d i f : Nat) (N : Mm), d + i = nl → d < f → N 134 19 = oN nl → N 134 21 = oN s → (∀ j, j < nl → N 141 (s + j) = oN (tx (s + j))) → (∀ j, j < i → N 147 j = oN (tx (s + j))) →
    ∃ N1, f_M_nameHere_55 f (oN i) N = some N1 ∧ (∀ j, j < nl → N1 147 j = oN (tx (s + j))) := by
  intro d
  induction d with
  | zero =>
    intro i f N hd hf h19 h21 h141 hi
    obtain ⟨f, rfl⟩ : ∃ g, f = g + 1 := ⟨f - 1, by omega⟩
    rw [f_M_nameHere_55, h19, if_pos (by rw [oN_le (by omega) (by omega)]; omega)]
    exact ⟨N, rfl, fun j hj => hi j (by omega)⟩
  | succ d ih =>
    intro i f N hd hf h19 h21 h141 hi
    obtain ⟨f, rfl⟩ : ∃ g, f = g + 1 := ⟨f - 1, by omega⟩
    rw [f_M_nameHere_55, h19, if_neg (by rw [oN_le (by omega) (by omega)]; omega), h21, show oN s + oN i = oN (s + i) from (oN_add s i).symm, chk_t ((iin_oN (by omega)).mpr (by omega)), chk_t ((iin_oN (by omega)).mpr (by omega)), oI (by omega), oI (by omega), h141 i (by omega), bm_s, oN_S]
    exact ih (i + 1) f (wr N 147 i (oN (tx (s + i)))) (by omega) (by omega) (by rw [wr_n (by omega)]; exact h19) (by rw [wr_n (by omega)]; exact h21) (fun j hj => by rw [wr_n (by omega)]; exact h141 j hj) (fun j hj => by
      by_cases c : j = i
      · subst c; rw [wr_s]
      · rw [wr_n (by omega)]; exact hi j (by omega))
theorem p_name (h : PX M N tx len κ s e v r) :
    (∃ N1, 1 ≤ e - s ∧ e - s ≤ 6 ∧ (∀ j, j < e - s → 97 ≤ tx (s + j) ∧ tx (s + j) ≤ 122) ∧ f_I_nameHere M = some (oN (pkN (fun j => tx (s + j)) (e - s)), M) ∧ f_M_nameHere N = some N1 ∧ PX M N1 tx len κ s e v r ∧ N1 134 19 = oN (e - s) ∧ (∀ j, j < e - s → N1 147 j = oN (tx (s + j))) ∧ κ = 1) ∨
    (∃ M1 N1, f_I_nameHere M = some (-1, M1) ∧ f_M_nameHere N = some N1 ∧ FX M1 N1) := by
  obtain ⟨q1, q2, q3, q4, q5, q6, q7, q8, q9, q10, q11, q12, q13⟩ := h.2.1
  obtain ⟨t0, t1, t2, t3⟩ := h.1
  have hz : N 134 24 = 0 := h.2.2.2.2.2.1
  have hbad : ∃ M1 N1, f_I_nameHere_39 (-1) M = some (-1, M1) ∧ f_M_nameHere_23 N = some N1 ∧ FX M1 N1 := by
    obtain ⟨M1, N1, f1, f2, f3, f4⟩ := p_fail (c := 1) h (by decide)
    unfold f_I_nameHere_39 f_I_nameHere_51 f_M_nameHere_23 f_M_nameHere_28
    rw [if_pos rfl, f1, bn2_s, f2 1 (by decide), bn_s, if_neg (by rw [f3.1]; decide)]
    exact ⟨M1, N1, rfl, rfl, f3⟩
  unfold f_I_nameHere f_M_nameHere
  rw [q1, q2]
  by_cases c : κ = 1
  · subst c
    have hlet := q12 rfl
    have hse := q10 (by decide)
    have e1 : oN e - oN s = oN (e - s) := (Int32.ofNat_sub e s q7).symm
    rw [if_pos (show oN 1 = 1 from rfl), if_pos (show oN 1 = 1 from rfl), q3, q5, q4, q6, e1, c_packed q7 (by omega) (fun k hk => ⟨(t3 k (by omega)).1, (t3 k (by omega)).2.1⟩), bn_s]
    by_cases z : e - s ≤ 6
    · have hl : ∀ j, j < e - s → 97 ≤ tx (s + j) ∧ tx (s + j) ≤ 122 := fun j hj => hlet (s + j) (by omega) (by omega)
      have hP : 1 ≤ e - s ∧ e - s ≤ 6 ∧ ∀ j, j < e - s → 97 ≤ tx (s + j) ∧ tx (s + j) ≤ 122 := ⟨by omega, z, hl⟩
      have hx : pkN (fun j => tx (s + j)) (e - s) < 1073741824 := Nat.lt_of_lt_of_le (pkN_lt _ hl) (p32_le z)
      have hne : ¬ oN (pkN (fun j => tx (s + j)) (e - s)) = -1 := fun q => by
        have := congrArg Int32.toInt q
        rw [oN_int (by omega)] at this
        have e1 : (-1 : Int32).toInt = -1 := by decide
        omega
      rw [if_pos hP, if_pos (show oN (e - s) ≤ 6 from (oN_le (b := 6) (by omega) (by omega)).mpr z)]
      unfold f_I_nameHere_39 f_I_nameHere_51 f_M_nameHere_28
      rw [if_neg hne, p_wr0 hz, bn_s, if_pos hz, q4, q6, e1, bm_s]
      have g0 : Fr [(134, 134, 20)] N (wr N 134 19 (oN (e - s))) := fr_wr rfl (by rfl)
      obtain ⟨N1, n1, n2⟩ := m_nh55 (nl := e - s) (s := s) (tx := tx) z (by omega) (e - s) 0 fu (wr N 134 19 (oN (e - s))) (by omega) (by unfold fu; omega) (wr_s _ _ _ _) (by rw [wr_n (by decide)]; exact q4) (fun j hj => by rw [wr_n (by omega)]; exact (t3 (s + j) (by omega)).2.2) (fun j hj => absurd hj (Nat.not_lt_zero j))
      have g1 := fr_M_nameHere_55 n1
      have g2 : Fr [(134, 134, 20), (147, 147, 0)] N N1 := (g0.up (by rfl)).tr (g1.up (by rfl))
      exact Or.inl ⟨N1, by omega, z, hl, rfl, n1, h.ag (Ag.rf _ _) (Ag.of g2 (by rfl)), (g1 134 19 (by rfl)).trans (wr_s _ _ _ _), n2, rfl⟩
    · rw [if_neg (fun q => z q.2.1), if_neg (show ¬ oN (e - s) ≤ 6 from fun q => z ((oN_le (b := 6) (by omega) (by omega)).mp q))]
      exact Or.inr hbad
  · have cc : ¬ oN κ = 1 := fun q => c ((oN_inj (b := 1) (by omega) (by omega)).mp q)
    rw [if_neg cc, if_neg cc]
    exact Or.inr hbad
theorem w_name (h : N 134 24 = 1) : f_M_nameHere N = some N := by
  have k : ∀ t, f_M_nameHere_28 t N = some N := by
    intro t
    unfold f_M_nameHere_28
    rw [w_wr h, bn_s, if_neg (by rw [h]; decide)]
  unfold f_M_nameHere f_M_nameHere_23
  split
  · split
    · exact k _
    · exact k _
  · exact k _
/-- the leg that is named -/
theorem p_leg (h : PX M N tx len κ s e v r) :
    (∃ i κ' s' e' v' M1 N1, i < r 0 ∧ f_I_legHere M = some (oN i, M1) ∧ f_M_legHere N = some (oN i, N1) ∧ PX M1 N1 tx len κ' s' e' v' r ∧ s ≤ s') ∨
    (∃ x M1 N1, f_I_legHere M = some (-1, M1) ∧ f_M_legHere N = some (x, N1) ∧ FX M1 N1) := by
  unfold f_I_legHere f_M_legHere
  rcases p_name h with ⟨N1, h1, h6, hl, e1, e2, p, k1, k2, hκ⟩ | ⟨M1, N1, e1, e2, f⟩
  · have hx : pkN (fun j => tx (s + j)) (e - s) < 1073741824 := Nat.lt_of_lt_of_le (pkN_lt _ hl) (p32_le h6)
    have hne : ¬ oN (pkN (fun j => tx (s + j)) (e - s)) = -1 := fun q => by
      have := congrArg Int32.toInt q
      rw [oN_int (by omega)] at this
      have e1 : (-1 : Int32).toInt = -1 := by decide
      omega
    obtain ⟨x, x1, x2⟩ := m_named p.2.2.2.2.1 p.2.2.1 k1 h6 k2 (fun j hj => by have := hl j hj; omega)
    obtain ⟨y, y1, y2⟩ := c_named p.2.2.2.1 p.2.2.1 hx
    have hxy : y = x := (y2.cg (fun i hi => nm_iff p.2.2.1 hi hl)).eq x2
    subst hxy
    have hz : N1 134 24 = 0 := p.2.2.2.2.2.1
    rw [e1, bn2_s, if_neg hne, y1, bn_s, e2, bn_s, if_pos hz, x1, bn_s]
    unfold f_M_legHere_19 f_M_legHere_37 f_M_legHere_38
    rw [if_pos hz]
    rcases y2 with ⟨i, hi, -, -, rfl⟩ | ⟨-, rfl⟩
    · have hi20 := lt20 p.2.2.1 hi
      have hi1 : ¬ oN i = -1 := fun q => by
        have := congrArg Int32.toInt q
        rw [oN_int (by omega)] at this
        have e1 : (-1 : Int32).toInt = -1 := by decide
        omega
      obtain ⟨κ', s', e', v', M2, N2, a1, a2, a3, a4⟩ := p_adv p
      rw [if_neg hi1, if_neg hi1, a1, bn_s, p_wr0 hz, bn_s, a2, bn_s]
      exact Or.inl ⟨i, κ', s', e', v', M2, N2, hi, rfl, rfl, a3, by have := p.2.1.2.2.2.2.2.2.1; omega⟩
    · obtain ⟨M2, N2, f1, f2, f3, f4⟩ := p_fail (c := 3) p (by decide)
      rw [if_pos rfl, if_pos rfl, f1, bn2_s, f2 1 (by decide), bn_s, w_go f3.1, bn_s]
      exact Or.inr ⟨_, M2, N2, rfl, rfl, f3⟩
  · rw [e1, bn2_s, if_pos rfl, e2, bn_s, if_neg (by rw [f.1]; decide)]
    unfold f_M_legHere_19 f_M_legHere_37 f_M_legHere_38
    rw [if_neg (by rw [f.1]; decide), w_wr f.1, bn_s, w_go f.1, bn_s]
    exact Or.inr ⟨_, M1, N1, rfl, rfl, f⟩
/-! the end of a command -/
theorem w_ends {x : Int32} (h : N 134 24 = 1) : f_M_ends x N = some (0, N) := by
  have k : ∀ t, f_M_ends_14 x t N = some (0, N) := by
    intro t
    unfold f_M_ends_14 f_M_ends_34 f_M_ends_35 f_M_ends_52
    rw [w_wr h, bn_s, if_neg (by rw [h]; decide), w_wr h, bn_s, if_neg (by rw [h]; decide), chk_t (by decide)]
  unfold f_M_ends
  split
  · exact k _
  · exact k _
/-- a semicolon stands here and nothing speaks against it -/
theorem p_ends (h : PX M N tx len κ s e v r) (c : κ = 3) {x : Int32} (hx : x ≠ 0) : f_M_ends x N = some (1, N) := by
  have hz : N 134 24 = 0 := h.2.2.2.2.2.1
  unfold f_M_ends f_M_ends_14 f_M_ends_34 f_M_ends_35 f_M_ends_52
  rw [h.2.1.2.1, c, if_pos (show oN 3 = 3 from rfl), p_wr0 hz, bn_s, if_pos hz, if_neg hx, p_wr0 hz, bn_s, if_pos hz, chk_t (by decide)]
/-- a semicolon, but the method would not -/
theorem p_ends6 (h : PX M N tx len κ s e v r) (c : κ = 3) : ∃ M1 N1, f_I_fail 6 M = some (0, M1) ∧ f_M_ends 0 N = some (0, N1) ∧ FX M1 N1 := by
  have hz : N 134 24 = 0 := h.2.2.2.2.2.1
  obtain ⟨M1, N1, f1, f2, f3, f4⟩ := p_fail (c := 6) h (by decide)
  refine ⟨M1, N1, f1, ?_, f3⟩
  unfold f_M_ends f_M_ends_14 f_M_ends_35 f_M_ends_52
  rw [h.2.1.2.1, c, if_pos (show oN 3 = 3 from rfl), p_wr0 hz, bn_s, if_pos hz, if_pos rfl, f2 1 (by decide), bn_s, if_neg (by rw [f3.1]; decide), chk_t (by decide)]
/-- no semicolon -/
theorem p_noend (h : PX M N tx len κ s e v r) (c : κ ≠ 3) (x : Int32) : ∃ M1 N1, f_I_readsSemicolon M = some (0, M1) ∧ f_M_ends x N = some (0, N1) ∧ FX M1 N1 := by
  have hz : N 134 24 = 0 := h.2.2.2.2.2.1
  have hκ := h.2.1.2.2.2.2.2.2.2.2.1
  obtain ⟨M1, N1, f1, f2, f3, f4⟩ := p_fail (c := 1) h (by decide)
  have cc : ¬ oN κ = 3 := fun q => c ((oN_inj (b := 3) (by omega) (by omega)).mp q)
  refine ⟨M1, N1, ?_, ?_, f3⟩
  · unfold f_I_readsSemicolon
    rw [h.2.1.1, if_neg cc, f1, bn2_s, chk_t (by decide)]
  · unfold f_M_ends f_M_ends_14 f_M_ends_34 f_M_ends_35 f_M_ends_52
    rw [h.2.1.2.1, if_neg cc, f2 1 (by decide), bn_s, if_neg (by rw [f3.1]; decide), w_wr f3.1, bn_s, if_neg (by rw [f3.1]; decide), chk_t (by decide)]
theorem c_semi (h : PX M N tx len κ s e v r) (c : κ = 3) {M1 : Mm} (a : f_L_advance M = some M1) : f_I_readsSemicolon M = some (1, M1) := by
  unfold f_I_readsSemicolon
  rw [h.2.1.1, c, if_pos (show oN 3 = 3 from rfl), a, bn_s]
end PAR
