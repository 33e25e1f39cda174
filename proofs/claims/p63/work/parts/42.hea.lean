/-! the head of a setup: the same lemmas where no survey stands yet -/
section HEA
variable {M N : Mm} {tx : Nat → Nat} {len κ s e v : Nat} {r : Rw}
def PL (M N : Mm) (tx : Nat → Nat) (len κ s e v : Nat) : Prop := Tt M N tx len ∧ Lx M N tx len κ s e v ∧ DZ M ∧ N 134 24 = 0 ∧ (M 1 3 = 0 ∧ N 134 16 = 0 ∧ M 1 4 = -1 ∧ N 134 17 = -1)
theorem PL.fx {M1 N1 : Mm} {c : Int32} (h : PL M N tx len κ s e v) (hc : c ≠ 0) (e1 : M1 = wr (wr M 1 3 c) 1 4 (oN s)) (e2 : N1 = wr (wr (wr N 134 24 1) 134 16 c) 134 17 (oN s)) : FX M1 N1 := by
  subst e1; subst e2
  refine ⟨?_, ?_, ?_, ?_, ?_⟩
  · rw [wr_n (by decide), wr_n (by decide), wr_s]
  · rw [wr_n (by decide), wr_s, wr_n (by decide), wr_s]
  · rw [wr_s, wr_s]
  · intro i hi
    rw [wr_n (by omega), wr_n (by omega)]
    exact h.2.2.1 i hi
  · rw [wr_n (by decide), wr_s]; exact hc
/-- the error, noted in both -/
theorem q_fail {c : Int32} (h : PL M N tx len κ s e v) (hc : c ≠ 0) : ∃ M1 N1, f_I_fail c M = some (0, M1) ∧ (∀ t, t ≠ 0 → f_M_wrong t c N = some N1) ∧ FX M1 N1 ∧ Fr [(134, 134, 25), (134, 134, 17), (134, 134, 18)] N N1 := by
  have hs : M 2 3 = oN s := h.2.1.2.2.1
  have hs2 : N 134 21 = oN s := h.2.1.2.2.2.1
  have hz : N 134 24 = 0 := h.2.2.2.1
  refine ⟨_, _, ?_, fun t ht => ?_, h.fx hc rfl rfl, (fr_wr rfl (by rfl)).tr ((fr_wr rfl (by rfl)).tr (fr_wr rfl (by rfl)))⟩
  · unfold f_I_fail
    rw [bm_s, bm_s, wr_n (by decide), hs]
  · unfold f_M_wrong
    rw [if_pos hz, if_neg ht, bm_s, bm_s, bm_s, wr_n (by decide), wr_n (by decide), hs2]
/-- the next token, in both -/
theorem q_adv (h : PL M N tx len κ s e v) : ∃ κ' s' e' v' M1 N1, f_L_advance M = some M1 ∧ f_M_go N = some N1 ∧ PL M1 N1 tx len κ' s' e' v' ∧ e ≤ s' := by
  obtain ⟨t, l, w, z, er⟩ := h
  obtain ⟨κ', s', e', v', M1, N1, a1, a2, a3, a4, a5⟩ := l_adv l.2.2.2.2.2.2.2.1 t l.2.2.2.2.1 l.2.2.2.2.2.1
  have f1 := fr_L_advance a1
  have f2 := fr_M_next a2
  exact ⟨κ', s', e', v', M1, N1, a1, (p_go z).trans a2, ⟨a3, a4, w.ag (Ag.of f1 (by rfl)), (f2 134 24 (by rfl)).trans z, (f1 1 3 (by rfl)).trans er.1, (f2 134 16 (by rfl)).trans er.2.1, (f1 1 4 (by rfl)).trans er.2.2.1, (f2 134 17 (by rfl)).trans er.2.2.2⟩, a5⟩
theorem q_is2 {w w' : Nat} {L : List Nat} (h : PL M N tx len κ s e v) (h1 : stB w = L.map oN) (h2 : stB w' = L.map oN) (hL : ∀ c ∈ L, c < 128) (he : s + L.length ≤ len) : ∀ (d i f1 f2 : Nat), d + i = L.length → d < f1 → d < f2 → L.length < 900 →
    ∃ b : Int32, isZ b ∧ f_L_isAt_28 w M f1 (oN i) = some b ∧ f_M_is_35 w' N f2 (oN i) = some b := by
  have hs : M 2 3 = oN s := h.2.1.2.2.1
  have hs2 : N 134 21 = oN s := h.2.1.2.2.2.1
  have hT := h.1
  intro d
  induction d with
  | zero =>
    intro i f1 f2 hd g1 g2 hl
    obtain ⟨f1, rfl⟩ : ∃ g, f1 = g + 1 := ⟨f1 - 1, by omega⟩
    obtain ⟨f2, rfl⟩ : ∃ g, f2 = g + 1 := ⟨f2 - 1, by omega⟩
    refine ⟨1, Or.inr rfl, ?_, ?_⟩
    · rw [f_L_isAt_28]
      unfold f_U_length
      rw [bn_s, h1, List.length_map, if_pos ((oN_le (by omega) (by omega)).mpr (by omega))]
    · rw [f_M_is_35]
      unfold f_U_length
      rw [bn_s, h2, List.length_map, if_pos ((oN_le (by omega) (by omega)).mpr (by omega))]
  | succ d ih =>
    intro i f1 f2 hd g1 g2 hl
    obtain ⟨f1, rfl⟩ : ∃ g, f1 = g + 1 := ⟨f1 - 1, by omega⟩
    obtain ⟨f2, rfl⟩ : ∃ g, f2 = g + 1 := ⟨f2 - 1, by omega⟩
    obtain ⟨t0, t1, t2, t3⟩ := hT
    obtain ⟨k1, k2, k3⟩ := t3 (s + i) (by omega)
    have hi : i < L.length := by omega
    have hg : (L.map oN).getD i 0 = oN (L[i]) := by
      rw [List.getD_eq_getElem?_getD, List.getElem?_map, List.getElem?_eq_getElem hi]; rfl
    have hc : L[i] < 128 := hL _ (List.getElem_mem hi)
    have e1 : f_U_charAt w (oN i) = some (oN (L[i])) := by
      unfold f_U_charAt
      rw [h1, chk_t ((iin_oN (by omega)).mpr (by rw [List.length_map]; exact hi)), oI (by omega), hg]
    have e2 : f_U_charAt w' (oN i) = some (oN (L[i])) := by
      unfold f_U_charAt
      rw [h2, chk_t ((iin_oN (by omega)).mpr (by rw [List.length_map]; exact hi)), oI (by omega), hg]
    have c1 : ¬ oN L.length ≤ oN i := by rw [oN_le (by omega) (by omega)]; omega
    have b9 : iin (oN (s + i)) 900 := (iin_oN (by omega)).mpr (by omega)
    have a1 : f_L_isAt_28 w M (f1 + 1) (oN i) = if tx (s + i) = L[i] then f_L_isAt_28 w M f1 (oN (i + 1)) else some 0 := by
      rw [f_L_isAt_28, e1]
      unfold f_U_length
      rw [bn_s, h1, List.length_map, if_neg c1, hs, show oN s + oN i = oN (s + i) from (oN_add s i).symm, chk_t b9, bn_s, oI (by omega), k2, oN_S]
      by_cases z : tx (s + i) = L[i]
      · rw [if_pos ((cl_eq (by omega) hc).mpr z), if_pos z]
      · rw [if_neg (fun q => z ((cl_eq (by omega) hc).mp q)), if_neg z]
    have a2 : f_M_is_35 w' N (f2 + 1) (oN i) = if tx (s + i) = L[i] then f_M_is_35 w' N f2 (oN (i + 1)) else some 0 := by
      rw [f_M_is_35, e2]
      unfold f_U_length
      rw [bn_s, h2, List.length_map, if_neg c1, hs2, show oN s + oN i = oN (s + i) from (oN_add s i).symm, chk_t b9, bn_s, oI (by omega), k3, oN_S]
      by_cases z : tx (s + i) = L[i]
      · rw [if_pos (congrArg oN z), if_pos z]
      · rw [if_neg (fun q => z ((oN_inj (by omega) (by omega)).mp q)), if_neg z]
    rw [a1, a2]
    by_cases z : tx (s + i) = L[i]
    · rw [if_pos z, if_pos z]
      exact ih (i + 1) f1 f2 (by omega) (by omega) (by omega) hl
    · rw [if_neg z, if_neg z]
      exact ⟨0, Or.inl rfl, rfl, rfl⟩
/-- a word in both: the same answer -/
theorem q_is {w w' : Nat} {L : List Nat} (h : PL M N tx len κ s e v) (h1 : stB w = L.map oN) (h2 : stB w' = L.map oN) (hL : ∀ c ∈ L, c < 128) (hl : L.length < 900) :
    (f_L_isAt w M = some 0 ∧ f_M_is w' N = some 0) ∨ (f_L_isAt w M = some 1 ∧ f_M_is w' N = some 1 ∧ κ = 1 ∧ e - s = L.length) := by
  obtain ⟨q1, q2, q3, q4, q5, q6, q7, q8, q9, q10, q11, q12, q13⟩ := h.2.1
  have t0 := h.1.1
  unfold f_L_isAt f_M_is f_L_isAt_24 f_M_is_31
  rw [q1, q2, if_pos h.2.2.2.1]
  by_cases c : κ = 1
  · subst c
    rw [if_pos (show oN 1 = 1 from rfl), if_pos (show oN 1 = 1 from rfl), q3, q4, q5, q6]
    have e1 : oN e - oN s = oN (e - s) := (Int32.ofNat_sub e s q7).symm
    unfold f_U_length
    rw [bn_s, bn_s, h1, h2, List.length_map, e1]
    by_cases z : e - s = L.length
    · rw [if_pos (congrArg oN z), if_pos (congrArg oN z)]
      obtain ⟨b, b1, b2, b3⟩ := q_is2 h h1 h2 hL (by omega) L.length 0 fu fu (by omega) (by unfold fu; omega) (by unfold fu; omega) hl
      rcases b1 with rfl | rfl
      · exact Or.inl ⟨b2, b3⟩
      · exact Or.inr ⟨b2, b3, rfl, z⟩
    · have zz : ¬ oN (e - s) = Int32.ofNat L.length := fun q => z ((oN_inj (by omega) (by omega)).mp q)
      rw [if_neg zz, if_neg zz]
      exact Or.inl ⟨rfl, rfl⟩
  · have cc : ¬ oN κ = 1 := fun q => c ((oN_inj (b := 1) (by omega) (by omega)).mp q)
    rw [if_neg cc, if_neg cc]
    exact Or.inl ⟨rfl, rfl⟩
theorem q_number {a b : Nat} (ha : a ≤ 1000) (hb : b ≤ 9999) (h : PL M N tx len κ s e v) :
    (∃ x κ' s' e' v' M1 N1, a ≤ x ∧ x ≤ b ∧ f_I_numberHere (oN a) (oN b) M = some (oN x, M1) ∧ f_M_number (oN a) (oN b) N = some (oN x, N1) ∧ PL M1 N1 tx len κ' s' e' v' ∧ s ≤ s' ∧ κ = 2 ∧ x = v) ∨
    (∃ M1 N1, f_I_numberHere (oN a) (oN b) M = some (-1, M1) ∧ f_M_number (oN a) (oN b) N = some (oN a, N1) ∧ FX M1 N1 ∧ WR N1 N1) := by
  obtain ⟨q1, q2, q3, q4, q5, q6, q7, q8, q9, q10, q11, q12, q13⟩ := h.2.1
  have hz : N 134 24 = 0 := h.2.2.2.1
  unfold f_I_numberHere f_M_number
  rw [q1, q2]
  by_cases c : κ = 2
  · subst c
    obtain ⟨v1, v2, v3⟩ := q13 rfl
    rw [if_pos (show oN 2 = 2 from rfl), if_pos (show oN 2 = 2 from rfl)]
    unfold f_M_number_14
    rw [p_wr0 hz, bn_s, if_pos hz, v2, v3, c_between, m_isIn, bn_s, bn_s]
    have hin : (oN a ≤ oN v ∧ oN v ≤ oN b) ↔ (a ≤ v ∧ v ≤ b) := by rw [oN_le (by omega) (by omega), oN_le (by omega) (by omega)]
    by_cases z : a ≤ v ∧ v ≤ b
    · rw [if_pos (hin.mpr z), if_neg (show ¬ (1 : Int32) = 0 by decide), if_neg (show ¬ (1 : Int32) = 0 by decide)]
      obtain ⟨κ', s', e', v', M1, N1, a1, a2, a3, a4⟩ := q_adv h
      unfold f_M_number_42 f_M_number_43 f_M_number_62
      rw [a1, bn_s, p_wr0 hz, bn_s, if_pos hz, v3, a2, bn_s]
      exact Or.inl ⟨v, κ', s', e', v', M1, N1, z.1, z.2, rfl, rfl, a3, by omega, rfl, rfl⟩
    · rw [if_neg (fun q => z (hin.mp q)), if_pos rfl, if_pos rfl]
      obtain ⟨M1, N1, f1, f2, f3, f4⟩ := q_fail (c := 2) h (by decide)
      unfold f_M_number_43 f_M_number_62
      rw [f1, bn2_s, f2 1 (by decide), bn_s, if_neg (by rw [f3.1]; decide), w_go f3.1, bn_s]
      exact Or.inr ⟨M1, N1, rfl, rfl, f3, WR.rf f3.1⟩
  · have cc : ¬ oN κ = 2 := fun q => c ((oN_inj (b := 2) (by omega) (by omega)).mp q)
    rw [if_neg cc, if_neg cc]
    obtain ⟨M1, N1, f1, f2, f3, f4⟩ := q_fail (c := 1) h (by decide)
    unfold f_M_number_14 f_M_number_42 f_M_number_43 f_M_number_62
    rw [f1, bn2_s, f2 1 (by decide), bn_s, if_neg (by rw [f3.1]; decide), w_wr f3.1, bn_s, if_neg (by rw [f3.1]; decide), w_go f3.1, bn_s]
    exact Or.inr ⟨M1, N1, rfl, rfl, f3, WR.rf f3.1⟩
theorem q_w (k : Nat) (hk : k < 13) (h : PL M N tx len κ s e v) : (f_L_isAt (wC.getD k 0) M = some 0 ∧ f_M_is (wM.getD k 0) N = some 0) ∨ (f_L_isAt (wC.getD k 0) M = some 1 ∧ f_M_is (wM.getD k 0) N = some 1 ∧ κ = 1 ∧ e - s = (wL k).length) := by
  obtain ⟨a, b, c, d⟩ := w_all k hk
  exact q_is h a b c d
theorem PL.ag {M' N' : Mm} (h : PL M N tx len κ s e v) (f : Ag [(2, 2, 0), (3, 3, 0), (7, 7, 0), (1, 1, 4), (1, 1, 5)] M M') (g : Ag [(134, 134, 15), (134, 134, 17), (134, 134, 18), (134, 134, 21), (134, 134, 22), (134, 134, 23), (134, 134, 24), (134, 134, 25), (141, 141, 0)] N N') : PL M' N' tx len κ s e v := by
  obtain ⟨t, l, w, z, e1, e2, e3, e4⟩ := h
  exact ⟨t.ag (f.su (by rfl)) (g.su (by rfl)), l.ag (f.su (by rfl)) (g.su (by rfl)), w.ag (f.su (by rfl)), (g _ _ (by rfl)).trans z, (f _ _ (by rfl)).trans e1, (g _ _ (by rfl)).trans e2, (f _ _ (by rfl)).trans e3, (g _ _ (by rfl)).trans e4⟩
/-- a fresh survey -/
def r0W (w p : Nat) : Rw := fun j => if j = 1 then w else if j = 2 then p else 0
theorem m_load6 : ∀ (d i f : Nat) (N : Mm), d + i = 284 → d < f → (∀ k, k < i → N 135 k = 0) → ∃ N1, f_M_load_6 f (oN i) N = (bn (f_M_is 30 N1) fun r31 => if r31 = 0 then f_M_load_42 1 N1 else f_M_load_42 0 N1) ∧ (∀ k, k < 284 → N1 135 k = 0) ∧ Fr [(135, 135, 0)] N N1 := by
  intro d
  induction d with
  | zero =>
    intro i f N hd hf hz
    obtain ⟨f, rfl⟩ : ∃ g, f = g + 1 := ⟨f - 1, by omega⟩
    rw [f_M_load_6, show (284 : Int32) = oN 284 from rfl, if_pos (by rw [oN_le (by omega) (by omega)]; omega)]
    exact ⟨N, rfl, fun k hk => hz k (by omega), Fr.rf _ _⟩
  | succ d ih =>
    intro i f N hd hf hz
    obtain ⟨f, rfl⟩ : ∃ g, f = g + 1 := ⟨f - 1, by omega⟩
    rw [f_M_load_6, show (284 : Int32) = oN 284 from rfl, if_neg (by rw [oN_le (by omega) (by omega)]; omega), chk_t ((iin_oN (by omega)).mpr (by omega)), oI (by omega), bm_s, oN_S]
    obtain ⟨N1, e1, e2, e3⟩ := ih (i + 1) f (wr N 135 i 0) (by omega) (by omega) (fun k hk => by
      by_cases c : k = i
      · subst c; rw [wr_s]
      · rw [wr_n (by omega)]; exact hz k (by omega))
    exact ⟨N1, e1, e2, (fr_wr rfl (by rfl)).tr e3⟩
/-- under an error the model reads the head to its end -/
theorem w_load93 {t : Int32} (h : N 134 24 = 1) : ∃ x, f_M_load_93 t N = (bn2 (f_M_commands_26 x N) fun r102 M102 => if r102 = (-1 : Int32) then f_M_load_119 (-1) M102 else f_M_load_119 (M102 135 (ix (0 : Int32))) M102) := by
  unfold f_M_load_93 f_M_commands
  rw [w_wr h, bn_s, w_go h, bn_s, show fu = 99999 + 1 from rfl, f_M_commands_2, if_neg (by rw [h]; decide)]
  exact ⟨_, rfl⟩
theorem w_load42 {t : Int32} (h : N 134 24 = 1) : ∃ x N1, f_M_load_42 t N = (bn2 (f_M_commands_26 x N1) fun r102 M102 => if r102 = (-1 : Int32) then f_M_load_119 (-1) M102 else f_M_load_119 (M102 135 (ix (0 : Int32))) M102) ∧ WR N N1 ∧ Fr lPs N N1 := by
  unfold f_M_load_42
  have f1 : Fr [(135, 135, 0)] N (wr (wr N 135 1 0) 135 2 100) := (fr_wr rfl (by rfl)).tr (fr_wr rfl (by rfl))
  have h2 : (wr (wr N 135 1 0) 135 2 100) 134 24 = 1 := (f1 134 24 (by rfl)).trans h
  rw [w_wr h, bn_s, w_go h, bn_s, w_number h, bn2_s, bm_s, show ix (1 : Int32) = 1 from rfl, w_number (by rw [wr_n (by decide)]; exact h), bn2_s, bm_s, show ix (2 : Int32) = 2 from rfl]
  split
  · obtain ⟨x, e⟩ := w_load93 (t := 0) h2
    exact ⟨x, _, e, WR.of h f1 (by rfl), f1.up (by rfl)⟩
  · obtain ⟨x, e⟩ := w_load93 (t := 1) h2
    exact ⟨x, _, e, WR.of h f1 (by rfl), f1.up (by rfl)⟩
/-- what reading a text comes to in both -/
def LR (fC : Option (Int32 × Mm)) (fM : Option (Int32 × Mm)) (N : Mm) (tx : Nat → Nat) (len : Nat) (G : Int32 → Mm → Option (Int32 × Mm)) : Prop :=
  (∃ κ' s' e' v' r' c' M1 N1, c' ≤ 900 ∧ fC = some (1, M1) ∧ fM = (bn2 (f_M_commands_26 (oN c') N1) G) ∧ PX M1 N1 tx len κ' s' e' v' r' ∧ M1 1 2 = oN c' ∧ Fr lPs N N1) ∨
  (∃ x M1 N1, fC = some (0, M1) ∧ fM = (bn2 (f_M_commands_26 x N1) G) ∧ FX M1 N1 ∧ Fr lPs N N1)
def gLoad (r102 : Int32) (M102 : Mm) : Option (Int32 × Mm) := if r102 = (-1 : Int32) then f_M_load_119 (-1) M102 else f_M_load_119 (M102 135 (ix (0 : Int32))) M102
/-- a whole setup -/
theorem p_setup (h : PL M N tx len κ s e v) (z : ∀ k, k < 284 → N 135 k = 0) :
    LR (bn2 (f_I_readsHead M) fun r15 M15 => if r15 = 0 then some ((0 : Int32), M15) else f_I_readsCommands M15) (bn (f_M_is 30 N) fun r31 => if r31 = 0 then f_M_load_42 1 N else f_M_load_42 0 N) N tx len gLoad := by
  have n10 : ¬ (1 : Int32) = 0 := by decide
  unfold f_I_readsHead f_I_readsHead_57 f_I_readsHead_58 f_S_clear f_I_readsWear f_I_readsPace
  rw [bm_s, bm_s, bn_s]
  have fc : Fr [(4, 4, 0)] M (wr (wr M 4 9 0) 4 12 0) := (fr_wr rfl (by rfl)).tr (fr_wr rfl (by rfl))
  have hcl : PL (wr (wr M 4 9 0) 4 12 0) N tx len κ s e v := h.ag (Ag.of fc (by rfl)) (Ag.rf _ _)
  have k9 : (wr (wr M 4 9 0) 4 12 0) 4 9 = 0 := by rw [wr_n (by decide), wr_s]
  have k12 : (wr (wr M 4 9 0) 4 12 0) 4 12 = 0 := wr_s _ _ _ _
  generalize wr (wr M 4 9 0) 4 12 0 = M0 at hcl k9 k12
  have bad : ∀ {M1 N1 : Mm} {t : Int32} {fC : Option (Int32 × Mm)} {fM : Option (Int32 × Mm)}, fC = some (0, M1) → FX M1 N1 → Fr lPs N N1 → (∃ x N2, fM = bn2 (f_M_commands_26 x N2) gLoad ∧ WR N1 N2 ∧ Fr lPs N1 N2) → LR fC fM N tx len gLoad := by
    rintro M1 N1 t fC fM a f g ⟨x, N2, b1, b2, b3⟩
    exact Or.inr ⟨x, M1, N2, a, b1, f.wr b2, g.tr b3⟩
  rcases q_w 0 (by decide) hcl with ⟨a, b⟩ | ⟨a, b, c, d⟩
  · have a : f_L_isAt 1 M0 = some 0 := a
    have b : f_M_is 30 N = some 0 := b
    obtain ⟨M1, N1, f1, f2, f3, f4⟩ := q_fail (c := 1) hcl (by decide)
    rw [a, bn_s, if_pos rfl, f1, bn2_s, chk_t (by decide), bn2_s, if_pos rfl, b, bn_s, if_pos rfl]
    have e1 : f_M_load_42 1 N = f_M_load_42 0 N1 := by
      unfold f_M_load_42
      rw [f2 1 (by decide), w_wr f3.1]
    obtain ⟨x, N2, y1, y2, y3⟩ := w_load42 (t := 0) f3.1
    exact bad (t := 0) rfl f3 (f4.up (by rfl)) ⟨x, N2, e1.trans y1, y2, y3⟩
  have a : f_L_isAt 1 M0 = some 1 := a
  have b : f_M_is 30 N = some 1 := b
  obtain ⟨κ1, s1, e1, v1, M1, N1, a1, a2, p1, hs1⟩ := q_adv hcl
  rw [a, bn_s, if_neg n10, a1, bn_s, b, bn_s, if_neg n10]
  have hz : N 134 24 = 0 := hcl.2.2.2.1
  have g1 : Fr lPs N N1 := by
    have := (p_go hz).symm.trans a2
    exact (fr_M_next this).up (by rfl)
  have f1 := fr_L_advance a1
  unfold f_M_load_42
  rw [p_wr0 hz, bn_s, a2, bn_s]
  have hnum := q_number (a := 0) (b := 999) (by decide) (by decide) p1
  rw [show (oN 0 : Int32) = 0 from rfl, show (oN 999 : Int32) = 999 from rfl] at hnum
  rcases hnum with ⟨wv, κ2, s2, e2, v2, M2, N2, -, hw, q1, q2, p2, hs2, -, -⟩ | ⟨M2, N2, q1, q2, f, -⟩
  rotate_left
  · rw [q1, bn2_s, if_pos rfl, bn2_s, if_pos rfl, chk_t (by decide), bn2_s, if_pos rfl, q2, bn2_s, bm_s, show ix (1 : Int32) = 1 from rfl]
    have fa : Fr [(135, 135, 0)] N2 (wr (wr N2 135 1 0) 135 2 100) := (fr_wr rfl (by rfl)).tr (fr_wr rfl (by rfl))
    have h2 : (wr (wr N2 135 1 0) 135 2 100) 134 24 = 1 := (fa 134 24 (by rfl)).trans f.1
    rw [w_number (by rw [wr_n (by decide)]; exact f.1), bn2_s, bm_s, show ix (2 : Int32) = 2 from rfl]
    have g2 : Fr lPs N N2 := g1.tr ((fr_M_number q2).up (by rfl))
    split
    · obtain ⟨x, y⟩ := w_load93 (t := 0) h2
      exact bad (t := 0) rfl f g2 ⟨x, _, y, WR.of f.1 fa (by rfl), fa.up (by rfl)⟩
    · obtain ⟨x, y⟩ := w_load93 (t := 1) h2
      exact bad (t := 0) rfl f g2 ⟨x, _, y, WR.of f.1 fa (by rfl), fa.up (by rfl)⟩
  rw [q1, bn2_s, if_neg (neM1 (by omega)), bm_s, bn2_s, if_neg n10, q2, bn2_s, bm_s, show ix (1 : Int32) = 1 from rfl]
  have g2 : Fr lPs N N2 := g1.tr ((fr_M_number q2).up (by rfl))
  have f2 := fr_I_numberHere q1
  have fw1 : Fr [(4, 4, 0)] M2 (wr M2 4 10 (oN wv)) := fr_wr rfl (by rfl)
  have fw2 : Fr [(135, 135, 0)] N2 (wr N2 135 1 (oN wv)) := fr_wr rfl (by rfl)
  have p3 : PL (wr M2 4 10 (oN wv)) (wr N2 135 1 (oN wv)) tx len κ2 s2 e2 v2 := p2.ag (Ag.of fw1 (by rfl)) (Ag.of fw2 (by rfl))
  have hnum := q_number (a := 100) (b := 999) (by decide) (by decide) p3
  rw [show (oN 100 : Int32) = 100 from rfl, show (oN 999 : Int32) = 999 from rfl] at hnum
  rcases hnum with ⟨pv, κ4, s4, e4, v4, M4, N4, hp0, hp, q3, q4, p4, hs4, -, -⟩ | ⟨M4, N4, q3, q4, f, -⟩
  rotate_left
  · rw [q3, bn2_s, if_pos rfl, bn2_s, if_pos rfl, chk_t (by decide), bn2_s, if_pos rfl, q4, bn2_s, bm_s, show ix (2 : Int32) = 2 from rfl]
    have fa : Fr [(135, 135, 0)] N4 (wr N4 135 2 100) := fr_wr rfl (by rfl)
    have h2 : (wr N4 135 2 100) 134 24 = 1 := (fa 134 24 (by rfl)).trans f.1
    have g3 : Fr lPs N N4 := g2.tr ((fw2.up (by rfl)).tr ((fr_M_number q4).up (by rfl)))
    split
    · obtain ⟨x, y⟩ := w_load93 (t := 0) h2
      exact bad (t := 0) rfl f g3 ⟨x, _, y, WR.of f.1 fa (by rfl), fa.up (by rfl)⟩
    · obtain ⟨x, y⟩ := w_load93 (t := 1) h2
      exact bad (t := 0) rfl f g3 ⟨x, _, y, WR.of f.1 fa (by rfl), fa.up (by rfl)⟩
  rw [q3, bn2_s, if_neg (neM1 (by omega)), bm_s, bn2_s, if_neg n10, q4, bn2_s, bm_s, show ix (2 : Int32) = 2 from rfl]
  have g3 : Fr lPs N N4 := g2.tr ((fw2.up (by rfl)).tr ((fr_M_number q4).up (by rfl)))
  have f4 := fr_I_numberHere q3
  have fw3 : Fr [(4, 4, 0)] M4 (wr M4 4 11 (oN pv)) := fr_wr rfl (by rfl)
  have fw4 : Fr [(135, 135, 0)] N4 (wr N4 135 2 (oN pv)) := fr_wr rfl (by rfl)
  have p5 : PL (wr M4 4 11 (oN pv)) (wr N4 135 2 (oN pv)) tx len κ4 s4 e4 v4 := p4.ag (Ag.of fw3 (by rfl)) (Ag.of fw4 (by rfl))
  have g4 : Fr lPs N (wr N4 135 2 (oN pv)) := g3.tr (fw4.up (by rfl))
  -- the fresh survey in both
  have c9 : (wr M4 4 11 (oN pv)) 4 9 = 0 := by
    rw [wr_n (by decide), f4 4 9 (by rfl), wr_n (by decide), f2 4 9 (by rfl), f1 4 9 (by rfl)]; exact k9
  have c12 : (wr M4 4 11 (oN pv)) 4 12 = 0 := by
    rw [wr_n (by decide), f4 4 12 (by rfl), wr_n (by decide), f2 4 12 (by rfl), f1 4 12 (by rfl)]; exact k12
  have c10 : (wr M4 4 11 (oN pv)) 4 10 = oN wv := by
    rw [wr_n (by decide), f4 4 10 (by rfl), wr_s]
  have hC : CS (wr M4 4 11 (oN pv)) 4 (r0W wv pv) := ⟨c9, c10, wr_s _ _ _ _, c12, p5.2.2.1, fun i hi => absurd hi (Nat.not_lt_zero i)⟩
  have hV : V (r0W wv pv) := ⟨Nat.zero_le _, hw, hp0, hp, Nat.zero_le _, fun i hi => absurd hi (Nat.not_lt_zero i)⟩
  have hM : MS (wr N4 135 2 (oN pv)) 135 0 (r0W wv pv) := by
    intro k hk
    rw [Nat.zero_add]
    have fN1 : Fr [(134, 134, 21), (134, 134, 22), (134, 134, 23), (134, 134, 24)] N N1 := by
      have := (p_go hz).symm.trans a2
      exact (fr_M_next this).up (by rfl)
    unfold r0W
    by_cases c2 : k = 2
    · subst c2; rw [wr_s]; rfl
    · rw [wr_n (by omega), (fr_M_number q4) 135 k (by rfl)]
      by_cases c1 : k = 1
      · subst c1; rw [wr_s]; rfl
      · rw [wr_n (by omega), (fr_M_number q2) 135 k (by rfl), fN1 135 k (by rfl), if_neg c1, if_neg c2]
        exact z k hk
  have px : PX (wr M4 4 11 (oN pv)) (wr N4 135 2 (oN pv)) tx len κ4 s4 e4 v4 (r0W wv pv) := ⟨p5.1, p5.2.1, hV, hC, hM, p5.2.2.2.1, p5.2.2.2.2⟩
  have hκ := px.2.1.2.2.2.2.2.2.2.2.1
  rw [px.2.1.2.1]
  by_cases c : κ4 = 3
  · obtain ⟨κ6, s6, e6, v6, M6, N6, b1, b2, p6, hs6⟩ := p_adv px
    have g5 : Fr lPs N N6 := by
      have := (p_go px.2.2.2.2.2.1).symm.trans b2
      exact g4.tr ((fr_M_next this).up (by rfl))
    rw [c_semi px c b1, bn2_s, if_neg n10, chk_t (by decide), bn2_s, if_neg n10, if_pos (show oN κ4 = 3 by rw [c]; rfl)]
    unfold f_M_load_93
    rw [p_wr0 px.2.2.2.2.2.1, bn_s, b2, bn_s]
    rcases p_commands p6 with ⟨κ', s', e', v', r', c', M7, N7, y0, y1, y2, y3, y4, y5⟩ | ⟨x, M7, N7, y1, y2, y3, y4⟩
    · rw [y1, y2]
      exact Or.inl ⟨κ', s', e', v', r', c', M7, N7, y0, rfl, rfl, y3, y4, g5.tr y5⟩
    · rw [y1, y2]
      exact Or.inr ⟨x, M7, N7, rfl, rfl, y3, g5.tr y4⟩
  · have cc : ¬ oN κ4 = 3 := fun q => c ((oN_inj (b := 3) (by omega) (by omega)).mp q)
    obtain ⟨X1, Y1, w1, w2, w3, w4⟩ := p_fail (c := 1) px (by decide)
    have w0 : f_I_readsSemicolon (wr M4 4 11 (oN pv)) = some (0, X1) := by
      unfold f_I_readsSemicolon
      rw [px.2.1.1, if_neg cc, w1, bn2_s, chk_t (by decide)]
    rw [w0, bn2_s, if_pos rfl, chk_t (by decide), bn2_s, if_pos rfl, if_neg cc]
    have e5 : f_M_load_93 1 (wr N4 135 2 (oN pv)) = f_M_load_93 0 Y1 := by
      unfold f_M_load_93
      rw [w2 1 (by decide), w_wr w3.1]
    obtain ⟨x, y⟩ := w_load93 (t := 0) w3.1
    exact bad (t := 0) rfl w3 (g4.tr (w4.up (by rfl))) ⟨x, Y1, e5.trans y, WR.rf w3.1, Fr.rf _ _⟩
end HEA
