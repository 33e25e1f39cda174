/-! changes: what is remembered, the small changes -/
section CHG
variable {M N : Mm} {r : Rw}
theorem MS.cpa {a : Nat} (h : MS N a 0 r) (b off : Nat) : MS (cpy N a 0 b off 284) b off r := by
  intro k hk
  unfold cpy
  rw [if_pos ⟨rfl, by omega, by omega⟩]
  have := h k hk
  rw [show 0 + (off + k - off) = 0 + k by omega]
  exact this
theorem m_copy {a b i j : Nat} (N : Mm) (ha : 284 * i + 284 ≤ lnM a) (hb : 284 * j + 284 ≤ lnM b) (hi : i < 9) (hj : j < 9) : f_M_copy a b (oN (284 * i)) (oN (284 * j)) N = some (cpy N a (284 * i) b (284 * j) 284) := by
  unfold f_M_copy
  have e1 : ix (oN (284 * i)) = 284 * i := oI (by omega)
  have e2 : ix (oN (284 * j)) = 284 * j := oI (by omega)
  have e3 : ix (284 : Int32) = 284 := rfl
  have hq : (¬ oN (284 * i) < 0 ∧ ¬ oN (284 * j) < 0 ∧ ¬ (284 : Int32) < 0) ∧ ix (oN (284 * i)) + ix (284 : Int32) ≤ lnM a ∧ ix (oN (284 * j)) + ix (284 : Int32) ≤ lnM b := by
    rw [e1, e2, e3]
    exact ⟨⟨oN_nn (by omega), oN_nn (by omega), by decide⟩, ha, hb⟩
  rw [chk_t hq, e1, e2, e3]; rfl
theorem oN_284 (j : Nat) : oN j * 284 = oN (284 * j) := by rw [oN_mul, Int32.mul_comm]; rfl
theorem m_rem {a cnt : Nat} (h6 : N 134 6 = oN cnt) (hc : cnt ≤ 8) (ha : 284 ≤ lnM a) (ha7 : a ≠ 137) (m : MS N a 0 r) :
    ∃ N1, f_M_remember a N = some N1 ∧ N1 134 6 = oN (if cnt = 8 then 8 else cnt + 1) ∧ (cnt < 8 → (∀ j s, j < cnt → MS N 137 (284 * j) s → MS N1 137 (284 * j) s) ∧ MS N1 137 (284 * cnt) r) ∧ (cnt = 8 → (∀ j s, j < 7 → MS N 137 (284 * (j + 1)) s → MS N1 137 (284 * j) s) ∧ MS N1 137 (284 * 7) r) := by
  have hl : lnM 137 = 2272 := by decide
  have step : ∀ (X : Mm) (k : Nat), k < 8 → X 134 6 = oN k → MS X a 0 r → ∃ X1, f_M_remember_37 a X = some X1 ∧ X1 134 6 = oN (k + 1) ∧ MS X1 137 (284 * k) r ∧ (∀ j s, j < 8 → j ≠ k → MS X 137 (284 * j) s → MS X1 137 (284 * j) s) := by
    intro X k hk h6 mX
    unfold f_M_remember_37
    rw [h6, oN_284]
    have e := m_copy (a := a) (b := 137) (i := 0) (j := k) X (by omega) (by omega) (by omega) (by omega)
    rw [show oN (284 * 0) = 0 from rfl] at e
    rw [e, bn_s, bm_s]
    refine ⟨_, rfl, ?_, ?_, ?_⟩
    · have e1 : cpy X a (284 * 0) 137 (284 * k) 284 134 6 = X 134 6 := by unfold cpy; rw [if_neg (by omega)]
      rw [wr_s, e1, h6, oN_S]
    · intro q hq
      rw [wr_n (by omega)]
      exact (mX.cpa 137 (284 * k)) q hq
    · intro j s hj hjk mj q hq
      rw [wr_n (by omega)]
      unfold cpy
      rw [if_neg (by
        rintro ⟨-, z1, z2⟩
        rcases (show j < k ∨ k < j by omega) with z | z <;> omega)]
      exact mj q hq
  unfold f_M_remember
  rw [h6]
  by_cases c : cnt = 8
  · subst c
    rw [if_pos (by rfl), chk_t (by decide), bm_s, bm_s]
    have i1 : ix (284 : Int32) = 284 := rfl
    have i2 : ix (0 : Int32) = 0 := rfl
    have i3 : ix (1988 : Int32) = 1988 := rfl
    rw [i1, i2, i3]
    obtain ⟨X1, e1, e2, e3, e4⟩ := step (wr (cpy N 137 284 137 0 1988) 134 6 (cpy N 137 284 137 0 1988 134 6 - 1)) 7 (by decide) (by
      have e1 : cpy N 137 284 137 0 1988 134 6 = N 134 6 := by unfold cpy; rw [if_neg (by omega)]
      rw [wr_s, e1, h6]; decide) (by
      intro q hq
      by_cases ca : a = 134
      · subst ca
        exfalso
        have : lnM 134 = 0 := by decide
        omega
      · rw [wr_n (by omega)]
        unfold cpy
        rw [if_neg (by omega)]
        exact m q hq)
    refine ⟨X1, e1, e2, fun z => by omega, fun _ => ⟨fun j s hj ms => ?_, e3⟩⟩
    refine e4 j s (by omega) (by omega) ?_
    intro q hq
    rw [wr_n (by omega)]
    unfold cpy
    rw [if_pos ⟨rfl, by omega, by omega⟩]
    have := ms q hq
    rw [show 284 + (284 * j + q - 0) = 284 * (j + 1) + q by omega]
    exact this
  · rw [if_neg (show ¬ oN cnt = 8 from fun q => c ((oN_inj (b := 8) (by omega) (by omega)).mp q))]
    obtain ⟨X1, e1, e2, e3, e4⟩ := step N cnt (by omega) h6 m
    rw [if_neg c]
    exact ⟨X1, e1, e2, fun _ => ⟨fun j s hj ms => e4 j s (by omega) (by omega) ms, e3⟩, fun z => absurd z c⟩
theorem s_rem {a : Nat} (u : UND M N) (v : V r) (c : CS M 15 r) (ha : 284 ≤ lnM a) (ha7 : a ≠ 137) (m : MS N a 0 r) : ∃ M1 N1, f_C_remember M = some M1 ∧ f_M_remember a N = some N1 ∧ UND M1 N1 := by
  obtain ⟨cnt, nx, h1, h2, h3, h4, h5, h6⟩ := u
  obtain ⟨N1, n1, n2, n3, n4⟩ := m_rem h5 h1 ha ha7 m
  obtain ⟨M1, e1, c1⟩ := c_copy (a := 34 + 10 * nx) (b := 15) (by omega) v c
  have f1 := fr_S_copyFrom e1
  have k11 : M1 0 11 = oN nx := (f1 0 11 (by simp [inT])).trans h3
  have k12 : M1 0 12 = oN cnt := (f1 0 12 (by simp [inT])).trans h4
  have hcls : ∃ M2, f_C_remember M = some M2 ∧ M2 0 11 = oN (if nx = 7 then 0 else nx + 1) ∧ M2 0 12 = oN (if cnt = 8 then 8 else cnt + 1) ∧ (∀ b k, b ≠ 0 → M2 b k = M1 b k) := by
    unfold f_C_remember
    rw [h3, chk_t ((iin_oN (by omega)).mpr h2), oI (by omega), e1, bn_s, k11]
    have e12 : ∀ y, (if (8 : Int32) < (wr M1 0 11 y) 0 12 + 1 then (8 : Int32) else (wr M1 0 11 y) 0 12 + 1) = oN (if cnt = 8 then 8 else cnt + 1) := by
      intro y
      rw [wr_n (by decide), k12, oN_S]
      by_cases z : cnt = 8
      · subst z; rfl
      · rw [if_neg (by rw [show (8 : Int32) = oN 8 from rfl, oN_lt (by omega) (by omega)]; omega), if_neg z]
    unfold f_C_remember_36
    by_cases z : nx = 7
    · subst z
      rw [if_pos (by rfl), bm_s, bm_s, e12]
      refine ⟨_, rfl, ?_, wr_s _ _ _ _, fun b k hb => ?_⟩
      · rw [wr_n (by decide), wr_s]; rfl
      · rw [wr_n (by omega), wr_n (by omega)]
    · rw [if_neg (show ¬ oN nx = 7 from fun q => z ((oN_inj (b := 7) (by omega) (by omega)).mp q)), bm_s, bm_s, e12, oN_S]
      refine ⟨_, rfl, ?_, wr_s _ _ _ _, fun b k hb => ?_⟩
      · rw [wr_n (by decide), wr_s, if_neg z]
      · rw [wr_n (by omega), wr_n (by omega)]
  obtain ⟨M2, m1, m2, m3, m4⟩ := hcls
  refine ⟨M2, N1, m1, n1, (if cnt = 8 then 8 else cnt + 1), (if nx = 7 then 0 else nx + 1), by split <;> omega, by split <;> omega, m2, m3, n2, fun j hj => ?_⟩
  have new : CS M2 (34 + 10 * nx) r := c1.cg fun b k q1 q2 => m4 b k (by omega)
  have old : ∀ s r', s < 8 → s ≠ nx → CS M (34 + 10 * s) r' → CS M2 (34 + 10 * s) r' := by
    intro s r' hs hsn cs
    refine cs.cg fun b k q1 q2 => ?_
    rw [m4 b k (by omega)]
    refine f1 b k ?_
    simp only [inT, List.any_cons, List.any_nil, Bool.or_false]
    rw [Bool.and_eq_false_iff]
    by_cases z : 34 + 10 * nx ≤ b
    · right
      rw [Bool.and_eq_false_iff]
      left
      exact Bool.eq_false_iff.mpr (fun q => absurd (Nat.le_of_ble_eq_true q) (by omega))
    · left
      exact Bool.eq_false_iff.mpr (fun q => absurd (Nat.le_of_ble_eq_true q) z)
  by_cases z : cnt = 8
  · subst z
    rw [if_pos rfl] at hj ⊢
    obtain ⟨p1, p2⟩ := n4 rfl
    by_cases y : j = 7
    · subst y
      have es : ((if nx = 7 then 0 else nx + 1) + 8 - 8 + 7) % 8 = nx := by split <;> omega
      rw [es]
      exact ⟨r, v, new, p2⟩
    · obtain ⟨r', v', c', m'⟩ := h6 (j + 1) (by omega)
      have es : ((if nx = 7 then 0 else nx + 1) + 8 - 8 + j) % 8 = (nx + 8 - 8 + (j + 1)) % 8 := by split <;> omega
      rw [es]
      exact ⟨r', v', old _ _ (by omega) (by omega) c', p1 j r' (by omega) m'⟩
  · rw [if_neg z] at hj ⊢
    obtain ⟨p1, p2⟩ := n3 (by omega)
    by_cases y : j = cnt
    · subst y
      have es : ((if nx = 7 then 0 else nx + 1) + 8 - (j + 1) + j) % 8 = nx := by split <;> omega
      rw [es]
      exact ⟨r, v, new, p2⟩
    · obtain ⟨r', v', c', m'⟩ := h6 j (by omega)
      have es : ((if nx = 7 then 0 else nx + 1) + 8 - (cnt + 1) + j) % 8 = (nx + 8 - cnt + j) % 8 := by split <;> omega
      rw [es]
      exact ⟨r', v', old _ _ (by omega) (by omega) c', p1 j r' (by omega) m'⟩
theorem RI.mk1 {M' N' : Mm} {r' : Rw} (h : RI M N) (p : PR M' N' r') (u : UND M' N') (f : Ag [(33, 33, 0), (114, 133, 0), (0, 0, 3), (3, 3, 0), (0, 0, 7), (14, 14, 0), (0, 0, 4), (0, 0, 5), (26, 28, 1), (7, 7, 0)] M M') (g : Ag [(138, 138, 0), (140, 140, 0), (134, 134, 15), (141, 141, 0), (134, 134, 16), (142, 142, 0), (134, 134, 17), (134, 134, 18), (146, 146, 0)] N N') : RI M' N' := by
  obtain ⟨_, _, s, t, o, e, z, c, d⟩ := h
  exact ⟨⟨r', p⟩, u, s.ag (f.su (by rfl)) (g.su (by rfl)), t.ag (f.su (by rfl)) (g.su (by rfl)), o.ag (f.su (by rfl)) (g.su (by rfl)), e.ag (f.su (by rfl)) (g.su (by rfl)), z.ag (f.su (by rfl)), c.ag (g.su (by rfl)), d.ag (f.su (by rfl))⟩
/-- a change: what is remembered in both -/
theorem s_rem1 (h : RI M N) (p : PR M N r) : ∃ M1 N1, f_C_remember M = some M1 ∧ f_M_remember 135 N = some N1 ∧ UND M1 N1 ∧ PR M1 N1 r ∧ Fr [(0, 0, 12), (0, 0, 13), (34, 113, 0)] M M1 ∧ Fr [(134, 134, 7), (137, 137, 0)] N N1 := by
  obtain ⟨M1, N1, e1, e2, u⟩ := s_rem (a := 135) h.2.1 p.1 p.2.1 (by decide) (by decide) p.2.2
  have f1 := fr_C_remember e1
  have f2 := fr_M_remember e2
  exact ⟨M1, N1, e1, e2, u, ⟨p.1, p.2.1.fr f1 (by rfl), p.2.2.fr f2 (by rfl)⟩, f1.up (by rfl), f2.up (by rfl)⟩
theorem UND.w {M' N' : Mm} (u : UND M N) (f : Ag [(0, 0, 12), (0, 0, 13), (34, 113, 0)] M M') (g : Ag [(134, 134, 7), (137, 137, 0)] N N') : UND M' N' := u.ag f g
theorem UND.n7 (u : UND M N) (x : Int32) : UND M (wr N 134 7 x) := u.ag (Ag.rf _ _) (Ag.of (fr_wr (l := [(134, 134, 8)]) rfl (by rfl)) (by rfl))
/-! the wear, the pace, the adjusting -/
theorem V.head {k x : Nat} (v : V r) (hk : k = 1 ∧ x ≤ 999 ∨ k = 2 ∧ 100 ≤ x ∧ x ≤ 999 ∨ k = 3 ∧ x ≤ 1) : V (up r k x) := by
  obtain ⟨h0, h1, h2, h3, h4, h5⟩ := v
  refine ⟨?_, ?_, ?_, ?_, ?_, fun j hj => ?_⟩
  · rw [up_n (by omega)]; exact h0
  · unfold up; split <;> omega
  · unfold up; split <;> omega
  · unfold up; split <;> omega
  · unfold up; split <;> omega
  · rw [up_n (by omega)] at hj
    exact (h5 j hj).cg (fun k hk => up_n (by omega))
theorem CS.head {a k x : Nat} (v : V r) (h : CS M a r) (hk : k = 1 ∨ k = 2 ∨ k = 3) : CS (wr M a (9 + k) (oN x)) a (up r k x) := by
  obtain ⟨h0, h1, h2, h3, h4, h5⟩ := h
  refine ⟨?_, ?_, ?_, ?_, fun j hj => ?_, fun j hj => ?_⟩
  · rw [wr_n (by omega), up_n (by omega)]; exact h0
  · rcases hk with rfl | rfl | rfl
    · rw [wr_s, up_s]
    · rw [wr_n (by omega), up_n (by omega)]; exact h1
    · rw [wr_n (by omega), up_n (by omega)]; exact h1
  · rcases hk with rfl | rfl | rfl
    · rw [wr_n (by omega), up_n (by omega)]; exact h2
    · rw [wr_s, up_s]
    · rw [wr_n (by omega), up_n (by omega)]; exact h2
  · rcases hk with rfl | rfl | rfl
    · rw [wr_n (by omega), up_n (by omega)]; exact h3
    · rw [wr_n (by omega), up_n (by omega)]; exact h3
    · rw [wr_s, up_s]
  · rw [wr_n (by omega)]; exact h4 j hj
  · rw [up_n (by omega)] at hj
    exact (h5 j hj).cg (v.2.2.2.2.2 j hj) (fun q hq => up_n (by omega)) (fun q hq => wr_n (by omega))
theorem m_fail1 : f_M_fails 1 0 0 N = some (1, wr N 134 7 1) := by rw [m_fails]; rfl
theorem m_fail0 : f_M_fails 0 0 0 N = some (0, wr N 134 7 0) := by rw [m_fails]; rfl
theorem m_fail2 : f_M_fails 0 1 0 N = some (1, wr N 134 7 2) := by rw [m_fails]; rfl
theorem s_setWear (h : RI M N) (l : Int32) : ∃ o v M1 N1, f_C_setWear l M = some (o, M1) ∧ f_M_setWear l N = some (v, N1) ∧ RI M1 N1 ∧ An 1 9 o v (N1 134 7) := by
  obtain ⟨r, p⟩ := h.1
  unfold f_C_setWear f_M_setWear f_M_setWear_17
  rw [c_between, bn_s, m_isIn, bn_s]
  by_cases c : (0 : Int32) ≤ l ∧ l ≤ 999
  · obtain ⟨x, hx, rfl⟩ := (in_n (n := 999) (by decide)).mp c
    obtain ⟨M1, N1, e1, e2, u, p1, f1, f2⟩ := s_rem1 (h.n7 0) (p.n7 0)
    have b1 : iin (1 : Int32) 284 := by decide
    rw [if_pos c, if_neg (show ¬ (1 : Int32) = 0 by decide), if_neg (show ¬ (1 : Int32) = 0 by decide), e1, bn_s, bm_s, m_fail0, bn2_s, if_pos rfl, e2, bn_s]
    unfold f_M_sets
    rw [chk_t b1, bm_s, bn2_s, show ix (1 : Int32) = 1 from rfl, m_at p1.2.2 (by decide), p.2.1.2.1]
    have g1 : Fr [(0, 0, 12), (0, 0, 13), (34, 113, 0), (15, 15, 11)] M (wr M1 15 10 (oN x)) := (f1.up (by rfl)).tr (fr_wr rfl (by rfl))
    have g2 : Fr [(134, 134, 8), (134, 134, 7), (137, 137, 0), (135, 135, 0)] N (wr N1 135 1 (oN x)) := (fr_wr rfl (by rfl)).tr ((f2.up (by rfl)).tr (fr_wr rfl (by rfl)))
    have p2 : PR (wr M1 15 10 (oN x)) (wr N1 135 1 (oN x)) (up r 1 x) := ⟨p.1.head (Or.inl ⟨rfl, hx⟩), p1.2.1.head (k := 1) p.1 (Or.inl rfl), p1.2.2.up rfl⟩
    refine ⟨_, _, _, _, rfl, rfl, h.mk1 p2 (u.w ?_ ?_) (Ag.of g1 (by rfl)) (Ag.of g2 (by rfl)), rfl, ?_⟩
    · exact Ag.of (fr_wr (l := [(15, 15, 11)]) rfl (by rfl)) (by rfl)
    · exact Ag.of (fr_wr (l := [(135, 135, 0)]) rfl (by rfl)) (by rfl)
    · rw [wr_n (by decide), f2 134 7 (by rfl), wr_s]
  · rw [if_neg c, if_pos rfl, if_pos rfl, m_fail1, bn2_s, if_neg (by decide)]
    exact ⟨_, _, _, _, rfl, rfl, h.n7 1, Or.inl ⟨rfl, wr_s _ _ _ _⟩⟩
theorem in_n2 {l : Int32} {a n : Nat} (hn : n ≤ 1000) (ha : a ≤ 1000) : (oN a ≤ l ∧ l ≤ oN n) ↔ ∃ i, a ≤ i ∧ i ≤ n ∧ l = oN i := by
  constructor
  · rintro ⟨h1, h2⟩
    obtain ⟨i, hi, rfl⟩ := oN_ex (Int32.le_trans (oN_ge0 (by omega)) h1)
    exact ⟨i, (oN_le (by omega) hi).mp h1, (oN_le hi (by omega)).mp h2, rfl⟩
  · rintro ⟨i, h1, h2, rfl⟩
    exact ⟨(oN_le (by omega) (by omega)).mpr h1, (oN_le (by omega) (by omega)).mpr h2⟩
theorem s_setPace (h : RI M N) (l : Int32) : ∃ o v M1 N1, f_C_setPace l M = some (o, M1) ∧ f_M_setPace l N = some (v, N1) ∧ RI M1 N1 ∧ An 1 9 o v (N1 134 7) := by
  obtain ⟨r, p⟩ := h.1
  unfold f_C_setPace f_M_setPace f_M_setPace_18
  rw [c_between, bn_s, m_isIn, bn_s]
  by_cases c : (100 : Int32) ≤ l ∧ l ≤ 999
  · obtain ⟨x, hx0, hx, rfl⟩ := (in_n2 (a := 100) (n := 999) (by decide) (by decide)).mp c
    obtain ⟨M1, N1, e1, e2, u, p1, f1, f2⟩ := s_rem1 (h.n7 0) (p.n7 0)
    have b1 : iin (2 : Int32) 284 := by decide
    rw [if_pos c, if_neg (show ¬ (1 : Int32) = 0 by decide), if_neg (show ¬ (1 : Int32) = 0 by decide), e1, bn_s, bm_s, m_fail0, bn2_s, if_pos rfl, e2, bn_s]
    unfold f_M_sets
    rw [chk_t b1, bm_s, bn2_s, show ix (2 : Int32) = 2 from rfl, m_at p1.2.2 (by decide), p.2.1.2.2.1]
    have g1 : Fr [(0, 0, 12), (0, 0, 13), (34, 113, 0), (15, 15, 12)] M (wr M1 15 11 (oN x)) := (f1.up (by rfl)).tr (fr_wr rfl (by rfl))
    have g2 : Fr [(134, 134, 8), (134, 134, 7), (137, 137, 0), (135, 135, 0)] N (wr N1 135 2 (oN x)) := (fr_wr rfl (by rfl)).tr ((f2.up (by rfl)).tr (fr_wr rfl (by rfl)))
    have p2 : PR (wr M1 15 11 (oN x)) (wr N1 135 2 (oN x)) (up r 2 x) := ⟨p.1.head (Or.inr (Or.inl ⟨rfl, hx0, hx⟩)), p1.2.1.head (k := 2) p.1 (Or.inr (Or.inl rfl)), p1.2.2.up rfl⟩
    refine ⟨_, _, _, _, rfl, rfl, h.mk1 p2 (u.w ?_ ?_) (Ag.of g1 (by rfl)) (Ag.of g2 (by rfl)), rfl, ?_⟩
    · exact Ag.of (fr_wr (l := [(15, 15, 12)]) rfl (by rfl)) (by rfl)
    · exact Ag.of (fr_wr (l := [(135, 135, 0)]) rfl (by rfl)) (by rfl)
    · rw [wr_n (by decide), f2 134 7 (by rfl), wr_s]
  · rw [if_neg c, if_pos rfl, if_pos rfl, m_fail1, bn2_s, if_neg (by decide)]
    exact ⟨_, _, _, _, rfl, rfl, h.n7 1, Or.inl ⟨rfl, wr_s _ _ _ _⟩⟩
theorem s_setAdjusted (h : RI M N) (l : Int32) (hl : isZ l) : ∃ v M1 N1, f_C_setAdjusted l M = some (v, M1) ∧ f_M_setAdjusted l N = some (v, N1) ∧ RI M1 N1 := by
  obtain ⟨r, p⟩ := h.1
  have h3 := p.1.2.2.2.2.1
  obtain ⟨x, hx, rfl⟩ : ∃ x, x ≤ 1 ∧ l = oN x := by
    rcases hl with rfl | rfl
    · exact ⟨0, by decide, rfl⟩
    · exact ⟨1, by decide, rfl⟩
  unfold f_C_setAdjusted f_M_setAdjusted f_M_setAdjusted_24 f_M_setAdjusted_36
  obtain ⟨M1, N1, e1, e2, u, p1, f1, f2⟩ := s_rem1 (h.n7 0) (p.n7 0)
  have b1 : iin (3 : Int32) 284 := by decide
  have g1 : Fr [(0, 0, 12), (0, 0, 13), (34, 113, 0), (15, 15, 13)] M (wr M1 15 12 (oN x)) := (f1.up (by rfl)).tr (fr_wr rfl (by rfl))
  have g2 : Fr [(134, 134, 8), (134, 134, 7), (137, 137, 0), (135, 135, 0)] N (wr N1 135 3 (oN x)) := (fr_wr rfl (by rfl)).tr ((f2.up (by rfl)).tr (fr_wr rfl (by rfl)))
  have p2 : PR (wr M1 15 12 (oN x)) (wr N1 135 3 (oN x)) (up r 3 x) := ⟨p.1.head (Or.inr (Or.inr ⟨rfl, hx⟩)), p1.2.1.head (k := 3) p.1 (Or.inr (Or.inr rfl)), p1.2.2.up rfl⟩
  have hR := h.mk1 p2 (u.w (Ag.of (fr_wr (l := [(15, 15, 13)]) rfl (by rfl)) (by rfl)) (Ag.of (fr_wr (l := [(135, 135, 0)]) rfl (by rfl)) (by rfl))) (Ag.of g1 (by rfl)) (Ag.of g2 (by rfl))
  rw [e1, bn_s, chk_t hl, bm_s, p.2.1.2.2.2.1, chk_t (r3_Z p.1), bm_s, e2, bn_s]
  unfold f_M_sets
  have fin : ∀ y : Int32, y = oN x → ∃ v M9 N9, some (oN (r 3), wr M1 15 12 (oN x)) = some (v, M9) ∧ (bn2 (chk (iin (3 : Int32) 284) (bm (wr N1 135 (ix (3 : Int32)) y) fun M13 => some (N1 135 (ix (3 : Int32)), M13))) fun r24 M24 => if r24 = 1 then chk (isZ (1 : Int32)) (some ((1 : Int32), M24)) else chk (isZ (0 : Int32)) (some ((0 : Int32), M24))) = some (v, N9) ∧ RI M9 N9 := by
    intro y hy
    rw [chk_t b1, bm_s, bn2_s, show ix (3 : Int32) = 3 from rfl, m_at p1.2.2 (by decide), hy]
    refine ⟨_, _, wr N1 135 3 (oN x), rfl, ?_, hR⟩
    rcases (show r 3 = 0 ∨ r 3 = 1 by omega) with e | e <;> rw [e] <;> rfl
  rcases (show x = 0 ∨ x = 1 by omega) with e | e
  · rw [if_pos (show oN x = 0 by rw [e]; rfl)]
    exact fin 0 (by rw [e]; rfl)
  · rw [if_neg (show ¬ oN x = 0 by rw [e]; decide)]
    exact fin 1 (by rw [e]; rfl)
/-! pins dropped and found -/
theorem s_dropPin (h : RI M N) (l : Int32) : ∃ o v M1 N1, f_C_dropPin l M = some (o, M1) ∧ f_M_dropPin l N = some (v, N1) ∧ RI M1 N1 ∧ An 3 2 o v (N1 134 7) := by
  obtain ⟨r, p⟩ := h.1
  have hv := p.1.1
  unfold f_C_dropPin f_M_dropPin f_M_dropPin_24 f_M_dropPin_25
  rcases c_leg p.1 p.2.1 l with ⟨i, hi, rfl, hc⟩ | ⟨hi, hc⟩
  · have h20 := lt20 p.1 hi
    have h9 := (p.1.2.2.2.2.2 i hi).2.2.2.1
    rw [hc, m_noLeg_y p.1 p.2.2 ⟨i, hi, rfl⟩, bn_s, if_pos rfl, m_mayDrop p.2.2 p.1 hi, bn_s]
    show ∃ o v M1 N1, (bn (f_S_canDrop 15 M (oN i)) _) = _ ∧ _
    rw [c_canDrop p.2.1 p.1 hi, bn_s]
    by_cases c : r (4 + 14 * i + 6) = 0 ∧ ¬ 9 ≤ r (4 + 14 * i + 3)
    · rw [if_pos c.1, if_neg c.2, if_neg (by decide), if_neg (by decide), m_fail0, bn2_s, if_pos rfl]
      obtain ⟨M1, N1, e1, e2, u, p1, f1, f2⟩ := s_rem1 (h.n7 0) (p.n7 0)
      have hd : M1 22 i = oN (r (4 + 14 * i + 3)) := (p1.2.1.2.2.2.2.2 i hi).2.2.2.2.2.2.1
      obtain ⟨d1, d2⟩ := m_drops p1.2.2 h20 (oN_S (r (4 + 14 * i + 3)))
      rw [e1, bn_s, chk_t (iin20 p.1 hi), oI20 p.1 hi, bm_s, hd, oN_S, wr_s, e2, bn_s, d1, bn2_s]
      have g1 : Fr [(0, 0, 12), (0, 0, 13), (34, 113, 0), (22, 22, 0)] M (wr M1 22 i (oN (r (4 + 14 * i + 3) + 1))) := (f1.up (by rfl)).tr (fr_wr rfl (by rfl))
      have g2 : Fr [(134, 134, 8), (134, 134, 7), (137, 137, 0), (135, 135, 0)] N (wr N1 135 (4 + 14 * i + 3) (oN (r (4 + 14 * i + 3) + 1))) := (fr_wr rfl (by rfl)).tr ((f2.up (by rfl)).tr (fr_wr rfl (by rfl)))
      have p2 : PR (wr M1 22 i (oN (r (4 + 14 * i + 3) + 1))) (wr N1 135 (4 + 14 * i + 3) (oN (r (4 + 14 * i + 3) + 1))) (up r (4 + 14 * i + 3) (r (4 + 14 * i + 3) + 1)) := ⟨p.1.drop hi (by omega) c.1, p1.2.1.drop p.1 hi rfl, d2⟩
      refine ⟨_, _, _, _, rfl, rfl, h.mk1 p2 (u.w (Ag.of (fr_wr (l := [(22, 22, 0)]) rfl (by rfl)) (by rfl)) (Ag.of (fr_wr (l := [(135, 135, 0)]) rfl (by rfl)) (by rfl))) (Ag.of g1 (by rfl)) (Ag.of g2 (by rfl)), rfl, ?_⟩
      rw [wr_n (by omega), f2 134 7 (by rfl), wr_s]
    · have e0 : (if r (4 + 14 * i + 6) = 0 then (if 9 ≤ r (4 + 14 * i + 3) then (0 : Int32) else 1) else 0) = 0 := by
        split
        · split
          · rfl
          · exfalso; apply c; exact ⟨by assumption, by assumption⟩
        · rfl
      rw [e0, if_pos rfl, if_pos rfl, m_fail2, bn2_s, if_neg (by decide)]
      exact ⟨_, _, _, _, rfl, rfl, h.n7 2, Or.inr ⟨by decide, rfl, wr_s _ _ _ _⟩⟩
  · rw [hc, m_noLeg_n p.1 p.2.2 hi, bn_s, if_neg (by decide), m_fail1, bn2_s, if_neg (by decide)]
    exact ⟨_, _, _, _, rfl, rfl, h.n7 1, Or.inl ⟨rfl, wr_s _ _ _ _⟩⟩
theorem c_canFind {a i : Nat} (h : CS M a r) (v : V r) (hi : i < r 0) : f_S_canFind a M (oN i) = some (if r (4 + 14 * i + 3) = 0 then 0 else 1) := by
  have hv := v.1
  obtain ⟨n0, b1, z2, p3, p4, l5, d6, r7, t8⟩ := h.2.2.2.2.2 i hi
  have h3 := (v.2.2.2.2.2 i hi).2.2.2.1
  unfold f_S_canFind f_S_canFind_14
  rw [chk_t (iin20 v hi), oI20 v hi, d6]
  by_cases c : r (4 + 14 * i + 3) = 0
  · rw [c, if_pos (by decide), chk_t (by decide), if_pos rfl]
  · rw [if_neg (by rw [show (0 : Int32) = oN 0 from rfl, oN_le (by omega) (by omega)]; omega), chk_t (by decide), if_neg c]
theorem oN_pm {n : Nat} (h : n ≠ 0) : oN n + (-1) = oN (n - 1) := by
  obtain ⟨k, rfl⟩ : ∃ k, n = k + 1 := ⟨n - 1, by omega⟩
  rw [show oN (k + 1) = oN k + 1 from (oN_S _).symm, Int32.add_assoc]
  exact Int32.add_zero _
theorem s_findPin (h : RI M N) (l : Int32) : ∃ o v M1 N1, f_C_findPin l M = some (o, M1) ∧ f_M_findPin l N = some (v, N1) ∧ RI M1 N1 ∧ An 3 2 o v (N1 134 7) := by
  obtain ⟨r, p⟩ := h.1
  have hv := p.1.1
  unfold f_C_findPin f_M_findPin f_M_findPin_25 f_M_findPin_26
  rcases c_leg p.1 p.2.1 l with ⟨i, hi, rfl, hc⟩ | ⟨hi, hc⟩
  · have h20 := lt20 p.1 hi
    have h9 := (p.1.2.2.2.2.2 i hi).2.2.2.1
    have hbz := (p.1.2.2.2.2.2 i hi).2.2.2.2.2.2.2.1
    rw [hc, m_noLeg_y p.1 p.2.2 ⟨i, hi, rfl⟩, bn_s, if_pos rfl, m_of3 p.2.2 h20, bn_s]
    show ∃ o v M1 N1, (bn (f_S_canFind 15 M (oN i)) _) = _ ∧ _
    rw [c_canFind p.2.1 p.1 hi, bn_s]
    by_cases c : r (4 + 14 * i + 3) = 0
    · rw [if_pos c, if_pos rfl, c, if_pos (show oN 0 = 0 from rfl), m_fail2, bn2_s, if_neg (by decide)]
      exact ⟨_, _, _, _, rfl, rfl, h.n7 2, Or.inr ⟨by decide, rfl, wr_s _ _ _ _⟩⟩
    · have c6 : r (4 + 14 * i + 6) = 0 := by
        by_cases z : r (4 + 14 * i + 6) = 0
        · exact z
        · exact absurd (hbz z).2.2.1 c
      rw [if_neg c, if_neg (by decide), if_neg (fun q => c ((oN0 (by omega)).mp q)), m_fail0, bn2_s, if_pos rfl]
      obtain ⟨M1, N1, e1, e2, u, p1, f1, f2⟩ := s_rem1 (h.n7 0) (p.n7 0)
      have hd : M1 22 i = oN (r (4 + 14 * i + 3)) := (p1.2.1.2.2.2.2.2 i hi).2.2.2.2.2.2.1
      obtain ⟨d1, d2⟩ := m_drops p1.2.2 h20 (oN_pm c)
      rw [e1, bn_s, chk_t (iin20 p.1 hi), oI20 p.1 hi, bm_s, hd, oN_P c, wr_s, e2, bn_s, d1, bn2_s]
      have g1 : Fr [(0, 0, 12), (0, 0, 13), (34, 113, 0), (22, 22, 0)] M (wr M1 22 i (oN (r (4 + 14 * i + 3) - 1))) := (f1.up (by rfl)).tr (fr_wr rfl (by rfl))
      have g2 : Fr [(134, 134, 8), (134, 134, 7), (137, 137, 0), (135, 135, 0)] N (wr N1 135 (4 + 14 * i + 3) (oN (r (4 + 14 * i + 3) - 1))) := (fr_wr rfl (by rfl)).tr ((f2.up (by rfl)).tr (fr_wr rfl (by rfl)))
      have p2 : PR (wr M1 22 i (oN (r (4 + 14 * i + 3) - 1))) (wr N1 135 (4 + 14 * i + 3) (oN (r (4 + 14 * i + 3) - 1))) (up r (4 + 14 * i + 3) (r (4 + 14 * i + 3) - 1)) := ⟨p.1.drop hi (by omega) c6, p1.2.1.drop p.1 hi rfl, d2⟩
      refine ⟨_, _, _, _, rfl, rfl, h.mk1 p2 (u.w (Ag.of (fr_wr (l := [(22, 22, 0)]) rfl (by rfl)) (by rfl)) (Ag.of (fr_wr (l := [(135, 135, 0)]) rfl (by rfl)) (by rfl))) (Ag.of g1 (by rfl)) (Ag.of g2 (by rfl)), rfl, ?_⟩
      rw [wr_n (by omega), f2 134 7 (by rfl), wr_s]
  · rw [hc, m_noLeg_n p.1 p.2.2 hi, bn_s, if_neg (by decide), m_fail1, bn2_s, if_neg (by decide)]
    exact ⟨_, _, _, _, rfl, rfl, h.n7 1, Or.inl ⟨rfl, wr_s _ _ _ _⟩⟩
end CHG
