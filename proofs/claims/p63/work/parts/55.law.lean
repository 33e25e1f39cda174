/-! the law -/
section LAW
variable {M : Mm} {r : Rw} {T L : Nat}
theorem ST.re {r' : Rw} (s : ST M r') (v : V r) (c : CS M 15 r) : ST M r := by
  obtain ⟨N, h, p⟩ := s
  have g : Fr [(135, 135, 0)] N (fun b k => if b = 135 then oN (r k) else N b k) := by
    intro b k hb
    have hne : b ≠ 135 := fun q => by subst q; revert hb; simp [inT]
    show (if b = 135 then oN (r k) else N b k) = N b k
    rw [if_neg hne]
  have m : MS (fun b k => if b = 135 then oN (r k) else N b k) 135 0 r := fun k hk => by
    show (if (135 : Nat) = 135 then oN (r (0 + k)) else _) = _
    rw [if_pos rfl, Nat.zero_add]
  exact ⟨_, h.mk1 ⟨v, c, m⟩ (h.2.1.w (Ag.rf _ _) (Ag.of g (by rfl))) (Ag.rf _ _) (Ag.of g (by rfl)), ⟨v, c, m⟩⟩
/-- what is remembered lies before the next place -/
theorem rem_cs (s : ST M r) {M0 : Mm} (e : f_C_remember M = some M0) : ∃ cnt nx : Nat, cnt ≤ 8 ∧ nx < 8 ∧ M 0 12 = oN cnt ∧ CS M0 (34 + 10 * nx) r ∧ M0 0 11 = oN (if nx = 7 then 0 else nx + 1) ∧ M0 0 12 = oN (if cnt = 8 then 8 else cnt + 1) := by
  obtain ⟨N, h, p⟩ := s
  obtain ⟨cnt, nx, h1, h2, h3, h4, -, -⟩ := h.2.1
  obtain ⟨Ma, a1, a2⟩ := c_copy (a := 34 + 10 * nx) (b := 15) (by omega) p.1 p.2.1
  have f1 := fr_S_copyFrom a1
  have g11 : Ma 0 11 = oN nx := by
    rw [f1 0 11 (by simp [inT]), h3]
  have g12 : Ma 0 12 = oN cnt := by
    rw [f1 0 12 (by simp [inT]), h4]
  have hmin : (if (8 : Int32) < oN (cnt + 1) then (8 : Int32) else oN (cnt + 1)) = oN (if cnt = 8 then 8 else cnt + 1) := by
    by_cases c : cnt = 8
    · rw [if_pos c, c]; rfl
    · rw [if_neg c, if_neg (fun q => by have := (oN_lt (a := 8) (by omega) (by omega)).mp q; omega)]
  have fin : ∀ t, f_C_remember_36 t Ma = some M0 → M0 = wr (wr Ma 0 11 t) 0 12 (oN (if cnt = 8 then 8 else cnt + 1)) := by
    intro t ht
    unfold f_C_remember_36 at ht
    rw [bm_s, wr_n (by decide), g12, oN_S, hmin, bm_s] at ht
    exact (Option.some.inj ht).symm
  unfold f_C_remember at e
  rw [h3, chk_t ((iin_oN (by omega)).mpr h2), oI (by omega), a1, bn_s, g11] at e
  have go : ∀ t, M0 = wr (wr Ma 0 11 t) 0 12 (oN (if cnt = 8 then 8 else cnt + 1)) → CS M0 (34 + 10 * nx) r ∧ M0 0 11 = t ∧ M0 0 12 = oN (if cnt = 8 then 8 else cnt + 1) := by
    intro t ht
    subst ht
    exact ⟨a2.cg fun b k q1 q2 => by rw [wr_n (by omega), wr_n (by omega)], by rw [wr_n (by decide), wr_s], wr_s _ _ _ _⟩
  by_cases z : nx = 7
  · rw [if_pos (show oN nx = 7 by rw [z]; rfl)] at e
    obtain ⟨y1, y2, y3⟩ := go _ (fin _ e)
    exact ⟨cnt, nx, h1, h2, h4, y1, by rw [y2, if_pos z]; rfl, y3⟩
  · rw [if_neg (show ¬ oN nx = 7 from fun q => z ((oN_inj (b := 7) (by omega) (by omega)).mp q)), oN_S] at e
    obtain ⟨y1, y2, y3⟩ := go _ (fin _ e)
    exact ⟨cnt, nx, h1, h2, h4, y1, by rw [y2, if_neg z], y3⟩
theorem undo_ok {r' : Rw} {c nx : Nat} (s : ST M r') (v : V r) (hc : c ≠ 0) (hc8 : c ≤ 8) (hn : nx < 8) (cs : CS M (34 + 10 * nx) r) (h11 : M 0 11 = oN (if nx = 7 then 0 else nx + 1)) (h12 : M 0 12 = oN c) : ∃ M1, f_W_undo M = some (oN (c - 1), M1) ∧ ST M1 r := by
  have hcl : f_C_undo M = f_C_undo_36 (oN nx) M := by
    unfold f_C_undo
    rw [h12, if_neg (fun q => hc ((oN0 (by omega)).mp q)), h11]
    by_cases z : nx = 7
    · rw [if_pos z, if_pos (show oN 0 = 0 from rfl), z]; rfl
    · rw [if_neg z, if_neg (fun q => by have := (oN0 (by omega)).mp q; omega), oN_P (by omega), Nat.add_sub_cancel]
  have f1 : Fr [(0, 0, 12), (0, 0, 13)] M (wr (wr M 0 11 (oN nx)) 0 12 (oN (c - 1))) := (fr_wr rfl (by rfl)).tr (fr_wr rfl (by rfl))
  have e11 : (wr (wr M 0 11 (oN nx)) 0 12 (oN (c - 1))) 0 11 = oN nx := by rw [wr_n (by decide), wr_s]
  have cs1 : CS (wr (wr M 0 11 (oN nx)) 0 12 (oN (c - 1))) (34 + 10 * nx) r := cs.cg fun b k q1 q2 => by rw [wr_n (by omega), wr_n (by omega)]
  obtain ⟨M1, e1, c1⟩ := c_copy (a := 15) (b := 34 + 10 * nx) (by omega) v cs1
  have f2 := fr_S_copyFrom e1
  have eu : f_C_undo M = some (.inr (oN (c - 1)), M1) := by
    rw [hcl]
    unfold f_C_undo_36
    rw [bm_s, wr_n (by decide), h12, oN_P hc, bm_s, e11, chk_t ((iin_oN (by omega)).mpr hn), oI (by omega), e1, bn_s, f2 0 12 (by rfl), wr_s]
  obtain ⟨N, h, p⟩ := s
  obtain ⟨o, x, M2, N2, y1, y2, y3, -⟩ := s_undo h
  obtain rfl : M1 = M2 := congrArg Prod.snd (Option.some.inj (eu.symm.trans y1))
  obtain ⟨r2, p2⟩ := y3.1
  refine ⟨M1, ?_, ST.re (r' := r2) ⟨N2, y3, p2⟩ v c1⟩
  unfold f_W_undo
  rw [eu, bc2_r]
theorem und_n : ∀ c, c ≤ 8 → ((if (oN c + (1 : Int32)) < (8 : Int32) then (oN c + (1 : Int32)) else (8 : Int32)) - (1 : Int32)) = oN ((if c = 8 then 8 else c + 1) - 1) := by decide +kernel
/-- the end: adjusting is taken back -/
theorem law_178 (s : ST M r) {c x : Nat} (hx : x ≤ 1) (hc : M 0 12 = oN c) (h8 : c ≤ 8) : ∃ M9, f_W_law_178 T L (oN c) (oN (r 0)) (msW r) (oN (ruN r (r 0))) (oN (r 3)) (oN x) M = some (1, M9) := by
  obtain ⟨M0, M1, e0, e1, s1, f1⟩ := k_adj s hx
  obtain ⟨cnt, nx, h1, h2, h3, cs, k11, k12⟩ := rem_cs s e0
  obtain rfl : cnt = c := (oN_inj (by omega) (by omega)).mp (h3.symm.trans hc)
  obtain ⟨M2, e2, s2, f2⟩ := sound s1
  have f3 : Fr [(15, 24, 0), (25, 30, 0)] M0 M2 := (f1.up (by rfl)).tr (f2.up (by rfl))
  have c2 : CS M2 (34 + 10 * nx) r := cs.cg fun b k q1 q2 => f3 b k (inR_T (lo := 34) (hi := 113) (by rfl) (by omega) (by omega) k)
  obtain ⟨M3, e3, s3⟩ := undo_ok s2 s.v (c := if cnt = 8 then 8 else cnt + 1) (by split <;> omega) (by split <;> omega) h2 c2 ((f3 0 11 (by rfl)).trans k11) ((f3 0 12 (by rfl)).trans k12)
  obtain ⟨M4, e4, s4, f4⟩ := q_miss s3
  obtain ⟨M5, e5, s5, f5⟩ := q_peri s4
  obtain ⟨M6, e6, s6, f6⟩ := sound s5
  unfold f_W_law_178
  rw [e1, bn2_s, if_pos rfl, e2, bn2_s, if_neg (by decide), e3, bn2_s, und_n _ h8, if_pos rfl, q_adj s3, bn_s, if_pos rfl, q_legs s3, bn_s, if_pos rfl, e4, bn2_s, if_pos rfl, e5, bn2_s, if_pos rfl, e6, bn2_s, if_neg (by decide)]
  by_cases z : Int32.ofNat L ≤ 1
  · rw [if_pos z]; exact ⟨_, rfl⟩
  · rw [if_neg z]; exact ⟨_, rfl⟩
/-- the acts, then the end -/
theorem law_107 : ∀ (d k n : Nat) (M : Mm) (r : Rw), d + k = 16 → d < n → ST M r → NM r → ∃ M9, f_W_law_107 T L n (oN k) M = some (1, M9) := by
  intro d
  induction d with
  | zero =>
    intro k n M r hd hn s nm
    obtain ⟨n, rfl⟩ : ∃ g, n = g + 1 := ⟨n - 1, by omega⟩
    obtain ⟨M1, e1, s1, f1⟩ := q_miss s
    obtain ⟨M2, e2, s2, f2⟩ := q_peri s1
    have hc : ∃ c : Nat, c ≤ 8 ∧ M 0 12 = oN c := by
      obtain ⟨N, h, p⟩ := s
      obtain ⟨cnt, nx, h1, h2, h3, h4, -, -⟩ := h.2.1
      exact ⟨cnt, h1, h4⟩
    obtain ⟨c, h8, hc⟩ := hc
    have hc2 : M2 0 12 = oN c := by rw [f2 0 12 (by rfl), f1 0 12 (by rfl)]; exact hc
    have eu : f_C_undoableChanges M = some (oN c) := by unfold f_C_undoableChanges; rw [hc]
    rw [f_W_law_107, if_pos (show (16 : Int32) ≤ oN k from (oN_le (a := 16) (by omega) (by omega)).mpr (by omega)), eu, bn_s, q_legs s, bn_s, e1, bn2_s, e2, bn2_s, q_adj s2, bn_s]
    by_cases z : oN (r 3) = 0
    · rw [if_pos z]
      exact law_178 s2 (x := 1) (by decide) hc2 h8
    · rw [if_neg z]
      exact law_178 s2 (x := 0) (by decide) hc2 h8
  | succ d ih =>
    intro k n M r hd hn s nm
    obtain ⟨n, rfl⟩ : ∃ g, n = g + 1 := ⟨n - 1, by omega⟩
    obtain ⟨M1, r1, e1, s1, n1⟩ := acts_ok s nm
    obtain ⟨M2, e2, s2, f2⟩ := sound s1
    rw [f_W_law_107, if_neg (show ¬ (16 : Int32) ≤ oN k from fun q => by have := (oN_le (a := 16) (by omega) (by omega)).mp q; omega), e1, bn2_s, if_neg (by decide), e2, bn2_s, if_neg (by decide), oN_S]
    exact ih (k + 1) n M2 r1 (by omega) (by omega) s2 n1
/-- the law holds from every seed -/
theorem law_ok (hz : ∀ b k, b < 134 → M b k = 0) : ∃ T, (T = 13 ∨ T = 14) ∧ ∀ L, ∃ M9, f_W_law T L M = some (1, M9) := by
  obtain ⟨T, hT, M1, r1, s1, r0, h⟩ := law_beg hz
  refine ⟨T, hT, fun L => ?_⟩
  obtain ⟨M2, e2, s2, f2⟩ := sound s1
  rw [h L, e2, bn2_s, if_neg (by decide)]
  exact law_107 16 0 18 M2 r1 (by decide) (by decide) s2 (fun i hi => absurd hi (by omega))
end LAW
