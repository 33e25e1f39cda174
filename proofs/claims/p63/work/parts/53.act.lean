/-! the acts -/
section ACT
variable {M : Mm} {r : Rw} {i : Nat}
def GOES (f : Option (Int32 × Mm)) : Prop := ∃ M1 r1, f = some (1, M1) ∧ ST M1 r1 ∧ NM r1
theorem goes_c {M1 : Mm} {r1 : Rw} {f : Option (Int32 × Mm)} (s : ST M1 r1) (nm : NM r1) (e : f = some (1, M1)) : GOES f := ⟨M1, r1, e, s, nm⟩
theorem oN15 (b : Nat) : (15 : Int32) * oN b = oN (15 * b) := (oN_mul 15 b).symm
theorem a_103 (s : ST M r) (nm : NM r) {b p k ri : Nat} (hb : b < 24) (hp : p ≤ 99) (hk : k ≤ 99) (hri : ri ≤ 9999) : GOES (f_W_acts_103 (oN (r 0)) (oN p) (oN k) (15 * oN b) (oN p) (oN k) (oN ri) M) := by
  have hv := s.v.1
  unfold f_W_acts_103 f_W_acts_199
  obtain ⟨t, M1, e1, ht, f1⟩ := draw_ok (n := 51) M (by decide) (by decide)
  have e1 : f_W_draw 51 M = some (oN t, M1) := e1
  have s1 := s.dr f1
  rw [e1, bn2_s, oN15]
  by_cases c : r 0 < 20
  · obtain ⟨M2, e2, s2⟩ := k_leg s1 nm c hb hp hk hri (show t ≤ 50 by omega)
    rw [e2, bn2_s, if_neg (show ¬ oN (r 0) = 20 from fun q => by have := (oN_inj (b := 20) (by omega) (by omega)).mp q; omega), if_pos rfl]
    have nm2 : NM (ov r (r 0 + 1) (r 0) (lvQ r b p k ri t 0)) := nm_add nm
    have hi : r 0 < (ov r (r 0 + 1) (r 0) (lvQ r b p k ri t 0)) 0 := by rw [ov_0]; omega
    have er : rdN (ov r (r 0 + 1) (r 0) (lvQ r b p k ri t 0)) (r 0) = p * 10000 + k * 100 := by
      unfold rdN
      rw [ov_l (q := 6) (by decide), ov_l (q := 1) (by decide), ov_l (q := 2) (by decide), ov_l (q := 3) (by decide)]
      exact if_pos (show lvQ r b p k ri t 0 6 = 0 from rfl)
    obtain ⟨n1, n2, n3⟩ := q_name s2 nm2 hi
    rw [q_read s2 hi, bn_s, er]
    have ev : oN (p * 10000 + k * 100) = (10000 : Int32) * oN p + (100 : Int32) * oN k := by
      rw [oN_add, oN_mul, oN_mul, Int32.mul_comm (oN p), Int32.mul_comm (oN k)]; rfl
    rw [if_pos ev, n1, bn_s, if_pos rfl, n2, bn_s, if_pos rfl, n3, bn_s, if_pos rfl, chk_t (by decide)]
    exact goes_c s2 nm2 rfl
  · have h20 : r 0 = 20 := by omega
    rw [k_leg_full s1 c hb hp hk hri (show t ≤ 50 by omega), bn2_s, if_pos (show oN (r 0) = 20 by rw [h20]; rfl), if_pos rfl, chk_t (by decide)]
    exact goes_c s1 nm rfl
theorem a_56 (s : ST M r) (nm : NM r) : GOES (f_W_acts_56 (oN (r 0)) M) := by
  unfold f_W_acts_56
  obtain ⟨p, M1, e1, hp, f1⟩ := draw_ok (n := 12) M (by decide) (by decide)
  have e1 : f_W_draw 12 M = some (oN p, M1) := e1
  have s1 := s.dr f1
  obtain ⟨k, M2, e2, hk, f2⟩ := draw_ok (n := 100) M1 (by decide) (by decide)
  have e2 : f_W_draw 100 M1 = some (oN k, M2) := e2
  have s2 := s1.dr f2
  obtain ⟨b, M3, e3, hb, f3⟩ := draw_ok (n := 24) M2 (by decide) (by decide)
  have e3 : f_W_draw 24 M2 = some (oN b, M3) := e3
  have s3 := s2.dr f3
  obtain ⟨q, M4, e4, hq, f4⟩ := draw_ok (n := 3) M3 (by decide) (by decide)
  have e4 : f_W_draw 3 M3 = some (oN q, M4) := e4
  have s4 := s3.dr f4
  rw [e1, bn2_s, e2, bn2_s, e3, bn2_s, e4, bn2_s]
  by_cases c : oN q = 0
  · obtain ⟨ri, M5, e5, hri, f5⟩ := draw_ok (n := 900) M4 (by decide) (by decide)
    have e5 : f_W_draw 900 M4 = some (oN ri, M5) := e5
    rw [if_pos c, e5, bn2_s]
    exact a_103 (s4.dr f5) nm hb (by omega) (by omega) (by omega)
  · rw [if_neg c]
    exact a_103 (ri := 0) s4 nm hb (by omega) (by omega) (by decide)
theorem a_200 (s : ST M r) (nm : NM r) : GOES (f_W_acts_200 (oN (r 0)) M) := by
  have hv := s.v.1
  unfold f_W_acts_200 f_W_acts_272
  obtain ⟨q, M1, e1, hq, f1⟩ := draw_ok (n := 300) M (by decide) (by decide)
  have e1 : f_W_draw 300 M = some (oN q, M1) := e1
  have s1 := s.dr f1
  obtain ⟨b, M2, e2, hb, f2⟩ := draw_ok (n := 24) M1 (by decide) (by decide)
  have e2 : f_W_draw 24 M1 = some (oN b, M2) := e2
  have s2 := s1.dr f2
  have e9 : (1 : Int32) + oN q = oN (1 + q) := (oN_add 1 q).symm
  rw [e1, bn2_s, e2, bn2_s, oN15, e9]
  by_cases c : r 0 < 20
  · obtain ⟨M3, e3, s3⟩ := k_bog s2 nm c hb (show 1 ≤ 1 + q by omega) (by omega)
    rw [e3, bn2_s, if_neg (show ¬ oN (r 0) = 20 from fun q => by have := (oN_inj (b := 20) (by omega) (by omega)).mp q; omega), if_pos rfl]
    have nm3 : NM (ov r (r 0 + 1) (r 0) (lvQ r b 0 0 0 0 (1 + q))) := nm_add nm
    have hi : r 0 < (ov r (r 0 + 1) (r 0) (lvQ r b 0 0 0 0 (1 + q))) 0 := by rw [ov_0]; omega
    have er : rdN (ov r (r 0 + 1) (r 0) (lvQ r b 0 0 0 0 (1 + q))) (r 0) = (1 + q) * (ov r (r 0 + 1) (r 0) (lvQ r b 0 0 0 0 (1 + q))) 2 := by
      unfold rdN
      rw [ov_l (q := 6) (by decide)]
      exact if_neg (show ¬ (1 + q = 0) by omega)
    rw [q_read s3 hi, bn_s, q_pace s3, bn_s, er, if_pos (oN_mul _ _), chk_t (by decide)]
    exact goes_c s3 nm3 rfl
  · have h20 : r 0 = 20 := by omega
    rw [k_bog_full s2 c hb (show 1 ≤ 1 + q by omega) (by omega), bn2_s, if_pos (show oN (r 0) = 20 by rw [h20]; rfl), if_pos rfl, chk_t (by decide)]
    exact goes_c s2 nm rfl
theorem nm_up3 (nm : NM r) (i x : Nat) : NM (up r (4 + 14 * i + 3) x) := by
  have e0 : up r (4 + 14 * i + 3) x 0 = r 0 := up_n (by omega)
  refine nm.cg (Nat.le_of_eq e0) (fun k hk j h7 h10 => up_n (by omega))
theorem nm_up (nm : NM r) {k : Nat} (hk : k = 1 ∨ k = 2 ∨ k = 3) (x : Nat) : NM (up r k x) := by
  have e0 : up r k x 0 = r 0 := up_n (by omega)
  refine nm.cg (Nat.le_of_eq e0) (fun q hq j h7 h10 => up_n (by omega))
theorem a_338 (s : ST M r) (nm : NM r) (hi : i < r 0) (c : ¬ (r (4 + 14 * i + 6) = 0 ∧ ¬ 9 ≤ r (4 + 14 * i + 3))) {l5 l6 : Int32} : GOES (f_W_acts_338 (oN i) (mpW r i) l5 l6 M) := by
  unfold f_W_acts_338 f_W_acts_339 f_W_acts_367
  have e1 : mpW r i = -1 := by
    unfold mpW
    split
    · split
      · rfl
      · exfalso; apply c; exact ⟨by assumption, by assumption⟩
    · rfl
  rw [if_pos rfl, if_pos e1, k_drop_no s hi c, bn2_s, if_pos rfl, chk_t (by decide)]
  exact goes_c s nm rfl
theorem a_339 (s : ST M r) (nm : NM r) (hi : i < r 0) (h6 : r (4 + 14 * i + 6) = 0) (h9 : ¬ 9 ≤ r (4 + 14 * i + 3)) : GOES (f_W_acts_339 (oN i) (mpW r i) (oN (r (4 + 14 * i + 3))) (msW r) 1 M) := by
  have hv := s.v.1
  unfold f_W_acts_339 f_W_acts_418 f_W_acts_423
  have e1 : mpW r i = msW (upD r i) := by
    unfold mpW; rw [if_pos h6, if_neg h9]
  obtain ⟨M1, k1, s1⟩ := k_drop s hi h6 h9
  have nm1 : NM (upD r i) := nm_up3 nm i _
  rw [if_neg (by decide), k1, bn2_s, if_pos (oN_S _).symm]
  obtain ⟨M2, k2, s2, f2⟩ := q_miss s1
  rw [k2, bn2_s, if_pos e1.symm]
  obtain ⟨q, M3, k3, hq, f3⟩ := draw_ok (n := 2) M2 (by decide) (by decide)
  have k3 : f_W_draw 2 M2 = some (oN q, M3) := k3
  have s3 := s2.dr f3
  rw [k3, bn2_s]
  by_cases c : oN q = 0
  · rw [if_pos c, chk_t (by decide)]
    exact goes_c s3 nm1 rfl
  · have hi1 : i < (upD r i) 0 := by rw [upD_0]; exact hi
    have e6 : (upD r i) (4 + 14 * i + 6) = 0 := by unfold upD; rw [up_n (by omega)]; exact h6
    have e3 : (upD r i) (4 + 14 * i + 3) = r (4 + 14 * i + 3) + 1 := up_s _ _ _
    obtain ⟨M4, k4, s4⟩ := k_find s3 hi1 e6 (by rw [e3]; omega)
    rw [e3] at k4 s4
    have eb : up (upD r i) (4 + 14 * i + 3) (r (4 + 14 * i + 3) + 1 - 1) = r := by
      unfold upD
      rw [up_up, Nat.add_sub_cancel, up_self]
    rw [eb] at s4
    rw [if_neg c, k4, bn2_s, Nat.add_sub_cancel, if_pos rfl]
    obtain ⟨M5, k5, s5, f5⟩ := q_miss s4
    rw [k5, bn2_s, if_pos rfl, chk_t (by decide)]
    exact goes_c s5 nm rfl
theorem a_273 (s : ST M r) (nm : NM r) : GOES (f_W_acts_273 (oN (r 0)) M) := by
  have hv := s.v.1
  unfold f_W_acts_273 f_W_acts_292
  by_cases c : r 0 = 0
  · rw [if_pos (show oN (r 0) = 0 by rw [c]; rfl), k_drop_none s c, bn2_s, if_pos rfl, chk_t (by decide)]
    exact goes_c s nm rfl
  · rw [if_neg (fun q => c ((oN0 (by omega)).mp q))]
    obtain ⟨i, M1, e1, hi, f1⟩ := draw_ok (n := r 0) M (by omega) (by omega)
    have s1 := s.dr f1
    obtain ⟨M2, e2, s2⟩ := q_mid s1 hi
    obtain ⟨M3, e3, s3, f3⟩ := q_miss s2
    rw [e1, bn2_s, e2, bn2_s, q_dropped s2 hi, bn_s, e3, bn2_s, q_bog s3 hi, bn_s]
    have h9 := (s.v.2.2.2.2.2 i hi).2.2.2.1
    by_cases d : r (4 + 14 * i + 6) = 0
    · rw [if_pos d, if_pos rfl]
      by_cases e : 9 ≤ r (4 + 14 * i + 3)
      · rw [if_pos (show (9 : Int32) ≤ oN (r (4 + 14 * i + 3)) from (oN_le (a := 9) (by omega) (by omega)).mpr e)]
        exact a_338 s3 nm hi (fun q => q.2 e)
      · rw [if_neg (show ¬ (9 : Int32) ≤ oN (r (4 + 14 * i + 3)) from fun q => e ((oN_le (a := 9) (by omega) (by omega)).mp q))]
        exact a_339 s3 nm hi d e
    · rw [if_neg d, if_neg (by decide)]
      exact a_338 s3 nm hi (fun q => d q.1)
/-- the suspect leg, held against all legs -/
theorem a_438 {v l2' : Int32} (h : SU r (r 0) v l2') (nm : NM r) : ∀ (d i n : Nat) (M : Mm), d + i = r 0 → d < n → ST M r → GOES (f_W_acts_438 n (oN (r 0)) v (msW r) (oN i) M) := by
  intro d
  induction d with
  | zero =>
    intro i n M hd hn s
    have hv := s.v.1
    obtain ⟨n, rfl⟩ : ∃ k, n = k + 1 := ⟨n - 1, by omega⟩
    rw [f_W_acts_438, if_pos ((oN_le (by omega) (by omega)).mpr (by omega))]
    unfold f_W_acts_500 f_W_acts_505
    rcases h with ⟨h1, h2, h3⟩ | ⟨j, h0, h1, h2, h4, h5, h3⟩
    · rw [if_pos h1, chk_t (by decide)]
      exact goes_c s nm rfl
    · obtain ⟨M1, e1, s1⟩ := q_mid s h0
      rw [h1, if_neg (neM1 (by omega)), e1, bn2_s, if_neg (i_nle.mpr h5), chk_t (by decide)]
      exact goes_c s1 nm rfl
  | succ d ih =>
    intro i n M hd hn s
    have hv := s.v.1
    have hi : i < r 0 := by omega
    obtain ⟨n, rfl⟩ : ∃ k, n = k + 1 := ⟨n - 1, by omega⟩
    rw [f_W_acts_438, if_neg (fun q => by have := (oN_le (by omega) (by omega)).mp q; omega)]
    obtain ⟨M1, e1, s1⟩ := q_mid s hi
    rw [e1, bn2_s]
    unfold f_W_acts_474 f_W_acts_479
    rw [oN_S]
    by_cases c : mpW r i < 0
    · rw [if_pos c]
      exact ih (i + 1) n M1 (by omega) (by omega) s1
    · have hne : mpW r i ≠ -1 := fun q => c (by rw [q]; decide)
      rw [if_neg c]
      rcases id h with ⟨h1, h2, h3⟩ | ⟨j, h0, h1, h2, h4, h5, h3⟩
      · rw [if_pos h1, if_pos (h3 i hi hne)]
        exact ih (i + 1) n M1 (by omega) (by omega) s1
      · obtain ⟨M2, e2, s2⟩ := q_mid s1 h0
        have hq := ih (i + 1) n M2 (by omega) (by omega) s2
        rw [h1] at hq
        rw [h1, if_neg (neM1 (by omega)), e2, bn2_s, if_pos (h3 i hi hne)]
        exact hq
theorem a_424 (s : ST M r) (nm : NM r) : GOES (f_W_acts_424 (oN (r 0)) M) := by
  have hv := s.v.1
  unfold f_W_acts_424
  obtain ⟨v, M1, l2, e1, s1, h⟩ := q_susp s
  obtain ⟨M2, e2, s2, f2⟩ := q_miss s1
  rw [e1, bn2_s, e2, bn2_s]
  exact a_438 h nm (r 0) 0 22 M2 (by omega) (by omega) s2
/-- the best pace, held against a drawn one -/
theorem a_506 (s : ST M r) (nm : NM r) : GOES (f_W_acts_506 M) := by
  have hv := s.v
  unfold f_W_acts_506 f_W_acts_540 f_W_acts_614 f_W_acts_619
  obtain ⟨M1, e1, s1, f1⟩ := q_miss s
  rw [q_best s, bn_s, q_pace s, bn_s, e1, bn2_s]
  by_cases c : anB r (r 0) = true
  · obtain ⟨m1, m2⟩ := lx_min (pF r) 899
    have hl := lx_le (pF r) 899
    rw [if_pos c]
    generalize hk : lx (pF r) 899 = k at m1 m2 hl
    obtain ⟨M2, e2, s2⟩ := k_pace s1 (x := 100 + k) (by omega) (by omega)
    rw [if_neg (neM1 (by omega)), e2, bn2_s, if_pos rfl]
    obtain ⟨M3, e3, s3, f3⟩ := q_miss s2
    have hle : msW (up r 2 (100 + k)) ≤ msW r := by
      have h1 : 100 ≤ r 2 := hv.2.2.1
      have h2 : r 2 ≤ 999 := hv.2.2.2.1
      have h3 := m1 (r 2 - 100) (by omega)
      have h4 : pF r (r 2 - 100) = msW r := by
        show msW (up r 2 (100 + (r 2 - 100))) = msW r
        rw [show 100 + (r 2 - 100) = r 2 by omega, up_self]
      rw [h4] at h3
      exact h3
    rw [e3, bn2_s, if_pos hle]
    obtain ⟨M4, e4, s4, f4⟩ := q_miss s3
    obtain ⟨q, M5, e5, hq, f5⟩ := draw_ok (n := 900) M4 (by decide) (by decide)
    have e5 : f_W_draw 900 M4 = some (oN q, M5) := e5
    have s5 := s4.dr f5
    have e9 : (100 : Int32) + oN q = oN (100 + q) := (oN_add 100 q).symm
    obtain ⟨M6, e6, s6⟩ := k_pace s5 (x := 100 + q) (by omega) (by omega)
    rw [up_s] at e6
    rw [up_up] at s6
    have nm6 : NM (up r 2 (100 + q)) := nm_up nm (Or.inr (Or.inl rfl)) _
    rw [e4, bn2_s, e5, bn2_s, e9, e6, bn2_s, if_pos rfl]
    obtain ⟨M7, e7, s7, f7⟩ := q_miss s6
    rw [e7, bn2_s]
    have hm : msW (up r 2 (100 + k)) ≤ msW (up r 2 (100 + q)) := m1 q (by omega)
    by_cases d : msW (up r 2 (100 + k)) < msW (up r 2 (100 + q))
    · rw [if_pos d, chk_t (by decide)]
      exact goes_c s7 nm6 rfl
    · have he : msW (up r 2 (100 + q)) = msW (up r 2 (100 + k)) := Int32.le_antisymm (i_nl.mp d) hm
      obtain ⟨M8, e8, s8, f8⟩ := q_miss s7
      have hkq : ¬ q < k := fun z => d (m2 q z)
      rw [if_neg d, e8, bn2_s, if_pos he, if_neg (show ¬ oN (100 + q) < oN (100 + k) from fun z => by have := (oN_lt (by omega) (by omega)).mp z; omega), chk_t (by decide)]
      exact goes_c s8 nm6 rfl
  · have c0 : anB r (r 0) = false := by simpa using c
    rw [if_neg c, if_pos rfl, q_bogs s1, bn_s, bog_none c0, if_pos rfl, chk_t (by decide)]
    exact goes_c s1 nm rfl
theorem a_620 (s : ST M r) (nm : NM r) : GOES (f_W_acts_620 M) := by
  have hv := s.v
  unfold f_W_acts_620 f_W_acts_664 f_W_acts_677
  obtain ⟨x, M1, e1, hx, f1⟩ := draw_ok (n := 200) M (by decide) (by decide)
  have e1 : f_W_draw 200 M = some (oN x, M1) := e1
  have s1 := s.dr f1
  obtain ⟨M2, e2, s2⟩ := k_wear s1 (x := x) (by omega)
  rw [q_wear s, bn_s, e1, bn2_s, q_adj s1, bn_s, e2, bn2_s, if_pos rfl]
  obtain ⟨q, M3, e3, hq, f3⟩ := draw_ok (n := 2) M2 (by decide) (by decide)
  have e3 : f_W_draw 2 M2 = some (oN q, M3) := e3
  have s3 := s2.dr f3
  have e3' : (up r 1 x) 3 = r 3 := up_n (by decide)
  have nm3 : NM (up r 1 x) := nm_up nm (Or.inl rfl) _
  rw [e3, bn2_s]
  by_cases c : oN q = 0
  · obtain ⟨M0, M4, -, e4, s4, -⟩ := k_adj s3 (x := 1) (by decide)
    have e4 : f_C_setAdjusted 1 M3 = some (oN ((up r 1 x) 3), M4) := e4
    rw [if_pos c, e4, bn2_s, e3', if_pos rfl, chk_t (by decide)]
    exact goes_c s4 (nm_up nm3 (Or.inr (Or.inr rfl)) _) rfl
  · obtain ⟨M0, M4, -, e4, s4, -⟩ := k_adj s3 (x := 0) (by decide)
    have e4 : f_C_setAdjusted 0 M3 = some (oN ((up r 1 x) 3), M4) := e4
    rw [if_neg c, e4, bn2_s, e3', if_pos rfl, chk_t (by decide)]
    exact goes_c s4 (nm_up nm3 (Or.inr (Or.inr rfl)) _) rfl
theorem a_678 (s : ST M r) (nm : NM r) : GOES (f_W_acts_678 (oN (r 0)) M) := by
  have hv := s.v.1
  unfold f_W_acts_678 f_W_acts_714 f_W_acts_719
  by_cases c : r 0 = 0
  · rw [if_pos (show oN (r 0) = 0 by rw [c]; rfl), k_last_none s c, bn2_s, if_pos rfl, chk_t (by decide)]
    exact goes_c s nm rfl
  · rw [if_neg (fun q => c ((oN0 (by omega)).mp q))]
    by_cases d : r 0 < 4
    · rw [if_pos (show oN (r 0) < 4 from (oN_lt (b := 4) (by omega) (by omega)).mpr d), chk_t (by decide)]
      exact goes_c s nm rfl
    · rw [if_neg (show ¬ oN (r 0) < 4 from fun q => d ((oN_lt (b := 4) (by omega) (by omega)).mp q))]
      obtain ⟨M1, e1, s1⟩ := k_last s c
      rw [e1, bn2_s, oN_P c, if_pos rfl, chk_t (by decide)]
      refine goes_c s1 (nm.cg (by rw [ov_0]; omega) (fun k hk j h7 h10 => ?_)) rfl
      rw [ov_0] at hk
      exact ov_n (by omega) (by omega)
theorem acts_ok (s : ST M r) (nm : NM r) : GOES (f_W_acts M) := by
  unfold f_W_acts
  obtain ⟨k, M1, e1, hk, f1⟩ := draw_ok (n := 9) M (by decide) (by decide)
  have e1 : f_W_draw 9 M = some (oN k, M1) := e1
  have s1 := s.dr f1
  rw [q_legs s, bn_s, e1, bn2_s]
  match k, hk with
  | 0, _ => rw [if_neg (by decide), if_pos (show oN 0 = 0 from rfl)]; exact a_56 s1 nm
  | 1, _ => rw [if_neg (by decide), if_neg (by decide), if_pos (show oN 1 = 1 from rfl)]; exact a_56 s1 nm
  | 2, _ => rw [if_neg (by decide), if_neg (by decide), if_neg (by decide), if_pos (show oN 2 = 2 from rfl)]; exact a_200 s1 nm
  | 3, _ => rw [if_neg (by decide), if_neg (by decide), if_neg (by decide), if_neg (by decide), if_pos (show oN 3 = 3 from rfl)]; exact a_273 s1 nm
  | 4, _ => rw [if_neg (by decide), if_neg (by decide), if_neg (by decide), if_neg (by decide), if_neg (by decide), if_pos (show oN 4 = 4 from rfl)]; exact a_273 s1 nm
  | 5, _ => rw [if_neg (by decide), if_neg (by decide), if_neg (by decide), if_neg (by decide), if_neg (by decide), if_neg (by decide), if_pos (show oN 5 = 5 from rfl)]; exact a_424 s1 nm
  | 6, _ => rw [if_neg (by decide), if_neg (by decide), if_neg (by decide), if_neg (by decide), if_neg (by decide), if_neg (by decide), if_neg (by decide), if_pos (show oN 6 = 6 from rfl)]; exact a_506 s1 nm
  | 7, _ => rw [if_neg (by decide), if_neg (by decide), if_neg (by decide), if_neg (by decide), if_neg (by decide), if_neg (by decide), if_neg (by decide), if_neg (by decide), if_pos (show oN 7 = 7 from rfl)]; exact a_620 s1 nm
  | 8, _ => rw [if_pos (by decide)]; exact a_678 s1 nm
  | k + 9, h => exact absurd h (by omega)
end ACT
