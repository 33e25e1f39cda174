/-! isSound: steps, runs and coordinates add up; roots are roots -/
theorem root_ok {e n : Int32} (he : bd 1000000000 e) (hn : bd 1000000000 n) : f_W_isRoot (dW e n).toInt64 ((e.toInt64 * e.toInt64) + (n.toInt64 * n.toInt64)) = some 1 := by
  have hS := d_lt he hn
  rw [d_arg he hn]
  unfold dW
  generalize e.toInt.natAbs * e.toInt.natAbs + n.toInt.natAbs * n.toInt.natAbs = S at hS
  obtain ⟨h1, h2⟩ := isq_spec hS
  have h3 := isq_lt hS
  generalize isq S = q at h1 h2 h3
  rw [oN_J h3]
  have hq : q * q < 9223372036854775808 := by omega
  have hq1 : (q + 1) * (q + 1) < 9223372036854775808 := by
    have : (q + 1) * (q + 1) ≤ 2147483648 * 2147483648 := Nat.mul_le_mul (by omega) (by omega)
    omega
  unfold f_W_isRoot
  have e1 : Int64.ofNat q * Int64.ofNat q = Int64.ofNat (q * q) := (Int64.ofNat_mul q q).symm
  have e2 : (Int64.ofNat q + (1 : Int64)) * (Int64.ofNat q + (1 : Int64)) = Int64.ofNat ((q + 1) * (q + 1)) := by
    rw [Int64.ofNat_mul, Int64.ofNat_add]; rfl
  have c0 : ¬ lg_cmp (Int64.ofNat q) 0 < 0 := by rw [lg_cmp_lt, show (0 : Int64) = Int64.ofNat 0 from rfl, jN_lt (by omega) (by decide)]; omega
  rw [if_neg c0, e1, e2, if_neg (by rw [lg_cmp_gt, jN_lt (by omega) (by omega)]; omega), if_neg (by rw [lg_cmp_le, jN_le (by omega) (by omega)]; omega)]
theorem stp_p {f : Nat} (hf : f ≤ 100000000) : stpW f 10000 = oN f := by
  apply Int32.toInt_inj.mp
  unfold stpW
  have hw : (Int32.ofNat f).toInt = f := oN_int (by omega)
  have e2 : ((Int32.ofNat f).toInt64 * (10000 : Int32).toInt64).toInt = (f : Int) * 10000 := by rw [j_mul, hw]; rfl
  have e3 : (10000 : Int64).toInt = 10000 := by decide
  have hd : ((f : Int) * 10000).tdiv 10000 = f := Int.mul_tdiv_cancel _ (by decide)
  rw [j_div (by decide) (by rw [e2, e3, hd]; omega), e2, e3, hd]
  exact hw.symm
theorem stp_n {f : Nat} (hf : f ≤ 100000000) : stpW f (-10000) = -(oN f) := by
  apply Int32.toInt_inj.mp
  unfold stpW
  have hw : (Int32.ofNat f).toInt = f := oN_int (by omega)
  have e2 : ((Int32.ofNat f).toInt64 * (-10000 : Int32).toInt64).toInt = (f : Int) * (-10000) := by rw [j_mul, hw]; rfl
  have e3 : (10000 : Int64).toInt = 10000 := by decide
  have hd : ((f : Int) * (-10000)).tdiv 10000 = -(f : Int) := by
    have : (f : Int) * (-10000) = (-(f : Int)) * 10000 := by omega
    rw [this]; exact Int.mul_tdiv_cancel _ (by decide)
  rw [j_div (by decide) (by rw [e2, e3, hd]; omega), e2, e3, hd]
  rw [show -(oN f) = 0 - oN f from (Int32.zero_sub _).symm, i_sub (by rw [show (0 : Int32).toInt = 0 from rfl, hw]; omega), hw]
  show -(f : Int) = 0 - f
  omega
theorem stp_0 (f : Nat) : stpW f 0 = 0 := by
  unfold stpW
  rw [show (0 : Int32).toInt64 = 0 from rfl, Int64.mul_zero]; rfl
theorem br_all : ∀ b, b < 24 → ((oN (15 * b) - oN (15 * b) / 180 * 180 = 0) ↔ (b = 0 ∨ b = 12)) ∧ ((oN (15 * b) - oN (15 * b) / 180 * 180 = 90) ↔ (b = 6 ∨ b = 18)) := by decide +kernel
/-- the longest leg so far, as the law holds it -/
def lgI (r : Rw) (i : Nat) : Int32 := if i = 0 then -1 else oN (fx (fO r) (i - 1))
theorem fx_max (f : Nat → Int32) : ∀ k j, j ≤ k → f j ≤ f (fx f k) := by
  intro k
  induction k with
  | zero => intro j hj; rw [show j = 0 by omega]; exact Int32.le_refl _
  | succ k ih =>
    intro j hj
    unfold fx
    by_cases c : f (k + 1) ≤ f (fx f k)
    · rw [if_pos c]
      by_cases e : j = k + 1
      · rw [e]; exact c
      · exact ih j (by omega)
    · rw [if_neg c]
      by_cases e : j = k + 1
      · rw [e]; exact Int32.le_refl _
      · exact Int32.le_trans (ih j (by omega)) (Int32.le_of_lt (i_nle.mp c))
section SND
variable {M : Mm} {r : Rw} {i : Nat} {rc : Int32 → Int32 → Int32 → Int32 → Int32 → Int32 → Int32 → Mm → Option (Int32 × Mm)} {a1 a2 a3 a4 a5 a6 : Int32}
theorem snd398 (s : ST M r) (hi : i < r 0) : ∃ M1, f_W_isSound_398 rc a1 a2 a3 a4 a5 a6 (oN i) M = rc a1 a2 a3 a4 a5 a6 (oN (i + 1)) M1 ∧ ST M1 r ∧ Fr FRL M M1 := by
  have hv := s.v
  have h1 : i + 1 ≤ r 0 := hi
  unfold f_W_isSound_398
  rw [oN_S]
  obtain ⟨M1, e1, s1, f1⟩ := q_dist s h1
  rw [e1, bn2_s]
  obtain ⟨M2, e2, s2, f2⟩ := q_aE s1 h1
  rw [e2, bn2_s]
  obtain ⟨M3, e3, s3, f3⟩ := q_aE s2 h1
  rw [e3, bn2_s]
  obtain ⟨M4, e4, s4, f4⟩ := q_aN s3 h1
  rw [e4, bn2_s]
  obtain ⟨M5, e5, s5, f5⟩ := q_aN s4 h1
  rw [e5, bn2_s]
  have hr := root_ok (a_bd hv h1).1 (a_bd hv h1).2
  have hr : f_W_isRoot (dS r (i + 1)).toInt64 (((aE r (i + 1)).toInt64 * (aE r (i + 1)).toInt64) + ((aN r (i + 1)).toInt64 * (aN r (i + 1)).toInt64)) = some 1 := hr
  rw [hr, bn_s, if_neg (by decide)]
  obtain ⟨M6, e6, s6, f6⟩ := q_dist s5 h1
  rw [e6, bn2_s]
  obtain ⟨M7, e7, s7, f7⟩ := q_far s6
  rw [e7, bn2_s]
  obtain ⟨M8, e8, s8, f8⟩ := q_dist s7 (fx_le (dS r) (r 0))
  rw [e8, bn2_s, if_pos (fx_max (dS r) (r 0) (i + 1) h1)]
  exact ⟨M8, rfl, s8, f1.tr (f2.tr (f3.tr (f4.tr (f5.tr (f6.tr (f7.tr f8))))))⟩
theorem snd326 (s : ST M r) (hi : i < r 0) : ∃ M1, f_W_isSound_326 rc a1 (eW r (i + 1)) (nW r (i + 1)) (oN (ruN r (i + 1))) a5 a6 (oN i) M = rc a1 (eW r (i + 1)) (nW r (i + 1)) (oN (ruN r (i + 1))) a5 a6 (oN (i + 1)) M1 ∧ ST M1 r ∧ Fr FRL M M1 := by
  have hv := s.v
  have h3 := hv.2.2.2.2.1
  have h1 : i + 1 ≤ r 0 := hi
  unfold f_W_isSound_326
  rw [oN_S]
  obtain ⟨M1, e1, s1, f1⟩ := q_rawEast s h1
  rw [e1, bn2_s, if_pos rfl]
  obtain ⟨M2, e2, s2, f2⟩ := q_rawNorth s1 h1
  rw [e2, bn2_s, if_pos rfl]
  obtain ⟨M3, e3, s3, f3⟩ := q_run s2 h1
  rw [e3, bn2_s, if_pos rfl, q_adj s3, bn_s]
  by_cases c : r 3 = 0
  · rw [c, if_pos (show oN 0 = 0 from rfl)]
    have ea : aE r (i + 1) = eW r (i + 1) := if_pos c
    have na : aN r (i + 1) = nW r (i + 1) := if_pos c
    obtain ⟨M4, e4, s4, f4⟩ := q_aE s3 h1
    rw [e4, bn2_s, if_pos ea]
    obtain ⟨M5, e5, s5, f5⟩ := q_aN s4 h1
    rw [e5, bn2_s, if_pos na]
    obtain ⟨M6, e6, s6, f6⟩ := snd398 (rc := rc) (a1 := a1) (a2 := eW r (i + 1)) (a3 := nW r (i + 1)) (a4 := oN (ruN r (i + 1))) (a5 := a5) (a6 := a6) s5 hi
    exact ⟨M6, e6, s6, f1.tr (f2.tr (f3.tr (f4.tr (f5.tr f6))))⟩
  · rw [if_neg (fun q => c ((oN0 (by omega)).mp q))]
    obtain ⟨M6, e6, s6, f6⟩ := snd398 (rc := rc) (a1 := a1) (a2 := eW r (i + 1)) (a3 := nW r (i + 1)) (a4 := oN (ruN r (i + 1))) (a5 := a5) (a6 := a6) s3 hi
    exact ⟨M6, e6, s6, f1.tr (f2.tr (f3.tr f6))⟩
theorem snd305 (s : ST M r) (hi : i < r 0) : f_W_isSound_305 rc a1 a2 a3 a4 a5 (lgI r i) (oN i) (oN (flN r i)) M = f_W_isSound_326 rc a1 a2 a3 a4 a5 (lgI r (i + 1)) (oN i) M := by
  have hv := s.v.1
  unfold f_W_isSound_305 f_W_isSound_322
  by_cases c : i = 0
  · subst c
    rw [if_pos (show lgI r 0 = -1 from rfl)]; rfl
  · obtain ⟨k, rfl⟩ : ∃ k, i = k + 1 := ⟨i - 1, by omega⟩
    have hl : lgI r (k + 1) = oN (fx (fO r) k) := if_neg (by omega)
    have hl2 : lgI r (k + 1 + 1) = oN (fx (fO r) (k + 1)) := if_neg (by omega)
    have hk := fx_le (fO r) k
    rw [hl, hl2, if_neg (neM1 (by omega)), q_flat s (show fx (fO r) k < r 0 by omega), bn_s]
    show (if oN (flN r (k + 1)) ≤ oN (flN r (fx (fO r) k)) then _ else _) = _
    have ex : fx (fO r) (k + 1) = if fO r (k + 1) ≤ fO r (fx (fO r) k) then fx (fO r) k else k + 1 := rfl
    rw [ex]
    by_cases d : fO r (k + 1) ≤ fO r (fx (fO r) k)
    · rw [if_pos d, if_pos (show oN (flN r (k + 1)) ≤ oN (flN r (fx (fO r) k)) from d)]
    · rw [if_neg d, if_neg (show ¬ oN (flN r (k + 1)) ≤ oN (flN r (fx (fO r) k)) from d)]
theorem snd236 (s : ST M r) (hi : i < r 0) : f_W_isSound_236 rc a1 (eW r i) (nW r i) (oN (ruN r i)) (smW (boW r) i) (lgI r i) (oN i) (oN (flN r i)) M = f_W_isSound_326 rc a1 (eW r (i + 1)) (nW r (i + 1)) (oN (ruN r (i + 1))) (smW (boW r) (i + 1)) (lgI r (i + 1)) (oN i) M := by
  unfold f_W_isSound_236
  rw [q_tallies s hi, bn_s, q_pins s hi, bn_s, q_dropped s hi, bn_s, if_pos rfl, q_east s hi, bn_s, q_north s hi, bn_s, q_bog s hi, bn_s]
  have e1 : eW r i + stE r i = eW r (i + 1) := rfl
  have e2 : nW r i + stN r i = nW r (i + 1) := rfl
  have e3 : oN (ruN r i) + oN (flN r i) = oN (ruN r (i + 1)) := (oN_add _ _).symm
  rw [e1, e2, e3]
  have e4 : smW (boW r) (i + 1) = smW (boW r) i + boW r i := rfl
  rw [e4]
  unfold boW
  by_cases c : r (4 + 14 * i + 6) = 0
  · rw [if_pos c, if_pos c, if_neg (by decide), Int32.add_zero]
    exact snd305 s hi
  · rw [if_neg c, if_neg c, if_pos rfl]
    exact snd305 s hi
theorem snd150 (s : ST M r) (hi : i < r 0) {g1 g2 g3 g4 g5 g6 : Int32} : f_W_isSound_150 rc g1 g2 g3 g4 g5 g6 (oN i) (oN (flN r i)) (oN (r (4 + 14 * i + 0))) M = f_W_isSound_236 rc g1 g2 g3 g4 g5 g6 (oN i) (oN (flN r i)) M := by
  have hv := s.v
  obtain ⟨hb, hb2⟩ := bear hv hi
  have hfl : flN r i ≤ 100000000 := by have := fl_le hv hi; have := sl_le hv hi; omega
  have hE : stE r i = stpW (flN r i) (snT (r (4 + 14 * i + 0) / 15)) := rfl
  have hN : stN r i = stpW (flN r i) (csT (r (4 + 14 * i + 0) / 15)) := rfl
  have hq1 := q_east s hi
  have hq2 := q_north s hi
  rw [hE] at hq1
  rw [hN] at hq2
  rw [hb2]
  generalize r (4 + 14 * i + 0) / 15 = b at hb hq1 hq2
  clear hE hN hb2
  obtain ⟨b1, b2⟩ := br_all b hb
  unfold f_W_isSound_150 f_W_isSound_187 f_W_isSound_190 f_W_isSound_231
  by_cases c : b = 0 ∨ b = 12
  · have n9 : ¬ (b = 6 ∨ b = 18) := by omega
    rw [if_pos (b1.mpr c), hq1, bn_s, hq2, bn_s]
    rcases c with rfl | rfl
    · rw [show snT 0 = 0 from rfl, stp_0, if_pos rfl, if_pos (show oN (15 * 0) = 0 from rfl), show csT 0 = 10000 from rfl, stp_p hfl, if_pos rfl, if_neg (fun q => n9 (b2.mp q))]
    · rw [show snT 12 = 0 from rfl, stp_0, if_pos rfl, if_neg (show ¬ oN (15 * 12) = 0 by decide), show csT 12 = -10000 from rfl, stp_n hfl, if_pos rfl, if_neg (fun q => n9 (b2.mp q))]
  · rw [if_neg (fun q => c (b1.mp q))]
    by_cases d : b = 6 ∨ b = 18
    · rw [if_pos (b2.mpr d), hq2, bn_s, hq1, bn_s]
      rcases d with rfl | rfl
      · rw [show csT 6 = 0 from rfl, stp_0, if_pos rfl, if_pos (show oN (15 * 6) = 90 from rfl), show snT 6 = 10000 from rfl, stp_p hfl, if_pos rfl]
      · rw [show csT 18 = 0 from rfl, stp_0, if_pos rfl, if_neg (show ¬ oN (15 * 18) = 90 by decide), show snT 18 = -10000 from rfl, stp_n hfl, if_pos rfl]
    · rw [if_neg (fun q => d (b2.mp q))]
end SND
/-! behind the legs -/
section SNE
variable {M : Mm} {r : Rw} {i : Nat}
theorem mx_ge (f : Nat → Int32) (h0 : f 0 = 0) (n : Nat) : (0 : Int32) ≤ mxW f n := by
  induction n with
  | zero => unfold mxW; rw [h0]; exact Int32.le_refl _
  | succ k ih =>
    unfold mxW
    by_cases c : mxW f k < f (k + 1)
    · rw [if_pos c]; exact Int32.le_trans ih (Int32.le_of_lt c)
    · rw [if_neg c]; exact ih
theorem mn_le (f : Nat → Int32) (h0 : f 0 = 0) (n : Nat) : mnW f n ≤ (0 : Int32) := by
  induction n with
  | zero => unfold mnW; rw [h0]; exact Int32.le_refl _
  | succ k ih =>
    unfold mnW
    by_cases c : f (k + 1) < mnW f k
    · rw [if_pos c]; exact Int32.le_trans (Int32.le_of_lt c) ih
    · rw [if_neg c]; exact ih
theorem mx_bd {f : Nat → Int32} {C : Nat} : ∀ n, (∀ k, k ≤ n → bd C (f k)) → bd C (mxW f n) ∧ bd C (mnW f n) := by
  intro n
  induction n with
  | zero => intro h; exact ⟨h 0 (Nat.le_refl _), h 0 (Nat.le_refl _)⟩
  | succ k ih =>
    intro h
    obtain ⟨i1, i2⟩ := ih (fun j hj => h j (by omega))
    unfold mxW mnW
    refine ⟨?_, ?_⟩
    · split
      · exact h _ (Nat.le_refl _)
      · exact i1
    · split
      · exact h _ (Nat.le_refl _)
      · exact i2
theorem spr_nn {f : Nat → Int32} {n : Nat} (h0 : f 0 = 0) (h : ∀ k, k ≤ n → bd 1000000000 (f k)) : ¬ (mxW f n - mnW f n) < 0 := by
  obtain ⟨b1, b2⟩ := mx_bd n h
  have g1 := Int32.le_iff_toInt_le.mp (mx_ge f h0 n)
  have g2 := Int32.le_iff_toInt_le.mp (mn_le f h0 n)
  have z : (0 : Int32).toInt = 0 := rfl
  unfold bd at b1 b2
  rw [z] at g1 g2
  intro q
  have q := Int32.lt_iff_toInt_lt.mp q
  rw [i_sub (by omega), z] at q
  omega
theorem lg_same (x : Int64) : lg_cmp x x = 0 := by
  unfold lg_cmp
  rw [if_neg (Int64.lt_irrefl), if_pos rfl]
theorem snd581 (s : ST M r) : ∃ M1, f_W_isSound_581 (eW r (r 0)) (nW r (r 0)) (oN (ruN r (r 0))) (smW (boW r) (r 0)) (lgI r (r 0)) (arW r (r 0)) M = some (1, M1) ∧ ST M1 r ∧ Fr FRL M M1 := by
  have hv := s.v
  unfold f_W_isSound_581
  obtain ⟨M1, e1, s1, f1⟩ := q_miss s
  rw [e1, bn2_s]
  obtain ⟨M2, e2, s2, f2⟩ := q_peri s1
  rw [e2, bn2_s, if_pos rfl]
  obtain ⟨M3, e3, s3, f3⟩ := q_cloE s2
  rw [e3, bn2_s, if_pos rfl]
  obtain ⟨M4, e4, s4, f4⟩ := q_cloN s3
  rw [e4, bn2_s, if_pos rfl]
  have hr := root_ok (ew_bd hv (Nat.le_refl (r 0))).1 (ew_bd hv (Nat.le_refl (r 0))).2
  have hr : f_W_isRoot (msW r).toInt64 (((eW r (r 0)).toInt64 * (eW r (r 0)).toInt64) + ((nW r (r 0)).toInt64 * (nW r (r 0)).toInt64)) = some 1 := hr
  rw [hr, bn_s, if_neg (by decide)]
  obtain ⟨M5, e5, s5, f5⟩ := q_prec s4
  rw [e5, bn2_s]
  have fin : ∀ x : Int32, ∃ M1, f_W_isSound_650 (smW (boW r) (r 0)) (lgI r (r 0)) (arW r (r 0)) x x M5 = some (1, M1) ∧ ST M1 r ∧ Fr FRL M5 M1 := by
    intro x
    unfold f_W_isSound_650
    rw [if_pos rfl, q_bogs s5, bn_s, if_pos rfl, q_long s5, bn_s]
    have el : (if r 0 = 0 then (-1 : Int32) else oN (fx (fO r) (r 0 - 1))) = lgI r (r 0) := rfl
    rw [el, if_pos rfl]
    obtain ⟨M6, e6, s6, f6⟩ := q_area s5
    rw [e6, bn2_s]
    have ea : lg_cmp (arF r) ((if 0 < arW r (r 0) then arW r (r 0) else -arW r (r 0)) / 2) = 0 := lg_same _
    rw [if_pos ea]
    obtain ⟨M7, e7, s7, f7⟩ := q_width s6
    rw [e7, bn2_s, if_neg (spr_nn a_0.1 (fun k hk => (a_bd hv hk).1))]
    obtain ⟨M8, e8, s8, f8⟩ := q_height s7
    rw [e8, bn2_s, if_neg (spr_nn a_0.2 (fun k hk => (a_bd hv hk).2))]
    obtain ⟨M9, e9, s9, f9⟩ := q_incon s8
    rw [e9, bn2_s, if_pos rfl]
    unfold f_W_isSound_714
    rw [chk_t (by decide)]
    exact ⟨M9, rfl, s9, f6.tr (f7.tr (f8.tr f9))⟩
  by_cases c : msW r = 0
  · rw [if_pos c, if_pos c]
    obtain ⟨M6, e6, s6, f6⟩ := fin (-1)
    exact ⟨M6, e6, s6, f1.tr (f2.tr (f3.tr (f4.tr (f5.tr f6))))⟩
  · rw [if_neg c, if_neg c, chk_t c]
    obtain ⟨M6, e6, s6, f6⟩ := fin (oN (ruN r (r 0)) / msW r)
    exact ⟨M6, e6, s6, f1.tr (f2.tr (f3.tr (f4.tr (f5.tr f6))))⟩
theorem snd_out (s : ST M r) : ∃ M1, (bn (f_C_isAdjusted M) fun r552 => if r552 = 0 then f_W_isSound_581 (eW r (r 0)) (nW r (r 0)) (oN (ruN r (r 0))) (smW (boW r) (r 0)) (lgI r (r 0)) (arW r (r 0)) M else if oN (ruN r (r 0)) ≤ 0 then f_W_isSound_581 (eW r (r 0)) (nW r (r 0)) (oN (ruN r (r 0))) (smW (boW r) (r 0)) (lgI r (r 0)) (arW r (r 0)) M else bn2 (f_W_east (oN (r 0)) M) fun r565 M565 => if r565 = 0 then bn2 (f_W_north (oN (r 0)) M565) fun r573 M573 => if r573 = 0 then f_W_isSound_581 (eW r (r 0)) (nW r (r 0)) (oN (ruN r (r 0))) (smW (boW r) (r 0)) (lgI r (r 0)) (arW r (r 0)) M573 else f_W_isSound_579 M573 else f_W_isSound_579 M565) = some (1, M1) ∧ ST M1 r ∧ Fr FRL M M1 := by
  have hv := s.v
  have h3 := hv.2.2.2.2.1
  rw [q_adj s, bn_s]
  by_cases c : r 3 = 0
  · rw [c, if_pos (show oN 0 = 0 from rfl)]
    exact snd581 s
  · rw [if_neg (fun q => c ((oN0 (by omega)).mp q))]
    by_cases d : oN (ruN r (r 0)) ≤ 0
    · rw [if_pos d]; exact snd581 s
    · have hne : ruN r (r 0) ≠ 0 := fun q => d (by rw [q]; decide)
      obtain ⟨z1, z2⟩ := adj_0 hv c hne
      obtain ⟨M1, e1, s1, f1⟩ := q_aE s (Nat.le_refl (r 0))
      rw [if_neg d, e1, bn2_s, if_pos z1]
      obtain ⟨M2, e2, s2, f2⟩ := q_aN s1 (Nat.le_refl (r 0))
      rw [e2, bn2_s, if_pos z2]
      obtain ⟨M3, e3, s3, f3⟩ := snd581 s2
      exact ⟨M3, e3, s3, f1.tr (f2.tr f3)⟩
/-- the area, side by side, and the side that closes it -/
theorem snd487 : ∀ (d i n : Nat) (M : Mm), d + i = r 0 → d + 1 < n → ST M r → ∃ M1, f_W_isSound_487 n (oN (r 0)) (eW r (r 0)) (nW r (r 0)) (oN (ruN r (r 0))) (smW (boW r) (r 0)) (lgI r (r 0)) (arW r i) (oN i) M = some (1, M1) ∧ ST M1 r ∧ Fr FRL M M1 := by
  intro d
  induction d with
  | zero =>
    intro i n M hd hn s
    obtain ⟨k, rfl⟩ : ∃ k, n = k + 2 := ⟨n - 2, by omega⟩
    have hi : i = r 0 := by omega
    subst hi
    have hv := s.v.1
    rw [f_W_isSound_487, if_neg (i_nl.mpr (Int32.le_refl _)), if_pos rfl]
    unfold f_W_isSound_507
    obtain ⟨M1, e1, s1, f1⟩ := q_aE s (Nat.le_refl (r 0))
    rw [e1, bn2_s]
    obtain ⟨M2, e2, s2, f2⟩ := q_aN s1 (Nat.zero_le (r 0))
    rw [show (0 : Int32) = oN 0 from rfl, e2, bn2_s]
    obtain ⟨M3, e3, s3, f3⟩ := q_aE s2 (Nat.zero_le (r 0))
    rw [e3, bn2_s]
    obtain ⟨M4, e4, s4, f4⟩ := q_aN s3 (Nat.le_refl (r 0))
    rw [e4, bn2_s, a_0.1, a_0.2, show (0 : Int32).toInt64 = 0 from rfl, Int64.mul_zero, Int64.zero_mul, Int64.sub_self, Int64.add_zero, oN_S, f_W_isSound_487, if_pos (show oN (r 0) < oN (r 0 + 1) from (oN_lt (by omega) (by omega)).mpr (by omega))]
    obtain ⟨M5, e5, s5, f5⟩ := snd_out s4
    exact ⟨M5, e5, s5, f1.tr (f2.tr (f3.tr (f4.tr f5)))⟩
  | succ d ih =>
    intro i n M hd hn s
    obtain ⟨k, rfl⟩ : ∃ k, n = k + 1 := ⟨n - 1, by omega⟩
    have hv := s.v.1
    have hi : i < r 0 := by omega
    rw [f_W_isSound_487, if_neg (i_nl.mpr ((oN_le (by omega) (by omega)).mpr (by omega))), if_neg (fun q => by have := (oN_inj (by omega) (by omega)).mp q; omega)]
    unfold f_W_isSound_507
    rw [oN_S]
    obtain ⟨M1, e1, s1, f1⟩ := q_aE s (Nat.le_of_lt hi)
    rw [e1, bn2_s]
    obtain ⟨M2, e2, s2, f2⟩ := q_aN s1 (show i + 1 ≤ r 0 from hi)
    rw [e2, bn2_s]
    obtain ⟨M3, e3, s3, f3⟩ := q_aE s2 (show i + 1 ≤ r 0 from hi)
    rw [e3, bn2_s]
    obtain ⟨M4, e4, s4, f4⟩ := q_aN s3 (Nat.le_of_lt hi)
    rw [e4, bn2_s]
    obtain ⟨M5, e5, s5, f5⟩ := ih (i + 1) k M4 (by omega) (by omega) s4
    exact ⟨M5, e5, s5, f1.tr (f2.tr (f3.tr (f4.tr f5)))⟩
theorem snd69 : ∀ (d i n : Nat) (M : Mm), d + i = r 0 → d < n → ST M r → ∃ M1, f_W_isSound_69 n (oN (r 0)) (eW r i) (nW r i) (oN (ruN r i)) (smW (boW r) i) (lgI r i) (oN i) M = some (1, M1) ∧ ST M1 r ∧ Fr FRL M M1 := by
  intro d
  induction d with
  | zero =>
    intro i n M hd hn s
    obtain ⟨k, rfl⟩ : ∃ k, n = k + 1 := ⟨n - 1, by omega⟩
    have hi : i = r 0 := by omega
    subst hi
    have hv := s.v.1
    rw [f_W_isSound_69, if_pos (Int32.le_refl _)]
    exact snd487 (r 0) 0 22 M (by omega) (by omega) s
  | succ d ih =>
    intro i n M hd hn s
    obtain ⟨k, rfl⟩ : ∃ k, n = k + 1 := ⟨n - 1, by omega⟩
    have hv := s.v
    have hv1 := hv.1
    have hi : i < r 0 := by omega
    have hfl := fl_le hv hi
    have hsl := sl_le hv hi
    have hbz := (hv.2.2.2.2.2 i hi).2.2.2.2.2.2.2.1
    rw [f_W_isSound_69, if_neg (fun q => by have := (oN_le (by omega) (by omega)).mp q; omega), q_flat s hi, bn_s, q_bearing s hi, bn_s, if_neg (oN_nn (by omega)), q_slope s hi, bn_s, if_neg (fun q => by have := (oN_lt (by omega) (by omega)).mp q; omega), q_bog s hi, bn_s]
    have go : ∃ M1, f_W_isSound_150 (f_W_isSound_69 k) (oN (r 0)) (eW r i) (nW r i) (oN (ruN r i)) (smW (boW r) i) (lgI r i) (oN i) (oN (flN r i)) (oN (r (4 + 14 * i + 0))) M = some (1, M1) ∧ ST M1 r ∧ Fr FRL M M1 := by
      rw [snd150 s hi, snd236 s hi]
      obtain ⟨M1, e1, s1, f1⟩ := snd326 (rc := f_W_isSound_69 k) (a1 := oN (r 0)) (a5 := smW (boW r) (i + 1)) (a6 := lgI r (i + 1)) s hi
      rw [e1]
      obtain ⟨M2, e2, s2, f2⟩ := ih (i + 1) k M1 (by omega) (by omega) s1
      exact ⟨M2, e2, s2, f1.tr f2⟩
    by_cases c : r (4 + 14 * i + 6) = 0
    · rw [if_pos c, if_neg (by decide)]; exact go
    · have e1 : flN r i = slN r i := fl_bog hv hi (Or.inl c)
      have e2 : slN r i = rdN r i := if_neg c
      have e3 : r (4 + 14 * i + 1) = 0 := (hbz c).1
      rw [if_neg c, if_pos rfl, q_read s hi, bn_s, if_pos (by rw [e1, e2]), bn_s, if_pos (by rw [e1]), q_pins s hi, bn_s, e3, if_pos (show oN 0 = 0 from rfl)]
      exact go
theorem sound (s : ST M r) : ∃ M1, f_W_isSound M = some (1, M1) ∧ ST M1 r ∧ Fr FRL M M1 := by
  have hv := s.v.1
  unfold f_W_isSound
  rw [q_legs s, bn_s, q_stations s, bn_s, if_pos rfl]
  obtain ⟨M1, e1, s1, f1⟩ := q_rawEast s (Nat.zero_le (r 0))
  have e1 : f_W_rawEast 0 M = some (0, M1) := e1
  rw [e1, bn2_s, if_pos rfl]
  obtain ⟨M2, e2, s2, f2⟩ := q_aE s1 (Nat.zero_le (r 0))
  rw [a_0.1] at e2
  have e2 : f_W_east 0 M1 = some (0, M2) := e2
  rw [e2, bn2_s, if_pos rfl]
  obtain ⟨M3, e3, s3, f3⟩ := q_run s2 (Nat.zero_le (r 0))
  have e3 : f_W_run 0 M2 = some (0, M3) := e3
  rw [e3, bn2_s, if_pos rfl, oN_S, q_rawEast_no s3 (fun q => by
    obtain ⟨j, hj, e⟩ := q
    have := (oN_inj (by omega) (by omega)).mp e
    omega), bn2_s, if_pos rfl]
  obtain ⟨M4, e4, s4, f4⟩ := snd69 (r 0) 0 22 M3 (by omega) (by omega) s3
  exact ⟨M4, e4, s4, f1.tr (f2.tr (f3.tr f4))⟩
end SNE
