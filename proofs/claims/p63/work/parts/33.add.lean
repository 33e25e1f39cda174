/-! undo, save, restore, legs added and removed -/
theorem bti_r {α β : Type} (a : α) (M : Mm) (k : α → Option ((Nat ⊕ β) × Mm)) : bti (some (.inr a)) M k = k a := rfl
theorem bti_l {α β : Type} (e : Nat) (M : Mm) (k : α → Option ((Nat ⊕ β) × Mm)) : bti (some (.inl e)) M k = some (.inl e, M) := rfl
section ADD
variable {M N : Mm} {r : Rw}
theorem MS.back {c off : Nat} (h : MS N c off r) : MS (cpy N c off 135 0 284) 135 0 r := by
  intro k hk
  unfold cpy
  rw [if_pos ⟨rfl, by omega, by omega⟩, show off + (0 + k - 0) = off + k by omega]
  exact h k hk
theorem s_undo (h : RI M N) : ∃ o v M1 N1, f_C_undo M = some (o, M1) ∧ f_M_undo N = some (v, N1) ∧ RI M1 N1 ∧ An 2 9 o v (N1 134 7) := by
  obtain ⟨cnt, nx, h1, h2, h3, h4, h5, h6⟩ := h.2.1
  obtain ⟨r, p⟩ := h.1
  have hl : lnM 137 = 2272 := by decide
  have hl2 : lnM 135 = 284 := by decide
  unfold f_C_undo f_M_undo f_M_undo_13
  rw [h4, h5]
  by_cases c : cnt = 0
  · rw [c, if_pos (show oN 0 = 0 from rfl), if_pos (show oN 0 = 0 from rfl), m_fail1, bn2_s, if_neg (by decide)]
    exact ⟨_, _, _, _, rfl, rfl, h.n7 1, Or.inl ⟨rfl, wr_s _ _ _ _⟩⟩
  · have c0 : ¬ oN cnt = 0 := fun q => c ((oN0 (by omega)).mp q)
    obtain ⟨rr, v, cs, ms⟩ := h6 (cnt - 1) (by omega)
    have es : (nx + 8 - cnt + (cnt - 1)) % 8 = (if nx = 0 then 7 else nx - 1) := by split <;> omega
    rw [es] at cs
    have hnx8 : (if nx = 0 then 7 else nx - 1) < 8 := by split <;> omega
    generalize hnx : (if nx = 0 then 7 else nx - 1) = nx' at cs es hnx8
    -- the class
    have hcl : ∀ y, y = oN nx' → ∃ M1, f_C_undo_36 y M = some (.inr (oN (cnt - 1)), M1) ∧ CS M1 15 rr ∧ M1 0 11 = oN nx' ∧ M1 0 12 = oN (cnt - 1) ∧ Fr [(0, 0, 12), (0, 0, 13), (15, 24, 0)] M M1 := by
      intro y hy
      subst hy
      unfold f_C_undo_36
      rw [bm_s, wr_n (by decide), h4, oN_P c, bm_s]
      have f1 : Fr [(0, 0, 12), (0, 0, 13)] M (wr (wr M 0 11 (oN nx')) 0 12 (oN (cnt - 1))) := (fr_wr rfl (by rfl)).tr (fr_wr rfl (by rfl))
      have e11 : (wr (wr M 0 11 (oN nx')) 0 12 (oN (cnt - 1))) 0 11 = oN nx' := by rw [wr_n (by decide), wr_s]
      have cs1 : CS (wr (wr M 0 11 (oN nx')) 0 12 (oN (cnt - 1))) (34 + 10 * nx') rr := cs.cg fun b k q1 q2 => by rw [wr_n (by omega), wr_n (by omega)]
      obtain ⟨M1, e1, c1⟩ := c_copy (a := 15) (b := 34 + 10 * nx') (by omega) v cs1
      have f2 := fr_S_copyFrom e1
      rw [e11, chk_t ((iin_oN (by omega)).mpr hnx8), oI (by omega), e1, bn_s, f2 0 12 (by rfl), wr_s]
      refine ⟨M1, rfl, c1, ?_, ?_, (f1.up (by rfl)).tr (f2.up (by rfl))⟩
      · rw [f2 0 11 (by rfl), e11]
      · rw [f2 0 12 (by rfl), wr_s]
    have hcl2 : ∃ M1, (if M 0 11 = 0 then f_C_undo_36 7 M else f_C_undo_36 (M 0 11 - 1) M) = some (.inr (oN (cnt - 1)), M1) ∧ CS M1 15 rr ∧ M1 0 11 = oN nx' ∧ M1 0 12 = oN (cnt - 1) ∧ Fr [(0, 0, 12), (0, 0, 13), (15, 24, 0)] M M1 := by
      rw [h3]
      by_cases z : nx = 0
      · rw [z, if_pos (show oN 0 = 0 from rfl)]
        exact hcl 7 (by rw [← hnx, if_pos z]; rfl)
      · rw [if_neg (fun q => z ((oN0 (by omega)).mp q))]
        exact hcl _ (by rw [← hnx, if_neg z, oN_P z])
    obtain ⟨M1, e1, cs1, k11, k12, f1⟩ := hcl2
    rw [if_neg c0, if_neg c0, e1, m_fail0, bn2_s, if_pos rfl, wr_n (by decide), h5, show oN cnt - 1 = oN (cnt - 1) from oN_P c, bm_s]
    have g1 : Fr [(134, 134, 8), (134, 134, 7)] N (wr (wr N 134 7 0) 134 6 (oN (cnt - 1))) := (fr_wr rfl (by rfl)).tr (fr_wr rfl (by rfl))
    have ms1 : MS (wr (wr N 134 7 0) 134 6 (oN (cnt - 1))) 137 (284 * (cnt - 1)) rr := ms.fr g1 (by rfl)
    have e2 := m_copy (a := 137) (b := 135) (i := cnt - 1) (j := 0) (wr (wr N 134 7 0) 134 6 (oN (cnt - 1))) (by omega) (by omega) (by omega) (by omega)
    rw [show oN (284 * 0) = 0 from rfl, show 284 * 0 = 0 from rfl] at e2
    rw [wr_s, oN_284, e2, bn_s]
    have g2 : Fr [(135, 135, 0)] (wr (wr N 134 7 0) 134 6 (oN (cnt - 1))) (cpy (wr (wr N 134 7 0) 134 6 (oN (cnt - 1))) 137 (284 * (cnt - 1)) 135 0 284) := fr_cpy rfl (by intro _; rfl)
    have g3 : Fr [(134, 134, 8), (134, 134, 7), (135, 135, 0)] N (cpy (wr (wr N 134 7 0) 134 6 (oN (cnt - 1))) 137 (284 * (cnt - 1)) 135 0 284) := (g1.up (by rfl)).tr (g2.up (by rfl))
    have e3 : cpy (wr (wr N 134 7 0) 134 6 (oN (cnt - 1))) 137 (284 * (cnt - 1)) 135 0 284 134 6 = oN (cnt - 1) := by rw [g2 134 6 (by rfl), wr_s]
    have u2 : UND M1 (cpy (wr (wr N 134 7 0) 134 6 (oN (cnt - 1))) 137 (284 * (cnt - 1)) 135 0 284) := by
      refine ⟨cnt - 1, nx', by omega, hnx8, k11, k12, e3, fun j hj => ?_⟩
      obtain ⟨r', v', c', m'⟩ := h6 j (by omega)
      have e : (nx' + 8 - (cnt - 1) + j) % 8 = (nx + 8 - cnt + j) % 8 := by
        rw [← hnx]; split <;> omega
      rw [e]
      exact ⟨r', v', c'.cg fun b k q1 q2 => f1 b k (inR_T (lo := 34) (hi := 113) (by rfl) (by omega) (by omega) k), m'.fr g3 (by rfl)⟩
    rw [e3]
    exact ⟨_, _, _, _, rfl, rfl, h.mk1 ⟨v, cs1, ms1.back⟩ u2 (Ag.of f1 (by rfl)) (Ag.of g3 (by rfl)), rfl, (g2 134 7 (by rfl)).trans (by rw [wr_n (by decide), wr_s])⟩
theorem in_1 {l : Int32} : (0 ≤ l ∧ l ≤ 1) ↔ ∃ s, s < 2 ∧ l = oN s := by
  rw [show (1 : Int32) = oN 1 from rfl, in_n (by decide)]
  exact ⟨fun ⟨i, hi, e⟩ => ⟨i, by omega, e⟩, fun ⟨i, hi, e⟩ => ⟨i, by omega, e⟩⟩
theorem s_save (h : RI M N) (l : Int32) : ∃ o v M1 N1, f_C_save l M = some (o, M1) ∧ f_M_save l N = some (v, N1) ∧ RI M1 N1 ∧ An 1 9 o v (N1 134 7) := by
  obtain ⟨r, p⟩ := h.1
  have hl : lnM 138 = 568 := by decide
  have hl2 : lnM 135 = 284 := by decide
  unfold f_C_save f_M_save f_M_save_15 f_C_requireSlot
  rw [c_between, bn_s, m_isIn, bn_s]
  by_cases c : (0 : Int32) ≤ l ∧ l ≤ 1
  · obtain ⟨s, hs, rfl⟩ := in_1.mp c
    rw [if_pos c, if_neg (show ¬ (1 : Int32) = 0 by decide), if_neg (show ¬ (1 : Int32) = 0 by decide), m_fail0, bn2_s, if_pos rfl]
    obtain ⟨M1, e1, c1⟩ := c_copy (a := 114 + 10 * s) (b := 15) (by omega) p.1 p.2.1
    have f1 := fr_S_copyFrom e1
    have f1' : Fr [(114, 133, 0)] M M1 := fr_one f1 (lo := 114) (hi := 133) (by omega) (by omega) rfl
    have f2 : Fr [(114, 133, 0), (33, 33, 0)] M (wr M1 33 s 1) := (f1'.up (by rfl)).tr (fr_wr rfl (by rfl))
    have e2 := m_copy (a := 135) (b := 138) (i := 0) (j := s) (wr N 134 7 0) (by omega) (by omega) (by omega) (by omega)
    rw [show oN (284 * 0) = 0 from rfl, show 284 * 0 = 0 from rfl] at e2
    have b2 : iin (oN s) 2 := (iin_oN (by omega)).mpr hs
    rw [bti_r, oN_284, e2, bn_s, oI (by omega)]
    simp only [chk_t b2]
    rw [e1, bn_s, bm_s, bm_s]
    have g0 : Fr [(138, 138, 0)] (wr N 134 7 0) (cpy (wr N 134 7 0) 135 0 138 (284 * s) 284) := fr_cpy rfl (by intro _; rfl)
    have g2 : Fr [(134, 134, 8), (138, 138, 0), (140, 140, 0)] N (wr (cpy (wr N 134 7 0) 135 0 138 (284 * s) 284) 140 s 1) := (fr_wr rfl (by rfl)).tr ((g0.up (by rfl)).tr (fr_wr rfl (by rfl)))
    have p2 : PR (wr M1 33 s 1) (wr (cpy (wr N 134 7 0) 135 0 138 (284 * s) 284) 140 s 1) r := ⟨p.1, p.2.1.fr f2 (by rfl), p.2.2.fr g2 (by rfl)⟩
    have hsv : SAV (wr M1 33 s 1) (wr (cpy (wr N 134 7 0) 135 0 138 (284 * s) 284) 140 s 1) := by
      intro t ht
      by_cases z : t = s
      · subst z
        refine ⟨by rw [wr_s]; exact Or.inr rfl, by rw [wr_s, wr_s], fun _ => ⟨r, p.1, ?_, ?_⟩⟩
        · exact c1.cg fun b k q1 q2 => wr_n (by omega)
        · intro k hk
          rw [wr_n (by omega)]
          exact ((p.2.2.n7 (by decide) 0).cpa 138 (284 * t)) k hk
      · obtain ⟨q1, q2, q3⟩ := h.2.2.1 t ht
        rw [wr_n (by omega), wr_n (by omega), f1' 33 t (by rfl), g0 140 t (by rfl), wr_n (by omega)]
        refine ⟨q1, q2, fun y => ?_⟩
        obtain ⟨r', v', c', m'⟩ := q3 y
        refine ⟨r', v', ?_, ?_⟩
        · refine c'.cg fun b k q1 q2 => ?_
          rw [wr_n (by omega)]
          refine f1 b k ?_
          simp only [inT, List.any_cons, List.any_nil, Bool.or_false]
          rw [Bool.and_eq_false_iff]
          by_cases w : 114 + 10 * s ≤ b
          · right
            rw [Bool.and_eq_false_iff]
            left
            exact Bool.eq_false_iff.mpr (fun q => absurd (Nat.le_of_ble_eq_true q) (by omega))
          · left
            exact Bool.eq_false_iff.mpr (fun q => absurd (Nat.le_of_ble_eq_true q) w)
        · intro k hk
          rw [wr_n (by omega)]
          unfold cpy
          rw [if_neg (by rintro ⟨-, z1, z2⟩; rcases (show t < s ∨ s < t by omega) with z | z <;> omega), wr_n (by omega)]
          exact m' k hk
    obtain ⟨_, u, _, t, o, e, z, co, dz⟩ := h
    have af := Ag.of (cs := [(0, 0, 12), (0, 0, 13), (34, 113, 0), (0, 0, 3), (3, 3, 0), (0, 0, 7), (14, 14, 0), (0, 0, 4), (0, 0, 5), (26, 28, 1), (7, 7, 0)]) f2 (by rfl)
    have ag := Ag.of (cs := [(134, 134, 7), (137, 137, 0), (134, 134, 15), (141, 141, 0), (134, 134, 16), (142, 142, 0), (134, 134, 17), (134, 134, 18), (146, 146, 0)]) g2 (by rfl)
    rw [show ix (0 : Int32) = 0 from rfl, m_at p2.2.2 (by decide), p2.2.1.1]
    refine ⟨_, _, _, _, rfl, rfl, ⟨⟨r, p2⟩, u.ag (af.su (by rfl)) (ag.su (by rfl)), hsv, t.ag (af.su (by rfl)) (ag.su (by rfl)), o.ag (af.su (by rfl)) (ag.su (by rfl)), e.ag (af.su (by rfl)) (ag.su (by rfl)), z.ag (af.su (by rfl)), co.ag (ag.su (by rfl)), dz.ag (af.su (by rfl))⟩, rfl, ?_⟩
    rw [wr_n (by omega), g0 134 7 (by rfl), wr_s]
  · rw [if_neg c, if_pos rfl, if_pos rfl, m_fail1, bn2_s, if_neg (by decide)]
    exact ⟨_, _, _, _, rfl, rfl, h.n7 1, Or.inl ⟨rfl, wr_s _ _ _ _⟩⟩
theorem s_restore (h : RI M N) (l : Int32) : ∃ o v M1 N1, f_C_restore l M = some (o, M1) ∧ f_M_restore l N = some (v, N1) ∧ RI M1 N1 ∧ An 1 2 o v (N1 134 7) := by
  obtain ⟨r, p⟩ := h.1
  have hl : lnM 138 = 568 := by decide
  have hl2 : lnM 135 = 284 := by decide
  unfold f_C_restore f_M_restore f_M_restore_14 f_M_restore_34 f_M_restore_35 f_C_requireSlot
  rw [c_between, bn_s, m_isIn, bn_s]
  by_cases c : (0 : Int32) ≤ l ∧ l ≤ 1
  · obtain ⟨s, hs, rfl⟩ := in_1.mp c
    have b2 : iin (oN s) 2 := (iin_oN (by omega)).mpr hs
    obtain ⟨q1, q2, q3⟩ := h.2.2.1 s hs
    rw [if_pos c, if_neg (show ¬ (1 : Int32) = 0 by decide), if_neg (show ¬ (1 : Int32) = 0 by decide), if_pos rfl, oI (by omega), q2, bti_r]
    simp only [chk_t b2]
    by_cases z : M 33 s = 0
    · rw [if_pos z, if_pos z, m_fail2, bn2_s, if_neg (by decide)]
      exact ⟨_, _, _, _, rfl, rfl, h.n7 2, Or.inr ⟨by decide, rfl, wr_s _ _ _ _⟩⟩
    · obtain ⟨rr, v, cs, ms⟩ := q3 z
      obtain ⟨M1, N1, e1, e2, u, p1, f1, f2⟩ := s_rem1 (h.n7 0) (p.n7 0)
      have cs1 : CS M1 (114 + 10 * s) rr := cs.cg fun b k q1 q2 => f1 b k (inR_T (lo := 114) (hi := 133) (by rfl) (by omega) (by omega) k)
      have ms1 : MS N1 138 (284 * s) rr := (ms.n7 (by decide) 0).fr f2 (by rfl)
      obtain ⟨M2, e3, c3⟩ := c_copy (a := 15) (b := 114 + 10 * s) (by omega) v cs1
      have f3 := fr_S_copyFrom e3
      have e4 := m_copy (a := 138) (b := 135) (i := s) (j := 0) N1 (by omega) (by omega) (by omega) (by omega)
      rw [show oN (284 * 0) = 0 from rfl, show 284 * 0 = 0 from rfl] at e4
      have g3 : Fr [(135, 135, 0)] N1 (cpy N1 138 (284 * s) 135 0 284) := fr_cpy rfl (by intro _; rfl)
      have g1 : Fr [(0, 0, 12), (0, 0, 13), (34, 113, 0), (15, 24, 0)] M M2 := (f1.up (by rfl)).tr (f3.up (by rfl))
      have g2 : Fr [(134, 134, 8), (134, 134, 7), (137, 137, 0), (135, 135, 0)] N (cpy N1 138 (284 * s) 135 0 284) := (fr_wr rfl (by rfl)).tr ((f2.up (by rfl)).tr (g3.up (by rfl)))
      rw [if_neg z, if_neg z, m_fail0, bn2_s, if_pos rfl, e1, bn_s, e3, bn_s, e2, bn_s, oN_284, e4, bn_s, c3.1, show ix (0 : Int32) = 0 from rfl, m_at ms1.back (by decide)]
      exact ⟨_, _, _, _, rfl, rfl, h.mk1 ⟨v, c3, ms1.back⟩ (u.w (Ag.of f3 (by rfl)) (Ag.of g3 (by rfl))) (Ag.of g1 (by rfl)) (Ag.of g2 (by rfl)), rfl, by rw [g3 134 7 (by rfl), f2 134 7 (by rfl), wr_s]⟩
  · rw [if_neg c, if_pos (show (0 : Int32) = 0 from rfl), bti_l, if_pos (show (0 : Int32) = 0 from rfl), if_neg (show ¬ (1 : Int32) = 0 by decide), m_fail1, bn2_s, if_neg (show ¬ (1 : Int32) = 0 by decide)]
    exact ⟨_, _, _, _, rfl, rfl, h.n7 1, Or.inl ⟨rfl, wr_s _ _ _ _⟩⟩
/-! a leg written over -/
def ov (r : Rw) (m n : Nat) (lv : Nat → Nat) : Rw := fun j => if j = 0 then m else if 4 + 14 * n ≤ j ∧ j < 18 + 14 * n then lv (j - (4 + 14 * n)) else r j
theorem ov_0 (r : Rw) (m n : Nat) (lv : Nat → Nat) : ov r m n lv 0 = m := rfl
theorem ov_l {m n q : Nat} {lv : Nat → Nat} (h : q < 14) : ov r m n lv (4 + 14 * n + q) = lv q := by
  unfold ov
  rw [if_neg (by omega), if_pos (by omega), show 4 + 14 * n + q - (4 + 14 * n) = q by omega]
theorem ov_n {m n j : Nat} {lv : Nat → Nat} (h0 : j ≠ 0) (h : j < 4 + 14 * n ∨ 18 + 14 * n ≤ j) : ov r m n lv j = r j := by
  unfold ov
  rw [if_neg h0, if_neg (by omega)]
theorem MS.ovr {m n : Nat} {lv : Nat → Nat} {N1 : Mm} (hn : n < 20) (h : MS N 135 0 r) (h0 : N1 135 0 = oN m) (hl : ∀ q, q < 14 → N1 135 (4 + 14 * n + q) = oN (lv q)) (he : ∀ k, k ≠ 0 → (k < 4 + 14 * n ∨ 18 + 14 * n ≤ k) → N1 135 k = N 135 k) : MS N1 135 0 (ov r m n lv) := by
  intro k hk
  rw [Nat.zero_add]
  by_cases c : k = 0
  · subst c; rw [h0, ov_0]
  · by_cases d : k < 4 + 14 * n ∨ 18 + 14 * n ≤ k
    · rw [he k c d, ov_n c d]; exact m_at h hk
    · have := hl (k - (4 + 14 * n)) (by omega)
      rw [show 4 + 14 * n + (k - (4 + 14 * n)) = k by omega] at this
      rw [this]
      unfold ov
      rw [if_neg c, if_pos (by omega)]
/-- the values of a leg are right -/
def VV (lv : Nat → Nat) : Prop := (∃ b, b < 24 ∧ lv 0 = 15 * b) ∧ lv 1 ≤ 99 ∧ lv 2 ≤ 99 ∧ lv 3 ≤ 9 ∧ lv 4 ≤ 9999 ∧ lv 5 ≤ 50 ∧ lv 6 ≤ 999 ∧ (lv 6 ≠ 0 → lv 1 = 0 ∧ lv 2 = 0 ∧ lv 3 = 0 ∧ lv 4 = 0) ∧ 1 ≤ lv 7 ∧ lv 7 ≤ 6 ∧ ∀ j, j < lv 7 → 97 ≤ lv (8 + j) ∧ lv (8 + j) ≤ 122
theorem V.add {lv : Nat → Nat} (v : V r) (h : r 0 < 20) (w : VV lv) : V (ov r (r 0 + 1) (r 0) lv) := by
  obtain ⟨h0, h1, h2, h3, h4, h5⟩ := v
  refine ⟨?_, ?_, ?_, ?_, ?_, fun j hj => ?_⟩
  · rw [ov_0]; omega
  · rw [ov_n (by omega) (by omega)]; exact h1
  · rw [ov_n (by omega) (by omega)]; exact h2
  · rw [ov_n (by omega) (by omega)]; exact h3
  · rw [ov_n (by omega) (by omega)]; exact h4
  · rw [ov_0] at hj
    by_cases c : j = r 0
    · subst c
      unfold VL
      rw [ov_l (by decide), ov_l (by decide), ov_l (by decide), ov_l (by decide), ov_l (by decide), ov_l (by decide), ov_l (by decide), ov_l (by decide)]
      obtain ⟨q0, q1, q2, q3, q4, q5, q6, q7, q8, q9, q10⟩ := w
      refine ⟨q0, q1, q2, q3, q4, q5, q6, q7, q8, q9, fun k hk => ?_⟩
      have := ov_l (r := r) (m := r 0 + 1) (n := r 0) (lv := lv) (q := 8 + k) (by omega)
      rw [← Nat.add_assoc] at this
      rw [this]; exact q10 k hk
    · exact (h5 j (by omega)).cg (fun k hk => ov_n (by omega) (by omega))
theorem CS.add {a : Nat} {lv : Nat → Nat} {M1 : Mm} (v : V r) (h : CS M a r) (h20 : r 0 < 20) (w : VV lv) (e0 : M1 a 9 = oN (r 0 + 1)) (e1 : M1 a 10 = M a 10) (e2 : M1 a 11 = M a 11) (e3 : M1 a 12 = M a 12)
    (eo : ∀ q, q < 9 → ∀ k, k ≠ r 0 → M1 (a + 1 + q) k = M (a + 1 + q) k)
    (l0 : M1 (a + 1 + 0) (r 0) = oN (pkN (fun j => lv (8 + j)) (lv 7))) (l1 : M1 (a + 1 + 1) (r 0) = oN (lv 0)) (l2 : M1 (a + 1 + 2) (r 0) = if lv 6 = 0 then 0 else 1) (l3 : M1 (a + 1 + 3) (r 0) = oN (lv 6)) (l4 : M1 (a + 1 + 4) (r 0) = oN (lv 1)) (l5 : M1 (a + 1 + 5) (r 0) = oN (lv 2)) (l6 : M1 (a + 1 + 6) (r 0) = oN (lv 3)) (l7 : M1 (a + 1 + 7) (r 0) = oN (lv 4)) (l8 : lv 6 = 0 → M1 (a + 1 + 8) (r 0) = oN (lv 5)) : CS M1 a (ov r (r 0 + 1) (r 0) lv) := by
  obtain ⟨h0, h1, h2, h3, h4, h5⟩ := h
  refine ⟨?_, ?_, ?_, ?_, fun j hj => ?_, fun j hj => ?_⟩
  · rw [ov_0]; exact e0
  · rw [ov_n (by omega) (by omega), e1]; exact h1
  · rw [ov_n (by omega) (by omega), e2]; exact h2
  · rw [ov_n (by omega) (by omega), e3]; exact h3
  · by_cases c : j = r 0
    · subst c; rw [l2]; split
      · exact Or.inl rfl
      · exact Or.inr rfl
    · rw [eo 2 (by decide) j c]; exact h4 j hj
  · rw [ov_0] at hj
    by_cases c : j = r 0
    · subst c
      unfold CL nmN
      rw [ov_l (by decide), ov_l (by decide), ov_l (by decide), ov_l (by decide), ov_l (by decide), ov_l (by decide), ov_l (by decide), ov_l (by decide)]
      refine ⟨l0.trans (congrArg oN (pk_cg _ fun k hk => ?_)), l1, l2, l3, l4, l5, l6, l7, l8⟩
      have := ov_l (r := r) (m := r 0 + 1) (n := r 0) (lv := lv) (q := 8 + k) (by have := w.2.2.2.2.2.2.2.2.2.1; omega)
      rw [← Nat.add_assoc] at this
      exact this.symm
    · exact (h5 j (by omega)).cg (v.2.2.2.2.2 j (by omega)) (fun k hk => ov_n (by omega) (by omega)) (fun q hq => eo q hq j c)
theorem V.rem {lv : Nat → Nat} (v : V r) (h : r 0 ≠ 0) : V (ov r (r 0 - 1) (r 0 - 1) lv) := by
  obtain ⟨h0, h1, h2, h3, h4, h5⟩ := v
  refine ⟨?_, ?_, ?_, ?_, ?_, fun j hj => ?_⟩
  · rw [ov_0]; omega
  · rw [ov_n (by omega) (by omega)]; exact h1
  · rw [ov_n (by omega) (by omega)]; exact h2
  · rw [ov_n (by omega) (by omega)]; exact h3
  · rw [ov_n (by omega) (by omega)]; exact h4
  · rw [ov_0] at hj
    exact (h5 j (by omega)).cg (fun k hk => ov_n (by omega) (by omega))
theorem CS.rem {a : Nat} {lv : Nat → Nat} (v : V r) (h : CS M a r) (h0 : r 0 ≠ 0) : CS (wr M a 9 (oN (r 0 - 1))) a (ov r (r 0 - 1) (r 0 - 1) lv) := by
  obtain ⟨h0', h1, h2, h3, h4, h5⟩ := h
  refine ⟨?_, ?_, ?_, ?_, fun j hj => ?_, fun j hj => ?_⟩
  · rw [ov_0, wr_s]
  · rw [ov_n (by omega) (by omega), wr_n (by omega)]; exact h1
  · rw [ov_n (by omega) (by omega), wr_n (by omega)]; exact h2
  · rw [ov_n (by omega) (by omega), wr_n (by omega)]; exact h3
  · rw [wr_n (by omega)]; exact h4 j hj
  · rw [ov_0] at hj
    exact (h5 j (by omega)).cg (v.2.2.2.2.2 j (by omega)) (fun k hk => ov_n (by omega) (by omega)) (fun q hq => wr_n (by omega))
theorem m_rem12 {n : Nat} (hn : n < 20) : ∀ (d i f : Nat) (N : Mm), d + i = 14 → d < f → N 135 0 = oN n → (∀ q, q < i → N 135 (4 + 14 * n + q) = 0) →
    ∃ N1, f_M_removes_12 f (oN i) N = some (oN n, N1) ∧ N1 135 0 = oN n ∧ (∀ q, q < 14 → N1 135 (4 + 14 * n + q) = 0) ∧ (∀ k, (k < 4 + 14 * n ∨ 18 + 14 * n ≤ k) → N1 135 k = N 135 k) := by
  intro d
  induction d with
  | zero =>
    intro i f N hd hf h0 hq
    obtain ⟨f, rfl⟩ : ∃ g, f = g + 1 := ⟨f - 1, by omega⟩
    rw [f_M_removes_12, show (14 : Int32) = oN 14 from rfl, if_pos (by rw [oN_le (by omega) (by omega)]; omega), show ix (0 : Int32) = 0 from rfl, h0]
    exact ⟨N, rfl, h0, fun q hq2 => hq q (by omega), fun _ _ => rfl⟩
  | succ d ih =>
    intro i f N hd hf h0 hq
    obtain ⟨f, rfl⟩ : ∃ g, f = g + 1 := ⟨f - 1, by omega⟩
    rw [f_M_removes_12, show (14 : Int32) = oN 14 from rfl, if_neg (by rw [oN_le (by omega) (by omega)]; omega), show ix (0 : Int32) = 0 from rfl, h0, m_put hn (by omega), bn_s, oN_S]
    obtain ⟨N1, e1, e2, e3, e4⟩ := ih (i + 1) f (wr N 135 (4 + 14 * n + i) 0) (by omega) (by omega) (by rw [wr_n (by omega)]; exact h0) (fun q hq2 => by
      by_cases c : q = i
      · subst c; rw [wr_s]
      · rw [wr_n (by omega)]; exact hq q (by omega))
    exact ⟨N1, e1, e2, e3, fun k hk => (e4 k hk).trans (wr_n (by omega))⟩
theorem m_removes (v : V r) (h : MS N 135 0 r) (h0 : r 0 ≠ 0) : ∃ N1, f_M_removes N = some (oN (r 0 - 1), N1) ∧ MS N1 135 0 (ov r (r 0 - 1) (r 0 - 1) (fun _ => 0)) := by
  have hv := v.1
  unfold f_M_removes
  rw [show ix (0 : Int32) = 0 from rfl, m_at h (by decide), oN_P h0, bm_s]
  obtain ⟨N1, e1, e2, e3, e4⟩ := m_rem12 (n := r 0 - 1) (by omega) 14 0 fu (wr N 135 0 (oN (r 0 - 1))) (by omega) (by unfold fu; omega) (wr_s _ _ _ _) (fun q hq => absurd hq (Nat.not_lt_zero q))
  refine ⟨N1, e1, h.ovr (by omega) e2 (fun q hq => e3 q hq) (fun k hk hk2 => ?_)⟩
  rw [e4 k hk2, wr_n (by omega)]
theorem s_removeLast (h : RI M N) : ∃ o v M1 N1, f_C_removeLast M = some (o, M1) ∧ f_M_removeLast N = some (v, N1) ∧ RI M1 N1 ∧ An 2 9 o v (N1 134 7) := by
  obtain ⟨r, p⟩ := h.1
  have hv := p.1.1
  unfold f_C_removeLast f_M_removeLast f_M_removeLast_15
  rw [p.2.1.1, show ix (0 : Int32) = 0 from rfl, m_at p.2.2 (by decide)]
  by_cases c : r 0 = 0
  · rw [c, if_pos (show oN 0 = 0 from rfl), if_pos (show oN 0 = 0 from rfl), m_fail1, bn2_s, if_neg (by decide)]
    exact ⟨_, _, _, _, rfl, rfl, h.n7 1, Or.inl ⟨rfl, wr_s _ _ _ _⟩⟩
  · have c0 : ¬ oN (r 0) = 0 := fun q => c ((oN0 (by omega)).mp q)
    obtain ⟨M1, N1, e1, e2, u, p1, f1, f2⟩ := s_rem1 (h.n7 0) (p.n7 0)
    obtain ⟨N2, e3, m3⟩ := m_removes p1.1 p1.2.2 c
    rw [if_neg c0, if_neg c0, e1, bn_s, p1.2.1.1, oN_P c, bm_s, wr_s, m_fail0, bn2_s, if_pos rfl, e2, bn_s, e3, bn2_s]
    have f3 := fr_M_removes e3
    have g1 : Fr [(0, 0, 12), (0, 0, 13), (34, 113, 0), (15, 15, 10)] M (wr M1 15 9 (oN (r 0 - 1))) := (f1.up (by rfl)).tr (fr_wr rfl (by rfl))
    have g2 : Fr [(134, 134, 8), (134, 134, 7), (137, 137, 0), (135, 135, 0)] N N2 := (fr_wr rfl (by rfl)).tr ((f2.up (by rfl)).tr (f3.up (by rfl)))
    refine ⟨_, _, _, _, rfl, rfl, h.mk1 ⟨p1.1.rem c, p1.2.1.rem p1.1 c, m3⟩ (u.w (Ag.of (fr_wr (l := [(15, 15, 10)]) rfl (by rfl)) (by rfl)) (Ag.of f3 (by rfl))) (Ag.of g1 (by rfl)) (Ag.of g2 (by rfl)), rfl, ?_⟩
    rw [f3 134 7 (by rfl), f2 134 7 (by rfl), wr_s]
end ADD
