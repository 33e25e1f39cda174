/-! load() and play() -/
section LOD
variable {M N : Mm} {tx : Nat → Nat} {len κ s e v : Nat} {r : Rw}
/-- the reading begins, in both -/
theorem s_begin (hl : len ≤ 900) (h14 : N 134 14 = oN len) (hb : ∀ k, k < len → tx k ≤ 255 ∧ M 3 k = (oN (tx k)).toInt8.toInt32 ∧ N 141 k = oN (tx k)) (hd : DZ M) (hm : MS N 135 0 r) :
    ∃ κ s e v M1 N1, f_I_begin (oN len) M = some M1 ∧ f_M_starts N = some N1 ∧ PL M1 N1 tx len κ s e v ∧ MS N1 139 0 r := by
  have l1 : lnM 135 = 284 := by decide
  have l2 : lnM 139 = 284 := by decide
  unfold f_I_begin f_L_begin f_M_starts
  have hmin : (if (900 : Int32) < oN len then (900 : Int32) else oN len) = oN len := if_neg (by rw [show (900 : Int32) = oN 900 from rfl, oN_lt (by omega) (by omega)]; omega)
  simp only [bm_s]
  rw [hmin]
  have fC : Fr [(1, 1, 4), (1, 1, 5), (2, 2, 2), (2, 2, 5)] M (wr (wr (wr (wr M 1 3 0) 1 4 (-1)) 2 1 (oN len)) 2 4 0) := (fr_wr rfl (by rfl)).tr ((fr_wr rfl (by rfl)).tr ((fr_wr rfl (by rfl)).tr (fr_wr rfl (by rfl))))
  have c13 : (wr (wr (wr (wr M 1 3 0) 1 4 (-1)) 2 1 (oN len)) 2 4 0) 1 3 = 0 := by simp [wr]
  have c14 : (wr (wr (wr (wr M 1 3 0) 1 4 (-1)) 2 1 (oN len)) 2 4 0) 1 4 = -1 := by simp [wr]
  have c21 : (wr (wr (wr (wr M 1 3 0) 1 4 (-1)) 2 1 (oN len)) 2 4 0) 2 1 = oN len := by simp [wr]
  have c24 : (wr (wr (wr (wr M 1 3 0) 1 4 (-1)) 2 1 (oN len)) 2 4 0) 2 4 = oN 0 := by simp [wr]; rfl
  generalize wr (wr (wr (wr M 1 3 0) 1 4 (-1)) 2 1 (oN len)) 2 4 0 = Ma at fC c13 c14 c21 c24
  have fN : Fr [(134, 134, 8), (134, 134, 17), (134, 134, 18), (134, 134, 23), (134, 134, 25)] N (wr (wr (wr (wr (wr N 134 7 0) 134 22 0) 134 24 0) 134 16 0) 134 17 (-1)) := (fr_wr rfl (by rfl)).tr ((fr_wr rfl (by rfl)).tr ((fr_wr rfl (by rfl)).tr ((fr_wr rfl (by rfl)).tr (fr_wr rfl (by rfl)))))
  have n22 : (wr (wr (wr (wr (wr N 134 7 0) 134 22 0) 134 24 0) 134 16 0) 134 17 (-1)) 134 22 = oN 0 := by simp [wr]; rfl
  have n24 : (wr (wr (wr (wr (wr N 134 7 0) 134 22 0) 134 24 0) 134 16 0) 134 17 (-1)) 134 24 = 0 := by simp [wr]
  have n16 : (wr (wr (wr (wr (wr N 134 7 0) 134 22 0) 134 24 0) 134 16 0) 134 17 (-1)) 134 16 = 0 := by simp [wr]
  have n17 : (wr (wr (wr (wr (wr N 134 7 0) 134 22 0) 134 24 0) 134 16 0) 134 17 (-1)) 134 17 = -1 := by simp [wr]
  generalize wr (wr (wr (wr (wr N 134 7 0) 134 22 0) 134 24 0) 134 16 0) 134 17 (-1) = Na at fN n22 n24 n16 n17
  have e9 := m_copy (a := 135) (b := 139) (i := 0) (j := 0) Na (by omega) (by omega) (by omega) (by omega)
  rw [show oN (284 * 0) = 0 from rfl, show 284 * 0 = 0 from rfl] at e9
  have f9 : Fr [(139, 139, 0)] Na (cpy Na 135 0 139 0 284) := fr_cpy rfl (by intro _; rfl)
  have m9 : MS (cpy Na 135 0 139 0 284) 139 0 r := (hm.fr fN (by rfl)).cpa 139 0
  have T : Tt Ma (cpy Na 135 0 139 0 284) tx len := ⟨hl, c21, by rw [f9 134 14 (by rfl), fN 134 14 (by rfl)]; exact h14, fun k hk => by rw [fC 3 k (by rfl), f9 141 k (by rfl), fN 141 k (by rfl)]; exact hb k hk⟩
  obtain ⟨κ, s, e', v, M1, N1, a1, a2, a3, a4, -⟩ := l_adv (e := 0) (Nat.zero_le _) T c24 ((f9 134 22 (by rfl)).trans n22)
  have g1 := fr_L_advance a1
  have g2 := fr_M_next a2
  rw [a1, bn_s, bn_s, e9, bn_s, a2, bn_s]
  refine ⟨κ, s, e', v, M1, N1, rfl, rfl, ⟨a3, a4, fun i hi => ?_, ?_, ?_, ?_, ?_, ?_⟩, m9.fr g2 (by rfl)⟩
  · rw [g1 7 i (by rfl), fC 7 i (by rfl)]; exact hd i hi
  · rw [g2 134 24 (by rfl), f9 134 24 (by rfl)]; exact n24
  · rw [g1 1 3 (by rfl)]; exact c13
  · rw [g2 134 16 (by rfl), f9 134 16 (by rfl)]; exact n16
  · rw [g1 1 4 (by rfl)]; exact c14
  · rw [g2 134 17 (by rfl), f9 134 17 (by rfl)]; exact n17
/-- what the class's reading may write -/
def lCs : List (Nat × Nat × Nat) := [(1, 1, 3), (1, 1, 4), (1, 1, 5), (2, 2, 2), (2, 2, 3), (2, 2, 4), (2, 2, 5), (2, 2, 6), (4, 13, 0)]
def lPt : List (Nat × Nat × Nat) := [(134, 134, 8), (134, 134, 17), (134, 134, 18), (134, 134, 20), (134, 134, 21), (134, 134, 22), (134, 134, 23), (134, 134, 24), (134, 134, 25), (134, 134, 26), (135, 135, 0), (139, 139, 0), (147, 147, 0)]
theorem st_begin {t0 : Int32} (M1 : Mm) (t : t0 = 0 ∨ t0 = 1) : ∃ X, X = wr (wr (wr M1 0 2 0) 0 3 (M1 1 3)) 0 4 (M1 1 4) ∧ f_C_settleText t0 M1 = (if t0 = 0 then some (t0, X) else bn (f_C_remember X) fun M32 => bn (f_S_copyFrom 15 4 M32) fun M43 => some (t0, M43)) := by
  refine ⟨_, rfl, ?_⟩
  unfold f_C_settleText f_C_settleText_46
  rw [bm_s, bm_s, bm_s, wr_n (by decide), wr_n (by decide), wr_n (by decide)]
  rcases t with rfl | rfl
  · rw [if_pos rfl, if_pos rfl, chk_t (by decide)]
  · rw [if_neg (by decide), if_neg (by decide)]
    simp only [chk_t (show isZ (1 : Int32) from Or.inr rfl)]
/-- a text without an error -/
theorem s_settle1 {M1 N1 : Mm} {r' : Rw} {x : Int32} (h : RI M N) (p : PR M N r) (fM : Fr lCs M M1) (fN : Fr lPt N N1) (m9 : MS N1 139 0 r) (px : PX M1 N1 tx len κ s e v r') :
    ∃ M2 N2, f_C_settleText 1 M1 = some (1, M2) ∧ f_M_commands_26 x N1 = some (x, N2) ∧ RI M2 N2 ∧ PR M2 N2 r' ∧ M2 1 2 = M1 1 2 := by
  obtain ⟨X, hX, eX⟩ := st_begin (t0 := 1) M1 (Or.inr rfl)
  have fX : Fr [(0, 0, 3), (0, 0, 4), (0, 0, 5)] M1 X := by rw [hX]; exact (fr_wr rfl (by rfl)).tr ((fr_wr rfl (by rfl)).tr (fr_wr rfl (by rfl)))
  have x2 : X 0 2 = oN 0 := by rw [hX]; simp [wr]; rfl
  have x3 : X 0 3 = M1 1 3 := by rw [hX]; simp [wr]
  have x4 : X 0 4 = M1 1 4 := by rw [hX]; simp [wr]
  have fY : Fr [(134, 134, 15)] N1 (wr N1 134 14 0) := fr_wr rfl (by rfl)
  have y14 : (wr N1 134 14 0) 134 14 = oN 0 := wr_s _ _ _ _
  have aM : Ag [(15, 24, 0), (0, 0, 12), (0, 0, 13), (34, 113, 0), (33, 33, 0), (114, 133, 0), (0, 0, 7), (14, 14, 0), (26, 28, 1)] M X := (Ag.of fM (by rfl)).tr (Ag.of fX (by rfl))
  have aN : Ag [(134, 134, 7), (137, 137, 0), (138, 138, 0), (140, 140, 0), (134, 134, 16), (142, 142, 0), (146, 146, 0)] N (wr N1 134 14 0) := (Ag.of fN (by rfl)).tr (Ag.of fY (by rfl))
  obtain ⟨_, u, sv, _, o, _, z, co, _⟩ := h
  have u1 : UND X (wr N1 134 14 0) := u.ag (aM.su (by rfl)) (aN.su (by rfl))
  have cs15 : CS X 15 r := p.2.1.ag (aM.su (ds := [(15, 24, 0)]) (by rfl)) (by decide) (by decide)
  obtain ⟨M3, N3, e1, e2, u2⟩ := s_rem (a := 139) u1 p.1 cs15 (by decide) (by decide) (m9.fr fY (by rfl))
  have g1 := fr_C_remember e1
  have g2 := fr_M_remember e2
  have cs4 : CS M3 4 r' := (px.2.2.2.1.fr fX (by rfl)).fr g1 (by rfl)
  obtain ⟨M4, e3, c15⟩ := c_copy (a := 15) (b := 4) (by omega) px.2.2.1 cs4
  have g3 := fr_S_copyFrom e3
  have m3 : MS N3 135 0 r' := (px.2.2.2.2.1.fr fY (by rfl)).fr g2 (by rfl)
  have hz : N3 134 24 = 0 := (g2 134 24 (by rfl)).trans ((fY 134 24 (by rfl)).trans px.2.2.2.2.2.1)
  have pr : PR M4 N3 r' := ⟨px.2.2.1, c15, m3⟩
  have bM : Ag [(0, 0, 3), (0, 0, 4), (0, 0, 5), (33, 33, 0), (114, 133, 0), (0, 0, 7), (14, 14, 0), (26, 28, 1), (7, 7, 0), (1, 1, 0), (3, 3, 0)] X M4 := (Ag.of g1 (by rfl)).tr (Ag.of g3 (by rfl))
  have bN : Ag [(138, 138, 0), (140, 140, 0), (134, 134, 15), (134, 134, 16), (134, 134, 17), (134, 134, 18), (142, 142, 0), (146, 146, 0)] (wr N1 134 14 0) N3 := Ag.of g2 (by rfl)
  refine ⟨M4, N3, ?_, ?_, ⟨⟨r', pr⟩, u2.ag (Ag.of g3 (by rfl)) (Ag.rf _ _), ?_, ⟨0, Nat.zero_le _, ?_, ?_, fun k hk => absurd hk (Nat.not_lt_zero k)⟩, ?_, ⟨?_, ?_⟩, ?_, ?_, ?_⟩, pr, ?_⟩
  · rw [eX, if_neg (by decide), e1, bn_s, e3, bn_s]
  · unfold f_M_commands_26 f_M_commands_62 f_M_commands_74
    rw [bm_s, if_pos (show (wr N1 134 14 0) 134 24 = 0 by rw [wr_n (by decide)]; exact px.2.2.2.2.2.1), e2, bn_s, if_pos hz]
  · exact (sv.ag (aM.su (by rfl)) (aN.su (by rfl))).ag (bM.su (by rfl)) (bN.su (by rfl))
  · rw [bM 0 2 (by rfl)]; exact x2
  · rw [bN 134 14 (by rfl)]; exact y14
  · exact (o.ag (aM.su (by rfl)) (aN.su (by rfl))).ag (bM.su (by rfl)) (bN.su (by rfl))
  · rw [bM 0 3 (by rfl), x3, bN 134 16 (by rfl), fY 134 16 (by rfl), px.2.2.2.2.2.2.1, px.2.2.2.2.2.2.2.1]
  · rw [bM 0 4 (by rfl), x4, bN 134 17 (by rfl), fY 134 17 (by rfl), px.2.2.2.2.2.2.2.2.1, px.2.2.2.2.2.2.2.2.2]
  · exact (z.ag (aM.su (by rfl))).ag (bM.su (by rfl))
  · exact (co.ag (aN.su (by rfl))).ag (bN.su (by rfl))
  · intro i hi
    rw [bM 7 i (by rfl), fX 7 i (by rfl)]
    exact px.2.2.2.1.2.2.2.2.1 i hi
  · rw [bM 1 2 (by rfl), fX 1 2 (by rfl)]
/-- a text with an error -/
theorem s_settle0 {M1 N1 : Mm} {x : Int32} (h : RI M N) (p : PR M N r) (fM : Fr lCs M M1) (fN : Fr lPt N N1) (m9 : MS N1 139 0 r) (fx : FX M1 N1) :
    ∃ M2 N2, f_C_settleText 0 M1 = some (0, M2) ∧ f_M_commands_26 x N1 = some (-1, N2) ∧ RI M2 N2 := by
  have l1 : lnM 135 = 284 := by decide
  have l2 : lnM 139 = 284 := by decide
  obtain ⟨X, hX, eX⟩ := st_begin (t0 := 0) M1 (Or.inl rfl)
  have fX : Fr [(0, 0, 3), (0, 0, 4), (0, 0, 5)] M1 X := by rw [hX]; exact (fr_wr rfl (by rfl)).tr ((fr_wr rfl (by rfl)).tr (fr_wr rfl (by rfl)))
  have x2 : X 0 2 = oN 0 := by rw [hX]; simp [wr]; rfl
  have x3 : X 0 3 = M1 1 3 := by rw [hX]; simp [wr]
  have x4 : X 0 4 = M1 1 4 := by rw [hX]; simp [wr]
  have fY : Fr [(134, 134, 15)] N1 (wr N1 134 14 0) := fr_wr rfl (by rfl)
  have y14 : (wr N1 134 14 0) 134 14 = oN 0 := wr_s _ _ _ _
  have y24 : (wr N1 134 14 0) 134 24 = 1 := by rw [wr_n (by decide)]; exact fx.1
  have e9 := m_copy (a := 139) (b := 135) (i := 0) (j := 0) (wr N1 134 14 0) (by omega) (by omega) (by omega) (by omega)
  rw [show oN (284 * 0) = 0 from rfl, show 284 * 0 = 0 from rfl] at e9
  have f9 : Fr [(135, 135, 0)] (wr N1 134 14 0) (cpy (wr N1 134 14 0) 139 0 135 0 284) := fr_cpy rfl (by intro _; rfl)
  have m2 : MS (cpy (wr N1 134 14 0) 139 0 135 0 284) 135 0 r := (m9.fr fY (by rfl)).back
  have aM : Ag [(15, 24, 0), (0, 0, 12), (0, 0, 13), (34, 113, 0), (33, 33, 0), (114, 133, 0), (0, 0, 7), (14, 14, 0), (26, 28, 1)] M X := (Ag.of fM (by rfl)).tr (Ag.of fX (by rfl))
  have aN : Ag [(134, 134, 7), (137, 137, 0), (138, 138, 0), (140, 140, 0), (134, 134, 16), (142, 142, 0), (146, 146, 0)] N (cpy (wr N1 134 14 0) 139 0 135 0 284) := (Ag.of fN (by rfl)).tr ((Ag.of fY (by rfl)).tr (Ag.of f9 (by rfl)))
  obtain ⟨_, u, sv, _, o, _, z, co, _⟩ := h
  have pr : PR X (cpy (wr N1 134 14 0) 139 0 135 0 284) r := ⟨p.1, p.2.1.ag (aM.su (ds := [(15, 24, 0)]) (by rfl)) (by decide) (by decide), m2⟩
  refine ⟨X, cpy (wr N1 134 14 0) 139 0 135 0 284, ?_, ?_, ⟨r, pr⟩, u.ag (aM.su (by rfl)) (aN.su (by rfl)), sv.ag (aM.su (by rfl)) (aN.su (by rfl)), ⟨0, Nat.zero_le _, x2, ?_, fun k hk => absurd hk (Nat.not_lt_zero k)⟩, o.ag (aM.su (by rfl)) (aN.su (by rfl)), ⟨?_, ?_⟩, z.ag (aM.su (by rfl)), co.ag (aN.su (by rfl)), ?_⟩
  · rw [eX, if_pos rfl]
  · unfold f_M_commands_26 f_M_commands_62 f_M_commands_74
    rw [bm_s, if_neg (show ¬ (wr N1 134 14 0) 134 24 = 0 by rw [y24]; decide), e9, bn_s, if_neg (show ¬ (cpy (wr N1 134 14 0) 139 0 135 0 284) 134 24 = 0 by rw [f9 134 24 (by rfl), y24]; decide)]
  · rw [f9 134 14 (by rfl)]; exact y14
  · rw [x3, f9 134 16 (by rfl), fY 134 16 (by rfl)]; exact fx.2.1
  · rw [x4, f9 134 17 (by rfl), fY 134 17 (by rfl)]; exact fx.2.2.1
  · intro i hi
    rw [fX 7 i (by rfl)]
    exact fx.2.2.2.1 i hi
theorem ld_eq {α : Type} {A : Option (Int32 × Mm)} {B : Mm → Option (Int32 × Mm)} {P Q : Mm → Option α} : (bn2 A fun r15 M15 => if r15 = 0 then P M15 else bn2 (B M15) fun r25 M25 => if r25 = 0 then P M25 else Q M25) = bn2 (bn2 A fun r15 M15 => if r15 = 0 then some ((0 : Int32), M15) else B M15) fun r M => if r = 0 then P M else Q M := by
  cases A with
  | none => rfl
  | some a =>
    obtain ⟨x, X⟩ := a
    show (if x = 0 then P X else bn2 (B X) fun r25 M25 => if r25 = 0 then P M25 else Q M25) = bn2 (if x = 0 then some ((0 : Int32), X) else B X) fun r M => if r = 0 then P M else Q M
    by_cases c : x = 0
    · rw [if_pos c, if_pos c, bn2_s, if_pos rfl]
    · rw [if_neg c, if_neg c]
theorem s_load (h : RI M N) : ∃ v M1 N1, f_C_load M = some (v, M1) ∧ f_M_load N = some (v, N1) ∧ RI M1 N1 := by
  obtain ⟨r, p⟩ := h.1
  obtain ⟨len, tx, h1, h2, h3, h4⟩ := TX.fn h.2.2.2.1
  obtain ⟨κ, s, e, v, M1, N1, a1, a2, p1, m9⟩ := s_begin h1 h3 h4 h.2.2.2.2.2.2.2.2 p.2.2
  have f1 := fr_I_begin a1
  have f2 := fr_M_starts a2
  unfold f_C_load f_C_load_35 f_M_load
  rw [h2, a1, bn_s, a2, bn_s]
  obtain ⟨N2, b1, b2, b3⟩ := m_load6 284 0 fu N1 (by omega) (by unfold fu; omega) (fun k hk => absurd hk (Nat.not_lt_zero k))
  rw [show (0 : Int32) = oN 0 from rfl, b1]
  have p2 : PL M1 N2 tx len κ s e v := p1.ag (Ag.rf _ _) (Ag.of b3 (by rfl))
  rw [show oN 0 = (0 : Int32) from rfl, ld_eq (P := fun M => f_C_load_36 0 M) (Q := fun M => f_C_load_36 1 M)]
  rcases p_setup p2 b2 with ⟨κ', s', e', v', r', c', M3, N3, y0, y1, y2, y3, y4, y5⟩ | ⟨x, M3, N3, y1, y2, y3, y4⟩
  · have gC : Fr lCs M1 M3 := by
      obtain ⟨x, X, e1, e2⟩ := bn2_i y1
      have q1 := (fr_I_readsHead e1).up (L := lCs) (by rfl)
      rcases ite_i e2 with ⟨-, e2⟩ | ⟨-, e2⟩
      · cases e2
      · exact q1.tr ((fr_I_readsCommands e2).up (by rfl))
    obtain ⟨M4, N4, z1, z2, z3, z4, z5⟩ := s_settle1 (x := oN c') h p ((f1.up (by rfl)).tr gC) ((f2.up (by rfl)).tr ((b3.up (by rfl)).tr (y5.up (by rfl)))) ((m9.fr b3 (by rfl)).fr y5 (by rfl)) y3
    rw [y1, bn2_s, if_neg (by decide), y2, z2, bn2_s]
    unfold f_C_load_36 f_C_load_56 gLoad f_M_load_119
    rw [z1, bn2_s, if_neg (by decide), if_neg (neM1 (by omega)), show ix (0 : Int32) = 0 from rfl, m_at z4.2.2 (by decide), z4.2.1.1]
    exact ⟨_, _, _, rfl, rfl, z3⟩
  · have gC : Fr lCs M1 M3 := by
      obtain ⟨x, X, e1, e2⟩ := bn2_i y1
      have q1 := (fr_I_readsHead e1).up (L := lCs) (by rfl)
      rcases ite_i e2 with ⟨-, e2⟩ | ⟨-, e2⟩
      · obtain rfl : X = M3 := congrArg Prod.snd (Option.some.inj e2)
        exact q1
      · exact q1.tr ((fr_I_readsCommands e2).up (by rfl))
    obtain ⟨M4, N4, z1, z2, z3⟩ := s_settle0 (x := x) h p ((f1.up (by rfl)).tr gC) ((f2.up (by rfl)).tr ((b3.up (by rfl)).tr (y4.up (by rfl)))) ((m9.fr b3 (by rfl)).fr y4 (by rfl)) y3
    rw [y1, bn2_s, if_pos rfl, y2, z2, bn2_s]
    unfold f_C_load_36 f_C_load_56 gLoad f_M_load_119
    rw [z1, bn2_s, if_pos rfl, if_pos rfl]
    exact ⟨_, _, _, rfl, rfl, z3⟩
theorem s_play (h : RI M N) : ∃ v M1 N1, f_C_play M = some (v, M1) ∧ f_M_play N = some (v, N1) ∧ RI M1 N1 := by
  obtain ⟨r, p⟩ := h.1
  obtain ⟨M0, e0, c0⟩ := c_copy (a := 4) (b := 15) (by omega) p.1 p.2.1
  have f0 := fr_S_copyFrom e0
  have d0 : DZ M0 := c0.2.2.2.2.1
  obtain ⟨len, tx, h1, h2, h3, h4⟩ := TX.fn h.2.2.2.1
  obtain ⟨κ, s, e, v, M1, N1, a1, a2, p1, m9⟩ := s_begin (M := M0) h1 h3 (fun k hk => by rw [f0 3 k (by rfl)]; exact h4 k hk) d0 p.2.2
  have f1 := fr_I_begin a1
  have f2 := fr_M_starts a2
  unfold f_C_play f_M_play
  rw [e0, bn_s, f0 0 2 (by rfl), h2, a1, bn_s, a2, bn_s]
  have px : PX M1 N1 tx len κ s e v r := ⟨p1.1, p1.2.1, p.1, c0.fr f1 (by rfl), p.2.2.fr f2 (by rfl), p1.2.2.2.1, p1.2.2.2.2⟩
  rcases p_commands px with ⟨κ', s', e', v', r', c', M3, N3, y0, y1, y2, y3, y4, y5⟩ | ⟨x, M3, N3, y1, y2, y3, y4⟩
  · have gC : Fr lCs M M3 := (f0.up (by rfl)).tr ((f1.up (by rfl)).tr ((fr_I_readsCommands y1).up (by rfl)))
    obtain ⟨M4, N4, z1, z2, z3, z4, z5⟩ := s_settle1 (x := oN c') h p gC ((f2.up (by rfl)).tr (y5.up (by rfl))) (m9.fr y5 (by rfl)) y3
    unfold f_C_play_49
    rw [y1, bn2_s, z1, bn2_s, if_neg (by decide), z5, y4, y2, z2, bn2_s]
    exact ⟨_, _, _, rfl, rfl, z3⟩
  · have gC : Fr lCs M M3 := (f0.up (by rfl)).tr ((f1.up (by rfl)).tr ((fr_I_readsCommands y1).up (by rfl)))
    obtain ⟨M4, N4, z1, z2, z3⟩ := s_settle0 (x := x) h p gC ((f2.up (by rfl)).tr (y4.up (by rfl))) (m9.fr y4 (by rfl)) y3
    unfold f_C_play_49
    rw [y1, bn2_s, z1, bn2_s, if_pos rfl, y2, z2, bn2_s]
    exact ⟨_, _, _, rfl, rfl, z3⟩
end LOD
