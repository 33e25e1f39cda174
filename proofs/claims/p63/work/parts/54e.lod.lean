/-! the law's text loads -/
section LDT
variable {M N : Mm} {tx : Nat → Nat} {w p T : Nat} {r : Rw}
/-- a text "survey w p;" -/
def TW (tx : Nat → Nat) (w p T : Nat) : Prop := w < 1000 ∧ p < 1000 ∧ 100 ≤ p ∧ T = 9 + (digs w).length + (digs p).length ∧ (∀ k, k < 7 → tx k = svL.getD k 0) ∧ (∀ j, j < (digs w).length → tx (7 + j) = (digs w).getD j 0) ∧ tx (7 + (digs w).length) = 32 ∧ (∀ j, j < (digs p).length → tx (8 + (digs w).length + j) = (digs p).getD j 0) ∧ tx (8 + (digs w).length + (digs p).length) = 59
theorem c_begin {M1 : Mm} (h : TW tx w p T) (hx : ∀ k, k < T → tx k < 128 ∧ M 3 k = oN (tx k)) (e : f_I_begin (oN T) M = some M1) : M1 2 2 = 1 ∧ M1 2 3 = oN 0 ∧ M1 2 4 = oN 6 ∧ Tc M1 tx T := by
  obtain ⟨hw, hp, hp1, hT, t1, t2, t3, t4, t5⟩ := h
  obtain ⟨g1, g2, g3⟩ := dg_ok w hw
  obtain ⟨k1, k2, k3⟩ := dg_ok p hp
  unfold f_I_begin f_L_begin at e
  simp only [bm_s] at e
  have hmin : (if (900 : Int32) < oN T then (900 : Int32) else oN T) = oN T := if_neg (by rw [show (900 : Int32) = oN 900 from rfl, oN_lt (by omega) (by omega)]; omega)
  rw [hmin] at e
  have fC : Fr [(1, 1, 4), (1, 1, 5), (2, 2, 2), (2, 2, 5)] M (wr (wr (wr (wr M 1 3 0) 1 4 (-1)) 2 1 (oN T)) 2 4 0) := (fr_wr rfl (by rfl)).tr ((fr_wr rfl (by rfl)).tr ((fr_wr rfl (by rfl)).tr (fr_wr rfl (by rfl))))
  have c21 : (wr (wr (wr (wr M 1 3 0) 1 4 (-1)) 2 1 (oN T)) 2 4 0) 2 1 = oN T := by simp [wr]
  have c24 : (wr (wr (wr (wr M 1 3 0) 1 4 (-1)) 2 1 (oN T)) 2 4 0) 2 4 = oN 0 := by simp [wr]; rfl
  generalize wr (wr (wr (wr M 1 3 0) 1 4 (-1)) 2 1 (oN T)) 2 4 0 = Ma at fC c21 c24 e
  have hA : Tc Ma tx T := ⟨by omega, c21, fun k hk => ⟨(hx k hk).1, (fC 3 k (by rfl)).trans (hx k hk).2⟩⟩
  have q0 : tx 0 = 115 := t1 0 (by decide)
  have q6 : tx 6 = 32 := t1 6 (by decide)
  have e0 := a_sp0 hA c24 (by omega) (by omega)
  have fb : Fr [(2, 2, 4)] Ma (wr Ma 2 3 (oN 0)) := fr_wr rfl (by rfl)
  have hB : Tc (wr Ma 2 3 (oN 0)) tx T := hA.ag (Ag.of fb (by rfl))
  obtain ⟨Mc, a1, a2, a3, a4, a5⟩ := t_beg (i := 0) hB (wr_s _ _ _ _) (by omega)
  rw [q0, if_pos (by decide)] at a5
  have fd : Fr [(2, 2, 3)] Mc (wr Mc 2 2 1) := fr_wr rfl (by rfl)
  have hD : Tc (wr Mc 2 2 1) tx T := a3.ag (Ag.of fd (by rfl))
  obtain ⟨Md, b1, b2, b3⟩ := w_run (tx := tx) (len := T) (j := 6) (by omega) (by omega) 6 0 fu (wr Mc 2 2 1) (by omega) (by unfold fu; omega) hD (by rw [wr_n (by decide)]; exact a2) (fun k h1 h2 => by
    have := (sv_at k h2).2
    rw [t1 k (by omega)]; exact this)
  rw [e0, a5, b1] at e
  obtain rfl : Md = M1 := Option.some.inj e
  exact ⟨by rw [b3 2 2 (by rfl), wr_s], by rw [b3 2 3 (by rfl), wr_n (by decide)]; exact a1, b2, hD.ag (Ag.of b3 (by rfl))⟩
theorem c_head (h : TW tx w p T) (h2 : M 2 2 = 1) (h3 : M 2 3 = oN 0) (h4 : M 2 4 = oN 6) (hM : Tc M tx T) :
    ∃ Mk, (bn2 (f_I_readsHead M) fun r15 M15 => if r15 = 0 then some ((0 : Int32), M15) else f_I_readsCommands M15) = some (1, Mk) ∧ Mk 4 9 = 0 := by
  have n10 : ¬ (1 : Int32) = 0 := by decide
  obtain ⟨hw, hp, hp1, hT, t1, t2, t3, t4, t5⟩ := h
  obtain ⟨g1, g2, g3⟩ := dg_ok w hw
  obtain ⟨k1, k2, k3⟩ := dg_ok p hp
  have q6 : tx 6 = 32 := t1 6 (by decide)
  have w0 := t2 0 g2
  have w1 := g3 0 g2
  rw [Nat.add_zero] at w0
  have p0 := t4 0 k2
  have p1 := k3 0 k2
  rw [Nat.add_zero] at p0
  unfold f_I_readsHead f_I_readsHead_58 f_S_clear f_I_readsWear f_I_readsPace
  rw [bm_s, bm_s, bn_s]
  have f0 : Fr [(4, 4, 0)] M (wr (wr M 4 9 0) 4 12 0) := (fr_wr rfl (by rfl)).tr (fr_wr rfl (by rfl))
  have z0 : (wr (wr M 4 9 0) 4 12 0) 4 9 = 0 := by rw [wr_n (by decide), wr_s]
  generalize wr (wr M 4 9 0) 4 12 0 = M0 at f0 z0
  have h0 : Tc M0 tx T := hM.ag (Ag.of f0 (by rfl))
  have c2 : M0 2 2 = 1 := (f0 2 2 (by rfl)).trans h2
  have c3 : M0 2 3 = oN 0 := (f0 2 3 (by rfl)).trans h3
  have c4 : M0 2 4 = oN 6 := (f0 2 4 (by rfl)).trans h4
  have eA : f_L_isAt 1 M0 = some 1 := by
    unfold f_L_isAt
    rw [if_pos c2, sy_len, bn_s, c3, c4, if_pos (show oN 6 - oN 0 = oN 6 from rfl)]
    exact at_sv c3 (fun k hk => by rw [← t1 k (by omega)]; exact (h0.2.2 k (by omega)).2) 6 0 fu (by omega) (by unfold fu; omega)
  rw [eA, bn_s, if_neg n10]
  -- the wear
  obtain ⟨Ma, a1, a2, a3⟩ := a_sp1 h0 c4 (by omega) q6 (by show tx 7 ≠ 32; omega)
  obtain ⟨Mb, b1, b2, b3, b4, b5, b6⟩ := t_num (i := 7) (h0.ag (Ag.of a3 (by rfl))) a2 hw (by omega) t2 (by omega)
  rw [a1, b1, bn_s]
  -- the pace
  obtain ⟨Mc, d1, d2, d3⟩ := a_sp1 b5 b3 (by omega) t3 (by rw [show 7 + (digs w).length + 1 = 8 + (digs w).length by omega]; omega)
  rw [show 7 + (digs w).length + 1 = 8 + (digs w).length by omega] at d2
  obtain ⟨Md, e1, e2, e3, e4, e5, e6⟩ := t_num (i := 8 + (digs w).length) (b5.ag (Ag.of d3 (by rfl))) d2 hp (by omega) t4 (by omega)
  have eW : f_I_numberHere 0 999 Mb = some (oN w, Md) := by
    unfold f_I_numberHere
    rw [if_pos b2, b4, c_between, if_pos ⟨oN_ge0 (by omega), (oN_le (b := 999) (by omega) (by omega)).mpr (by omega)⟩, bn_s, if_neg n10, d1, e1, bn_s]
  rw [eW, bn2_s, if_neg (neM1 (by omega)), bm_s, bn2_s, if_neg n10]
  have f1 : Fr [(4, 4, 11)] Md (wr Md 4 10 (oN w)) := fr_wr rfl (by rfl)
  have h5 : Tc (wr Md 4 10 (oN w)) tx T := e5.ag (Ag.of f1 (by rfl))
  have x2 : (wr Md 4 10 (oN w)) 2 2 = 2 := (f1 2 2 (by rfl)).trans e2
  have x4 : (wr Md 4 10 (oN w)) 2 4 = oN (8 + (digs w).length + (digs p).length) := (f1 2 4 (by rfl)).trans e3
  have x5 : (wr Md 4 10 (oN w)) 2 5 = oN p := (f1 2 5 (by rfl)).trans e4
  generalize wr Md 4 10 (oN w) = Me at f1 h5 x2 x4 x5
  have f2 : Fr [(2, 2, 4)] Me (wr Me 2 3 (oN (8 + (digs w).length + (digs p).length))) := fr_wr rfl (by rfl)
  obtain ⟨Mf, y1, y2, y3, y4, y5⟩ := t_semi (h5.ag (Ag.of f2 (by rfl))) (wr_s _ _ _ _) (by omega) t5
  have eP : f_I_numberHere 100 999 Me = some (oN p, Mf) := by
    unfold f_I_numberHere
    rw [if_pos x2, x5, c_between, if_pos ⟨(oN_le (a := 100) (by omega) (by omega)).mpr hp1, (oN_le (b := 999) (by omega) (by omega)).mpr (by omega)⟩, bn_s, if_neg n10, a_sp0 h5 x4 (by omega) (by omega), y1, bn_s]
  rw [eP, bn2_s, if_neg (neM1 (by omega)), bm_s, bn2_s, if_neg n10]
  have f3 : Fr [(4, 4, 12)] Mf (wr Mf 4 11 (oN p)) := fr_wr rfl (by rfl)
  have h6 : Tc (wr Mf 4 11 (oN p)) tx T := y4.ag (Ag.of f3 (by rfl))
  have u2 : (wr Mf 4 11 (oN p)) 2 2 = 3 := (f3 2 2 (by rfl)).trans y2
  have u4 : (wr Mf 4 11 (oN p)) 2 4 = oN T := by rw [f3 2 4 (by rfl), y3, hT]; exact congrArg oN (by omega)
  generalize wr Mf 4 11 (oN p) = Mg at f3 h6 u2 u4
  obtain ⟨Mh, v1, v2, v3⟩ := a_end h6 u4
  have eS : f_I_readsSemicolon Mg = some (1, Mh) := by
    unfold f_I_readsSemicolon
    rw [if_pos u2, v1, bn_s]
  rw [eS, bn2_s, if_neg n10, chk_t (by decide), bn2_s, if_neg n10]
  unfold f_I_readsCommands
  rw [bm_s, show fu = 99999 + 1 from rfl, f_I_readsCommands_5, wr_s, if_neg (by decide), wr_n (by decide), if_pos v2]
  unfold f_I_readsCommands_47
  refine ⟨_, rfl, ?_⟩
  rw [wr_n (by decide), v3 4 9 (by rfl), f3 4 9 (by rfl), y5 4 9 (by rfl), f2 4 9 (by rfl), f1 4 9 (by rfl), e6 4 9 (by rfl), d3 4 9 (by rfl), b6 4 9 (by rfl), a3 4 9 (by rfl)]
  exact z0
theorem ld_ok (h : RI M N) (p9 : PR M N r) (hw : TW tx w p T) (h2 : M 0 2 = oN T) (hx : ∀ k, k < T → tx k < 128 ∧ M 3 k = oN (tx k)) : ∃ M1 N1 r1, f_C_load M = some (0, M1) ∧ RI M1 N1 ∧ PR M1 N1 r1 ∧ r1 0 = 0 := by
  have hT9 : T ≤ 900 := by
    obtain ⟨hw, hp, hp1, hT, -⟩ := hw
    obtain ⟨g1, -⟩ := dg_ok w hw
    obtain ⟨k1, -⟩ := dg_ok p hp
    omega
  obtain ⟨len, tt, i1, i2, i3, i4⟩ := TX.fn h.2.2.2.1
  obtain ⟨κ, s, e, v, M1, N1, a1, a2, p1, m9⟩ := s_begin i1 i3 i4 h.2.2.2.2.2.2.2.2 p9.2.2
  have f1 := fr_I_begin a1
  have f2 := fr_M_starts a2
  have hl : len = T := (oN_inj (by omega) (by omega)).mp (i2.symm.trans h2)
  obtain ⟨b1, b2, b3, b4⟩ := c_begin hw hx (hl ▸ a1)
  obtain ⟨Mk, c1, c2⟩ := c_head hw b1 b2 b3 b4
  unfold f_C_load f_C_load_35
  rw [i2, a1, bn_s]
  obtain ⟨N2, q1, q2, q3⟩ := m_load6 284 0 fu N1 (by omega) (by unfold fu; omega) (fun k hk => absurd hk (Nat.not_lt_zero k))
  have p2 : PL M1 N2 tt len κ s e v := p1.ag (Ag.rf _ _) (Ag.of q3 (by rfl))
  rw [ld_eq (P := fun M => f_C_load_36 0 M) (Q := fun M => f_C_load_36 1 M)]
  rcases p_setup p2 q2 with ⟨κ', s', e', v', r', c', M3, N3, y0, y1, y2, y3, y4, y5⟩ | ⟨x, M3, N3, y1, y2, y3, y4⟩
  · obtain rfl : M3 = Mk := congrArg Prod.snd (Option.some.inj (y1.symm.trans c1))
    have gC : Fr lCs M1 M3 := by
      obtain ⟨x, X, e1, e2⟩ := bn2_i y1
      have q1 := (fr_I_readsHead e1).up (L := lCs) (by rfl)
      rcases ite_i e2 with ⟨-, e2⟩ | ⟨-, e2⟩
      · cases e2
      · exact q1.tr ((fr_I_readsCommands e2).up (by rfl))
    obtain ⟨M4, N4, z1, z2, z3, z4, z5⟩ := s_settle1 (x := oN c') h p9 ((f1.up (by rfl)).tr gC) ((f2.up (by rfl)).tr ((q3.up (by rfl)).tr (y5.up (by rfl)))) ((m9.fr q3 (by rfl)).fr y5 (by rfl)) y3
    have r0 : r' 0 = 0 := by
      have e9 := y3.2.2.2.1.1
      rw [c2] at e9
      exact (oN0 (by have := y3.2.2.1.1; omega)).mp e9.symm
    rw [y1, bn2_s, if_neg (by decide)]
    unfold f_C_load_36 f_C_load_56
    rw [z1, bn2_s, if_neg (by decide), z4.2.1.1, r0]
    exact ⟨M4, N4, r', rfl, z3, z4, r0⟩
  · exfalso
    have := congrArg Prod.fst (Option.some.inj (y1.symm.trans c1))
    exact absurd (show (0 : Int32) = 1 from this) (by decide)
end LDT
