/-! the other commands -/
section CMS
variable {M N : Mm} {tx : Nat → Nat} {len κ s e v n : Nat} {r : Rw}
theorem p_bog (h : PX M N tx len κ s e v r) (hse : s < e) : CR (f_I_readsBog M) (bn (f_M_legTold 1 N) fun M28 => f_M_command_349 M28) tx len s 0 := by
  have K : ∀ {M1 N1 : Mm} {fC : Option (Int32 × Mm)} {fM : Option Mm}, fC = some (0, M1) → fM = some N1 → FX M1 N1 → CR fC (bn fM fun M11 => f_M_command_349 M11) tx len s 0 := by
    intro M1 N1 fC fM a b f
    refine Or.inr ⟨M1, N1, a, ?_, f⟩
    rw [b, bn_s, w_349 f.1]
  have n10 : ¬ (1 : Int32) = 0 := by decide
  unfold f_I_readsBog f_I_readsBog_28 f_I_readsBog_29 f_I_readsBog_47 f_I_readsBog_60
  rcases p_new 1 h with ⟨nl, wd, κ1, s1, e1, v1, Na, M1, N1, h20, hn1, hn6, hw, c1, m1, za, ga, px, k19, k147, hs1⟩ | ⟨M1, N1, c1, m1, f⟩
  rotate_left
  · rw [c1, bn2_s, if_pos rfl, if_pos rfl, if_pos rfl]
    exact K rfl m1 f
  have hx : pkN wd nl < 1073741824 := Nat.lt_of_lt_of_le (pkN_lt _ hw) (p32_le hn6)
  rw [c1, bn2_s, if_neg (neM1 (by omega)), m1]
  unfold f_M_legTold_50
  have hz1 : N1 134 24 = 0 := px.2.2.2.2.2.1
  obtain ⟨N2, a1, p2, r2⟩ := p_lay (wd := wd) px rfl h20 hn6 k19 k147
  rw [p_wr0 za, bn_s, ga, bn_s, if_pos hz1, a1, bn_s, show ix (0 : Int32) = 0 from rfl, m_at p2.2.2.2.2.1 (by decide), r2]
  rcases p_bear p2 with ⟨b, κ3, s3, e3, v3, M3, N3, hb, t1, t2, t3, p3, hs3⟩ | ⟨M3, N3, x, t, t3, f⟩
  rotate_left
  · rw [t3, bn2_s]
    obtain ⟨N9, w1, w2⟩ := w_84 f.1 h20 1 x
    rcases t with t | ⟨ta, tb⟩
    · rw [t, bn2_s, if_pos rfl, if_pos rfl, if_pos rfl]
      exact K rfl w1 (f.wr w2)
    · rw [ta, bn2_s, if_neg n10, tb, bn2_s, if_pos rfl, if_pos rfl]
      exact K rfl w1 (f.wr w2)
  rw [t1, bn2_s, if_neg n10, t2, bn2_s, if_neg (neM1 (by omega)), t3, bn2_s]
  obtain ⟨u1, p4, r4⟩ := p3.put (q := 0) (x := 15 * b) r2 h20 (by decide)
  have u1 : f_M_put (oN (r 0)) 0 (oN (15 * b)) N3 = _ := u1
  rw [u1, bn_s, if_neg n10]
  unfold f_M_legTold_105
  obtain ⟨u2, p5, r5⟩ := p4.put (q := 1) (x := 0) r4 h20 (by decide)
  have u2 : f_M_put (oN (r 0)) 1 0 _ = _ := u2
  rw [u2, bn_s, if_neg n10]
  unfold f_M_legTold_126
  obtain ⟨u3, p6, r6⟩ := p5.put (q := 2) (x := 0) r5 h20 (by decide)
  have u3 : f_M_put (oN (r 0)) 2 0 _ = _ := u3
  rw [u3, bn_s, if_neg n10]
  have hnum := p_number (a := 1) (b := 999) (by decide) (by decide) p6
  rw [show (oN 1 : Int32) = 1 from rfl, show (oN 999 : Int32) = 999 from rfl] at hnum
  rcases hnum with ⟨pc, κ7, s7, e7, v7, M7, N7, hp0, hp, g1, g2, p7, hs7, -, -⟩ | ⟨M7, N7, g1, g2, f, -⟩
  rotate_left
  · rw [g1, bn2_s, if_pos rfl, g2, bn2_s]
    obtain ⟨N9, w1, w2⟩ := w_149 f.1 h20 1 1
    exact K rfl w1 (f.wr w2)
  rw [g1, bn2_s, g2, bn2_s, if_neg (neM1 (by omega))]
  unfold f_M_legTold_149
  obtain ⟨u4, p8, r8⟩ := p7.put (q := 6) (x := pc) r6 h20 (by decide)
  have u4 : f_M_put (oN (r 0)) 6 (oN pc) N7 = _ := u4
  rw [u4, bn_s, if_neg n10]
  unfold f_M_legTold_172
  obtain ⟨u5, p9, r9⟩ := p8.put (q := 3) (x := 0) r8 h20 (by decide)
  have u5 : f_M_put (oN (r 0)) 3 0 _ = _ := u5
  rw [u5, bn_s, if_neg n10]
  unfold f_M_legTold_196
  obtain ⟨u6, p10, r10⟩ := p9.put (q := 4) (x := 0) r9 h20 (by decide)
  have u6 : f_M_put (oN (r 0)) 4 0 _ = _ := u6
  rw [u6, bn_s, if_neg n10]
  unfold f_M_legTold_220 f_M_legTold_241
  obtain ⟨u7, p11, r11⟩ := p10.put (q := 5) (x := 0) r10 h20 (by decide)
  have u7 : f_M_put (oN (r 0)) 5 0 _ = _ := u7
  rw [u7, bn_s]
  by_cases cκ : κ7 = 3
  · have j0 : ∀ {R : Rw}, up (up (up (up (up (up (up R (4 + 14 * r 0 + 0) (15 * b)) (4 + 14 * r 0 + 1) 0) (4 + 14 * r 0 + 2) 0) (4 + 14 * r 0 + 6) pc) (4 + 14 * r 0 + 3) 0) (4 + 14 * r 0 + 4) 0) (4 + 14 * r 0 + 5) 0 (4 + 14 * r 0 + 0) = 15 * b := by
      intro R; rw [up_n (by omega), up_n (by omega), up_n (by omega), up_n (by omega), up_n (by omega), up_n (by omega), up_s]
    have j1 : ∀ {R : Rw}, up (up (up (up (up (up (up R (4 + 14 * r 0 + 0) (15 * b)) (4 + 14 * r 0 + 1) 0) (4 + 14 * r 0 + 2) 0) (4 + 14 * r 0 + 6) pc) (4 + 14 * r 0 + 3) 0) (4 + 14 * r 0 + 4) 0) (4 + 14 * r 0 + 5) 0 (4 + 14 * r 0 + 1) = 0 := by
      intro R; rw [up_n (by omega), up_n (by omega), up_n (by omega), up_n (by omega), up_n (by omega), up_s]
    have j2 : ∀ {R : Rw}, up (up (up (up (up (up (up R (4 + 14 * r 0 + 0) (15 * b)) (4 + 14 * r 0 + 1) 0) (4 + 14 * r 0 + 2) 0) (4 + 14 * r 0 + 6) pc) (4 + 14 * r 0 + 3) 0) (4 + 14 * r 0 + 4) 0) (4 + 14 * r 0 + 5) 0 (4 + 14 * r 0 + 2) = 0 := by
      intro R; rw [up_n (by omega), up_n (by omega), up_n (by omega), up_n (by omega), up_s]
    have j6 : ∀ {R : Rw}, up (up (up (up (up (up (up R (4 + 14 * r 0 + 0) (15 * b)) (4 + 14 * r 0 + 1) 0) (4 + 14 * r 0 + 2) 0) (4 + 14 * r 0 + 6) pc) (4 + 14 * r 0 + 3) 0) (4 + 14 * r 0 + 4) 0) (4 + 14 * r 0 + 5) 0 (4 + 14 * r 0 + 6) = pc := by
      intro R; rw [up_n (by omega), up_n (by omega), up_n (by omega), up_s]
    have j3 : ∀ {R : Rw}, up (up (up (up (up (up (up R (4 + 14 * r 0 + 0) (15 * b)) (4 + 14 * r 0 + 1) 0) (4 + 14 * r 0 + 2) 0) (4 + 14 * r 0 + 6) pc) (4 + 14 * r 0 + 3) 0) (4 + 14 * r 0 + 4) 0) (4 + 14 * r 0 + 5) 0 (4 + 14 * r 0 + 3) = 0 := by
      intro R; rw [up_n (by omega), up_n (by omega), up_s]
    have j4 : ∀ {R : Rw}, up (up (up (up (up (up (up R (4 + 14 * r 0 + 0) (15 * b)) (4 + 14 * r 0 + 1) 0) (4 + 14 * r 0 + 2) 0) (4 + 14 * r 0 + 6) pc) (4 + 14 * r 0 + 3) 0) (4 + 14 * r 0 + 4) 0) (4 + 14 * r 0 + 5) 0 (4 + 14 * r 0 + 4) = 0 := by
      intro R; rw [up_n (by omega), up_s]
    have j5 : ∀ {R : Rw}, up (up (up (up (up (up (up R (4 + 14 * r 0 + 0) (15 * b)) (4 + 14 * r 0 + 1) 0) (4 + 14 * r 0 + 2) 0) (4 + 14 * r 0 + 6) pc) (4 + 14 * r 0 + 3) 0) (4 + 14 * r 0 + 4) 0) (4 + 14 * r 0 + 5) 0 (4 + 14 * r 0 + 5) = 0 := by
      intro R; rw [up_s]
    have j7 : ∀ q, 7 ≤ q → ∀ {R : Rw}, up (up (up (up (up (up (up R (4 + 14 * r 0 + 0) (15 * b)) (4 + 14 * r 0 + 1) 0) (4 + 14 * r 0 + 2) 0) (4 + 14 * r 0 + 6) pc) (4 + 14 * r 0 + 3) 0) (4 + 14 * r 0 + 4) 0) (4 + 14 * r 0 + 5) 0 (4 + 14 * r 0 + q) = R (4 + 14 * r 0 + q) := by
      intro q hq R; rw [up_n (by omega), up_n (by omega), up_n (by omega), up_n (by omega), up_n (by omega), up_n (by omega), up_n (by omega)]
    obtain ⟨κ', s', e', v', r', X1, X2, Y1, y1, y2, y3, y4, y5⟩ := p_finB (nm := pkN wd nl) p11 cκ r11 h20 (by
      refine ⟨⟨b, hb, j0⟩, ?_, ?_, ?_, ?_, ?_, ?_, fun _ => ⟨j1, j2, j3, j4⟩, ?_, ?_, fun j hj => ?_⟩
      · show up _ _ _ _ ≤ _; rw [j1]; decide
      · show up _ _ _ _ ≤ _; rw [j2]; decide
      · show up _ _ _ _ ≤ _; rw [j3]; decide
      · show up _ _ _ _ ≤ _; rw [j4]; decide
      · show up _ _ _ _ ≤ _; rw [j5]; decide
      · show up _ _ _ _ ≤ _; rw [j6]; exact hp
      · show _ ≤ up _ _ _ _; rw [j7 7 (by decide), rwN_7]; exact hn1
      · show up _ _ _ _ ≤ _; rw [j7 7 (by decide), rwN_7]; exact hn6
      · have hj : j < up _ _ _ _ := hj
        rw [j7 7 (by decide), rwN_7] at hj
        show 97 ≤ up _ _ _ _ ∧ up _ _ _ _ ≤ 122
        rw [j7 (8 + j) (by omega), rwN_8 hj]; exact hw j hj) (by
      rw [j7 7 (by decide), rwN_7]
      refine (pk_cg _ fun j hj => ?_).symm
      show up _ _ _ _ = _
      rw [j7 (8 + j) (by omega), rwN_8 hj]) (by rw [j6]; omega)
    rw [j0, j6] at y2
    have he := p_ends p11 cκ (x := 1) (by decide)
    rw [y1, bn2_s, if_neg n10, y2, bn_s, he, bn2_s, if_neg n10, show ix (0 : Int32) = 0 from rfl, m_at p11.2.2.2.2.1 (by decide), r11, oN_S, bm_s, bn_s, m_349, y3]
    exact Or.inl ⟨κ', s', e', v', r', X2, Y1, rfl, rfl, y4, by omega⟩
  · obtain ⟨X1, Y1, y1, y2, f⟩ := p_noend p11 cκ 1
    rw [y1, bn2_s, if_pos rfl, y2, bn2_s, if_pos rfl]
    exact K rfl rfl f
/-! the head's values -/
/-- no semicolon, when the class has written its survey already -/
theorem p_noend2 {M2 : Mm} (h : PX M N tx len κ s e v r) (c : κ ≠ 3) (x : Int32) (f : Fr [(4, 4, 0)] M M2) : ∃ M1 N1, f_I_readsSemicolon M2 = some (0, M1) ∧ f_M_ends x N = some (0, N1) ∧ FX M1 N1 := by
  obtain ⟨M1, N1, a, b, g⟩ := p_noend h c x
  have hκ := h.2.1.2.2.2.2.2.2.2.2.1
  have cc : ¬ oN κ = 3 := fun q => c ((oN_inj (b := 3) (by omega) (by omega)).mp q)
  have e22 : M2 2 2 = oN κ := (f 2 2 (by rfl)).trans h.2.1.1
  have e23 : M2 2 3 = oN s := (f 2 3 (by rfl)).trans h.2.1.2.2.1
  refine ⟨wr (wr M2 1 3 1) 1 4 (oN s), N1, ?_, b, ?_⟩
  · unfold f_I_readsSemicolon f_I_fail
    rw [e22, if_neg cc, bm_s, bm_s, wr_n (by decide), e23, bn2_s, chk_t (by decide)]
  · unfold f_I_readsSemicolon f_I_fail at a
    rw [h.2.1.1, if_neg cc, bm_s, bm_s, wr_n (by decide), h.2.1.2.2.1, bn2_s, chk_t (by decide)] at a
    have hM1 : M1 = wr (wr M 1 3 1) 1 4 (oN s) := (congrArg Prod.snd (Option.some.inj a)).symm
    subst hM1
    obtain ⟨g1, g2, g3, g4, g5⟩ := g
    refine ⟨g1, ?_, ?_, fun i hi => ?_, ?_⟩
    · rw [← g2]; simp [wr]
    · rw [← g3]; simp [wr]
    · rw [wr_n (by omega), wr_n (by omega), f 7 i (by rfl)]
      have := g4 i hi
      rw [wr_n (by omega), wr_n (by omega)] at this
      exact this
    · simp [wr]
/-- a number, a semicolon, and the head is set: class and model -/
theorem p_head {a b k : Nat} (ha : a ≤ 1000) (hb : b ≤ 9999) (hk : k = 1 ∧ b ≤ 999 ∨ k = 2 ∧ 100 ≤ a ∧ b ≤ 999) (h : PX M N tx len κ s e v r) (hse : s < e) :
    CR (bn (f_L_advance M) fun M1 => bn2 (f_I_numberHere (oN a) (oN b) M1) fun r5 M5 => if r5 = (-1 : Int32) then some ((0 : Int32), M5) else bm (wr M5 4 (9 + k) r5) fun M21 => f_I_readsSemicolon M21)
      (bn (f_M_go N) fun N1 => bn2 (f_M_number (oN a) (oN b) N1) fun r2 N2 => bn2 (f_M_ends 1 N2) fun r3 N3 => if r3 = 0 then f_M_command_349 N3 else bn2 (f_M_sets (oN k) r2 N3) fun r4 N4 => bm (wr N4 134 25 r4) fun N5 => f_M_command_349 N5) tx len s 0 := by
  obtain ⟨κ1, s1, e1, v1, M1, N1, a1, a2, p1, hs1⟩ := p_adv h
  rw [a1, bn_s, a2, bn_s]
  rcases p_number ha hb p1 with ⟨x, κ2, s2, e2, v2, M2, N2, hx0, hx, g1, g2, p2, hs2, -, -⟩ | ⟨M2, N2, g1, g2, f, -⟩
  · rw [g1, bn2_s, if_neg (neM1 (by omega)), g2, bn2_s, bm_s]
    have fw : Fr [(4, 4, 0)] M2 (wr M2 4 (9 + k) (oN x)) := fr_wr rfl (by rfl)
    have hV : V (up r k x) := p2.2.2.1.head (by omega)
    have hC : CS (wr M2 4 (9 + k) (oN x)) 4 (up r k x) := p2.2.2.2.1.head p2.2.2.1 (by omega)
    by_cases c : κ2 = 3
    · rw [p_ends p2 c (by decide), bn2_s, if_neg (by decide)]
      unfold f_M_sets
      have hk9 : k < 3 := by omega
      rw [chk_t ((iin_oN (by omega)).mpr (by omega)), oI (by omega), bm_s, bn2_s, bm_s, m_349]
      have hM : MS (wr (wr N2 135 k (oN x)) 134 25 (N2 135 k)) 135 0 (up r k x) := fun q hq => by
        rw [wr_n (by omega)]; exact (p2.2.2.2.2.1.up rfl) q hq
      have px := p2.chg (fw.up (by rfl)) hC hV hM ((fr_wr (l := [(135, 135, 0), (134, 134, 26)]) rfl (by rfl)).tr (fr_wr rfl (by rfl)))
      obtain ⟨κ3, s3, e3, v3, M3, N3, b1, b2, p3, hs3⟩ := p_adv px
      have hse2 := px.2.1.2.2.2.2.2.2.1
      exact Or.inl ⟨κ3, s3, e3, v3, _, M3, N3, c_semi px c b1, b2, p3, by omega⟩
    · obtain ⟨X1, Y1, y1, y2, f⟩ := p_noend2 p2 c 1 fw
      rw [y1, y2, bn2_s, if_pos rfl, w_349 f.1]
      exact Or.inr ⟨X1, Y1, rfl, rfl, f⟩
  · rw [g1, bn2_s, if_pos rfl, g2, bn2_s, w_ends f.1, bn2_s, if_pos rfl, w_349 f.1]
    exact Or.inr ⟨M2, N2, rfl, rfl, f⟩
/-- adjust, raw -/
theorem p_adj {x : Nat} (hx : x ≤ 1) (h : PX M N tx len κ s e v r) (hse : s < e) : CR (f_I_readsAdjusted (oN x) M) (f_M_command_323 (oN x) 0 N) tx len s 0 := by
  obtain ⟨κ1, s1, e1, v1, M1, N1, a1, a2, p1, hs1⟩ := p_adv h
  have hz : N 134 24 = 0 := h.2.2.2.2.2.1
  have hzx : isZ (oN x) := by
    rcases (show x = 0 ∨ x = 1 by omega) with e | e
    · rw [e]; exact Or.inl rfl
    · rw [e]; exact Or.inr rfl
  unfold f_I_readsAdjusted f_M_command_323
  rw [a1, bn_s, chk_t hzx, bm_s, p_wr0 hz, bn_s, a2, bn_s]
  have fw : Fr [(4, 4, 0)] M1 (wr M1 4 12 (oN x)) := fr_wr rfl (by rfl)
  have hV : V (up r 3 x) := p1.2.2.1.head (by omega)
  have hC : CS (wr M1 4 12 (oN x)) 4 (up r 3 x) := p1.2.2.2.1.head (k := 3) p1.2.2.1 (by omega)
  by_cases c : κ1 = 3
  · have e3 : (3 : Int32) = oN 3 := rfl
    rw [p_ends p1 c (by decide), bn2_s, if_neg (by decide)]
    unfold f_M_sets
    rw [chk_t (by decide), show ix (3 : Int32) = 3 from rfl, bm_s, bn2_s, bm_s, m_349]
    have hM : MS (wr (wr N1 135 3 (oN x)) 134 25 (N1 135 3)) 135 0 (up r 3 x) := fun q hq => by
      rw [wr_n (by omega)]; exact (p1.2.2.2.2.1.up rfl) q hq
    have px := p1.chg (fw.up (by rfl)) hC hV hM ((fr_wr (l := [(135, 135, 0), (134, 134, 26)]) rfl (by rfl)).tr (fr_wr rfl (by rfl)))
    obtain ⟨κ3, s3, e3, v3, M3, N3, b1, b2, p3, hs3⟩ := p_adv px
    have hse2 := px.2.1.2.2.2.2.2.2.1
    rw [c_semi px c b1, bn2_s, chk_t (by decide), b2]
    exact Or.inl ⟨κ3, s3, e3, v3, _, M3, N3, rfl, rfl, p3, by omega⟩
  · obtain ⟨X1, Y1, y1, y2, f⟩ := p_noend2 p1 c 1 fw
    rw [y1, bn2_s, chk_t (by decide), y2, bn2_s, if_pos rfl, w_349 f.1]
    exact Or.inr ⟨X1, Y1, rfl, rfl, f⟩
/-- a pin dropped -/
theorem p_drop (h : PX M N tx len κ s e v r) (hse : s < e) : CR (f_I_readsPin 1 M) (bn (f_M_go N) fun M44 => bn2 (f_M_legHere M44) fun r48 M48 => if M48 134 24 = 0 then bn (f_M_mayDrop M48 r48) fun r62 => if r62 = 0 then f_M_command_73 r48 0 M48 else f_M_command_68 r48 M48 else f_M_command_68 r48 M48) tx len s 0 := by
  obtain ⟨κ1, s1, e1, v1, M1, N1, a1, a2, p1, hs1⟩ := p_adv h
  unfold f_I_readsPin f_I_readsPin_66 f_I_readsPin_94 f_I_readsPin_59 f_M_command_68 f_M_command_73 f_M_command_89
  rw [a1, bn_s, a2, bn_s]
  rcases p_leg p1 with ⟨i, κ2, s2, e2, v2, M2, N2, hi, b1, b2, p2, hs2⟩ | ⟨x, M2, N2, b1, b2, f⟩
  · have hv := p2.2.2.1.1
    have h20 := lt20 p2.2.2.1 hi
    have hκ := p2.2.1.2.2.2.2.2.2.2.2.1
    rw [b1, bn2_s, if_neg (neM1 (by omega)), b2, bn2_s, if_pos p2.2.2.2.2.2.1, m_mayDrop p2.2.2.2.2.1 p2.2.2.1 hi, bn_s, p2.2.1.1]
    by_cases c : κ2 = 3
    · rw [if_pos (show oN κ2 = 3 by rw [c]; rfl), if_neg (show ¬ (1 : Int32) = 0 by decide), c_canDrop p2.2.2.2.1 p2.2.2.1 hi, bn_s]
      by_cases z : r (4 + 14 * i + 6) = 0 ∧ ¬ 9 ≤ r (4 + 14 * i + 3)
      · rw [if_pos z.1, if_neg z.2, if_neg (show ¬ (1 : Int32) = 0 by decide), if_neg (show ¬ (1 : Int32) = 0 by decide), p_ends p2 c (by decide), bn2_s, if_neg (show ¬ (1 : Int32) = 0 by decide)]
        obtain ⟨d1, d2⟩ := m_drops p2.2.2.2.2.1 h20 (oN_S (r (4 + 14 * i + 3)))
        have hV := p2.2.2.1.drop hi (x := r (4 + 14 * i + 3) + 1) (by omega) z.1
        have hM : MS (wr (wr N2 135 (4 + 14 * i + 3) (oN (r (4 + 14 * i + 3) + 1))) 134 25 (oN (r (4 + 14 * i + 3) + 1))) 135 0 (up r (4 + 14 * i + 3) (r (4 + 14 * i + 3) + 1)) := fun q hq => by
          rw [wr_n (by omega)]; exact d2 q hq
        obtain ⟨κ3, s3, e3, v3, M3, N3, y1, y2, y3, y4, y5⟩ := p_semi p2 hV hM ((fr_wr (l := [(135, 135, 0), (134, 134, 26)]) rfl (by rfl)).tr (fr_wr rfl (by rfl)))
        have hd : M3 11 i = oN (r (4 + 14 * i + 3)) := (y4.2.2.2.2.2 i hi).2.2.2.2.2.2.1
        have hse2 := p2.2.1.2.2.2.2.2.2.2.2.2.1 (by omega)
        rw [c_semi p2 c y1, bn2_s, if_neg (show ¬ (1 : Int32) = 0 by decide), chk_t (iin20 p2.2.2.1 hi), if_neg (show ¬ (1 : Int32) = 0 by decide), chk_t (iin20 p2.2.2.1 hi), oI20 p2.2.2.1 hi, hd, oN_S, bm_s, d1, bn2_s, bm_s, m_349, y2]
        exact Or.inl ⟨κ3, s3, e3, v3, _, _, N3, rfl, rfl, y5 (wr M3 11 i (oN (r (4 + 14 * i + 3) + 1))) (fr_wr rfl (by rfl)) (y4.drop p2.2.2.1 hi rfl), by omega⟩
      · have e0 : (if r (4 + 14 * i + 6) = 0 then (if 9 ≤ r (4 + 14 * i + 3) then (0 : Int32) else 1) else 0) = 0 := by
          split
          · split
            · rfl
            · exfalso; apply z; exact ⟨by assumption, by assumption⟩
          · rfl
        obtain ⟨X1, Y1, y1, y2, f⟩ := p_ends6 p2 c
        rw [e0, if_pos rfl, if_pos rfl, y1, bn2_s, chk_t (by decide), y2, bn2_s, if_pos rfl, w_349 f.1]
        exact Or.inr ⟨X1, Y1, rfl, rfl, f⟩
    · have cc : ¬ oN κ2 = 3 := fun q => c ((oN_inj (b := 3) (by omega) (by omega)).mp q)
      rw [if_neg cc]
      have fin : ∀ t : Int32, CR (bn2 (f_I_readsSemicolon M2) fun r67 M67 => if r67 = 0 then some (0, M67) else chk (iin (oN i) 20) (if (1 : Int32) = 0 then chk (iin (oN i) 20) (bm (wr M67 11 (ix (oN i)) (M67 11 (ix (oN i)) + -1)) fun M95 => some (1, M95)) else chk (iin (oN i) 20) (bm (wr M67 11 (ix (oN i)) (M67 11 (ix (oN i)) + 1)) fun M95 => some (1, M95)))) (bn2 (f_M_ends t N2) fun r73 M73 => if r73 = 0 then f_M_command_349 M73 else bn2 (f_M_drops (oN i) 1 M73) fun r83 M83 => bm (wr M83 134 25 r83) fun M86 => f_M_command_349 M86) tx len s 0 := by
        intro t
        obtain ⟨X1, Y1, y1, y2, f⟩ := p_noend p2 c t
        rw [y1, bn2_s, if_pos rfl, y2, bn2_s, if_pos rfl, w_349 f.1]
        exact Or.inr ⟨X1, Y1, rfl, rfl, f⟩
      by_cases z : (if r (4 + 14 * i + 6) = 0 then (if 9 ≤ r (4 + 14 * i + 3) then (0 : Int32) else 1) else 0) = 0
      · rw [if_pos z]; exact fin 0
      · rw [if_neg z]; exact fin 1
  · rw [b1, bn2_s, if_pos rfl, b2, bn2_s, if_neg (by rw [f.1]; decide), w_ends f.1, bn2_s, if_pos rfl, w_349 f.1]
    exact Or.inr ⟨M2, N2, rfl, rfl, f⟩
/-- a pin found -/
theorem p_found (h : PX M N tx len κ s e v r) (hse : s < e) : CR (f_I_readsPin 0 M) (bn (f_M_go N) fun M103 => bn2 (f_M_legHere M103) fun r107 M107 => if M107 134 24 = 0 then bn (f_M_of M107 r107 3) fun r122 => if r122 ≤ 0 then f_M_command_133 r107 0 M107 else f_M_command_128 r107 M107 else f_M_command_128 r107 M107) tx len s 0 := by
  obtain ⟨κ1, s1, e1, v1, M1, N1, a1, a2, p1, hs1⟩ := p_adv h
  unfold f_I_readsPin f_I_readsPin_66 f_I_readsPin_94 f_I_readsPin_59 f_M_command_128 f_M_command_133 f_M_command_149
  rw [a1, bn_s, a2, bn_s]
  rcases p_leg p1 with ⟨i, κ2, s2, e2, v2, M2, N2, hi, b1, b2, p2, hs2⟩ | ⟨x, M2, N2, b1, b2, f⟩
  · have hv := p2.2.2.1.1
    have h20 := lt20 p2.2.2.1 hi
    have hκ := p2.2.1.2.2.2.2.2.2.2.2.1
    have h9 := (p2.2.2.1.2.2.2.2.2 i hi).2.2.2.1
    have hbz := (p2.2.2.1.2.2.2.2.2 i hi).2.2.2.2.2.2.2.1
    rw [b1, bn2_s, if_neg (neM1 (by omega)), b2, bn2_s, if_pos p2.2.2.2.2.2.1, m_of3 p2.2.2.2.2.1 h20, bn_s, p2.2.1.1]
    by_cases c : κ2 = 3
    · rw [if_pos (show oN κ2 = 3 by rw [c]; rfl), if_pos (show (0 : Int32) = 0 from rfl), c_canFind p2.2.2.2.1 p2.2.2.1 hi, bn_s]
      by_cases z : r (4 + 14 * i + 3) = 0
      · obtain ⟨X1, Y1, y1, y2, f⟩ := p_ends6 p2 c
        rw [if_pos z, if_pos rfl, z, if_pos (show oN 0 ≤ 0 by decide), y1, bn2_s, chk_t (by decide), y2, bn2_s, if_pos rfl, w_349 f.1]
        exact Or.inr ⟨X1, Y1, rfl, rfl, f⟩
      · have c6 : r (4 + 14 * i + 6) = 0 := by
          by_cases y : r (4 + 14 * i + 6) = 0
          · exact y
          · exact absurd (hbz y).2.2.1 z
        have hle : ¬ oN (r (4 + 14 * i + 3)) ≤ 0 := by rw [show (0 : Int32) = oN 0 from rfl, oN_le (by omega) (by omega)]; omega
        rw [if_neg z, if_neg (show ¬ (1 : Int32) = 0 by decide), if_neg hle, p_ends p2 c (by decide), bn2_s, if_neg (show ¬ (1 : Int32) = 0 by decide)]
        obtain ⟨d1, d2⟩ := m_drops p2.2.2.2.2.1 h20 (oN_pm z)
        have hV := p2.2.2.1.drop hi (x := r (4 + 14 * i + 3) - 1) (by omega) c6
        have hM : MS (wr (wr N2 135 (4 + 14 * i + 3) (oN (r (4 + 14 * i + 3) - 1))) 134 25 (oN (r (4 + 14 * i + 3) - 1))) 135 0 (up r (4 + 14 * i + 3) (r (4 + 14 * i + 3) - 1)) := fun q hq => by
          rw [wr_n (by omega)]; exact d2 q hq
        obtain ⟨κ3, s3, e3, v3, M3, N3, y1, y2, y3, y4, y5⟩ := p_semi p2 hV hM ((fr_wr (l := [(135, 135, 0), (134, 134, 26)]) rfl (by rfl)).tr (fr_wr rfl (by rfl)))
        have hd : M3 11 i = oN (r (4 + 14 * i + 3)) := (y4.2.2.2.2.2 i hi).2.2.2.2.2.2.1
        have hse2 := p2.2.1.2.2.2.2.2.2.2.2.2.1 (by omega)
        rw [c_semi p2 c y1, bn2_s, if_neg (show ¬ (1 : Int32) = 0 by decide), chk_t (iin20 p2.2.2.1 hi), if_pos (show (0 : Int32) = 0 from rfl), chk_t (iin20 p2.2.2.1 hi), oI20 p2.2.2.1 hi, hd, oN_pm z, bm_s, d1, bn2_s, bm_s, m_349, y2]
        exact Or.inl ⟨κ3, s3, e3, v3, _, _, N3, rfl, rfl, y5 (wr M3 11 i (oN (r (4 + 14 * i + 3) - 1))) (fr_wr rfl (by rfl)) (y4.drop p2.2.2.1 hi rfl), by omega⟩
    · have cc : ¬ oN κ2 = 3 := fun q => c ((oN_inj (b := 3) (by omega) (by omega)).mp q)
      rw [if_neg cc]
      have fin : ∀ t : Int32, CR (bn2 (f_I_readsSemicolon M2) fun r67 M67 => if r67 = 0 then some (0, M67) else chk (iin (oN i) 20) (if (0 : Int32) = 0 then chk (iin (oN i) 20) (bm (wr M67 11 (ix (oN i)) (M67 11 (ix (oN i)) + -1)) fun M95 => some (1, M95)) else chk (iin (oN i) 20) (bm (wr M67 11 (ix (oN i)) (M67 11 (ix (oN i)) + 1)) fun M95 => some (1, M95)))) (bn2 (f_M_ends t N2) fun r133 M133 => if r133 = 0 then f_M_command_349 M133 else bn2 (f_M_drops (oN i) (-1) M133) fun r143 M143 => bm (wr M143 134 25 r143) fun M146 => f_M_command_349 M146) tx len s 0 := by
        intro t
        obtain ⟨X1, Y1, y1, y2, f⟩ := p_noend p2 c t
        rw [y1, bn2_s, if_pos rfl, y2, bn2_s, if_pos rfl, w_349 f.1]
        exact Or.inr ⟨X1, Y1, rfl, rfl, f⟩
      by_cases z : oN (r (4 + 14 * i + 3)) ≤ 0
      · rw [if_pos z]; exact fin 0
      · rw [if_neg z]; exact fin 1
  · rw [b1, bn2_s, if_pos rfl, b2, bn2_s, if_neg (by rw [f.1]; decide), w_ends f.1, bn2_s, if_pos rfl, w_349 f.1]
    exact Or.inr ⟨M2, N2, rfl, rfl, f⟩
/-- back -/
theorem p_back (h : PX M N tx len κ s e v r) (hse : s < e) : CR (f_I_readsBack M) (bn (f_M_go N) fun M252 => if M252 135 (ix (0 : Int32)) ≤ 0 then f_M_command_270 0 M252 else f_M_command_270 1 M252) tx len s 0 := by
  obtain ⟨κ1, s1, e1, v1, M1, N1, a1, a2, p1, hs1⟩ := p_adv h
  have hv := p1.2.2.1.1
  have hκ := p1.2.1.2.2.2.2.2.2.2.2.1
  unfold f_I_readsBack f_I_readsBack_35 f_M_command_270
  rw [a1, bn_s, a2, bn_s, p1.2.1.1, p1.2.2.2.1.1, show ix (0 : Int32) = 0 from rfl, m_at p1.2.2.2.2.1 (by decide)]
  by_cases c : κ1 = 3
  · rw [if_pos (show oN κ1 = 3 by rw [c]; rfl)]
    by_cases z : r 0 = 0
    · obtain ⟨X1, Y1, y1, y2, f⟩ := p_ends6 p1 c
      rw [z, if_pos (show oN 0 = 0 from rfl), if_pos (show oN 0 ≤ 0 by decide), y1, bn2_s, chk_t (by decide), y2, bn2_s, if_pos rfl, w_349 f.1]
      exact Or.inr ⟨X1, Y1, rfl, rfl, f⟩
    · have hle : ¬ oN (r 0) ≤ 0 := by rw [show (0 : Int32) = oN 0 from rfl, oN_le (by omega) (by omega)]; omega
      obtain ⟨N2, d1, d2⟩ := m_removes p1.2.2.1 p1.2.2.2.2.1 z
      have hV := p1.2.2.1.rem (lv := fun _ => 0) z
      have hM : MS (wr N2 134 25 (oN (r 0 - 1))) 135 0 (ov r (r 0 - 1) (r 0 - 1) fun _ => 0) := fun q hq => by
        rw [wr_n (by omega)]; exact d2 q hq
      obtain ⟨κ3, s3, e3, v3, M3, N3, y1, y2, y3, y4, y5⟩ := p_semi p1 hV hM (((fr_M_removes d1).up (by rfl)).tr (fr_wr rfl (by rfl)))
      have hse2 := p1.2.1.2.2.2.2.2.2.2.2.2.1 (by omega)
      rw [if_neg (fun q => z ((oN0 (by omega)).mp q)), if_neg hle, p_ends p1 c (by decide), bn2_s, if_neg (show ¬ (1 : Int32) = 0 by decide), d1, bn2_s, bm_s, m_349, c_semi p1 c y1, bn2_s, if_neg (show ¬ (1 : Int32) = 0 by decide), y4.1, oN_P z, bm_s, y2]
      exact Or.inl ⟨κ3, s3, e3, v3, _, _, N3, rfl, rfl, y5 (wr M3 4 9 (oN (r 0 - 1))) (fr_wr rfl (by rfl)) (y4.rem p1.2.2.1 z), by omega⟩
  · have cc : ¬ oN κ1 = 3 := fun q => c ((oN_inj (b := 3) (by omega) (by omega)).mp q)
    rw [if_neg cc]
    have fin : ∀ t : Int32, CR (bn2 (f_I_readsSemicolon M1) fun r36 M36 => if r36 = 0 then some (0, M36) else bm (wr M36 4 9 (M36 4 9 - 1)) fun M54 => some (1, M54)) (bn2 (f_M_ends t N1) fun r270 M270 => if r270 = 0 then f_M_command_349 M270 else bn2 (f_M_removes M270) fun r278 M278 => bm (wr M278 134 25 r278) fun M281 => f_M_command_349 M281) tx len s 0 := by
      intro t
      obtain ⟨X1, Y1, y1, y2, f⟩ := p_noend p1 c t
      rw [y1, bn2_s, if_pos rfl, y2, bn2_s, if_pos rfl, w_349 f.1]
      exact Or.inr ⟨X1, Y1, rfl, rfl, f⟩
    by_cases z : oN (r 0) ≤ 0
    · rw [if_pos z]; exact fin 0
    · rw [if_neg z]; exact fin 1
end CMS
