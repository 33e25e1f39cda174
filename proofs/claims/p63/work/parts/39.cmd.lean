/-! the commands -/
theorem neM1 {n : Nat} (h : n < 2147483648) : ¬ oN n = -1 := fun q => by
  have := congrArg Int32.toInt q
  rw [oN_int h] at this
  have e1 : (-1 : Int32).toInt = -1 := by decide
  omega
def wL : Nat → List Nat
  | 0 => [115, 117, 114, 118, 101, 121]
  | 1 => [108, 101, 103]
  | 2 => [100, 114, 111, 112, 112, 101, 100]
  | 3 => [114, 105, 115, 101]
  | 4 => [97, 116]
  | 5 => [98, 111, 103]
  | 6 => [100, 114, 111, 112]
  | 7 => [102, 111, 117, 110, 100]
  | 8 => [119, 101, 97, 114]
  | 9 => [112, 97, 99, 101]
  | 10 => [97, 100, 106, 117, 115, 116]
  | 11 => [114, 97, 119]
  | 12 => [98, 97, 99, 107]
  | _ => []
def wC : List Nat := [1, 2, 3, 4, 5, 6, 7, 8, 9, 10, 11, 12, 13]
def wM : List Nat := [30, 31, 32, 33, 34, 35, 36, 37, 38, 39, 41, 42, 40]
theorem w_all : ∀ k, k < 13 → stB (wC.getD k 0) = (wL k).map oN ∧ stB (wM.getD k 0) = (wL k).map oN ∧ (∀ c ∈ wL k, c < 128) ∧ (wL k).length < 900 := by decide +kernel
section CMD
variable {M N : Mm} {tx : Nat → Nat} {len κ s e v n : Nat} {r : Rw}
theorem p_w (k : Nat) (hk : k < 13) (h : PX M N tx len κ s e v r) : (f_L_isAt (wC.getD k 0) M = some 0 ∧ f_M_is (wM.getD k 0) N = some 0) ∨ (f_L_isAt (wC.getD k 0) M = some 1 ∧ f_M_is (wM.getD k 0) N = some 1 ∧ κ = 1 ∧ e - s = (wL k).length) := by
  obtain ⟨a, b, c, d⟩ := w_all k hk
  exact p_is h a b c d
theorem p_o (k : Nat) (hk : k < 13) {b d : Nat} (hb : b ≤ 9999) (hd : d ≤ b) (h : PX M N tx len κ s e v r) :
    (∃ x κ' s' e' v' M1 N1, x ≤ b ∧ optC (wC.getD k 0) (oN b) (oN d) M = some (oN x, M1) ∧ f_M_option (wM.getD k 0) (oN b) (oN d) N = some (oN x, N1) ∧ PX M1 N1 tx len κ' s' e' v' r ∧ s ≤ s') ∨
    (∃ M1 N1 x, optC (wC.getD k 0) (oN b) (oN d) M = some (-1, M1) ∧ f_M_option (wM.getD k 0) (oN b) (oN d) N = some (x, N1) ∧ FX M1 N1) := by
  obtain ⟨a, b', c, d'⟩ := w_all k hk
  exact p_opt hb hd h a b' c d'
/-- what a command comes to -/
def CR (fC : Option (Int32 × Mm)) (fM : Option Mm) (tx : Nat → Nat) (len s : Nat) (w0 : Nat) : Prop :=
  (∃ κ' s' e' v' r' M1 N1, fC = some (1, M1) ∧ fM = some N1 ∧ PX M1 N1 tx len κ' s' e' v' r' ∧ s < s') ∨ (∃ M1 N1, fC = some (0, M1) ∧ fM = some N1 ∧ FX M1 N1)
theorem m_349 : f_M_command_349 N = f_M_go N := by
  unfold f_M_command_349
  cases f_M_go N <;> rfl
theorem w_349 (h : N 134 24 = 1) : f_M_command_349 N = some N := by rw [m_349, w_go h]
theorem p_finC {nm : Nat} (h : PX M N tx len κ s e v r) (c : κ = 3) (hn : r 0 = n) (h20 : n < 20) (w : VV (fun q => r (4 + 14 * n + q))) (hnm : nm = pkN (fun j => r (4 + 14 * n + (8 + j))) (r (4 + 14 * n + 7))) (h6 : r (4 + 14 * n + 6) = 0) :
    ∃ κ' s' e' v' r' M1 M2 N1, f_I_readsSemicolon M = some (1, M1) ∧ f_S_addChained 4 (oN nm) (oN (r (4 + 14 * n + 0))) (oN (r (4 + 14 * n + 1))) (oN (r (4 + 14 * n + 2))) (oN (r (4 + 14 * n + 3))) (oN (r (4 + 14 * n + 4))) (oN (r (4 + 14 * n + 5))) M1 = some M2 ∧ f_M_go (wr N 135 0 (oN (n + 1))) = some N1 ∧ PX M2 N1 tx len κ' s' e' v' r' ∧ s < s' := by
  subst hn
  have hV := h.2.2.1.add (lv := fun q => r (4 + 14 * r 0 + q)) h20 w
  have hM : MS (wr N 135 0 (oN (r 0 + 1))) 135 0 (ov r (r 0 + 1) (r 0) (fun q => r (4 + 14 * r 0 + q))) := h.2.2.2.2.1.ovr h20 (wr_s _ _ _ _) (fun q hq => by rw [wr_n (by omega)]; exact m_at h.2.2.2.2.1 (by omega)) (fun k hk _ => wr_n (by omega))
  obtain ⟨κ', s', e', v', M1, N1, a1, a2, a3, a4, a5⟩ := p_semi h hV hM (fr_wr rfl (by rfl))
  obtain ⟨M2, b1, b2⟩ := c_addC (M := M1) (nm := nm) h.2.2.1 a4 h20 w hnm h6
  have hse := h.2.1.2.2.2.2.2.2.2.2.2.1 (by omega)
  exact ⟨κ', s', e', v', _, M1, M2, N1, c_semi h c a1, b1, a2, a5 M2 ((fr_S_addChained b1).up (by rfl)) b2, by omega⟩
theorem p_finB {nm : Nat} (h : PX M N tx len κ s e v r) (c : κ = 3) (hn : r 0 = n) (h20 : n < 20) (w : VV (fun q => r (4 + 14 * n + q))) (hnm : nm = pkN (fun j => r (4 + 14 * n + (8 + j))) (r (4 + 14 * n + 7))) (h6 : r (4 + 14 * n + 6) ≠ 0) :
    ∃ κ' s' e' v' r' M1 M2 N1, f_I_readsSemicolon M = some (1, M1) ∧ f_S_addPaced 4 (oN nm) (oN (r (4 + 14 * n + 0))) (oN (r (4 + 14 * n + 6))) M1 = some M2 ∧ f_M_go (wr N 135 0 (oN (n + 1))) = some N1 ∧ PX M2 N1 tx len κ' s' e' v' r' ∧ s < s' := by
  subst hn
  have hV := h.2.2.1.add (lv := fun q => r (4 + 14 * r 0 + q)) h20 w
  have hM : MS (wr N 135 0 (oN (r 0 + 1))) 135 0 (ov r (r 0 + 1) (r 0) (fun q => r (4 + 14 * r 0 + q))) := h.2.2.2.2.1.ovr h20 (wr_s _ _ _ _) (fun q hq => by rw [wr_n (by omega)]; exact m_at h.2.2.2.2.1 (by omega)) (fun k hk _ => wr_n (by omega))
  obtain ⟨κ', s', e', v', M1, N1, a1, a2, a3, a4, a5⟩ := p_semi h hV hM (fr_wr rfl (by rfl))
  obtain ⟨M2, b1, b2⟩ := c_addB (M := M1) (nm := nm) h.2.2.1 a4 h20 w hnm h6
  have hse := h.2.1.2.2.2.2.2.2.2.2.2.1 (by omega)
  exact ⟨κ', s', e', v', _, M1, M2, N1, c_semi h c a1, b1, a2, a5 M2 ((fr_S_addPaced b1).up (by rfl)) b2, by omega⟩
/-- the name laid, as a row -/
def rwN (r : Rw) (n nl : Nat) (wd : Nat → Nat) : Rw := fun j => if j = 4 + 14 * n + 7 then nl else if 4 + 14 * n + 8 ≤ j ∧ j < 4 + 14 * n + 8 + nl then wd (j - (4 + 14 * n + 8)) else r j
theorem p_lay {nl : Nat} {wd : Nat → Nat} (h : PX M N tx len κ s e v r) (hn : r 0 = n) (h20 : n < 20) (hnl : nl ≤ 6) (h19 : N 134 19 = oN nl) (h147 : ∀ j, j < nl → N 147 j = oN (wd j)) :
    ∃ N1, f_M_layName N = some N1 ∧ PX M N1 tx len κ s e v (rwN r n nl wd) ∧ rwN r n nl wd 0 = n := by
  have h0 : N 135 0 = oN n := by rw [m_at h.2.2.2.2.1 (by decide), hn]
  obtain ⟨N1, e1, l7, l8, lo⟩ := m_lay (N := N) (wd := wd) h20 hnl h0 h19 h147
  have r0 : rwN r n nl wd 0 = n := by
    unfold rwN
    rw [if_neg (by omega), if_neg (by omega)]; exact hn
  refine ⟨N1, e1, h.low ?_ ((fr_M_layName e1).up (by rfl)) (fun j hj => ?_), r0⟩
  · intro k hk
    rw [Nat.zero_add]
    unfold rwN
    by_cases c1 : k = 4 + 14 * n + 7
    · rw [if_pos c1, c1]; exact l7
    · rw [if_neg c1]
      by_cases c2 : 4 + 14 * n + 8 ≤ k ∧ k < 4 + 14 * n + 8 + nl
      · rw [if_pos c2]
        have := l8 (k - (4 + 14 * n + 8)) (by omega)
        rw [show 4 + 14 * n + (8 + (k - (4 + 14 * n + 8))) = k by omega] at this
        exact this
      · rw [if_neg c2, lo _ _ (by omega)]
        exact m_at h.2.2.2.2.1 hk
  · unfold rwN
    rw [if_neg (by omega), if_neg (by omega)]
theorem rwN_7 {nl : Nat} {wd : Nat → Nat} : rwN r n nl wd (4 + 14 * n + 7) = nl := if_pos rfl
theorem rwN_8 {nl j : Nat} {wd : Nat → Nat} (hj : j < nl) : rwN r n nl wd (4 + 14 * n + (8 + j)) = wd j := by
  unfold rwN
  rw [if_neg (by omega), if_pos (by omega), show 4 + 14 * n + (8 + j) - (4 + 14 * n + 8) = j by omega]
theorem p_chained (h : PX M N tx len κ s e v r) (hse : s < e) : CR (f_I_readsChained M) (bn (f_M_legTold 0 N) fun M11 => f_M_command_349 M11) tx len s 0 := by
  have K : ∀ {M1 N1 : Mm} {fC : Option (Int32 × Mm)} {fM : Option Mm}, fC = some (0, M1) → fM = some N1 → FX M1 N1 → CR fC (bn fM fun M11 => f_M_command_349 M11) tx len s 0 := by
    intro M1 N1 fC fM a b f
    refine Or.inr ⟨M1, N1, a, ?_, f⟩
    rw [b, bn_s, w_349 f.1]
  unfold f_I_readsChained f_I_readsChained_28 f_I_readsChained_29 f_I_readsChained_46
  have bad63 : ∀ (a b : Int32) (X : Mm), f_I_readsChained_63 a b (-1) (-1) X = some (0, X) := by
    intro a b X; unfold f_I_readsChained_63; rw [if_pos rfl]
  have bad63' : ∀ (a b c : Int32) (X : Mm), f_I_readsChained_63 a b c (-1) X = some (0, X) := by
    intro a b c X; unfold f_I_readsChained_63; rw [if_pos rfl]
  rcases p_new 0 h with ⟨nl, wd, κ1, s1, e1, v1, Na, M1, N1, h20, hn1, hn6, hw, c1, m1, za, ga, px, k19, k147, hs1⟩ | ⟨M1, N1, c1, m1, f⟩
  rotate_left
  · rw [c1, bn2_s, if_pos rfl, if_pos rfl, if_pos rfl]
    exact K (bad63 _ _ _) m1 f
  have hx : pkN wd nl < 1073741824 := Nat.lt_of_lt_of_le (pkN_lt _ hw) (p32_le hn6)
  rw [c1, bn2_s, if_neg (neM1 (by omega)), m1]
  unfold f_M_legTold_50
  have hz1 : N1 134 24 = 0 := px.2.2.2.2.2.1
  obtain ⟨N2, a1, p2, r2⟩ := p_lay (wd := wd) px rfl h20 hn6 k19 k147
  rw [p_wr0 za, bn_s, ga, bn_s, if_pos hz1, a1, bn_s, show ix (0 : Int32) = 0 from rfl, m_at p2.2.2.2.2.1 (by decide), r2]
  rcases p_bear p2 with ⟨b, κ3, s3, e3, v3, M3, N3, hb, t1, t2, t3, p3, hs3⟩ | ⟨M3, N3, x, t, t3, f⟩
  rotate_left
  · rw [t3, bn2_s]
    obtain ⟨N9, w1, w2⟩ := w_84 f.1 h20 0 x
    rcases t with t | ⟨ta, tb⟩
    · rw [t, bn2_s, if_pos rfl, if_pos rfl, if_pos rfl]
      exact K (bad63 _ _ _) w1 (f.wr w2)
    · rw [ta, bn2_s, if_neg (show ¬ (1 : Int32) = 0 by decide), tb, bn2_s, if_pos rfl, if_pos rfl]
      exact K (bad63 _ _ _) w1 (f.wr w2)
  rw [t1, bn2_s, if_neg (show ¬ (1 : Int32) = 0 by decide), t2, bn2_s, if_neg (neM1 (by omega)), t3, bn2_s]
  obtain ⟨u1, p4, r4⟩ := p3.put (q := 0) (x := 15 * b) r2 h20 (by decide)
  have u1 : f_M_put (oN (r 0)) 0 (oN (15 * b)) N3 = _ := u1
  rw [u1, bn_s, if_pos rfl]
  have hnum := p_number (a := 0) (b := 99) (by decide) (by decide) p4
  rw [show (oN 0 : Int32) = 0 from rfl, show (oN 99 : Int32) = 99 from rfl] at hnum
  rcases hnum with ⟨pp, κ5, s5, e5, v5, M5, N5, -, hp, g1, g2, p5, hs5, -, -⟩ | ⟨M5, N5, g1, g2, f, -⟩
  rotate_left
  · rw [g1, bn2_s, if_pos rfl, g2, bn2_s]
    obtain ⟨N9, w1, w2⟩ := w_105 f.1 h20 0 0
    exact K (bad63' _ _ _ _) w1 (f.wr w2)
  rw [g1, bn2_s, if_neg (neM1 (by omega)), g2, bn2_s]
  unfold f_M_legTold_105
  obtain ⟨u2, p6, r6⟩ := p5.put (q := 1) (x := pp) r4 h20 (by decide)
  have u2 : f_M_put (oN (r 0)) 1 (oN pp) N5 = _ := u2
  rw [u2, bn_s, if_pos rfl]
  have hnum := p_number (a := 0) (b := 99) (by decide) (by decide) p6
  rw [show (oN 0 : Int32) = 0 from rfl, show (oN 99 : Int32) = 99 from rfl] at hnum
  rcases hnum with ⟨kk, κ7, s7, e7, v7, M7, N7, -, hk, g1, g2, p7, hs7, -, -⟩ | ⟨M7, N7, g1, g2, f, -⟩
  rotate_left
  · rw [g1, bn2_s, g2, bn2_s]
    obtain ⟨N9, w1, w2⟩ := w_126 f.1 h20 0 0
    exact K (bad63' _ _ _ _) w1 (f.wr w2)
  rw [g1, bn2_s, g2, bn2_s]
  unfold f_M_legTold_126 f_I_readsChained_63
  obtain ⟨u3, p8, r8⟩ := p7.put (q := 2) (x := kk) r6 h20 (by decide)
  have u3 : f_M_put (oN (r 0)) 2 (oN kk) N7 = _ := u3
  rw [u3, bn_s, if_pos rfl, if_neg (neM1 (by omega))]
  unfold f_M_legTold_149
  obtain ⟨u4, p9, r9⟩ := p8.put (q := 6) (x := 0) r8 h20 (by decide)
  have u4 : f_M_put (oN (r 0)) 6 0 _ = _ := u4
  rw [u4, bn_s, if_pos rfl]
  -- dropped
  rw [optC_K (K := fun r' M' => f_I_readsChained_93 (oN (pkN wd nl)) (oN (15 * b)) (oN pp) (oN kk) r' M')]
  rcases p_o 2 (by decide) (b := 9) (d := 0) (by decide) (by decide) p9 with ⟨dd, κ10, s10, e10, v10, M10, N10, hd, g1, g2, p10, hs10⟩ | ⟨M10, N10, x, g1, g2, f⟩
  rotate_left
  · have g1 : optC 3 9 0 M7 = some (-1, M10) := g1
    have g2 : f_M_option 32 9 0 _ = some (x, N10) := g2
    rw [g1, bn2_s, g2, bn2_s]
    obtain ⟨N11, w1, w2⟩ := w_172 f.1 h20 0 x
    unfold f_I_readsChained_93
    rw [if_pos rfl]
    exact K rfl w1 (f.wr w2)
  have g1 : optC 3 9 0 M7 = some (oN dd, M10) := g1
  have g2 : f_M_option 32 9 0 _ = some (oN dd, N10) := g2
  rw [g1, bn2_s, g2, bn2_s]
  unfold f_M_legTold_172 f_I_readsChained_93
  obtain ⟨u5, p11, r11⟩ := p10.put (q := 3) (x := dd) r9 h20 (by decide)
  have u5 : f_M_put (oN (r 0)) 3 (oN dd) N10 = _ := u5
  rw [u5, bn_s, if_pos rfl, if_neg (neM1 (by omega))]
  -- rise
  rw [optC_K (K := fun r' M' => f_I_readsChained_124 (oN (pkN wd nl)) (oN (15 * b)) (oN pp) (oN kk) (oN dd) r' M')]
  rcases p_o 3 (by decide) (b := 9999) (d := 0) (by decide) (by decide) p11 with ⟨ri, κ12, s12, e12, v12, M12, N12, hri, g1, g2, p12, hs12⟩ | ⟨M12, N12, x, g1, g2, f⟩
  rotate_left
  · have g1 : optC 4 9999 0 M10 = some (-1, M12) := g1
    have g2 : f_M_option 33 9999 0 _ = some (x, N12) := g2
    rw [g1, bn2_s, g2, bn2_s]
    obtain ⟨N13, w1, w2⟩ := w_196 f.1 h20 0 x
    unfold f_I_readsChained_124
    rw [if_pos rfl]
    exact K rfl w1 (f.wr w2)
  have g1 : optC 4 9999 0 M10 = some (oN ri, M12) := g1
  have g2 : f_M_option 33 9999 0 _ = some (oN ri, N12) := g2
  rw [g1, bn2_s, g2, bn2_s]
  unfold f_M_legTold_196 f_I_readsChained_124
  obtain ⟨u6, p13, r13⟩ := p12.put (q := 4) (x := ri) r11 h20 (by decide)
  have u6 : f_M_put (oN (r 0)) 4 (oN ri) N12 = _ := u6
  rw [u6, bn_s, if_pos rfl, if_neg (neM1 (by omega))]
  -- at
  rw [optC_K (K := fun r' M' => f_I_readsChained_155 (oN (pkN wd nl)) (oN (15 * b)) (oN pp) (oN kk) (oN dd) (oN ri) r' M')]
  rcases p_o 4 (by decide) (b := 50) (d := 15) (by decide) (by decide) p13 with ⟨tt, κ14, s14, e14, v14, M14, N14, ht, g1, g2, p14, hs14⟩ | ⟨M14, N14, x, g1, g2, f⟩
  rotate_left
  · have g1 : optC 5 50 15 M12 = some (-1, M14) := g1
    have g2 : f_M_option 34 50 15 _ = some (x, N14) := g2
    rw [g1, bn2_s, g2, bn2_s]
    obtain ⟨N15, w1, w2⟩ := w_220 f.1 h20 x
    unfold f_I_readsChained_155 f_I_readsChained_170
    rw [if_pos rfl]
    exact K rfl w1 (f.wr w2)
  have g1 : optC 5 50 15 M12 = some (oN tt, M14) := g1
  have g2 : f_M_option 34 50 15 _ = some (oN tt, N14) := g2
  rw [g1, bn2_s, g2, bn2_s]
  unfold f_M_legTold_220 f_M_legTold_241 f_I_readsChained_155 f_I_readsChained_170
  obtain ⟨u7, p15, r15⟩ := p14.put (q := 5) (x := tt) r13 h20 (by decide)
  have u7 : f_M_put (oN (r 0)) 5 (oN tt) N14 = _ := u7
  rw [u7, bn_s, if_neg (neM1 (by omega))]
  by_cases cκ : κ14 = 3
  · have i0 : ∀ {R : Rw}, up (up (up (up (up (up (up R (4 + 14 * r 0 + 0) (15 * b)) (4 + 14 * r 0 + 1) pp) (4 + 14 * r 0 + 2) kk) (4 + 14 * r 0 + 6) 0) (4 + 14 * r 0 + 3) dd) (4 + 14 * r 0 + 4) ri) (4 + 14 * r 0 + 5) tt (4 + 14 * r 0 + 0) = 15 * b := by
      intro R; rw [up_n (by omega), up_n (by omega), up_n (by omega), up_n (by omega), up_n (by omega), up_n (by omega), up_s]
    have i1 : ∀ {R : Rw}, up (up (up (up (up (up (up R (4 + 14 * r 0 + 0) (15 * b)) (4 + 14 * r 0 + 1) pp) (4 + 14 * r 0 + 2) kk) (4 + 14 * r 0 + 6) 0) (4 + 14 * r 0 + 3) dd) (4 + 14 * r 0 + 4) ri) (4 + 14 * r 0 + 5) tt (4 + 14 * r 0 + 1) = pp := by
      intro R; rw [up_n (by omega), up_n (by omega), up_n (by omega), up_n (by omega), up_n (by omega), up_s]
    have i2 : ∀ {R : Rw}, up (up (up (up (up (up (up R (4 + 14 * r 0 + 0) (15 * b)) (4 + 14 * r 0 + 1) pp) (4 + 14 * r 0 + 2) kk) (4 + 14 * r 0 + 6) 0) (4 + 14 * r 0 + 3) dd) (4 + 14 * r 0 + 4) ri) (4 + 14 * r 0 + 5) tt (4 + 14 * r 0 + 2) = kk := by
      intro R; rw [up_n (by omega), up_n (by omega), up_n (by omega), up_n (by omega), up_s]
    have i6 : ∀ {R : Rw}, up (up (up (up (up (up (up R (4 + 14 * r 0 + 0) (15 * b)) (4 + 14 * r 0 + 1) pp) (4 + 14 * r 0 + 2) kk) (4 + 14 * r 0 + 6) 0) (4 + 14 * r 0 + 3) dd) (4 + 14 * r 0 + 4) ri) (4 + 14 * r 0 + 5) tt (4 + 14 * r 0 + 6) = 0 := by
      intro R; rw [up_n (by omega), up_n (by omega), up_n (by omega), up_s]
    have i3 : ∀ {R : Rw}, up (up (up (up (up (up (up R (4 + 14 * r 0 + 0) (15 * b)) (4 + 14 * r 0 + 1) pp) (4 + 14 * r 0 + 2) kk) (4 + 14 * r 0 + 6) 0) (4 + 14 * r 0 + 3) dd) (4 + 14 * r 0 + 4) ri) (4 + 14 * r 0 + 5) tt (4 + 14 * r 0 + 3) = dd := by
      intro R; rw [up_n (by omega), up_n (by omega), up_s]
    have i4 : ∀ {R : Rw}, up (up (up (up (up (up (up R (4 + 14 * r 0 + 0) (15 * b)) (4 + 14 * r 0 + 1) pp) (4 + 14 * r 0 + 2) kk) (4 + 14 * r 0 + 6) 0) (4 + 14 * r 0 + 3) dd) (4 + 14 * r 0 + 4) ri) (4 + 14 * r 0 + 5) tt (4 + 14 * r 0 + 4) = ri := by
      intro R; rw [up_n (by omega), up_s]
    have i5 : ∀ {R : Rw}, up (up (up (up (up (up (up R (4 + 14 * r 0 + 0) (15 * b)) (4 + 14 * r 0 + 1) pp) (4 + 14 * r 0 + 2) kk) (4 + 14 * r 0 + 6) 0) (4 + 14 * r 0 + 3) dd) (4 + 14 * r 0 + 4) ri) (4 + 14 * r 0 + 5) tt (4 + 14 * r 0 + 5) = tt := by
      intro R; rw [up_s]
    have i7 : ∀ q, 7 ≤ q → ∀ {R : Rw}, up (up (up (up (up (up (up R (4 + 14 * r 0 + 0) (15 * b)) (4 + 14 * r 0 + 1) pp) (4 + 14 * r 0 + 2) kk) (4 + 14 * r 0 + 6) 0) (4 + 14 * r 0 + 3) dd) (4 + 14 * r 0 + 4) ri) (4 + 14 * r 0 + 5) tt (4 + 14 * r 0 + q) = R (4 + 14 * r 0 + q) := by
      intro q hq R; rw [up_n (by omega), up_n (by omega), up_n (by omega), up_n (by omega), up_n (by omega), up_n (by omega), up_n (by omega)]
    obtain ⟨κ', s', e', v', r', X1, X2, Y1, y1, y2, y3, y4, y5⟩ := p_finC (nm := pkN wd nl) p15 cκ r15 h20 (by
      refine ⟨⟨b, hb, i0⟩, ?_, ?_, ?_, ?_, ?_, ?_, ?_, ?_, ?_, fun j hj => ?_⟩
      · show up _ _ _ _ ≤ _; rw [i1]; exact hp
      · show up _ _ _ _ ≤ _; rw [i2]; exact hk
      · show up _ _ _ _ ≤ _; rw [i3]; exact hd
      · show up _ _ _ _ ≤ _; rw [i4]; exact hri
      · show up _ _ _ _ ≤ _; rw [i5]; exact ht
      · show up _ _ _ _ ≤ _; rw [i6]; decide
      · intro z; exact absurd i6 z
      · show _ ≤ up _ _ _ _; rw [i7 7 (by decide), rwN_7]; exact hn1
      · show up _ _ _ _ ≤ _; rw [i7 7 (by decide), rwN_7]; exact hn6
      · have hj : j < up _ _ _ _ := hj
        rw [i7 7 (by decide), rwN_7] at hj
        show 97 ≤ up _ _ _ _ ∧ up _ _ _ _ ≤ 122
        rw [i7 (8 + j) (by omega), rwN_8 hj]; exact hw j hj) (by
      rw [i7 7 (by decide), rwN_7]
      refine (pk_cg _ fun j hj => ?_).symm
      show up _ _ _ _ = _
      rw [i7 (8 + j) (by omega), rwN_8 hj]) i6
    rw [i0, i1, i2, i3, i4, i5] at y2
    have he := p_ends p15 cκ (x := 1) (by decide)
    rw [y1, bn2_s, if_neg (show ¬ (1 : Int32) = 0 by decide), y2, bn_s, he, bn2_s, if_neg (show ¬ (1 : Int32) = 0 by decide), show ix (0 : Int32) = 0 from rfl, m_at p15.2.2.2.2.1 (by decide), r15, oN_S, bm_s, bn_s, m_349, y3]
    exact Or.inl ⟨κ', s', e', v', r', X2, Y1, rfl, rfl, y4, by omega⟩
  · obtain ⟨X1, Y1, y1, y2, f⟩ := p_noend p15 cκ 1
    rw [y1, bn2_s, if_pos rfl, y2, bn2_s, if_pos rfl]
    exact K rfl rfl f
end CMD
