/-! legs that are told -/
section TEL
variable {M N : Mm} {tx : Nat → Nat} {len κ s e v n : Nat} {r : Rw}
theorem V.low {r' : Rw} (w : V r) (h : ∀ j, j < 4 + 14 * r 0 → r' j = r j) : V r' := by
  obtain ⟨h0, h1, h2, h3, h4, h5⟩ := w
  refine ⟨?_, ?_, ?_, ?_, ?_, fun j hj => ?_⟩
  · rw [h 0 (by omega)]; exact h0
  · rw [h 1 (by omega)]; exact h1
  · rw [h 2 (by omega)]; exact h2
  · rw [h 2 (by omega)]; exact h3
  · rw [h 3 (by omega)]; exact h4
  · rw [h 0 (by omega)] at hj
    exact (h5 j hj).cg (fun k hk => h _ (by omega))
theorem CS.low {a : Nat} {r' : Rw} (w : V r) (c : CS M a r) (h : ∀ j, j < 4 + 14 * r 0 → r' j = r j) : CS M a r' := by
  obtain ⟨h0, h1, h2, h3, h4, h5⟩ := c
  refine ⟨?_, ?_, ?_, ?_, h4, fun j hj => ?_⟩
  · rw [h 0 (by omega)]; exact h0
  · rw [h 1 (by omega)]; exact h1
  · rw [h 2 (by omega)]; exact h2
  · rw [h 3 (by omega)]; exact h3
  · rw [h 0 (by omega)] at hj
    exact (h5 j hj).cg (w.2.2.2.2.2 j hj) (fun k hk => h _ (by omega)) (fun q hq => rfl)
/-- the model's next leg is written on -/
theorem PX.low {N' : Mm} {r' : Rw} (h : PX M N tx len κ s e v r) (m : MS N' 135 0 r') (f : Fr [(135, 135, 0)] N N') (hr : ∀ j, j < 4 + 14 * r 0 → r' j = r j) : PX M N' tx len κ s e v r' := by
  obtain ⟨t, l, w, c, _, z, e1, e2, e3, e4⟩ := h
  exact ⟨t.ag (Ag.rf _ _) (Ag.of f (by rfl)), l.ag (Ag.rf _ _) (Ag.of f (by rfl)), w.low hr, c.low w hr, m, (f _ _ (by rfl)).trans z, e1, (f _ _ (by rfl)).trans e2, e3, (f _ _ (by rfl)).trans e4⟩
theorem PX.put {q x : Nat} (h : PX M N tx len κ s e v r) (hn : r 0 = n) (h20 : n < 20) (hq : q < 14) : f_M_put (oN n) (oN q) (oN x) N = some (wr N 135 (4 + 14 * n + q) (oN x)) ∧ PX M (wr N 135 (4 + 14 * n + q) (oN x)) tx len κ s e v (up r (4 + 14 * n + q) x) ∧ up r (4 + 14 * n + q) x 0 = n :=
  ⟨m_put h20 hq, h.low (h.2.2.2.2.1.up rfl) (fr_wr rfl (by rfl)) (fun j hj => up_n (by omega)), by rw [up_n (by omega)]; exact hn⟩
/-- the two rows may change together -/
theorem PX.chg {M2 N0 : Mm} {r' : Rw} (h : PX M N tx len κ s e v r) (f : Fr [(4, 13, 0)] M M2) (c : CS M2 4 r') (w : V r') (m : MS N0 135 0 r') (g : Fr [(135, 135, 0), (134, 134, 26)] N N0) : PX M2 N0 tx len κ s e v r' := by
  obtain ⟨t, l, _, _, _, z, e1, e2, e3, e4⟩ := h
  exact ⟨t.ag (Ag.of f (by rfl)) (Ag.of g (by rfl)), l.ag (Ag.of f (by rfl)) (Ag.of g (by rfl)), w, c, m, (g _ _ (by rfl)).trans z, (f _ _ (by rfl)).trans e1, (g _ _ (by rfl)).trans e2, (f _ _ (by rfl)).trans e3, (g _ _ (by rfl)).trans e4⟩
/-! under an error the model goes on to the end -/
theorem w_put {q : Nat} {x : Int32} (h : N 134 24 = 1) (h20 : n < 20) (hq : q < 14) : f_M_put (oN n) (oN q) x N = some (wr N 135 (4 + 14 * n + q) x) ∧ (wr N 135 (4 + 14 * n + q) x) 134 24 = 1 ∧ WR N (wr N 135 (4 + 14 * n + q) x) :=
  ⟨m_put h20 hq, by rw [wr_n (by omega)]; exact h, WR.of h (fr_wr (l := [(135, 135, 0)]) rfl (by rfl)) (by rfl)⟩
theorem w_opt {w : Nat} {b d : Int32} (h : N 134 24 = 1) : f_M_option w b d N = some (d, N) := by
  unfold f_M_option
  rw [w_is h, bn_s, if_pos rfl]
theorem w_220 (h : N 134 24 = 1) (h20 : n < 20) (x : Int32) : ∃ N', f_M_legTold_220 (oN n) 5 x N = some N' ∧ WR N N' := by
  obtain ⟨a, b, c⟩ := w_put (q := 5) (x := x) h h20 (by decide)
  have a : f_M_put (oN n) 5 x N = _ := a
  unfold f_M_legTold_220 f_M_legTold_241
  rw [a, bn_s, w_ends b, bn2_s, if_pos rfl]
  exact ⟨_, rfl, c⟩
theorem w_196 (h : N 134 24 = 1) (h20 : n < 20) (l x : Int32) : ∃ N', f_M_legTold_196 l (oN n) (oN n) 4 x N = some N' ∧ WR N N' := by
  obtain ⟨a, b, c⟩ := w_put (q := 4) (x := x) h h20 (by decide)
  have a : f_M_put (oN n) 4 x N = _ := a
  unfold f_M_legTold_196
  rw [a, bn_s, w_opt b, bn2_s]
  split
  · obtain ⟨N', e1, e2⟩ := w_220 b h20 15
    exact ⟨N', e1, c.tr e2⟩
  · obtain ⟨N', e1, e2⟩ := w_220 b h20 0
    exact ⟨N', e1, c.tr e2⟩
theorem w_172 (h : N 134 24 = 1) (h20 : n < 20) (l x : Int32) : ∃ N', f_M_legTold_172 l (oN n) (oN n) 3 x N = some N' ∧ WR N N' := by
  obtain ⟨a, b, c⟩ := w_put (q := 3) (x := x) h h20 (by decide)
  have a : f_M_put (oN n) 3 x N = _ := a
  unfold f_M_legTold_172
  rw [a, bn_s, w_opt b, bn2_s]
  split
  · obtain ⟨N', e1, e2⟩ := w_196 b h20 l 0
    exact ⟨N', e1, c.tr e2⟩
  · obtain ⟨N', e1, e2⟩ := w_196 b h20 l 0
    exact ⟨N', e1, c.tr e2⟩
theorem w_149 (h : N 134 24 = 1) (h20 : n < 20) (l x : Int32) : ∃ N', f_M_legTold_149 l (oN n) (oN n) 6 x N = some N' ∧ WR N N' := by
  obtain ⟨a, b, c⟩ := w_put (q := 6) (x := x) h h20 (by decide)
  have a : f_M_put (oN n) 6 x N = _ := a
  unfold f_M_legTold_149
  rw [a, bn_s, w_opt b, bn2_s]
  split
  · obtain ⟨N', e1, e2⟩ := w_172 b h20 l 0
    exact ⟨N', e1, c.tr e2⟩
  · obtain ⟨N', e1, e2⟩ := w_172 b h20 l 0
    exact ⟨N', e1, c.tr e2⟩
theorem w_126 (h : N 134 24 = 1) (h20 : n < 20) (l x : Int32) : ∃ N', f_M_legTold_126 l (oN n) (oN n) 2 x N = some N' ∧ WR N N' := by
  obtain ⟨a, b, c⟩ := w_put (q := 2) (x := x) h h20 (by decide)
  have a : f_M_put (oN n) 2 x N = _ := a
  unfold f_M_legTold_126
  rw [a, bn_s, w_number b, bn2_s]
  split
  · obtain ⟨N', e1, e2⟩ := w_149 b h20 l 0
    exact ⟨N', e1, c.tr e2⟩
  · obtain ⟨N', e1, e2⟩ := w_149 b h20 l 1
    exact ⟨N', e1, c.tr e2⟩
theorem w_105 (h : N 134 24 = 1) (h20 : n < 20) (l x : Int32) : ∃ N', f_M_legTold_105 l (oN n) (oN n) 1 x N = some N' ∧ WR N N' := by
  obtain ⟨a, b, c⟩ := w_put (q := 1) (x := x) h h20 (by decide)
  have a : f_M_put (oN n) 1 x N = _ := a
  unfold f_M_legTold_105
  rw [a, bn_s, w_number b, bn2_s]
  split
  · obtain ⟨N', e1, e2⟩ := w_126 b h20 l 0
    exact ⟨N', e1, c.tr e2⟩
  · obtain ⟨N', e1, e2⟩ := w_126 b h20 l 0
    exact ⟨N', e1, c.tr e2⟩
/-- behind the bearing -/
theorem w_84 (h : N 134 24 = 1) (h20 : n < 20) (l x : Int32) : ∃ N', (bn (f_M_put (oN n) 0 x N) fun M84 => if l = 0 then bn2 (f_M_number 0 99 M84) fun r102 M102 => f_M_legTold_105 l (oN n) (oN n) 1 r102 M102 else f_M_legTold_105 l (oN n) (oN n) 1 0 M84) = some N' ∧ WR N N' := by
  obtain ⟨a, b, c⟩ := w_put (q := 0) (x := x) h h20 (by decide)
  have a : f_M_put (oN n) 0 x N = _ := a
  rw [a, bn_s, w_number b, bn2_s]
  split
  · obtain ⟨N', e1, e2⟩ := w_105 b h20 l 0
    exact ⟨N', e1, c.tr e2⟩
  · obtain ⟨N', e1, e2⟩ := w_105 b h20 l 0
    exact ⟨N', e1, c.tr e2⟩
/-! the name of a new leg -/
theorem p_new (l : Int32) (h : PX M N tx len κ s e v r) :
    (∃ nl wd κ' s' e' v' Na M1 N1, r 0 < 20 ∧ 1 ≤ nl ∧ nl ≤ 6 ∧ (∀ j, j < nl → 97 ≤ wd j ∧ wd j ≤ 122) ∧ f_I_newName M = some (oN (pkN wd nl), M1) ∧ f_M_legTold l N = f_M_legTold_50 l 0 Na ∧ Na 134 24 = 0 ∧ f_M_go Na = some N1 ∧ PX M1 N1 tx len κ' s' e' v' r ∧ N1 134 19 = oN nl ∧ (∀ j, j < nl → N1 147 j = oN (wd j)) ∧ e ≤ s') ∨
    (∃ M1 N1, f_I_newName M = some (-1, M1) ∧ f_M_legTold l N = some N1 ∧ FX M1 N1) := by
  have hv := h.2.2.1.1
  have hz : N 134 24 = 0 := h.2.2.2.2.2.1
  unfold f_I_newName f_I_newName_57 f_I_newName_69 f_M_legTold
  rw [h.2.2.2.1.1, show ix (0 : Int32) = 0 from rfl, m_at h.2.2.2.2.1 (by decide)]
  by_cases c : r 0 < 20
  · rw [if_pos (show oN (r 0) < 20 from (oN_lt (b := 20) (by omega) (by omega)).mpr c), if_neg (show ¬ oN (r 0) = 20 from fun q => by have := (oN_inj (b := 20) (by omega) (by omega)).mp q; omega)]
    obtain ⟨κ1, s1, e1, v1, M1, N1, a1, a2, a3, a4⟩ := p_adv h
    unfold f_M_legTold_17
    rw [a1, bn_s, p_wr0 hz, bn_s, a2, bn_s]
    rcases p_name a3 with ⟨N2, h1, h6, hl, b1, b2, p, k1, k2, hκ⟩ | ⟨M2, N2, b1, b2, f⟩
    · have hx : pkN (fun j => tx (s1 + j)) (e1 - s1) < 1073741824 := Nat.lt_of_lt_of_le (pkN_lt _ hl) (p32_le h6)
      have hne : ¬ oN (pkN (fun j => tx (s1 + j)) (e1 - s1)) = -1 := fun q => by
        have := congrArg Int32.toInt q
        rw [oN_int (by omega)] at this
        have e1 : (-1 : Int32).toInt = -1 := by decide
        omega
      obtain ⟨x, x1, x2⟩ := m_named p.2.2.2.2.1 p.2.2.1 k1 h6 k2 (fun j hj => by have := hl j hj; omega)
      obtain ⟨y, y1, y2⟩ := c_named p.2.2.2.1 p.2.2.1 hx
      have hxy : y = x := (y2.cg (fun i hi => nm_iff p.2.2.1 hi hl)).eq x2
      subst hxy
      have hz2 : N2 134 24 = 0 := p.2.2.2.2.2.1
      rw [b1, bn2_s, if_neg hne, y1, bn_s, b2, bn_s, if_pos hz2, x1, bn_s]
      unfold f_M_legTold_49
      by_cases z : y = -1
      · obtain ⟨κ2, s2, e2, v2, M3, N3, d1, d2, d3, d4⟩ := p_adv p
        have f3 : Fr [(134, 134, 21), (134, 134, 22), (134, 134, 23), (134, 134, 24)] N2 N3 := by
          have := (p_go hz2).symm.trans d2
          exact (fr_M_next this).up (by rfl)
        rw [if_pos z, if_neg hne, if_pos z, d1, bn_s]
        refine Or.inl ⟨e1 - s1, fun j => tx (s1 + j), κ2, s2, e2, v2, N2, M3, N3, c, h1, h6, hl, rfl, rfl, hz2, d2, d3, (f3 134 19 (by rfl)).trans k1, fun j hj => (f3 147 j (by rfl)).trans (k2 j hj), by omega⟩
      · obtain ⟨M3, N3, f1, f2, f3, f4⟩ := p_fail (c := 4) p (by decide)
        rw [if_neg z, f1, bn2_s, if_neg z]
        unfold f_M_legTold_50
        rw [f2 1 (by decide), bn_s, w_go f3.1, bn_s, if_neg (by rw [f3.1]; decide)]
        exact Or.inr ⟨M3, N3, rfl, rfl, f3⟩
    · rw [b1, bn2_s, if_pos rfl, if_pos rfl, b2, bn_s, if_neg (by rw [f.1]; decide)]
      unfold f_M_legTold_49 f_M_legTold_50
      rw [w_wr f.1, bn_s, w_go f.1, bn_s, if_neg (by rw [f.1]; decide)]
      exact Or.inr ⟨M2, N2, rfl, rfl, f⟩
  · obtain ⟨M1, N1, f1, f2, f3, f4⟩ := p_fail (c := 5) h (by decide)
    rw [if_neg (show ¬ oN (r 0) < 20 from fun q => c ((oN_lt (b := 20) (by omega) (by omega)).mp q)), if_pos (show oN (r 0) = 20 from by rw [show r 0 = 20 by omega]; rfl), f1, bn2_s]
    unfold f_M_legTold_17 f_M_legTold_49 f_M_legTold_50
    rw [f2 1 (by decide), bn_s, w_go f3.1, bn_s, w_name f3.1, bn_s, if_neg (by rw [f3.1]; decide), w_wr f3.1, bn_s, w_go f3.1, bn_s, if_neg (by rw [f3.1]; decide)]
    exact Or.inr ⟨M1, N1, rfl, rfl, f3⟩
/-! the bearing -/
theorem p_bear (h : PX M N tx len κ s e v r) :
    (∃ b κ' s' e' v' M1 N1, b < 24 ∧ f_I_mayTurnHere M = some (1, M) ∧ f_I_numberHere 0 345 M = some (oN (15 * b), M1) ∧ f_M_bearingHere N = some (oN (15 * b), N1) ∧ PX M1 N1 tx len κ' s' e' v' r ∧ s ≤ s') ∨
    (∃ M1 N1 x, (f_I_mayTurnHere M = some (0, M1) ∨ (f_I_mayTurnHere M = some (1, M) ∧ f_I_numberHere 0 345 M = some (-1, M1))) ∧ f_M_bearingHere N = some (x, N1) ∧ FX M1 N1) := by
  obtain ⟨q1, q2, q3, q4, q5, q6, q7, q8, q9, q10, q11, q12, q13⟩ := h.2.1
  have hz : N 134 24 = 0 := h.2.2.2.2.2.1
  have hnum := p_number (a := 0) (b := 345) (by decide) (by decide) h
  have e0 : (oN 0 : Int32) = 0 := rfl
  have e345 : (oN 345 : Int32) = 345 := rfl
  rw [e0, e345] at hnum
  unfold f_I_mayTurnHere f_I_mayTurnHere_32 f_I_mayTurnHere_37 f_M_bearingHere f_M_bearingHere_23
  rw [q1, q2]
  by_cases c : κ = 2
  · subst c
    obtain ⟨v1, v2, v3⟩ := q13 rfl
    have e15 : oN v - oN v / 15 * 15 = oN (v % 15) := rem_oN (a := v) (b := 15) (by omega) (by decide)
    rw [if_pos (show oN 2 = 2 from rfl), if_pos (show oN 2 = 2 from rfl), v2, v3, c_isBearing, bn_s, e15]
    by_cases z : v % 15 = 0
    · have ez : oN (v % 15) = 0 := by rw [z]; rfl
      rw [if_pos ez]
      unfold f_M_bearingHere_24
      rw [p_wr0 hz, bn_s]
      rcases hnum with ⟨x, κ', s', e', v', M1, N1, g1, g2, g3, g4, g5, g6, g7, g8⟩ | ⟨M1, N1, g1, g2, g3, g4⟩
      · have hb : 0 ≤ oN v ∧ oN v ≤ 345 := (in_n (n := 345) (by decide)).mpr ⟨v, by omega, rfl⟩
        rw [if_pos (show (0 ≤ oN v ∧ oN v ≤ 345) ∧ oN (v % 15) = 0 from ⟨hb, ez⟩), if_neg (show ¬ (1 : Int32) = 0 by decide), chk_t (by decide), g4, bn2_s]
        refine Or.inl ⟨v / 15, κ', s', e', v', M1, N1, by omega, rfl, ?_, ?_, g5, g6⟩
        · rw [g3]; congr 2; exact congrArg oN (by omega)
        · congr 2; exact congrArg oN (by omega)
      · by_cases y : 0 ≤ oN v ∧ oN v ≤ 345
        · rw [if_pos (show (0 ≤ oN v ∧ oN v ≤ 345) ∧ oN (v % 15) = 0 from ⟨y, ez⟩), if_neg (show ¬ (1 : Int32) = 0 by decide), chk_t (by decide), g2, bn2_s]
          exact Or.inr ⟨M1, N1, _, Or.inr ⟨rfl, g1⟩, rfl, g3⟩
        · obtain ⟨M2, N2, f1, f2, f3, f4⟩ := p_fail (c := 2) h (by decide)
          rw [if_neg (show ¬ ((0 ≤ oN v ∧ oN v ≤ 345) ∧ oN (v % 15) = 0) from fun q => y q.1), if_pos rfl, f1, bn2_s, if_pos rfl, chk_t (by decide), g2, bn2_s]
          refine Or.inr ⟨M2, N1, _, Or.inl rfl, rfl, ?_⟩
          -- the number was out of range in the model too: the same error
          have hm : M1 = M2 := by
            have g1' := g1
            unfold f_I_numberHere at g1'
            rw [q1, if_pos (show oN 2 = 2 from rfl), v2, c_between, bn_s, if_neg y, if_pos rfl, f1, bn2_s] at g1'
            exact (congrArg Prod.snd (Option.some.inj g1')).symm
          rw [← hm]; exact g3
    · have ez : ¬ oN (v % 15) = 0 := by rw [oN0 (by omega)]; exact z
      obtain ⟨M2, N2, f1, f2, f3, f4⟩ := p_fail (c := 2) h (by decide)
      rw [if_neg ez, if_neg (show ¬ ((0 ≤ oN v ∧ oN v ≤ 345) ∧ oN (v % 15) = 0) from fun q => ez q.2), if_pos rfl, f1, bn2_s, if_pos rfl, chk_t (by decide)]
      unfold f_M_bearingHere_24
      rw [f2 1 (by decide), bn_s, w_number f3.1, bn2_s]
      exact Or.inr ⟨M2, N2, _, Or.inl rfl, rfl, f3⟩
  · have cc : ¬ oN κ = 2 := fun q => c ((oN_inj (b := 2) (by omega) (by omega)).mp q)
    rw [if_neg cc, if_neg cc, chk_t (by decide)]
    unfold f_M_bearingHere_24
    rw [p_wr0 hz, bn_s]
    rcases hnum with ⟨x, κ', s', e', v', M1, N1, g1, g2, g3, g4, g5, g6, g7, g8⟩ | ⟨M1, N1, g1, g2, g3, g4⟩
    · exact absurd g7 c
    · rw [g2, bn2_s]
      exact Or.inr ⟨M1, N1, _, Or.inr ⟨rfl, g1⟩, rfl, g3⟩
/-! what may be left out -/
def optC (w : Nat) (b d : Int32) (M : Mm) : Option (Int32 × Mm) := bn2 (f_I_passes w M) fun r M' => if r = 0 then some (d, M') else f_I_numberHere 0 b M'
theorem optC_K {w : Nat} {b d : Int32} {α : Type} (K : Int32 → Mm → Option α) : (bn2 (f_I_passes w M) fun r M' => if r = 0 then K d M' else bn2 (f_I_numberHere 0 b M') fun r' M'' => K r' M'') = bn2 (optC w b d M) K := by
  unfold optC
  cases f_I_passes w M with
  | none => rfl
  | some a =>
    obtain ⟨x, M'⟩ := a
    show (if x = 0 then K d M' else bn2 (f_I_numberHere 0 b M') K) = bn2 (if x = 0 then some (d, M') else f_I_numberHere 0 b M') K
    split
    · rfl
    · rfl
theorem p_opt {w w' : Nat} {L : List Nat} {b d : Nat} (hb : b ≤ 9999) (hd : d ≤ b) (h : PX M N tx len κ s e v r) (h1 : stB w = L.map oN) (h2 : stB w' = L.map oN) (hL : ∀ c ∈ L, c < 128) (hl : L.length < 900) :
    (∃ x κ' s' e' v' M1 N1, x ≤ b ∧ optC w (oN b) (oN d) M = some (oN x, M1) ∧ f_M_option w' (oN b) (oN d) N = some (oN x, N1) ∧ PX M1 N1 tx len κ' s' e' v' r ∧ s ≤ s') ∨
    (∃ M1 N1 x, optC w (oN b) (oN d) M = some (-1, M1) ∧ f_M_option w' (oN b) (oN d) N = some (x, N1) ∧ FX M1 N1) := by
  unfold optC f_I_passes f_M_option
  rcases p_is h h1 h2 hL hl with ⟨a1, a2⟩ | ⟨a1, a2, a3, a4⟩
  · rw [a1, bn_s, if_pos rfl, bn2_s, if_pos rfl, a2, bn_s, if_pos rfl]
    exact Or.inl ⟨d, κ, s, e, v, M, N, hd, rfl, rfl, h, Nat.le_refl _⟩
  · obtain ⟨κ', s', e', v', M1, N1, b1, b2, b3, b4⟩ := p_adv h
    rw [a1, bn_s, if_neg (by decide), b1, bn_s, bn2_s, if_neg (by decide), a2, bn_s, if_neg (by decide), b2, bn_s]
    have hse := h.2.1.2.2.2.2.2.2.1
    have hnum := p_number (a := 0) (b := b) (by decide) hb b3
    rw [show (oN 0 : Int32) = 0 from rfl] at hnum
    rcases hnum with ⟨x, κ2, s2, e2, v2, M2, N2, g1, g2, g3, g4, g5, g6, g7, g8⟩ | ⟨M2, N2, g1, g2, g3, g4⟩
    · rw [g3, g4, bn2_s]
      exact Or.inl ⟨x, κ2, s2, e2, v2, M2, N2, g2, rfl, rfl, g5, by omega⟩
    · rw [g1, g2, bn2_s]
      exact Or.inr ⟨M2, N2, _, rfl, rfl, g3⟩
end TEL
