/-! the text is written into the input -/
section WRI
variable {M N : Mm} {l : List Nat} {w T n i : Nat} {r : Rw}
theorem aw_step {f s : Nat} (hs : s = 0 ∨ s = 8 ∨ s = 16 ∨ s = 24) (hw : w < 2147483648) (hb : w / 2 ^ s % 256 < 128) (h0 : M 0 2 = oN n) (hn : n < 900) :
    f_C_appendWord_3 (f + 1) (oN w) (oN s) M = f_C_appendWord_3 f (oN w) (oN s + (-8)) (wr (wr M 3 n (oN (w / 2 ^ s % 256))) 0 2 (oN (n + 1))) := by
  rw [f_C_appendWord_3, if_neg (oN_nn (by omega)), h0, if_neg (show ¬ (900 : Int32) ≤ oN n from fun q => by have := (oN_le (a := 900) (by omega) (by omega)).mp q; omega), chk_t ((iin_oN (by omega)).mpr hn), bm_s, bm_s, oI (by omega), wr_n (by omega), h0, b_sh hw hs, b_lo _ hb]
  rw [show oN n + (1 : Int32) = oN (n + 1) from oN_S n]
theorem aw_ok (g : ∀ k, l.getD k 0 < 128) (h0 : M 0 2 = oN n) (hn : n + 4 ≤ 900) : ∃ M1, f_C_appendWord (oN (W4 l i)) M = some M1 ∧ M1 0 2 = oN (n + 4) ∧ (∀ j, j < 4 → M1 3 (n + j) = oN (l.getD (i + j) 0)) ∧ (∀ k, k < n → M1 3 k = M 3 k) := by
  have g0 := g i
  have g1 := g (i + 1)
  have g2 := g (i + 2)
  have g3 := g (i + 3)
  have hw : W4 l i < 2147483648 := by unfold W4; omega
  have d0 : W4 l i / 2 ^ 24 % 256 = l.getD i 0 := by unfold W4; omega
  have d1 : W4 l i / 2 ^ 16 % 256 = l.getD (i + 1) 0 := by unfold W4; omega
  have d2 : W4 l i / 2 ^ 8 % 256 = l.getD (i + 2) 0 := by unfold W4; omega
  have d3 : W4 l i / 2 ^ 0 % 256 = l.getD (i + 3) 0 := by unfold W4; omega
  unfold f_C_appendWord
  rw [show fu = 99995 + 1 + 1 + 1 + 1 + 1 from rfl, show (24 : Int32) = oN 24 from rfl, aw_step (by decide) hw (by rw [d0]; exact g0) h0 (by omega), show oN 24 + (-8 : Int32) = oN 16 from rfl,
    aw_step (n := n + 1) (by decide) hw (by rw [d1]; exact g1) (wr_s _ _ _ _) (by omega), show oN 16 + (-8 : Int32) = oN 8 from rfl,
    aw_step (n := n + 2) (by decide) hw (by rw [d2]; exact g2) (wr_s _ _ _ _) (by omega), show oN 8 + (-8 : Int32) = oN 0 from rfl,
    aw_step (n := n + 3) (by decide) hw (by rw [d3]; exact g3) (wr_s _ _ _ _) (by omega), f_C_appendWord_3, if_pos (show oN 0 + (-8 : Int32) < 0 by decide), d0, d1, d2, d3]
  refine ⟨_, rfl, wr_s _ _ _ _, fun j hj => ?_, fun k hk => ?_⟩
  · match j, hj with
    | 0, _ => rw [wr_n (by omega), wr_n (by omega), wr_n (by omega), wr_n (by omega), wr_n (by omega), wr_n (by omega), wr_n (by omega), Nat.add_zero, wr_s, Nat.add_zero]
    | 1, _ => rw [wr_n (by omega), wr_n (by omega), wr_n (by omega), wr_n (by omega), wr_n (by omega), wr_s]
    | 2, _ => rw [wr_n (by omega), wr_n (by omega), wr_n (by omega), wr_s]
    | 3, _ => rw [wr_n (by omega), wr_s]
  · rw [wr_n (by omega), wr_n (by omega), wr_n (by omega), wr_n (by omega), wr_n (by omega), wr_n (by omega), wr_n (by omega), wr_n (by omega)]
theorem ap_ok (g : ∀ k, l.getD k 0 < 128) (h0 : M 0 2 = oN 0) : ∃ M1, f_C_append (oN (W4 l 0)) (oN (W4 l 4)) (oN (W4 l 8)) (oN (W4 l 12)) (oN (W4 l 16)) M = some (oN 20, M1) ∧ M1 0 2 = oN 20 ∧ (∀ k, k < 20 → M1 3 k = oN (l.getD k 0)) := by
  obtain ⟨Ma, a1, a2, a3, a4⟩ := aw_ok (i := 0) g h0 (by decide)
  obtain ⟨Mb, b1, b2, b3, b4⟩ := aw_ok (i := 4) g a2 (by decide)
  obtain ⟨Mc, c1, c2, c3, c4⟩ := aw_ok (i := 8) g b2 (by decide)
  obtain ⟨Md, d1, d2, d3, d4⟩ := aw_ok (i := 12) g c2 (by decide)
  obtain ⟨Me, e1, e2, e3, e4⟩ := aw_ok (i := 16) g d2 (by decide)
  unfold f_C_append
  rw [h0, if_pos (by decide), a1, bn_s, b1, bn_s, c1, bn_s, d1, bn_s, e1, bn_s, e2]
  refine ⟨Me, rfl, e2, fun k hk => ?_⟩
  by_cases z1 : k < 4
  · rw [e4 k (by omega), d4 k (by omega), c4 k (by omega), b4 k (by omega)]
    have := a3 k z1
    rw [Nat.zero_add] at this
    exact this
  · by_cases z2 : k < 8
    · rw [e4 k (by omega), d4 k (by omega), c4 k (by omega)]
      have := b3 (k - 4) (by omega)
      rw [show 0 + 4 + (k - 4) = k by omega] at this
      exact this
    · by_cases z3 : k < 12
      · rw [e4 k (by omega), d4 k (by omega)]
        have := c3 (k - 8) (by omega)
        rw [show 0 + 4 + 4 + (k - 8) = k by omega] at this
        exact this
      · by_cases z4 : k < 16
        · rw [e4 k (by omega)]
          have := d3 (k - 12) (by omega)
          rw [show 0 + 4 + 4 + 4 + (k - 12) = k by omega] at this
          exact this
        · have := e3 (k - 16) (by omega)
          rw [show 0 + 4 + 4 + 4 + 4 + (k - 16) = k by omega] at this
          exact this
theorem tr_ok {a : Nat} (h : M 0 2 = oN n) (hn : n ≤ 900) (ha : a ≤ n) : f_W_truncateInput (oN a) M = some (oN a, wr M 0 2 (oN a)) := by
  unfold f_W_truncateInput f_C_truncateInput
  rw [c_between, h, if_pos ⟨oN_ge0 (by omega), (oN_le (by omega) (by omega)).mpr ha⟩, bn_s, if_neg (by decide), bm_s, wr_s, bc2_r]
theorem w_write (h : XT M T l) (hT : 0 < T) (h0 : M 0 2 = oN n) (hn : n ≤ 900) : ∃ M1, f_W_write T M = some (1, M1) ∧ M1 0 2 = oN T ∧ (∀ k, k < T → M1 3 k = oN (l.getD k 0)) ∧ Fr [(0, 0, 3), (3, 3, 0)] M M1 := by
  have h16 := h.2.2.1
  have f1 : Fr [(0, 0, 3), (3, 3, 0)] M (wr M 0 2 (oN 0)) := fr_wr rfl (by rfl)
  have x1 : XT (wr M 0 2 (oN 0)) T l := h.ag (Ag.of f1 (by rfl))
  have z1 : (wr M 0 2 (oN 0)) 0 2 = oN 0 := wr_s _ _ _ _
  have t0 : f_W_truncateInput 0 M = _ := tr_ok (a := 0) h0 hn (Nat.zero_le _)
  unfold f_W_write
  rw [t0, bn2_s, if_pos (show oN 0 = 0 from rfl), show fu = 99998 + 1 + 1 from rfl]
  generalize wr M 0 2 (oN 0) = Ma at f1 x1 z1
  obtain ⟨Mb, b1, b2, b3⟩ := ap_ok x1.g z1
  have fb := fr_C_append b1
  have x2 : XT Mb T l := x1.ag (Ag.of fb (by rfl))
  have f2 : Fr [(0, 0, 3), (3, 3, 0)] Mb (wr Mb 0 2 (oN T)) := fr_wr rfl (by rfl)
  have x3 : XT (wr Mb 0 2 (oN T)) T l := x2.ag (Ag.of f2 (by rfl))
  have w0 : f_W_word T Ma 0 = some (oN (W4 l 0)) := w_word x1 (i := 0) (by decide)
  have w1 : f_W_word T Ma (0 + 4) = some (oN (W4 l 4)) := w_word x1 (i := 4) (by decide)
  have w2 : f_W_word T Ma (0 + 8) = some (oN (W4 l 8)) := w_word x1 (i := 8) (by decide)
  have w3 : f_W_word T Ma (0 + 12) = some (oN (W4 l 12)) := w_word x1 (i := 12) (by decide)
  have w4 : f_W_word T Ma (0 + 16) = some (oN (W4 l 16)) := w_word x1 (i := 16) (by decide)
  rw [f_W_write_12, x_len x1, bn_s, if_neg (show ¬ oN T ≤ 0 from fun q => by have := (oN_le (b := 0) (by omega) (by omega)).mp q; omega), w0, bn_s, w1, bn_s, w2, bn_s, w3, bn_s, w4, bn_s, b1, bn2_s, if_pos (show oN 20 = (0 : Int32) + 20 from rfl), f_W_write_12, x_len x2, bn_s, if_pos (show oN T ≤ (0 : Int32) + 20 from (oN_le (b := 20) (by omega) (by omega)).mpr (by omega)), bn_s, tr_ok b2 (by decide) (by omega), bn2_s, x_len x3, bn_s, if_pos rfl]
  unfold f_W_write_95
  rw [chk_t (by decide)]
  refine ⟨_, rfl, wr_s _ _ _ _, fun k hk => ?_, f1.tr (fb.tr f2)⟩
  rw [wr_n (by omega)]
  exact b3 k (by omega)
/-- another text beside the rest -/
theorem ri_tx {M1 : Mm} (h : RI M N) (p : PR M N r) (f : Fr [(0, 0, 3), (3, 3, 0)] M M1) (h2 : M1 0 2 = oN T) (hT : T ≤ 900) (h3 : ∀ k, k < T → M1 3 k = oN (l.getD k 0)) (g : ∀ k, l.getD k 0 < 128) : ∃ N1, RI M1 N1 ∧ PR M1 N1 r := by
  let N1 : Mm := fun b k => if b = 134 ∧ k = 14 then oN T else if b = 141 then oN (l.getD k 0) else N b k
  have fN : Fr [(134, 134, 15), (141, 141, 0)] N N1 := by
    intro b k hb
    show (if b = 134 ∧ k = 14 then oN T else if b = 141 then oN (l.getD k 0) else N b k) = N b k
    rw [if_neg, if_neg]
    · rintro rfl
      rw [show inT [(134, 134, 15), (141, 141, 0)] 141 k = true by simp [inT]] at hb
      cases hb
    · rintro ⟨rfl, rfl⟩
      cases hb
  have pr : PR M1 N1 r := p.ag (Ag.of f (by rfl)) (Ag.of fN (by rfl))
  obtain ⟨_, u, s, t, o, e, z, c, d⟩ := h
  refine ⟨N1, ⟨⟨r, pr⟩, u.ag (Ag.of f (by rfl)) (Ag.of fN (by rfl)), s.ag (Ag.of f (by rfl)) (Ag.of fN (by rfl)), ⟨T, hT, h2, ?_, fun k hk => ⟨l.getD k 0, Nat.le_of_lt (Nat.lt_trans (g k) (by decide)), ?_, ?_⟩⟩, o.ag (Ag.of f (by rfl)) (Ag.of fN (by rfl)), e.ag (Ag.of f (by rfl)) (Ag.of fN (by rfl)), z.ag (Ag.of f (by rfl)), c.ag (Ag.of fN (by rfl)), d.ag (Ag.of f (by rfl))⟩, pr⟩
  · show (if 134 = 134 ∧ 14 = 14 then oN T else _) = _
    rw [if_pos ⟨rfl, rfl⟩]
  · show (if 141 = 134 ∧ k = 14 then oN T else if 141 = 141 then oN (l.getD k 0) else N 141 k) = _
    rw [if_neg (by omega), if_pos rfl]
  · rw [h3 k hk, cl_d _ (g k)]
end WRI
