/-! the law's beginning -/
section BEG
variable {M : Mm} {l : List Nat} {w p T L : Nat}
theorem SB.ag {M1 : Mm} (h : SB M l) (f : Ag [(134, 135, 0)] M M1) : SB M1 l := by
  obtain ⟨h1, h2, h3⟩ := h
  exact ⟨(f 134 1 (by rfl)).trans h1, (f 134 3 (by rfl)).trans h2, fun k hk => (f 135 k (by rfl)).trans (h3 k hk)⟩
def lawT (w p : Nat) : List Nat := ((([] ++ [115, 117, 114, 118, 101, 121, 32]) ++ digs w) ++ [32]) ++ digs p ++ [59]
theorem lt_all {l : List Nat} (h : ∀ x, x ∈ l → x < 128) (k : Nat) : l.getD k 0 < 128 := by
  rw [List.getD_eq_getElem?_getD]
  by_cases c : k < l.length
  · rw [List.getElem?_eq_getElem c]
    exact h _ (List.getElem_mem c)
  · rw [List.getElem?_eq_none (by omega)]; decide
theorem tw_ok (hw : w < 100) (h1 : 100 ≤ p) (hp : p < 1000) : TW (fun k => (lawT w p).getD k 0) w p (lawT w p).length ∧ ((lawT w p).length = 13 ∨ (lawT w p).length = 14) ∧ ∀ k, (lawT w p).getD k 0 < 128 := by
  have dw : digs w = [48 + w] ∧ w < 10 ∨ digs w = [48 + w / 10, 48 + w % 10] := by
    unfold digs
    by_cases c : w < 10
    · rw [if_pos c]; exact Or.inl ⟨rfl, c⟩
    · rw [if_neg c, if_pos hw]; exact Or.inr rfl
  have dp : digs p = [48 + p / 100, 48 + p / 10 % 10, 48 + p % 10] := by
    unfold digs
    rw [if_neg (by omega), if_neg (by omega)]
  unfold lawT TW
  rcases dw with ⟨e, c⟩ | e
  · rw [e, dp]
    refine ⟨⟨by omega, hp, h1, rfl, ?_, ?_, rfl, ?_, rfl⟩, Or.inl rfl, lt_all ?_⟩
    · intro k hk
      match k, hk with
      | 0, _ => rfl
      | 1, _ => rfl
      | 2, _ => rfl
      | 3, _ => rfl
      | 4, _ => rfl
      | 5, _ => rfl
      | 6, _ => rfl
    · intro j hj
      match j, hj with
      | 0, _ => rfl
    · intro j hj
      match j, hj with
      | 0, _ => rfl
      | 1, _ => rfl
      | 2, _ => rfl
    · intro x hx
      simp at hx
      omega
  · rw [e, dp]
    refine ⟨⟨by omega, hp, h1, rfl, ?_, ?_, rfl, ?_, rfl⟩, Or.inr rfl, lt_all ?_⟩
    · intro k hk
      match k, hk with
      | 0, _ => rfl
      | 1, _ => rfl
      | 2, _ => rfl
      | 3, _ => rfl
      | 4, _ => rfl
      | 5, _ => rfl
      | 6, _ => rfl
    · intro j hj
      match j, hj with
      | 0, _ => rfl
      | 1, _ => rfl
    · intro j hj
      match j, hj with
      | 0, _ => rfl
      | 1, _ => rfl
      | 2, _ => rfl
    · intro x hx
      simp at hx
      omega
theorem st_fr {l : List (Nat × Nat × Nat)} {M1 : Mm} {r : Rw} (s : ST M r) (f : Fr l M M1) (e : dis l cC = true) (e2 : dis l [(26, 28, 1)] = true) : ST M1 r := s.ag (Ag.of f e) (s.z.ag (Ag.of f e2))
/-- the law until the first check -/
theorem law_beg (hz : ∀ b k, b < 134 → M b k = 0) : ∃ T, (T = 13 ∨ T = 14) ∧ ∃ M1 r1, ST M1 r1 ∧ r1 0 = 0 ∧ ∀ L, f_W_law T L M = (bn2 (f_W_isSound M1) fun r96 M96 => if r96 = 0 then f_W_law_102 T L M96 else f_W_law_107 T L 18 (0 : Int32) M96) := by
  have zx : Zx (zr M 0) := fun b k hb => Or.inl (by
    show (if b = 0 then (0 : Int32) else M b k) = 0
    by_cases c : b = 0
    · rw [if_pos c]
    · rw [if_neg c]; exact hz b k hb)
  obtain ⟨M1, N1, r, e1, h1, p1⟩ := s_init zx
  obtain ⟨M2, e2, b2, f2⟩ := sb_init M1
  obtain ⟨M3, e3, b3, f3⟩ := sb_app (w := 44) b2 lit_44 (by decide)
  obtain ⟨w, M4, e4, hw, f4⟩ := draw_ok (n := 100) M3 (by decide) (by decide)
  have e4 : f_W_draw 100 M3 = some (oN w, M4) := e4
  have lw : (digs w).length ≤ 2 := by
    unfold digs
    by_cases c : w < 10
    · rw [if_pos c]; exact Nat.le_succ 1
    · rw [if_neg c, if_pos hw]; exact Nat.le_refl 2
  have b4 := b3.ag (Ag.of f4 (by rfl))
  obtain ⟨M5, e5, b5, f5⟩ := sb_num (w := w) b4 (by omega) (by show 7 + (digs w).length ≤ 16; omega)
  have l5 : (([] ++ [115, 117, 114, 118, 101, 121, 32]) ++ digs w).length = 7 + (digs w).length := by
    rw [List.length_append]; rfl
  obtain ⟨M6, e6, b6, f6⟩ := sb_app (w := 45) b5 lit_45 (by rw [l5]; show 7 + (digs w).length + 1 ≤ 16; omega)
  obtain ⟨q, M7, e7, hq, f7⟩ := draw_ok (n := 900) M6 (by decide) (by decide)
  have e7 : f_W_draw 900 M6 = some (oN q, M7) := e7
  have e9 : (100 : Int32) + oN q = oN (100 + q) := (oN_add 100 q).symm
  have lp : (digs (100 + q)).length = 3 := by
    unfold digs
    rw [if_neg (by omega), if_neg (by omega)]; rfl
  have b7 := b6.ag (Ag.of f7 (by rfl))
  have l6 : ((([] ++ [115, 117, 114, 118, 101, 121, 32]) ++ digs w) ++ [32]).length = 8 + (digs w).length := by
    rw [List.length_append, l5]; show 7 + (digs w).length + 1 = _; omega
  obtain ⟨M8, e8, b8, f8⟩ := sb_num (w := 100 + q) b7 (by omega) (by rw [l6, lp]; omega)
  have l8 : (((([] ++ [115, 117, 114, 118, 101, 121, 32]) ++ digs w) ++ [32]) ++ digs (100 + q)).length = 11 + (digs w).length := by
    rw [List.length_append, l6, lp]; omega
  obtain ⟨M9, e10, b9, f9⟩ := sb_app (w := 46) b8 lit_46 (by rw [l8]; show 11 + (digs w).length + 1 ≤ 16; omega)
  have b9 : SB M9 (lawT w (100 + q)) := b9
  obtain ⟨tw, tT, t128⟩ := tw_ok (w := w) (p := 100 + q) hw (by omega) (by omega)
  generalize lawT w (100 + q) = l at b9 tw tT t128
  obtain ⟨Ma, ea, xa, fa⟩ := sb_str (T := l.length) b9 rfl (by omega) (fun k _ => t128 k)
  have fM : Fr [(134, 137, 0), (1999, 1999, 0)] M1 Ma := (f2.up (by rfl)).tr ((f3.up (by rfl)).tr ((f4.up (by rfl)).tr ((f5.up (by rfl)).tr ((f6.up (by rfl)).tr ((f7.up (by rfl)).tr ((f8.up (by rfl)).tr ((f9.up (by rfl)).tr (fa.up (by rfl)))))))))
  have ha : RI Ma N1 := h1.frM fM (by rfl) (h1.z.ag (Ag.of fM (by rfl)))
  have pa : PR Ma N1 r := p1.ag (Ag.of fM (by rfl)) (Ag.rf _ _)
  obtain ⟨n, -, n1, n2, -, -⟩ := TX.fn ha.2.2.2.1
  obtain ⟨Mb, eb, w1, w2, fb⟩ := w_write xa (by omega) n2 n1
  obtain ⟨N2, hb, pb⟩ := ri_tx ha pa fb w1 (by omega) w2 t128
  obtain ⟨Mc, N3, r1, ec, hc, pc, r0⟩ := ld_ok hb pb tw w1 (fun k hk => ⟨t128 k, w2 k hk⟩)
  refine ⟨l.length, tT, Mc, r1, ⟨N3, hc, pc⟩, r0, fun L => ?_⟩
  unfold f_W_law
  rw [bm_s, e1, bn_s, bm_s, e2, bn_s, e3, bn_s, e4, bn2_s, e5, bn_s, e6, bn_s, e7, bn2_s, e9, e8, bn_s, e10, bn_s, ea, bn_s, eb, bn2_s, if_neg (by decide), ec, bn2_s, if_pos rfl]
end BEG
