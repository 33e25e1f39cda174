/-! one command, all commands -/
section COM
variable {M N : Mm} {tx : Nat → Nat} {len κ s e v : Nat} {r : Rw}
theorem CR.z {fC : Option (Int32 × Mm)} {fM : Option Mm} {w : Nat} (h : CR fC fM tx len s w) : CR (bn2 fC fun r M => chk (isZ r) (some (r, M))) fM tx len s w := by
  rcases h with ⟨κ', s', e', v', r', M1, N1, a, b, c, d⟩ | ⟨M1, N1, a, b, c⟩
  · refine Or.inl ⟨κ', s', e', v', r', M1, N1, ?_, b, c, d⟩
    rw [a, bn2_s, chk_t (by decide)]
  · refine Or.inr ⟨M1, N1, ?_, b, c⟩
    rw [a, bn2_s, chk_t (by decide)]
theorem hd_eq {lo hi : Int32} {k : Nat} {b : Int32} {M1 : Mm} (hb : b = 0 ∨ b = 1) (h : (bn (f_L_advance M) fun M1 => bn2 (f_I_numberHere lo hi M1) fun r5 M5 => if r5 = (-1 : Int32) then some ((0 : Int32), M5) else bm (wr M5 4 k r5) fun M21 => f_I_readsSemicolon M21) = some (b, M1)) :
    (bn (f_L_advance M) fun M86 => bn2 (bn2 (f_I_numberHere lo hi M86) fun r5 M5 => if r5 = (-1 : Int32) then some ((0 : Int32), M5) else bm (wr M5 4 k r5) fun M21 => some ((1 : Int32), M21)) fun r90 M90 => if r90 = 0 then chk (isZ (0 : Int32)) (some ((0 : Int32), M90)) else bn2 (f_I_readsSemicolon M90) fun r97 M97 => if r97 = 0 then chk (isZ (0 : Int32)) (some ((0 : Int32), M97)) else chk (isZ (1 : Int32)) (some ((1 : Int32), M97))) = some (b, M1) := by
  obtain ⟨X, e, h⟩ := bn_i h
  obtain ⟨x, Y, e2, h⟩ := bn2_i h
  rw [e, bn_s, e2, bn2_s]
  by_cases c : x = -1
  · rw [if_pos c] at h
    cases h
    rw [if_pos c, bn2_s, if_pos rfl, chk_t (by decide)]
  · rw [if_neg c, bm_s] at h
    rw [if_neg c, bm_s, bn2_s, if_neg (by decide), h, bn2_s]
    rcases hb with rfl | rfl
    · rw [if_pos rfl, chk_t (by decide)]
    · rw [if_neg (by decide), chk_t (by decide)]
theorem CR.hd {lo hi : Int32} {k : Nat} {fM : Option Mm} {w : Nat} (h : CR (bn (f_L_advance M) fun M1 => bn2 (f_I_numberHere lo hi M1) fun r5 M5 => if r5 = (-1 : Int32) then some ((0 : Int32), M5) else bm (wr M5 4 k r5) fun M21 => f_I_readsSemicolon M21) fM tx len s w) :
    CR (bn (f_L_advance M) fun M86 => bn2 (bn2 (f_I_numberHere lo hi M86) fun r5 M5 => if r5 = (-1 : Int32) then some ((0 : Int32), M5) else bm (wr M5 4 k r5) fun M21 => some ((1 : Int32), M21)) fun r90 M90 => if r90 = 0 then chk (isZ (0 : Int32)) (some ((0 : Int32), M90)) else bn2 (f_I_readsSemicolon M90) fun r97 M97 => if r97 = 0 then chk (isZ (0 : Int32)) (some ((0 : Int32), M97)) else chk (isZ (1 : Int32)) (some ((1 : Int32), M97))) fM tx len s w := by
  rcases h with ⟨κ', s', e', v', r', M1, N1, a, b, c, d⟩ | ⟨M1, N1, a, b, c⟩
  · exact Or.inl ⟨κ', s', e', v', r', M1, N1, hd_eq (Or.inr rfl) a, b, c, d⟩
  · exact Or.inr ⟨M1, N1, hd_eq (Or.inl rfl) a, b, c⟩
theorem p_command (h : PX M N tx len κ s e v r) : CR (f_I_readsCommand M) (f_M_command N) tx len s 0 := by
  have n10 : ¬ (1 : Int32) = 0 := by decide
  have hse : κ = 1 → s < e := fun q => h.2.1.2.2.2.2.2.2.2.2.2.1 (by omega)
  have hle := h.2.1.2.2.2.2.2.2.1
  unfold f_I_readsCommand f_M_command
  rcases p_w 1 (by decide) h with ⟨a, b⟩ | ⟨a, b, c, d⟩
  rotate_left
  · have a : f_L_isAt 2 M = some 1 := a
    have b : f_M_is 31 N = some 1 := b
    rw [a, bn_s, if_neg n10, b, bn_s, if_neg n10]
    exact (p_chained h (hse c)).z
  have a : f_L_isAt 2 M = some 0 := a
  have b : f_M_is 31 N = some 0 := b
  rw [a, bn_s, if_pos rfl, b, bn_s, if_pos rfl]
  clear a b
  rcases p_w 5 (by decide) h with ⟨a, b⟩ | ⟨a, b, c, d⟩
  rotate_left
  · have a : f_L_isAt 6 M = some 1 := a
    have b : f_M_is 35 N = some 1 := b
    rw [a, bn_s, if_neg n10, b, bn_s, if_neg n10]
    exact (p_bog h (hse c)).z
  have a : f_L_isAt 6 M = some 0 := a
  have b : f_M_is 35 N = some 0 := b
  rw [a, bn_s, if_pos rfl, b, bn_s, if_pos rfl]
  clear a b
  rcases p_w 6 (by decide) h with ⟨a, b⟩ | ⟨a, b, c, d⟩
  rotate_left
  · have a : f_L_isAt 7 M = some 1 := a
    have b : f_M_is 36 N = some 1 := b
    rw [a, bn_s, if_neg n10, b, bn_s, if_neg n10]
    exact (p_drop h (hse c)).z
  have a : f_L_isAt 7 M = some 0 := a
  have b : f_M_is 36 N = some 0 := b
  rw [a, bn_s, if_pos rfl, b, bn_s, if_pos rfl]
  clear a b
  rcases p_w 7 (by decide) h with ⟨a, b⟩ | ⟨a, b, c, d⟩
  rotate_left
  · have a : f_L_isAt 8 M = some 1 := a
    have b : f_M_is 37 N = some 1 := b
    rw [a, bn_s, if_neg n10, b, bn_s, if_neg n10]
    exact (p_found h (hse c)).z
  have a : f_L_isAt 8 M = some 0 := a
  have b : f_M_is 37 N = some 0 := b
  rw [a, bn_s, if_pos rfl, b, bn_s, if_pos rfl]
  clear a b
  rcases p_w 8 (by decide) h with ⟨a, b⟩ | ⟨a, b, c, d⟩
  rotate_left
  · have a : f_L_isAt 9 M = some 1 := a
    have b : f_M_is 38 N = some 1 := b
    rw [a, bn_s, if_neg n10, b, bn_s, if_neg n10]
    exact (p_head (a := 0) (b := 999) (k := 1) (by decide) (by decide) (by decide) h (hse c)).hd
  have a : f_L_isAt 9 M = some 0 := a
  have b : f_M_is 38 N = some 0 := b
  rw [a, bn_s, if_pos rfl, b, bn_s, if_pos rfl]
  clear a b
  rcases p_w 9 (by decide) h with ⟨a, b⟩ | ⟨a, b, c, d⟩
  rotate_left
  · have a : f_L_isAt 10 M = some 1 := a
    have b : f_M_is 39 N = some 1 := b
    rw [a, bn_s, if_neg n10, b, bn_s, if_neg n10]
    exact (p_head (a := 100) (b := 999) (k := 2) (by decide) (by decide) (by decide) h (hse c)).hd
  have a : f_L_isAt 10 M = some 0 := a
  have b : f_M_is 39 N = some 0 := b
  rw [a, bn_s, if_pos rfl, b, bn_s, if_pos rfl]
  clear a b
  have w10 := p_w 10 (by decide) h
  have w11 := p_w 11 (by decide) h
  have w12 := p_w 12 (by decide) h
  rcases w12 with ⟨a12, b12⟩ | ⟨a12, b12, c12, d12⟩
  · have a12 : f_L_isAt 13 M = some 0 := a12
    have b12 : f_M_is 40 N = some 0 := b12
    rw [b12, bn_s, if_pos rfl]
    rcases w10 with ⟨a10, b10⟩ | ⟨a10, b10, c10, d10⟩
    · have a10 : f_L_isAt 11 M = some 0 := a10
      have b10 : f_M_is 41 N = some 0 := b10
      rw [a10, bn_s, if_pos rfl, b10, bn_s, if_pos rfl]
      unfold f_M_command_302
      rw [if_pos rfl]
      rcases w11 with ⟨a11, b11⟩ | ⟨a11, b11, c11, d11⟩
      · have a11 : f_L_isAt 12 M = some 0 := a11
        have b11 : f_M_is 42 N = some 0 := b11
        obtain ⟨M1, N1, f1, f2, f3, f4⟩ := p_fail (c := 1) h (by decide)
        rw [a11, bn_s, if_pos rfl, a12, bn_s, if_pos rfl, f1, bn2_s, chk_t (by decide), b11, bn_s, if_pos rfl]
        unfold f_M_command_323
        rw [f2 1 (by decide), bn_s, w_go f3.1, bn_s, w_ends f3.1, bn2_s, if_pos rfl, w_349 f3.1]
        exact Or.inr ⟨M1, N1, rfl, rfl, f3⟩
      · have a11 : f_L_isAt 12 M = some 1 := a11
        have b11 : f_M_is 42 N = some 1 := b11
        rw [a11, bn_s, if_neg n10, b11, bn_s, if_neg n10]
        exact (p_adj (x := 0) (by decide) h (hse c11)).z
    · have a10 : f_L_isAt 11 M = some 1 := a10
      have b10 : f_M_is 41 N = some 1 := b10
      rw [a10, bn_s, if_neg n10, b10, bn_s, if_neg n10]
      unfold f_M_command_302
      rw [if_neg n10]
      exact (p_adj (x := 1) (by decide) h (hse c10)).z
  · have l12 : (wL 12).length = 4 := rfl
    have a12 : f_L_isAt 13 M = some 1 := a12
    have b12 : f_M_is 40 N = some 1 := b12
    have a10 : f_L_isAt 11 M = some 0 := by
      rcases w10 with ⟨a10, -⟩ | ⟨-, -, -, d10⟩
      · exact a10
      · have l10 : (wL 10).length = 6 := rfl
        omega
    have a11 : f_L_isAt 12 M = some 0 := by
      rcases w11 with ⟨a11, -⟩ | ⟨-, -, -, d11⟩
      · exact a11
      · have l11 : (wL 11).length = 3 := rfl
        omega
    rw [a10, bn_s, if_pos rfl, a11, bn_s, if_pos rfl, a12, bn_s, if_neg n10, b12, bn_s, if_neg n10]
    exact (p_back h (hse c12)).z
/-- what the model's reading may write before it is settled -/
def lPs : List (Nat × Nat × Nat) := [(134, 134, 17), (134, 134, 18), (134, 134, 20), (134, 134, 21), (134, 134, 22), (134, 134, 23), (134, 134, 24), (134, 134, 25), (134, 134, 26), (135, 135, 0), (147, 147, 0)]
theorem p_loop : ∀ (d : Nat) (s c f1 f2 κ e v : Nat) (r : Rw) (M N : Mm), d + s = len → d < f1 → d < f2 → PX M N tx len κ s e v r → M 1 2 = oN c → c ≤ s →
    (∃ κ' s' e' v' r' c' M1 N1, c' ≤ 900 ∧ f_I_readsCommands_5 f1 M = some (1, M1) ∧ f_M_commands_2 f2 (oN c) N = f_M_commands_26 (oN c') N1 ∧ PX M1 N1 tx len κ' s' e' v' r' ∧ M1 1 2 = oN c' ∧ Fr lPs N N1) ∨
    (∃ x M1 N1, f_I_readsCommands_5 f1 M = some (0, M1) ∧ f_M_commands_2 f2 (oN c) N = f_M_commands_26 x N1 ∧ FX M1 N1 ∧ Fr lPs N N1) := by
  intro d
  induction d using Nat.strongRecOn with
  | _ d ih =>
    intro s c f1 f2 κ e v r M N hd h1 h2 h hc hcs
    obtain ⟨f1, rfl⟩ : ∃ g, f1 = g + 1 := ⟨f1 - 1, by omega⟩
    obtain ⟨f2, rfl⟩ : ∃ g, f2 = g + 1 := ⟨f2 - 1, by omega⟩
    have hl := h.1.1
    have hκ := h.2.1.2.2.2.2.2.2.2.2.1
    rw [f_I_readsCommands_5, f_M_commands_2, hc, h.2.1.1, if_pos h.2.2.2.2.2.1, h.2.1.2.1]
    unfold f_I_readsCommands_47
    by_cases z : κ = 0
    · subst z
      rw [if_pos (show oN 0 = 0 from rfl), if_pos (show oN 0 = 0 from rfl)]
      refine Or.inl ⟨0, s, e, v, r, c, M, N, by omega, ?_, rfl, h, hc, Fr.rf _ _⟩
      split <;> rfl
    · have hse := h.2.1.2.2.2.2.2.2.2.2.2.1 z
      have hel := h.2.1.2.2.2.2.2.2.2.1
      have zz : ¬ oN κ = 0 := fun q => z ((oN0 (by omega)).mp q)
      rw [if_neg (show ¬ (900 : Int32) ≤ oN c by rw [show (900 : Int32) = oN 900 from rfl, oN_le (by omega) (by omega)]; omega), if_neg zz, if_neg zz]
      rcases p_command h with ⟨κ', s', e', v', r', M1, N1, a, b, p, hs⟩ | ⟨M1, N1, a, b, f⟩
      · have g1 := fr_I_readsCommand a
        have g2 : Fr lPs N N1 := (fr_M_command b).up (by decide)
        rw [a, bn2_s, if_neg (by decide), b, bn_s, bm_s, (g1 1 2 (by rfl)).trans hc, oN_S]
        have p2 : PX (wr M1 1 2 (oN (c + 1))) N1 tx len κ' s' e' v' r' := p.ag (Ag.of (fr_wr (l := [(1, 1, 3)]) rfl (by rfl)) (by rfl)) (Ag.rf _ _)
        have hs2 := p.2.1.2.2.2.2.2.2.1
        have he2 := p.2.1.2.2.2.2.2.2.2.1
        rcases ih (len - s') (by omega) s' (c + 1) f1 f2 κ' e' v' r' _ N1 (by omega) (by omega) (by omega) p2 (wr_s _ _ _ _) (by omega) with ⟨κ9, s9, e9, v9, r9, c9, M9, N9, y0, y1, y2, y3, y4, y5⟩ | ⟨x, M9, N9, y1, y2, y3, y4⟩
        · exact Or.inl ⟨κ9, s9, e9, v9, r9, c9, M9, N9, y0, y1, y2, y3, y4, g2.tr y5⟩
        · exact Or.inr ⟨x, M9, N9, y1, y2, y3, g2.tr y4⟩
      · have g2 : Fr lPs N N1 := (fr_M_command b).up (by decide)
        rw [a, bn2_s, if_pos rfl, b, bn_s]
        obtain ⟨f2, rfl⟩ : ∃ g, f2 = g + 1 := ⟨f2 - 1, by omega⟩
        rw [f_M_commands_2, if_neg (by rw [f.1]; decide)]
        exact Or.inr ⟨_, M1, N1, rfl, rfl, f, g2⟩
theorem p_commands (h : PX M N tx len κ s e v r) :
    (∃ κ' s' e' v' r' c' M1 N1, c' ≤ 900 ∧ f_I_readsCommands M = some (1, M1) ∧ f_M_commands N = f_M_commands_26 (oN c') N1 ∧ PX M1 N1 tx len κ' s' e' v' r' ∧ M1 1 2 = oN c' ∧ Fr lPs N N1) ∨
    (∃ x M1 N1, f_I_readsCommands M = some (0, M1) ∧ f_M_commands N = f_M_commands_26 x N1 ∧ FX M1 N1 ∧ Fr lPs N N1) := by
  have hl := h.1.1
  have hs2 := h.2.1.2.2.2.2.2.2.1
  have he2 := h.2.1.2.2.2.2.2.2.2.1
  have p2 : PX (wr M 1 2 0) N tx len κ s e v r := h.ag (Ag.of (fr_wr (l := [(1, 1, 3)]) rfl (by rfl)) (by rfl)) (Ag.rf _ _)
  unfold f_I_readsCommands f_M_commands
  rw [bm_s]
  exact p_loop (len - s) s 0 fu fu κ e v r (wr M 1 2 0) N (by omega) (by unfold fu; omega) (by unfold fu; omega) p2 (wr_s _ _ _ _) (by omega)
end COM
