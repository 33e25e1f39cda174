/-! the text is read again -/
def svL : List Nat := [115, 117, 114, 118, 101, 121, 32]
theorem sv_at : ∀ k, k < 6 → f_U_charAt 1 (oN k) = some (oN (svL.getD k 0)) ∧ 97 ≤ svL.getD k 0 ∧ svL.getD k 0 ≤ 122 := by decide +kernel
theorem sy_len : f_U_length 1 = some (oN 6) := by decide +kernel
theorem dg_ok : ∀ w, w < 1000 → (digs w).length ≤ 3 ∧ 0 < (digs w).length ∧ ∀ j, j < (digs w).length → 48 ≤ (digs w).getD j 0 ∧ (digs w).getD j 0 ≤ 57 := by decide +kernel
section RLX
variable {M : Mm} {tx : Nat → Nat} {len i j e v w p : Nat}
/-- the text in the class -/
def Tc (M : Mm) (tx : Nat → Nat) (len : Nat) : Prop := len ≤ 900 ∧ M 2 1 = oN len ∧ ∀ k, k < len → tx k < 128 ∧ M 3 k = oN (tx k)
theorem Tc.ag {M' : Mm} (h : Tc M tx len) (f : Ag [(2, 2, 2), (3, 3, 0)] M M') : Tc M' tx len := by
  obtain ⟨h0, h1, h2⟩ := h
  exact ⟨h0, (f _ _ (by rfl)).trans h1, fun k hk => ⟨(h2 k hk).1, (f 3 k (by rfl)).trans (h2 k hk).2⟩⟩
theorem Tc.lt (h : Tc M tx len) {k : Nat} (hk : k < len) : f_C_isLetter (M 3 k) = some (if 97 ≤ tx k ∧ tx k ≤ 122 then 1 else 0) ∧ f_C_isDigit (M 3 k) = some (if 48 ≤ tx k ∧ tx k ≤ 57 then 1 else 0) ∧ (M 3 k = 32 ↔ tx k = 32) ∧ (M 3 k = 59 ↔ tx k = 59) := by
  obtain ⟨h1, h2⟩ := h.2.2 k hk
  have e := cl_d _ h1
  have a := cl_let (tx k) (by omega)
  have b := cl_dig (tx k) (by omega)
  have c := cl_is (tx k) (by omega)
  rw [e] at a b c
  rw [h2]
  exact ⟨a, b, c.1, c.2⟩
theorem a_sp0 (h : Tc M tx len) (he : M 2 4 = oN e) (hl : e < len) (hn : tx e ≠ 32) : f_L_advance M = f_L_advance_46 (wr M 2 3 (oN e)) := by
  have f : Fr [(2, 2, 4)] M (wr M 2 3 (oN e)) := fr_wr rfl (by rfl)
  have h' : Tc (wr M 2 3 (oN e)) tx len := h.ag (Ag.of f (by rfl))
  have k3 : (wr M 2 3 (oN e)) 2 3 = oN e := wr_s _ _ _ _
  have hle := h.1
  unfold f_L_advance
  rw [bm_s, he, show fu = 99999 + 1 from rfl]
  generalize wr M 2 3 (oN e) = Ma at h' k3
  rw [f_L_advance_8, h'.2.1, k3, if_neg (fun q => by have := (oN_le (by omega) (by omega)).mp q; omega), chk_t ((iin_oN (by omega)).mpr (by omega)), oI (by omega), if_neg (fun q => hn ((h'.lt hl).2.2.1.mp q))]
theorem a_sp1 (h : Tc M tx len) (he : M 2 4 = oN e) (hl : e + 1 < len) (hs : tx e = 32) (hn : tx (e + 1) ≠ 32) : ∃ M1, f_L_advance M = f_L_advance_46 M1 ∧ M1 2 3 = oN (e + 1) ∧ Fr [(2, 2, 4)] M M1 := by
  have f : Fr [(2, 2, 4)] M (wr M 2 3 (oN e)) := fr_wr rfl (by rfl)
  have h' : Tc (wr M 2 3 (oN e)) tx len := h.ag (Ag.of f (by rfl))
  have k3 : (wr M 2 3 (oN e)) 2 3 = oN e := wr_s _ _ _ _
  have hle := h.1
  unfold f_L_advance
  rw [bm_s, he, show fu = 99998 + 1 + 1 from rfl]
  generalize wr M 2 3 (oN e) = Ma at h' k3 f
  have f2 : Fr [(2, 2, 4)] Ma (wr Ma 2 3 (oN (e + 1))) := fr_wr rfl (by rfl)
  have h2 : Tc (wr Ma 2 3 (oN (e + 1))) tx len := h'.ag (Ag.of f2 (by rfl))
  have k4 : (wr Ma 2 3 (oN (e + 1))) 2 3 = oN (e + 1) := wr_s _ _ _ _
  rw [f_L_advance_8, h'.2.1, k3, if_neg (fun q => by have := (oN_le (by omega) (by omega)).mp q; omega), chk_t ((iin_oN (by omega)).mpr (by omega)), oI (by omega), if_pos ((h'.lt (by omega)).2.2.1.mpr hs), bm_s, oN_S]
  generalize wr Ma 2 3 (oN (e + 1)) = Mb at h2 k4 f2
  rw [f_L_advance_8, h2.2.1, k4, if_neg (fun q => by have := (oN_le (by omega) (by omega)).mp q; omega), chk_t ((iin_oN (by omega)).mpr (by omega)), oI (by omega), if_neg (fun q => hn ((h2.lt hl).2.2.1.mp q))]
  exact ⟨Mb, rfl, k4, f.tr f2⟩
theorem a_end (h : Tc M tx len) (he : M 2 4 = oN len) : ∃ M1, f_L_advance M = some M1 ∧ M1 2 2 = 0 ∧ Fr [(2, 2, 0)] M M1 := by
  have f : Fr [(2, 2, 0)] M (wr M 2 3 (oN len)) := fr_wr rfl (by rfl)
  have h' : Tc (wr M 2 3 (oN len)) tx len := h.ag (Ag.of (fr_wr rfl (by rfl) : Fr [(2, 2, 4)] M (wr M 2 3 (oN len))) (by rfl))
  have k3 : (wr M 2 3 (oN len)) 2 3 = oN len := wr_s _ _ _ _
  have hle := h.1
  unfold f_L_advance
  rw [bm_s, he, show fu = 99999 + 1 from rfl]
  generalize wr M 2 3 (oN len) = Ma at h' k3 f
  have k5 : (wr Ma 2 4 (oN len)) 2 3 = oN len := by rw [wr_n (by decide)]; exact k3
  have k6 : (wr Ma 2 4 (oN len)) 2 1 = oN len := by rw [wr_n (by decide)]; exact h'.2.1
  rw [f_L_advance_8, h'.2.1, k3, if_pos ((oN_le (by omega) (by omega)).mpr (Nat.le_refl _))]
  unfold f_L_advance_46 f_L_advance_258
  rw [bm_s, k3, k5, k6, if_neg (fun q => by have := (oN_lt (by omega) (by omega)).mp q; omega), bm_s]
  exact ⟨_, rfl, wr_s _ _ _ _, f.tr ((fr_wr rfl (by rfl)).tr (fr_wr rfl (by rfl)))⟩
/-- a token begins -/
theorem t_beg (h : Tc M tx len) (h3 : M 2 3 = oN i) (hl : i < len) : ∃ M1, M1 2 3 = oN i ∧ M1 2 4 = oN i ∧ Tc M1 tx len ∧ Fr [(2, 2, 0)] M M1 ∧ f_L_advance_46 M = (if 97 ≤ tx i ∧ tx i ≤ 122 then f_L_advance_93 fu (wr M1 2 2 1) else if 48 ≤ tx i ∧ tx i ≤ 57 then f_L_advance_157 fu (wr (wr M1 2 2 2) 2 5 0) else if tx i = 59 then f_L_advance_245 3 M1 else f_L_advance_245 4 M1) := by
  have hle := h.1
  have f : Fr [(2, 2, 5)] M (wr M 2 4 (oN i)) := fr_wr rfl (by rfl)
  have h' : Tc (wr M 2 4 (oN i)) tx len := h.ag (Ag.of f (by rfl))
  have k3 : (wr M 2 4 (oN i)) 2 3 = oN i := by rw [wr_n (by decide)]; exact h3
  have k4 : (wr M 2 4 (oN i)) 2 4 = oN i := wr_s _ _ _ _
  unfold f_L_advance_46
  rw [bm_s, h3]
  generalize wr M 2 4 (oN i) = Ma at h' k3 f k4
  obtain ⟨l1, l2, -, l4⟩ := h'.lt hl
  refine ⟨Ma, k3, k4, h', f.up (by rfl), ?_⟩
  rw [k3, h'.2.1, if_pos ((oN_lt (by omega) (by omega)).mpr hl), chk_t ((iin_oN (by omega)).mpr (by omega)), oI (by omega), l1, bn_s]
  by_cases c : 97 ≤ tx i ∧ tx i ≤ 122
  · rw [if_pos c, if_pos c, if_neg (by decide), bm_s]
  · rw [if_neg c, if_neg c, if_pos rfl, l2, bn_s]
    by_cases d : 48 ≤ tx i ∧ tx i ≤ 57
    · rw [if_pos d, if_pos d, if_neg (by decide), bm_s, bm_s]
    · rw [if_neg d, if_neg d, if_pos rfl]
      by_cases z : tx i = 59
      · rw [if_pos (l4.mpr z), if_pos z]
      · rw [if_neg (fun q => z (l4.mp q)), if_neg z]
theorem w_run (hj : j < len) (hn : ¬ (97 ≤ tx j ∧ tx j ≤ 122)) : ∀ (d i f : Nat) (M : Mm), d + i = j → d < f → Tc M tx len → M 2 4 = oN i → (∀ k, i ≤ k → k < j → 97 ≤ tx k ∧ tx k ≤ 122) → ∃ M1, f_L_advance_93 f M = some M1 ∧ M1 2 4 = oN j ∧ Fr [(2, 2, 5)] M M1 := by
  intro d
  induction d with
  | zero =>
    intro i f M hd hf h h4 ha
    obtain ⟨f, rfl⟩ : ∃ g, f = g + 1 := ⟨f - 1, by omega⟩
    obtain rfl : i = j := by omega
    have hle := h.1
    rw [f_L_advance_93, h.2.1, h4, if_neg (fun q => by have := (oN_le (by omega) (by omega)).mp q; omega), chk_t ((iin_oN (by omega)).mpr (by omega)), oI (by omega), (h.lt hj).1, bn_s, if_neg hn, if_pos rfl]
    exact ⟨M, rfl, h4, Fr.rf _ _⟩
  | succ d ih =>
    intro i f M hd hf h h4 ha
    obtain ⟨f, rfl⟩ : ∃ g, f = g + 1 := ⟨f - 1, by omega⟩
    have hle := h.1
    have f1 : Fr [(2, 2, 5)] M (wr M 2 4 (oN (i + 1))) := fr_wr rfl (by rfl)
    rw [f_L_advance_93, h.2.1, h4, if_neg (fun q => by have := (oN_le (by omega) (by omega)).mp q; omega), chk_t ((iin_oN (by omega)).mpr (by omega)), oI (by omega), (h.lt (by omega)).1, bn_s, if_pos (ha i (by omega) (by omega)), if_neg (by decide), bm_s, oN_S]
    obtain ⟨M1, e1, e2, e3⟩ := ih (i + 1) f _ (by omega) (by omega) (h.ag (Ag.of f1 (by rfl))) (wr_s _ _ _ _) (fun k h1 h2 => ha k (by omega) h2)
    exact ⟨M1, e1, e2, f1.tr e3⟩
theorem n_step {f : Nat} (h : Tc M tx len) (h4 : M 2 4 = oN i) (h5 : M 2 5 = oN v) (hl : i < len) (hd : 48 ≤ tx i ∧ tx i ≤ 57) (hv : v < 1000) : f_L_advance_157 (f + 1) M = f_L_advance_157 f (wr (wr M 2 5 (oN (v * 10 + tx i - 48))) 2 4 (oN (i + 1))) := by
  have hle := h.1
  have en : oN v * 10 + oN (tx i) - 48 = oN (v * 10 + tx i - 48) := by
    rw [show (10 : Int32) = oN 10 from rfl, ← oN_mul, ← oN_add]
    exact (Int32.ofNat_sub _ 48 (by omega)).symm
  rw [f_L_advance_157, h.2.1, h4, if_neg (fun q => by have := (oN_le (by omega) (by omega)).mp q; omega), chk_t ((iin_oN (by omega)).mpr (by omega)), oI (by omega), (h.lt hl).2.1, bn_s, if_pos hd, if_neg (by decide), (h.2.2 i hl).2, h5, en, if_neg (show ¬ (1000000 : Int32) < oN (v * 10 + tx i - 48) from fun q => by have := (oN_lt (a := 1000000) (by omega) (by omega)).mp q; omega), bm_s, bm_s, wr_n (by decide), h4, oN_S]
theorem n_stop {f : Nat} (h : Tc M tx len) (h4 : M 2 4 = oN i) (hl : i < len) (hd : ¬ (48 ≤ tx i ∧ tx i ≤ 57)) : f_L_advance_157 (f + 1) M = some M := by
  have hle := h.1
  rw [f_L_advance_157, h.2.1, h4, if_neg (fun q => by have := (oN_le (by omega) (by omega)).mp q; omega), chk_t ((iin_oN (by omega)).mpr (by omega)), oI (by omega), (h.lt hl).2.1, bn_s, if_neg hd, if_pos rfl]
  rfl
/-- a number token -/
theorem t_num (h : Tc M tx len) (h3 : M 2 3 = oN i) (hw : w < 1000) (hl : i + (digs w).length < len) (hd : ∀ j, j < (digs w).length → tx (i + j) = (digs w).getD j 0) (hn : ¬ (48 ≤ tx (i + (digs w).length) ∧ tx (i + (digs w).length) ≤ 57)) :
    ∃ M1, f_L_advance_46 M = some M1 ∧ M1 2 2 = 2 ∧ M1 2 4 = oN (i + (digs w).length) ∧ M1 2 5 = oN w ∧ Tc M1 tx len ∧ Fr [(2, 2, 0)] M M1 := by
  obtain ⟨g1, g2, g3⟩ := dg_ok w hw
  have ti := hd 0 g2
  have gi := g3 0 g2
  rw [← ti] at gi
  rw [Nat.add_zero] at gi
  obtain ⟨Ma, a1, a2, a3, a4, a5⟩ := t_beg h h3 (by omega)
  rw [a5, if_neg (by omega), if_pos gi]
  have fb : Fr [(2, 2, 3), (2, 2, 6)] Ma (wr (wr Ma 2 2 2) 2 5 0) := (fr_wr rfl (by rfl)).tr (fr_wr rfl (by rfl))
  have b2 : (wr (wr Ma 2 2 2) 2 5 0) 2 2 = 2 := by rw [wr_n (by decide), wr_s]
  have b4 : (wr (wr Ma 2 2 2) 2 5 0) 2 4 = oN i := by rw [wr_n (by decide), wr_n (by decide)]; exact a2
  have b5 : (wr (wr Ma 2 2 2) 2 5 0) 2 5 = oN 0 := wr_s _ _ _ _
  generalize wr (wr Ma 2 2 2) 2 5 0 = Mb at fb b2 b4 b5
  have hb : Tc Mb tx len := a3.ag (Ag.of fb (by rfl))
  have st : ∀ {X : Mm} {x k : Nat}, Tc X tx len → Tc (wr (wr X 2 5 (oN x)) 2 4 (oN k)) tx len ∧ (wr (wr X 2 5 (oN x)) 2 4 (oN k)) 2 4 = oN k ∧ (wr (wr X 2 5 (oN x)) 2 4 (oN k)) 2 5 = oN x ∧ (wr (wr X 2 5 (oN x)) 2 4 (oN k)) 2 2 = X 2 2 ∧ Fr [(2, 2, 0)] X (wr (wr X 2 5 (oN x)) 2 4 (oN k)) := by
    intro X x k hX
    have fX : Fr [(2, 2, 6), (2, 2, 5)] X (wr (wr X 2 5 (oN x)) 2 4 (oN k)) := (fr_wr rfl (by rfl)).tr (fr_wr rfl (by rfl))
    exact ⟨hX.ag (Ag.of fX (by rfl)), wr_s _ _ _ _, by rw [wr_n (by decide), wr_s], fX 2 2 (by rfl), fX.up (by rfl)⟩
  have fA : Fr [(2, 2, 0)] M Mb := a4.tr (fb.up (by rfl))
  unfold digs at g1 g2 g3 hl hd hn ⊢
  by_cases c : w < 10
  · rw [if_pos c] at g1 g2 g3 hl hd hn ⊢
    have hl : i + 1 < len := hl
    have hn : ¬ (48 ≤ tx (i + 1) ∧ tx (i + 1) ≤ 57) := hn
    have d0 : tx i = 48 + w := hd 0 (by show 0 < 1; decide)
    obtain ⟨c1, c2, c3, c4, c5⟩ := st (x := 0 * 10 + tx i - 48) (k := i + 1) hb
    rw [show fu = 99998 + 1 + 1 from rfl, n_step hb b4 b5 (by omega) gi (by omega), n_stop c1 c2 hl hn]
    refine ⟨_, rfl, c4.trans b2, c2, c3.trans (by rw [d0]; exact congrArg oN (by omega)), c1, fA.tr c5⟩
  · rw [if_neg c] at g1 g2 g3 hl hd hn ⊢
    by_cases d : w < 100
    · rw [if_pos d] at g1 g2 g3 hl hd hn ⊢
      have hl : i + 2 < len := hl
      have hn : ¬ (48 ≤ tx (i + 2) ∧ tx (i + 2) ≤ 57) := hn
      have d0 : tx i = 48 + w / 10 := hd 0 (by show 0 < 2; decide)
      have d1 : tx (i + 1) = 48 + w % 10 := hd 1 (by show 1 < 2; decide)
      obtain ⟨c1, c2, c3, c4, c5⟩ := st (x := 0 * 10 + tx i - 48) (k := i + 1) hb
      obtain ⟨z1, z2, z3, z4, z5⟩ := st (x := (0 * 10 + tx i - 48) * 10 + tx (i + 1) - 48) (k := i + 1 + 1) c1
      rw [show fu = 99997 + 1 + 1 + 1 from rfl, n_step hb b4 b5 (by omega) gi (by omega), n_step c1 c2 c3 (by omega) (by omega) (by omega), n_stop z1 z2 hl hn]
      refine ⟨_, rfl, (z4.trans c4).trans b2, z2, z3.trans (by rw [d0, d1]; exact congrArg oN (by omega)), z1, (fA.tr c5).tr z5⟩
    · rw [if_neg d] at g1 g2 g3 hl hd hn ⊢
      have hl : i + 3 < len := hl
      have hn : ¬ (48 ≤ tx (i + 3) ∧ tx (i + 3) ≤ 57) := hn
      have d0 : tx i = 48 + w / 100 := hd 0 (by show 0 < 3; decide)
      have d1 : tx (i + 1) = 48 + w / 10 % 10 := hd 1 (by show 1 < 3; decide)
      have d2 : tx (i + 2) = 48 + w % 10 := hd 2 (by show 2 < 3; decide)
      obtain ⟨c1, c2, c3, c4, c5⟩ := st (x := 0 * 10 + tx i - 48) (k := i + 1) hb
      obtain ⟨z1, z2, z3, z4, z5⟩ := st (x := (0 * 10 + tx i - 48) * 10 + tx (i + 1) - 48) (k := i + 1 + 1) c1
      obtain ⟨y1, y2, y3, y4, y5⟩ := st (x := ((0 * 10 + tx i - 48) * 10 + tx (i + 1) - 48) * 10 + tx (i + 1 + 1) - 48) (k := i + 1 + 1 + 1) z1
      have d2 : tx (i + 1 + 1) = 48 + w % 10 := d2
      rw [show fu = 99996 + 1 + 1 + 1 + 1 from rfl, n_step hb b4 b5 (by omega) gi (by omega), n_step c1 c2 c3 (by omega) (by omega) (by omega), n_step z1 z2 z3 (by omega) (by omega) (by omega), n_stop y1 y2 hl hn]
      refine ⟨_, rfl, ((y4.trans z4).trans c4).trans b2, y2, y3.trans (by rw [d0, d1, d2]; exact congrArg oN (by omega)), y1, ((fA.tr c5).tr z5).tr y5⟩
theorem t_semi (h : Tc M tx len) (h3 : M 2 3 = oN i) (hl : i < len) (hs : tx i = 59) : ∃ M1, f_L_advance_46 M = some M1 ∧ M1 2 2 = 3 ∧ M1 2 4 = oN (i + 1) ∧ Tc M1 tx len ∧ Fr [(2, 2, 0)] M M1 := by
  obtain ⟨Ma, a1, a2, a3, a4, a5⟩ := t_beg h h3 hl
  rw [a5, if_neg (by omega), if_neg (by omega), if_pos hs]
  unfold f_L_advance_245 f_L_advance_258
  have fb : Fr [(2, 2, 3), (2, 2, 5)] Ma (wr (wr Ma 2 2 3) 2 4 (oN (i + 1))) := (fr_wr rfl (by rfl)).tr (fr_wr rfl (by rfl))
  rw [bm_s, wr_n (by decide), a2, bm_s, oN_S]
  exact ⟨_, rfl, by rw [wr_n (by decide), wr_s], wr_s _ _ _ _, a3.ag (Ag.of fb (by rfl)), a4.tr (fb.up (by rfl))⟩
theorem at_sv (h3 : M 2 3 = oN 0) (h : ∀ k, k < 6 → M 3 k = oN (svL.getD k 0)) : ∀ (d i f : Nat), d + i = 6 → d < f → f_L_isAt_28 1 M f (oN i) = some 1 := by
  intro d
  induction d with
  | zero =>
    intro i f hd hf
    obtain ⟨f, rfl⟩ : ∃ g, f = g + 1 := ⟨f - 1, by omega⟩
    rw [f_L_isAt_28, sy_len, bn_s, if_pos ((oN_le (by omega) (by omega)).mpr (by omega))]
  | succ d ih =>
    intro i f hd hf
    obtain ⟨f, rfl⟩ : ∃ g, f = g + 1 := ⟨f - 1, by omega⟩
    have e : (M 2 3) + oN i = oN i := by rw [h3, ← oN_add, Nat.zero_add]
    rw [f_L_isAt_28, sy_len, bn_s, if_neg (fun q => by have := (oN_le (by omega) (by omega)).mp q; omega), e, chk_t ((iin_oN (by omega)).mpr (by omega)), (sv_at i (by omega)).1, bn_s, oI (by omega), if_pos (h i (by omega)), oN_S]
    exact ih (i + 1) f (by omega) (by omega)
end RLX
