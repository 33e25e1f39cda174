/-! changes, and what the forecasts say -/
abbrev FR1 : List (Nat × Nat × Nat) := [(0, 0, 12), (0, 0, 13), (34, 113, 0)]
section CHS
variable {M : Mm} {r : Rw} {i : Nat}
/-- what is remembered; then any other survey may stand in the present's place -/
theorem k_rem (s : ST M r) : ∃ M1, f_C_remember M = some M1 ∧ ST M1 r ∧ Fr FR1 M M1 ∧ ∀ M2 r2, V r2 → CS M2 15 r2 → Fr [(15, 24, 0)] M1 M2 → ST M2 r2 := by
  obtain ⟨N, h, p⟩ := s
  obtain ⟨M1, N1, e1, e2, u, p1, f1, f2⟩ := s_rem1 h p
  have key : ∀ M2 r2, V r2 → CS M2 15 r2 → Fr [(15, 24, 0)] M1 M2 → ST M2 r2 := by
    intro M2 r2 v2 c2 f3
    have g : Fr [(135, 135, 0)] N1 (fun b k => if b = 135 then oN (r2 k) else N1 b k) := by
      intro b k hb
      have hne : b ≠ 135 := fun q => by subst q; revert hb; simp [inT]
      show (if b = 135 then oN (r2 k) else N1 b k) = N1 b k
      rw [if_neg hne]
    have m2 : MS (fun b k => if b = 135 then oN (r2 k) else N1 b k) 135 0 r2 := fun k hk => by
      show (if (135 : Nat) = 135 then oN (r2 (0 + k)) else _) = _
      rw [if_pos rfl, Nat.zero_add]
    have g1 : Fr [(0, 0, 12), (0, 0, 13), (34, 113, 0), (15, 24, 0)] M M2 := (f1.up (by rfl)).tr (f3.up (by rfl))
    have g2 : Fr [(134, 134, 7), (137, 137, 0), (135, 135, 0)] N (fun b k => if b = 135 then oN (r2 k) else N1 b k) := (f2.up (by rfl)).tr (g.up (by rfl))
    exact ⟨_, h.mk1 ⟨v2, c2, m2⟩ (u.w (Ag.of f3 (by rfl)) (Ag.of g (by rfl))) (Ag.of g1 (by rfl)) (Ag.of g2 (by rfl)), ⟨v2, c2, m2⟩⟩
  exact ⟨M1, e1, key M1 r p1.1 p1.2.1 (Fr.rf _ _), f1, key⟩
theorem k_wear (s : ST M r) {x : Nat} (hx : x ≤ 999) : ∃ M1, f_W_setWear (oN x) M = some (oN (r 1), M1) ∧ ST M1 (up r 1 x) := by
  have c : (0 : Int32) ≤ oN x ∧ oN x ≤ 999 := (in_n (n := 999) (by decide)).mpr ⟨x, hx, rfl⟩
  obtain ⟨M1, e1, s1, f1, key⟩ := k_rem s
  unfold f_W_setWear f_C_setWear
  rw [c_between, bn_s, if_pos c, if_neg (show ¬ (1 : Int32) = 0 by decide), e1, bn_s, bm_s, bc2_r, s.cs.2.1]
  exact ⟨_, rfl, key _ _ (s.v.head (Or.inl ⟨rfl, hx⟩)) (s1.cs.head (k := 1) s.v (Or.inl rfl)) (fr_wr rfl (by rfl))⟩
theorem k_pace (s : ST M r) {x : Nat} (h1 : 100 ≤ x) (hx : x ≤ 999) : ∃ M1, f_W_setPace (oN x) M = some (oN (r 2), M1) ∧ ST M1 (up r 2 x) := by
  have c : (100 : Int32) ≤ oN x ∧ oN x ≤ 999 := (in_n2 (a := 100) (n := 999) (by decide) (by decide)).mpr ⟨x, h1, hx, rfl⟩
  obtain ⟨M1, e1, s1, f1, key⟩ := k_rem s
  unfold f_W_setPace f_C_setPace
  rw [c_between, bn_s, if_pos c, if_neg (show ¬ (1 : Int32) = 0 by decide), e1, bn_s, bm_s, bc2_r, s.cs.2.2.1]
  exact ⟨_, rfl, key _ _ (s.v.head (Or.inr (Or.inl ⟨rfl, h1, hx⟩))) (s1.cs.head (k := 2) s.v (Or.inr (Or.inl rfl))) (fr_wr rfl (by rfl))⟩
theorem k_adj (s : ST M r) {x : Nat} (hx : x ≤ 1) : ∃ M0 M1, f_C_remember M = some M0 ∧ f_C_setAdjusted (oN x) M = some (oN (r 3), M1) ∧ ST M1 (up r 3 x) ∧ Fr [(15, 24, 0)] M0 M1 := by
  have hz : isZ (oN x) := by
    rcases (show x = 0 ∨ x = 1 by omega) with rfl | rfl
    · exact Or.inl rfl
    · exact Or.inr rfl
  obtain ⟨M1, e1, s1, f1, key⟩ := k_rem s
  refine ⟨M1, wr M1 15 12 (oN x), e1, ?_, ?_, fr_wr rfl (by rfl)⟩
  · unfold f_C_setAdjusted
    rw [e1, bn_s, chk_t hz, bm_s, s.cs.2.2.2.1, chk_t (r3_Z s.v)]
  · exact key _ _ (s.v.head (Or.inr (Or.inr ⟨rfl, hx⟩))) (s1.cs.head (k := 3) s.v (Or.inr (Or.inr rfl))) (fr_wr rfl (by rfl))
theorem k_drop (s : ST M r) (hi : i < r 0) (h6 : r (4 + 14 * i + 6) = 0) (h9 : ¬ 9 ≤ r (4 + 14 * i + 3)) : ∃ M1, f_W_dropPin (oN i) M = some (oN (r (4 + 14 * i + 3) + 1), M1) ∧ ST M1 (upD r i) := by
  obtain ⟨M1, e1, s1, f1, key⟩ := k_rem s
  have hd : M1 22 i = oN (r (4 + 14 * i + 3)) := (s1.cs.2.2.2.2.2 i hi).2.2.2.2.2.2.1
  unfold f_W_dropPin f_C_dropPin
  rw [lg_ok s hi]
  show ∃ M1, bc2 (bn (f_S_canDrop 15 M (oN i)) _) _ _ = _ ∧ _
  rw [c_canDrop s.cs s.v hi, bn_s, if_pos h6, if_neg h9, if_neg (by decide), e1, bn_s, chk_t (iin20 s.v hi), oI20 s.v hi, bm_s, hd, oN_S, wr_s, bc2_r]
  refine ⟨_, rfl, key _ _ (upD_V s.v hi h6 h9) (s1.cs.drop s.v hi rfl) (fr_wr rfl (by rfl))⟩
theorem k_drop_no (s : ST M r) (hi : i < r 0) (h : ¬ (r (4 + 14 * i + 6) = 0 ∧ ¬ 9 ≤ r (4 + 14 * i + 3))) : f_W_dropPin (oN i) M = some (-1000000019, M) := by
  have e0 : (if r (4 + 14 * i + 6) = 0 then (if 9 ≤ r (4 + 14 * i + 3) then (0 : Int32) else 1) else 0) = 0 := by
    split
    · split
      · rfl
      · exfalso; apply h; exact ⟨by assumption, by assumption⟩
    · rfl
  unfold f_W_dropPin f_C_dropPin
  rw [lg_ok s hi]
  show bc2 (bn (f_S_canDrop 15 M (oN i)) _) _ _ = _
  rw [c_canDrop s.cs s.v hi, bn_s, e0, if_pos rfl]; rfl
theorem k_drop_none (s : ST M r) (h0 : r 0 = 0) : f_W_dropPin 0 M = some (-1000000017, M) := by
  unfold f_W_dropPin f_C_dropPin
  rw [lg_no s (fun q => by obtain ⟨j, hj, _⟩ := q; omega)]; rfl
theorem k_find (s : ST M r) (hi : i < r 0) (h6 : r (4 + 14 * i + 6) = 0) (h0 : r (4 + 14 * i + 3) ≠ 0) : ∃ M1, f_W_findPin (oN i) M = some (oN (r (4 + 14 * i + 3) - 1), M1) ∧ ST M1 (up r (4 + 14 * i + 3) (r (4 + 14 * i + 3) - 1)) := by
  obtain ⟨M1, e1, s1, f1, key⟩ := k_rem s
  have h9 := (s.v.2.2.2.2.2 i hi).2.2.2.1
  have hd : M1 22 i = oN (r (4 + 14 * i + 3)) := (s1.cs.2.2.2.2.2 i hi).2.2.2.2.2.2.1
  unfold f_W_findPin f_C_findPin
  rw [lg_ok s hi]
  show ∃ M1, bc2 (bn (f_S_canFind 15 M (oN i)) _) _ _ = _ ∧ _
  rw [c_canFind s.cs s.v hi, bn_s, if_neg h0, if_neg (by decide), e1, bn_s, chk_t (iin20 s.v hi), oI20 s.v hi, bm_s, hd, oN_P h0, wr_s, bc2_r]
  exact ⟨_, rfl, key _ _ (s.v.drop hi (by omega) h6) (s1.cs.drop s.v hi rfl) (fr_wr rfl (by rfl))⟩
theorem k_last (s : ST M r) (h0 : r 0 ≠ 0) : ∃ M1, f_W_removeLast M = some (oN (r 0 - 1), M1) ∧ ST M1 (ov r (r 0 - 1) (r 0 - 1) (fun _ => 0)) := by
  have hv := s.v.1
  obtain ⟨M1, e1, s1, f1, key⟩ := k_rem s
  have c0 : ¬ oN (r 0) = 0 := fun q => h0 ((oN0 (by omega)).mp q)
  unfold f_W_removeLast f_C_removeLast
  rw [s.cs.1, if_neg c0, e1, bn_s, s1.cs.1, oN_P h0, bm_s, wr_s, bc2_r]
  exact ⟨_, rfl, key _ _ (s.v.rem h0) (s1.cs.rem s.v h0) (fr_wr rfl (by rfl))⟩
theorem k_last_none (s : ST M r) (h0 : r 0 = 0) : f_W_removeLast M = some (-1000000019, M) := by
  unfold f_W_removeLast f_C_removeLast
  rw [s.cs.1, h0, if_pos (show oN 0 = 0 from rfl)]; rfl
/-! names -/
def NM (r : Rw) : Prop := ∀ i, i < r 0 → r (4 + 14 * i + 7) = 2 ∧ r (4 + 14 * i + 8) = 113 ∧ r (4 + 14 * i + 9) = 97 + i
theorem NM.cg {r' : Rw} (h : NM r) (e0 : r' 0 ≤ r 0) (e : ∀ i, i < r' 0 → ∀ j, 7 ≤ j → j < 10 → r' (4 + 14 * i + j) = r (4 + 14 * i + j)) : NM r' := by
  intro i hi
  obtain ⟨h1, h2, h3⟩ := h i (by omega)
  rw [e i hi 7 (by omega) (by omega), e i hi 8 (by omega) (by omega), e i hi 9 (by omega) (by omega)]
  exact ⟨h1, h2, h3⟩
theorem nm_num (h : NM r) (hi : i < r 0) : nmN r i = 545 + i := by
  obtain ⟨h1, h2, h3⟩ := h i hi
  unfold nmN
  rw [h1]
  show (((0 * 32 + (r (4 + 14 * i + 8 + 0) - 96)) * 32) + (r (4 + 14 * i + 8 + 1) - 96)) = 545 + i
  rw [show 4 + 14 * i + 8 + 0 = 4 + 14 * i + 8 by omega, show 4 + 14 * i + 8 + 1 = 4 + 14 * i + 9 by omega, h2, h3]
  omega
theorem leg_named {a : Nat} {x : Int32} (h : CS M a r) (v : V r) (hx : ∀ i, i < r 0 → ¬ oN (nmN r i) = x) : f_S_legNamed a M x = some (-1) := by
  have hv := v.1
  have L : ∀ (d i n : Nat), d + i = r 0 → d < n → f_S_legNamed_2 a M n x (oN i) = some (-1) := by
    intro d
    induction d with
    | zero =>
      intro i n hd hn
      obtain ⟨k, rfl⟩ : ∃ k, n = k + 1 := ⟨n - 1, by omega⟩
      rw [f_S_legNamed_2, h.1, if_pos ((oN_le (by omega) (by omega)).mpr (by omega))]
    | succ d ih =>
      intro i n hd hn
      obtain ⟨k, rfl⟩ : ∃ k, n = k + 1 := ⟨n - 1, by omega⟩
      have hi : i < r 0 := by omega
      have e0 : M (a + 1 + 0) i = oN (nmN r i) := (h.2.2.2.2.2 i hi).1
      rw [f_S_legNamed_2, h.1, if_neg (fun q => by have := (oN_le (by omega) (by omega)).mp q; omega), chk_t (iin20 v hi), oI20 v hi, e0, if_neg (hx i hi), oN_S]
      exact ih (i + 1) k (by omega) (by omega)
  exact L (r 0) 0 fu (by omega) (by unfold fu; omega)
theorem k_next (s : ST M r) (nm : NM r) (h20 : r 0 < 20) : f_C_nameForNextLeg M = some (.inr (oN (544 + r 0 + 1))) := by
  have hv := s.v.1
  unfold f_C_nameForNextLeg
  rw [s.cs.1, if_pos (show oN (r 0) < 20 from (oN_lt (b := 20) (by omega) (by omega)).mpr h20)]
  have e5 : (544 : Int32) + oN (r 0) + 1 = oN (544 + r 0 + 1) := by rw [oN_add, oN_add]; rfl
  rw [e5, leg_named s.cs s.v (fun j hj q => by
    rw [nm_num nm hj] at q
    have := (oN_inj (by omega) (by omega)).mp q
    omega), bn_s, if_pos rfl]
theorem k_next_full (s : ST M r) (h20 : ¬ r 0 < 20) : f_C_nameForNextLeg M = some (.inl 2) := by
  have hv := s.v.1
  unfold f_C_nameForNextLeg
  rw [s.cs.1, if_neg (show ¬ oN (r 0) < 20 from fun q => h20 ((oN_lt (b := 20) (by omega) (by omega)).mp q))]
/-- the values of a new leg -/
def lvQ (r : Rw) (b p k ri t pc : Nat) : Nat → Nat := lvN r (r 0) (15 * b) p k 0 ri t pc 2 (fun j => if j = 0 then 113 else 97 + r 0)
theorem nm_add (nm : NM r) {b p k ri t pc : Nat} : NM (ov r (r 0 + 1) (r 0) (lvQ r b p k ri t pc)) := by
  intro i hi
  rw [ov_0] at hi
  by_cases c : i = r 0
  · subst c
    rw [ov_l (q := 7) (by decide), ov_l (q := 8) (by decide), ov_l (q := 9) (by decide)]
    exact ⟨rfl, rfl, rfl⟩
  · rw [ov_n (by omega) (by omega), ov_n (by omega) (by omega), ov_n (by omega) (by omega)]
    exact nm i (by omega)
theorem pk_q : pkN (fun j => if j = 0 then 113 else 97 + r 0) 2 = 544 + r 0 + 1 := by
  show ((0 * 32 + (113 - 96)) * 32 + (97 + r 0 - 96)) = _
  omega
theorem bear_in : ∀ b, b < 24 → (0 ≤ oN (15 * b) ∧ oN (15 * b) ≤ 345) ∧ oN (15 * b) - oN (15 * b) / 15 * 15 = 0 := by decide +kernel
theorem k_leg (s : ST M r) (nm : NM r) (h20 : r 0 < 20) {b p k ri t : Nat} (hb : b < 24) (hp : p ≤ 99) (hk : k ≤ 99) (hri : ri ≤ 9999) (ht : t ≤ 50) : ∃ M1, f_W_addLeg (oN (15 * b)) (oN p) (oN k) (oN ri) (oN t) M = some (oN (r 0), M1) ∧ ST M1 (ov r (r 0 + 1) (r 0) (lvQ r b p k ri t 0)) := by
  have hv := s.v.1
  obtain ⟨M1, e1, s1, f1, key⟩ := k_rem s
  have w : VV (lvQ r b p k ri t 0) := VVn (r := r) (n := r 0) (b := b) (p := p) (k := k) (d := 0) (ri := ri) (t := t) (pc := 0) (nl := 2) (wd := fun j => if j = 0 then 113 else 97 + r 0) hb hp hk (by decide) hri ht (by decide) (fun q => absurd rfl q) (by decide) (by decide) (fun j hj => by split <;> omega)
  obtain ⟨M2, b1, b2⟩ := c_addC (M := M1) (nm := 544 + r 0 + 1) s.v s1.cs h20 w (by
    show _ = pkN (fun j => lvN r (r 0) (15 * b) p k 0 ri t 0 2 (fun j => if j = 0 then 113 else 97 + r 0) (8 + j)) 2
    rw [pk_lvN, pk_q]) rfl
  have b1 : f_S_addChained 15 (oN (544 + r 0 + 1)) (oN (15 * b)) (oN p) (oN k) 0 (oN ri) (oN t) M1 = some M2 := b1
  have c4 : 0 ≤ oN ri ∧ oN ri ≤ 9999 := ⟨oN_ge0 (by omega), (oN_le (b := 9999) (by omega) (by omega)).mpr hri⟩
  unfold f_W_addLeg f_C_addLeg
  rw [c_isBearing, bn_s, if_pos (bear_in b hb), if_neg (show ¬ (1 : Int32) = 0 by decide), c_between, bn_s, if_pos (show (0 : Int32) ≤ oN p ∧ oN p ≤ 99 from (in_n (n := 99) (by decide)).mpr ⟨p, hp, rfl⟩), if_neg (show ¬ (1 : Int32) = 0 by decide), c_between, bn_s, if_pos (show (0 : Int32) ≤ oN k ∧ oN k ≤ 99 from (in_n (n := 99) (by decide)).mpr ⟨k, hk, rfl⟩), if_neg (show ¬ (1 : Int32) = 0 by decide), c_between, bn_s, if_pos c4, if_neg (show ¬ (1 : Int32) = 0 by decide), c_between, bn_s, if_pos (show (0 : Int32) ≤ oN t ∧ oN t ≤ 50 from (in_n (n := 50) (by decide)).mpr ⟨t, ht, rfl⟩), if_neg (show ¬ (1 : Int32) = 0 by decide)]
  unfold f_C_addLeg_55
  rw [if_neg (show ¬ (1 : Int32) = 0 by decide), k_next s nm h20, bti_r, e1, bn_s, b1, bn_s, b2.1, ov_0, oN_P (by omega), bc2_r]
  exact ⟨_, rfl, key _ _ (s.v.add h20 w) b2 (fr_S_addChained b1)⟩
theorem k_leg_full (s : ST M r) (h20 : ¬ r 0 < 20) {b p k ri t : Nat} (hb : b < 24) (hp : p ≤ 99) (hk : k ≤ 99) (hri : ri ≤ 9999) (ht : t ≤ 50) : f_W_addLeg (oN (15 * b)) (oN p) (oN k) (oN ri) (oN t) M = some (-1000000019, M) := by
  have c4 : 0 ≤ oN ri ∧ oN ri ≤ 9999 := ⟨oN_ge0 (by omega), (oN_le (b := 9999) (by omega) (by omega)).mpr hri⟩
  unfold f_W_addLeg f_C_addLeg
  rw [c_isBearing, bn_s, if_pos (bear_in b hb), if_neg (show ¬ (1 : Int32) = 0 by decide), c_between, bn_s, if_pos (show (0 : Int32) ≤ oN p ∧ oN p ≤ 99 from (in_n (n := 99) (by decide)).mpr ⟨p, hp, rfl⟩), if_neg (show ¬ (1 : Int32) = 0 by decide), c_between, bn_s, if_pos (show (0 : Int32) ≤ oN k ∧ oN k ≤ 99 from (in_n (n := 99) (by decide)).mpr ⟨k, hk, rfl⟩), if_neg (show ¬ (1 : Int32) = 0 by decide), c_between, bn_s, if_pos c4, if_neg (show ¬ (1 : Int32) = 0 by decide), c_between, bn_s, if_pos (show (0 : Int32) ≤ oN t ∧ oN t ≤ 50 from (in_n (n := 50) (by decide)).mpr ⟨t, ht, rfl⟩), if_neg (show ¬ (1 : Int32) = 0 by decide)]
  unfold f_C_addLeg_55
  rw [if_neg (show ¬ (1 : Int32) = 0 by decide), k_next_full s h20, bti_l, bc2_l]; rfl
theorem k_bog (s : ST M r) (nm : NM r) (h20 : r 0 < 20) {b pc : Nat} (hb : b < 24) (h0 : 1 ≤ pc) (hp : pc ≤ 999) : ∃ M1, f_W_addBog (oN (15 * b)) (oN pc) M = some (oN (r 0), M1) ∧ ST M1 (ov r (r 0 + 1) (r 0) (lvQ r b 0 0 0 0 pc)) := by
  have hv := s.v.1
  obtain ⟨M1, e1, s1, f1, key⟩ := k_rem s
  have w : VV (lvQ r b 0 0 0 0 pc) := VVn (r := r) (n := r 0) (b := b) (p := 0) (k := 0) (d := 0) (ri := 0) (t := 0) (pc := pc) (nl := 2) (wd := fun j => if j = 0 then 113 else 97 + r 0) hb (by decide) (by decide) (by decide) (by decide) (by decide) hp (fun _ => ⟨rfl, rfl, rfl, rfl⟩) (by decide) (by decide) (fun j hj => by split <;> omega)
  obtain ⟨M2, b1, b2⟩ := c_addB (M := M1) (nm := 544 + r 0 + 1) s.v s1.cs h20 w (by
    show _ = pkN (fun j => lvN r (r 0) (15 * b) 0 0 0 0 0 pc 2 (fun j => if j = 0 then 113 else 97 + r 0) (8 + j)) 2
    rw [pk_lvN, pk_q]) (show pc ≠ 0 by omega)
  have b1 : f_S_addPaced 15 (oN (544 + r 0 + 1)) (oN (15 * b)) (oN pc) M1 = some M2 := b1
  unfold f_W_addBog f_C_addBog
  rw [c_isBearing, bn_s, if_pos (bear_in b hb), if_neg (show ¬ (1 : Int32) = 0 by decide), c_between, bn_s, if_pos (show (1 : Int32) ≤ oN pc ∧ oN pc ≤ 999 from (in_n2 (a := 1) (n := 999) (by decide) (by decide)).mpr ⟨pc, h0, hp, rfl⟩), if_neg (show ¬ (1 : Int32) = 0 by decide), k_next s nm h20, bti_r, e1, bn_s, b1, bn_s, b2.1, ov_0, oN_P (by omega), bc2_r]
  exact ⟨_, rfl, key _ _ (s.v.add h20 w) b2 (fr_S_addPaced b1)⟩
theorem k_bog_full (s : ST M r) (h20 : ¬ r 0 < 20) {b pc : Nat} (hb : b < 24) (h0 : 1 ≤ pc) (hp : pc ≤ 999) : f_W_addBog (oN (15 * b)) (oN pc) M = some (-1000000019, M) := by
  unfold f_W_addBog f_C_addBog
  rw [c_isBearing, bn_s, if_pos (bear_in b hb), if_neg (show ¬ (1 : Int32) = 0 by decide), c_between, bn_s, if_pos (show (1 : Int32) ≤ oN pc ∧ oN pc ≤ 999 from (in_n2 (a := 1) (n := 999) (by decide) (by decide)).mpr ⟨pc, h0, hp, rfl⟩), if_neg (show ¬ (1 : Int32) = 0 by decide), k_next_full s h20, bti_l, bc2_l]; rfl
theorem nb_all : ∀ i, i < 20 → f_C_nameLength (oN (545 + i)) = some 2 ∧ (96 : Int32) + ((oN (545 + i) >>> (((5 : Int32) * ((2 - 1) - 0)) &&& 31)) &&& 31) = 113 ∧ (96 : Int32) + ((oN (545 + i) >>> (((5 : Int32) * ((2 - 1) - 1)) &&& 31)) &&& 31) = 97 + oN i := by decide +kernel
theorem q_name (s : ST M r) (nm : NM r) (hi : i < r 0) : f_W_nameByte M (oN i) 0 = some 113 ∧ f_W_nameByte M (oN i) 1 = some (97 + oN i) ∧ f_W_nameByte M (oN i) 2 = some (-1) := by
  obtain ⟨b1, b2, b3⟩ := nb_all i (lt20 s.v hi)
  have e0 : M 16 i = oN (545 + i) := by
    have : M 16 i = oN (nmN r i) := (s.cs.2.2.2.2.2 i hi).1
    rw [this, nm_num nm hi]
  unfold f_W_nameByte f_C_nameByte
  rw [lg_ok s hi]
  refine ⟨?_, ?_, ?_⟩
  · show bc (chk _ _) _ _ = _
    rw [chk_t (iin20 s.v hi), oI20 s.v hi, e0, b1, bn_s, c_between, bn_s, if_pos (show (0 : Int32) ≤ 0 ∧ (0 : Int32) ≤ 2 - 1 by decide), if_neg (by decide), bc_r, b2]
  · show bc (chk _ _) _ _ = _
    rw [chk_t (iin20 s.v hi), oI20 s.v hi, e0, b1, bn_s, c_between, bn_s, if_pos (show (0 : Int32) ≤ 1 ∧ (1 : Int32) ≤ 2 - 1 by decide), if_neg (by decide), bc_r, b3]
  · show bc (chk _ _) _ _ = _
    rw [chk_t (iin20 s.v hi), oI20 s.v hi, e0, b1, bn_s, c_between, bn_s, if_neg (show ¬ ((0 : Int32) ≤ 2 ∧ (2 : Int32) ≤ 2 - 1) by decide), if_pos rfl, bc_r]
/-! forecasts -/
theorem q_mid (s : ST M r) (hi : i < r 0) : ∃ M1, f_W_misclosureIfDropped (oN i) M = some (mpW r i, M1) ∧ ST M1 r := by
  have lk := lg_ok s hi
  obtain ⟨N, h, p⟩ := s
  obtain ⟨M1, e1, h1, p1⟩ := c_pin h p hi
  refine ⟨M1, ?_, ⟨N, h1, p1⟩⟩
  unfold f_W_misclosureIfDropped f_C_misclosureIfDropped
  rw [lk]
  show bc2 (bn2 _ _) _ _ = _
  rw [e1, bn2_s, bc2_r]
theorem dW_nn (e n : Int32) : 0 ≤ (dW e n).toInt ∨ True := Or.inr trivial
theorem ms_nn (v : V r) : (0 : Int32) ≤ msW r := by
  unfold msW dW
  exact oN_ge0 (isq_lt (d_lt (ew_bd v (Nat.le_refl (r 0))).1 (ew_bd v (Nat.le_refl (r 0))).2))
theorem mp_nn (v : V r) (hi : i < r 0) : mpW r i = -1 ∨ (0 : Int32) ≤ mpW r i := by
  unfold mpW
  split
  · split
    · exact Or.inl rfl
    · exact Or.inr (ms_nn (upD_V v hi (by assumption) (by assumption)))
  · exact Or.inl rfl
/-- what suspectLeg has found among the first i legs -/
def SU (r : Rw) (i : Nat) (l1 l2 : Int32) : Prop := (l1 = -1 ∧ l2 = msW r ∧ ∀ k, k < i → mpW r k ≠ -1 → msW r ≤ mpW r k) ∨ (∃ j, j < i ∧ l1 = oN j ∧ l2 = mpW r j ∧ mpW r j ≠ -1 ∧ mpW r j < msW r ∧ ∀ k, k < i → mpW r k ≠ -1 → mpW r j ≤ mpW r k)
theorem SU.skip {l1 l2 : Int32} (h : SU r i l1 l2) (c : mpW r i = -1 ∨ l2 ≤ mpW r i) : SU r (i + 1) l1 l2 := by
  rcases h with ⟨h1, h2, h3⟩ | ⟨j, h0, h1, h2, h4, h5, h3⟩
  · refine Or.inl ⟨h1, h2, fun k hk hne => ?_⟩
    by_cases e : k = i
    · subst e
      rcases c with c | c
      · exact absurd c hne
      · rw [h2] at c; exact c
    · exact h3 k (by omega) hne
  · refine Or.inr ⟨j, by omega, h1, h2, h4, h5, fun k hk hne => ?_⟩
    by_cases e : k = i
    · subst e
      rcases c with c | c
      · exact absurd c hne
      · rw [h2] at c; exact c
    · exact h3 k (by omega) hne
theorem SU.take {l1 l2 : Int32} (h : SU r i l1 l2) (c : mpW r i ≠ -1) (d : mpW r i < l2) : SU r (i + 1) (oN i) (mpW r i) := by
  refine Or.inr ⟨i, by omega, rfl, rfl, c, ?_, fun k hk hne => ?_⟩
  · rcases h with ⟨h1, h2, h3⟩ | ⟨j, h0, h1, h2, h4, h5, h3⟩
    · rw [h2] at d; exact d
    · rw [h2] at d; exact Int32.lt_trans d h5
  · by_cases e : k = i
    · rw [e]; exact Int32.le_refl _
    · rcases h with ⟨h1, h2, h3⟩ | ⟨j, h0, h1, h2, h4, h5, h3⟩
      · rw [h2] at d; exact Int32.le_trans (Int32.le_of_lt d) (h3 k (by omega) hne)
      · rw [h2] at d; exact Int32.le_trans (Int32.le_of_lt d) (h3 k (by omega) hne)
theorem sus_l : ∀ (d i f1 : Nat) (l1 l2 : Int32) (M : Mm), ST M r → d + i = r 0 → d < f1 → SU r i l1 l2 → ∃ v M1 l2', f_C_suspectLeg_12 f1 l1 l2 (oN i) M = some (v, M1) ∧ ST M1 r ∧ SU r (r 0) v l2' := by
  intro d
  induction d with
  | zero =>
    intro i f1 l1 l2 M s hd h1 h
    have hv := s.v.1
    obtain ⟨f1, rfl⟩ : ∃ g, f1 = g + 1 := ⟨f1 - 1, by omega⟩
    have hc : oN (r 0) ≤ oN i := by rw [oN_le (by omega) (by omega)]; omega
    rw [f_C_suspectLeg_12, s.cs.1, if_pos hc]
    have hi : i = r 0 := by omega
    rw [hi] at h
    exact ⟨_, _, l2, rfl, s, h⟩
  | succ d ih =>
    intro i f1 l1 l2 M s hd h1 h
    have hv := s.v.1
    have hi : i < r 0 := by omega
    obtain ⟨f1, rfl⟩ : ∃ g, f1 = g + 1 := ⟨f1 - 1, by omega⟩
    have hc : ¬ oN (r 0) ≤ oN i := by rw [oN_le (by omega) (by omega)]; omega
    have hcs := s.cs.1
    obtain ⟨N, h9, p⟩ := s
    obtain ⟨M1, e1, e2, e3⟩ := c_pin h9 p hi
    have s1 : ST M1 r := ⟨N, e2, e3⟩
    rw [f_C_suspectLeg_12, hcs, if_neg hc, e1, bn2_s]
    unfold f_C_suspectLeg_47
    rw [oN_S]
    by_cases c : mpW r i = -1
    · rw [if_pos c]
      exact ih (i + 1) f1 _ _ _ s1 (by omega) (by omega) (h.skip (Or.inl c))
    · rw [if_neg c]
      by_cases c2 : l2 ≤ mpW r i
      · rw [if_pos c2]
        exact ih (i + 1) f1 _ _ _ s1 (by omega) (by omega) (h.skip (Or.inr c2))
      · rw [if_neg c2]
        exact ih (i + 1) f1 _ _ _ s1 (by omega) (by omega) (h.take c (i_nle.mp c2))
theorem q_susp (s : ST M r) : ∃ v M1 l2, f_C_suspectLeg M = some (v, M1) ∧ ST M1 r ∧ SU r (r 0) v l2 := by
  have hv := s.v.1
  obtain ⟨M1, e, s1, fo, f⟩ := q_fol s
  unfold f_C_suspectLeg
  rw [e, bn_s, t_clos s.v fo, bn_s]
  exact sus_l (r 0) 0 fu _ _ M1 s1 (by omega) (by unfold fu; omega) (Or.inl ⟨rfl, rfl, fun k hk => absurd hk (Nat.not_lt_zero k)⟩)
/-! the best pace -/
theorem lx_min (f : Nat → Int32) : ∀ k, (∀ j, j ≤ k → f (lx f k) ≤ f j) ∧ ∀ j, j < lx f k → f (lx f k) < f j := by
  intro k
  induction k with
  | zero => exact ⟨fun j hj => by rw [show j = 0 by omega]; exact Int32.le_refl _, fun j hj => absurd hj (Nat.not_lt_zero j)⟩
  | succ k ih =>
    obtain ⟨i1, i2⟩ := ih
    unfold lx
    by_cases c : f (k + 1) < f (lx f k)
    · rw [if_pos c]
      refine ⟨fun j hj => ?_, fun j hj => ?_⟩
      · by_cases e : j = k + 1
        · rw [e]; exact Int32.le_refl _
        · exact Int32.le_trans (Int32.le_of_lt c) (i1 j (by omega))
      · exact Int32.lt_of_lt_of_le c (i1 j (by omega))
    · rw [if_neg c]
      refine ⟨fun j hj => ?_, i2⟩
      by_cases e : j = k + 1
      · rw [e]; exact i_nl.mp c
      · exact i1 j (by omega)
theorem up_self (k : Nat) : up r k (r k) = r := by
  funext j; unfold up; split
  · rename_i e; rw [e]
  · rfl
theorem up_up (k x y : Nat) : up (up r k x) k y = up r k y := by
  funext j; unfold up; split <;> rfl
theorem bog_none (h : anB r (r 0) = false) : smW (boW r) (r 0) = 0 := by
  have L : ∀ k, anB r k = false → smW (boW r) k = 0 := by
    intro k
    induction k with
    | zero => intro _; rfl
    | succ k ih =>
      intro h
      unfold anB at h
      rw [Bool.or_eq_false_iff] at h
      have h6 : r (4 + 14 * k + 6) = 0 := by
        have := h.2
        simpa using this
      show smW (boW r) k + boW r k = 0
      rw [ih h.1]
      unfold boW
      rw [if_pos h6]; rfl
  exact L _ h
/-! draws -/
theorem draw_ok {n : Nat} (M : Mm) (h0 : 0 < n) (hn : n ≤ 1000) : ∃ k M1, f_W_draw (oN n) M = some (oN k, M1) ∧ k < n ∧ Fr [(1999, 1999, 0)] M M1 := by
  have hq : ∀ x : Int32, ∃ q, q < 16777216 ∧ (x.toUInt32 >>> ((8 : Int32).toUInt32 &&& Int32.toUInt32 31)).toInt32 = oN q := by
    intro x
    refine ⟨(x.toUInt32 >>> ((8 : Int32).toUInt32 &&& Int32.toUInt32 31)).toNat, ?_, ?_⟩
    · rw [UInt32.toNat_shiftRight]
      have e8 : ((8 : Int32).toUInt32 &&& Int32.toUInt32 31).toNat % 32 = 8 := by decide
      rw [e8, Nat.shiftRight_eq_div_pow]
      have := x.toUInt32.toNat_lt
      omega
    · generalize x.toUInt32 >>> ((8 : Int32).toUInt32 &&& Int32.toUInt32 31) = u
      apply Int32.toBitVec_inj.mp
      show u.toBitVec = _
      simp [oN]
  unfold f_W_draw
  have hn0 : ¬ oN n = 0 := fun q => by have := (oN0 (by omega)).mp q; omega
  rw [bm_s, chk_t hn0]
  generalize hM : wr M 1999 (ix (0 : Int32)) (((M 1999 (ix (0 : Int32))) * (1103515245 : Int32)) + (12345 : Int32)) = M1
  obtain ⟨q, h1, h2⟩ := hq (M1 1999 (ix (0 : Int32)))
  rw [h2, rem_oN (by omega) (by omega)]
  exact ⟨q % n, M1, rfl, Nat.mod_lt _ h0, fr_wr hM.symm (by rfl)⟩
theorem ST.dr {M1 : Mm} (s : ST M r) (f : Fr [(1999, 1999, 0)] M M1) : ST M1 r := by
  refine s.ag (Ag.of f (by rfl)) ?_
  obtain ⟨z1, z2, z3⟩ := s.z
  exact ⟨(f 26 0 (by rfl)).trans z1, (f 27 0 (by rfl)).trans z2, (f 28 0 (by rfl)).trans z3⟩
end CHS
