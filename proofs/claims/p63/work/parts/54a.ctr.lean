/-! the constructors -/
def iniN : Option Int32 := (f_M_init (fun _ _ => 0)).map fun N => N 134 24
theorem iniN_ok : iniN = some 0 := by decide +kernel
theorem by_id : ∀ c, c < 128 → (oN c).toInt8.toInt32.toInt8.toInt32 = oN c := by decide +kernel
section CTR
variable {M N : Mm} {r : Rw}
/-- nothing but what the constructors write before the text -/
def Zx (M : Mm) : Prop := ∀ b k, b < 134 → M b k = 0 ∨ (b = 0 ∧ k = 4) ∨ (b = 1 ∧ k = 4) ∨ (k = 11 ∧ (b = 4 ∨ b = 15 ∨ 34 ≤ b))
theorem Zx.zr (h : Zx M) (c : Nat) : Zx (zr M c) := by
  intro b k hb
  show (if b = c then (0 : Int32) else M b k) = 0 ∨ _
  by_cases e : b = c
  · rw [if_pos e]; exact Or.inl rfl
  · rw [if_neg e]; exact h b k hb
theorem Zx.w {c j : Nat} {x : Int32} (h : Zx M) (hc : (c = 0 ∧ j = 4) ∨ (c = 1 ∧ j = 4) ∨ (j = 11 ∧ (c = 4 ∨ c = 15 ∨ 34 ≤ c))) : Zx (wr M c j x) := by
  intro b k hb
  by_cases e : b = c ∧ k = j
  · obtain ⟨rfl, rfl⟩ := e; exact Or.inr hc
  · rw [wr_n e]; exact h b k hb
theorem zx_S {a : Nat} (h : Zx M) (ha : a = 4 ∨ a = 15 ∨ 34 ≤ a) : ∃ M1, f_S_init a M = some M1 ∧ Zx M1 := by
  unfold f_S_init
  simp only [bm_s]
  exact ⟨_, rfl, (((((((((h.zr _).zr _).zr _).zr _).zr _).zr _).zr _).zr _).zr _).w (Or.inr (Or.inr ⟨rfl, ha⟩))⟩
theorem zx_I (h : Zx M) : ∃ M1, f_I_init M = some M1 ∧ Zx M1 := by
  unfold f_I_init f_L_init
  rw [bm_s, bm_s, bn_s, bm_s]
  obtain ⟨M1, e1, z1⟩ := zx_S (a := 4) (((h.zr 2).zr 3).zr 4) (Or.inl rfl)
  rw [e1, bn_s, bm_s]
  exact ⟨_, rfl, z1.w (Or.inr (Or.inl ⟨rfl, rfl⟩))⟩
theorem zx_T (h : Zx M) : ∃ M1, f_T_init M = some M1 ∧ Zx M1 := by
  unfold f_T_init
  simp only [bm_s]
  exact ⟨_, rfl, ((((h.zr _).zr _).zr _).zr _).zr _⟩
/-- the letters of the first setup -/
def fsL : List Nat := (stB 0).map ix
theorem fs_ok : stB 0 = fsL.map oN ∧ stB 29 = fsL.map oN ∧ (∀ c ∈ fsL, c < 128) ∧ fsL.length < 900 := by decide +kernel
theorem fs_at {k : Nat} (hk : k < fsL.length) : f_U_charAt 0 (oN k) = some (oN (fsL.getD k 0)) ∧ f_U_charAt 29 (oN k) = some (oN (fsL.getD k 0)) ∧ fsL.getD k 0 < 128 := by
  obtain ⟨h1, h2, h3, h4⟩ := fs_ok
  have hg : (fsL.map oN).getD k 0 = oN (fsL.getD k 0) := by
    rw [List.getD_eq_getElem?_getD, List.getElem?_map, List.getElem?_eq_getElem hk, List.getD_eq_getElem?_getD, List.getElem?_eq_getElem hk]; rfl
  refine ⟨?_, ?_, ?_⟩
  · unfold f_U_charAt
    rw [h1, chk_t ((iin_oN (by omega)).mpr (by rw [List.length_map]; exact hk)), oI (by omega), hg]
  · unfold f_U_charAt
    rw [h2, chk_t ((iin_oN (by omega)).mpr (by rw [List.length_map]; exact hk)), oI (by omega), hg]
  · rw [List.getD_eq_getElem?_getD, List.getElem?_eq_getElem hk]
    exact h3 _ (List.getElem_mem hk)
theorem fs_len : f_U_length 0 = some (oN fsL.length) ∧ f_U_length 29 = some (oN fsL.length) := by
  obtain ⟨h1, h2, -, -⟩ := fs_ok
  unfold f_U_length
  rw [h1, h2, List.length_map]
  exact ⟨rfl, rfl⟩
theorem c_text : ∀ (d i f : Nat) (M : Mm), d + i = fsL.length → d < f → (∀ k, k < i → M 3 k = oN (fsL.getD k 0)) → ∃ M1, f_C_init_155 f (oN i) M = f_C_init_190 M1 ∧ (∀ k, k < fsL.length → M1 3 k = oN (fsL.getD k 0)) ∧ Fr [(3, 3, 0)] M M1 := by
  have h4 := fs_ok.2.2.2
  intro d
  induction d with
  | zero =>
    intro i f M hd hf hi
    obtain ⟨f, rfl⟩ : ∃ g, f = g + 1 := ⟨f - 1, by omega⟩
    rw [f_C_init_155, fs_len.1, bn_s, if_pos (by rw [oN_le (by omega) (by omega)]; omega)]
    exact ⟨M, rfl, fun k hk => hi k (by omega), Fr.rf _ _⟩
  | succ d ih =>
    intro i f M hd hf hi
    obtain ⟨f, rfl⟩ : ∃ g, f = g + 1 := ⟨f - 1, by omega⟩
    obtain ⟨k1, k2, k3⟩ := fs_at (k := i) (by omega)
    rw [f_C_init_155, fs_len.1, bn_s, if_neg (by rw [oN_le (by omega) (by omega)]; omega), if_neg (show ¬ (900 : Int32) ≤ oN i by rw [show (900 : Int32) = oN 900 from rfl, oN_le (by omega) (by omega)]; omega), k1, bn_s, chk_t ((iin_oN (by omega)).mpr (by omega)), oI (by omega), by_id _ k3, bm_s, oN_S]
    obtain ⟨M1, e1, e2, e3⟩ := ih (i + 1) f (wr M 3 i (oN (fsL.getD i 0))) (by omega) (by omega) (fun k hk => by
      by_cases c : k = i
      · subst c; rw [wr_s]
      · rw [wr_n (by omega)]; exact hi k (by omega))
    exact ⟨M1, e1, e2, (fr_wr rfl (by rfl)).tr e3⟩
theorem m_text : ∀ (d i f : Nat) (N : Mm), d + i = fsL.length → d < f → N 134 14 = oN fsL.length → (∀ k, k < i → N 141 k = oN (fsL.getD k 0)) → ∃ N1, f_M_lays_10 29 f (oN i) N = (bn2 (f_M_load N1) fun r36 M36 => bm (wr M36 134 6 (0 : Int32)) fun M42 => some M42) ∧ (∀ k, k < fsL.length → N1 141 k = oN (fsL.getD k 0)) ∧ N1 134 14 = oN fsL.length ∧ Fr [(141, 141, 0)] N N1 := by
  have h4 := fs_ok.2.2.2
  intro d
  induction d with
  | zero =>
    intro i f N hd hf h14 hi
    obtain ⟨f, rfl⟩ : ∃ g, f = g + 1 := ⟨f - 1, by omega⟩
    rw [f_M_lays_10, h14, if_pos (by rw [oN_le (by omega) (by omega)]; omega)]
    exact ⟨N, rfl, fun k hk => hi k (by omega), h14, Fr.rf _ _⟩
  | succ d ih =>
    intro i f N hd hf h14 hi
    obtain ⟨f, rfl⟩ : ∃ g, f = g + 1 := ⟨f - 1, by omega⟩
    obtain ⟨k1, k2, k3⟩ := fs_at (k := i) (by omega)
    rw [f_M_lays_10, h14, if_neg (by rw [oN_le (by omega) (by omega)]; omega), k2, bn_s, chk_t ((iin_oN (by omega)).mpr (by omega)), oI (by omega), bm_s, oN_S]
    obtain ⟨N1, e1, e2, e3, e4⟩ := ih (i + 1) f (wr N 141 i (oN (fsL.getD i 0))) (by omega) (by omega) (by rw [wr_n (by omega)]; exact h14) (fun k hk => by
      by_cases c : k = i
      · subst c; rw [wr_s]
      · rw [wr_n (by omega)]; exact hi k (by omega))
    exact ⟨N1, e1, e2, e3, (fr_wr rfl (by rfl)).tr e4⟩
/-- what the class's constructor begins with -/
theorem c_pre (z0 : Zx M) : ∃ M1, f_C_init M = f_C_init_155 fu 0 M1 ∧ Zx M1 ∧ M1 0 4 = -1 := by
  obtain ⟨Ma, ea, za⟩ := zx_I (z0.zr 1)
  have zb := ((za.w (c := 0) (j := 4) (x := -1) (Or.inl ⟨rfl, rfl⟩)).zr 14).zr 15
  have nb : (zr (zr (wr Ma 0 4 (-1)) 14) 15) 0 4 = -1 := by simp [zr, wr]
  obtain ⟨Mb, eb, zb2⟩ := zx_S (a := 15) zb (by decide)
  have nb2 : Mb 0 4 = -1 := ((fr_S_init eb) 0 4 (by rfl)).trans nb
  obtain ⟨Mc, ec, zc⟩ := zx_T (zb2.zr 25)
  have nc : Mc 0 4 = -1 := ((fr_T_init ec) 0 4 (by rfl)).trans (by simp [zr]; exact nb2)
  have zd := (((zc.zr 31).zr 32).zr 33).zr 34
  have nd : (zr (zr (zr (zr Mc 31) 32) 33) 34) 0 4 = -1 := by simp [zr]; exact nc
  have go : ∀ (a b : Nat) (X : Mm), Zx X → X 0 4 = -1 → 34 ≤ a → a ≤ 200 → 34 ≤ b → b ≤ 200 → ∃ Y, f_S_init a X = some Y ∧ Zx (zr Y b) ∧ (zr Y b) 0 4 = -1 := by
    intro a b X zX nX ha ha2 hb hb2
    obtain ⟨Y, eY, zY⟩ := zx_S zX (Or.inr (Or.inr ha))
    refine ⟨Y, eY, zY.zr b, ?_⟩
    have : (zr Y b) 0 4 = Y 0 4 := by unfold zr; rw [if_neg (by omega)]
    rw [this]
    exact ((fr_S_init eY) 0 4 (by simp [inT]; omega)).trans nX
  obtain ⟨M1, e1, z1, n1⟩ := go 34 44 _ zd nd (by decide) (by decide) (by decide) (by decide)
  obtain ⟨M2, e2, z2, n2⟩ := go 44 54 _ z1 n1 (by decide) (by decide) (by decide) (by decide)
  obtain ⟨M3, e3, z3, n3⟩ := go 54 64 _ z2 n2 (by decide) (by decide) (by decide) (by decide)
  obtain ⟨M4, e4, z4, n4⟩ := go 64 74 _ z3 n3 (by decide) (by decide) (by decide) (by decide)
  obtain ⟨M5, e5, z5, n5⟩ := go 74 84 _ z4 n4 (by decide) (by decide) (by decide) (by decide)
  obtain ⟨M6, e6, z6, n6⟩ := go 84 94 _ z5 n5 (by decide) (by decide) (by decide) (by decide)
  obtain ⟨M7, e7, z7, n7⟩ := go 94 104 _ z6 n6 (by decide) (by decide) (by decide) (by decide)
  obtain ⟨M8, e8, z8, n8⟩ := go 104 114 _ z7 n7 (by decide) (by decide) (by decide) (by decide)
  obtain ⟨M9, e9, z9, n9⟩ := go 114 124 _ z8 n8 (by decide) (by decide) (by decide) (by decide)
  obtain ⟨M10, e10, z10⟩ := zx_S (a := 124) z9 (by decide)
  have n10 : M10 0 4 = -1 := ((fr_S_init e10) 0 4 (by rfl)).trans n9
  refine ⟨M10, ?_, z10, n10⟩
  unfold f_C_init
  rw [bm_s, ea, bn_s, bm_s, bm_s, bm_s, eb, bn_s, bm_s, ec, bn_s, bm_s, bm_s, bm_s, bm_s, e1, bn_s, bm_s, e2, bn_s, bm_s, e3, bn_s, bm_s, e4, bn_s, bm_s, e5, bn_s, bm_s, e6, bn_s, bm_s, e7, bn_s, bm_s, e8, bn_s, bm_s, e9, bn_s, bm_s, e10, bn_s]
theorem bn_e (o : Option Mm) : (bn o fun M => some M) = o := by cases o <;> rfl
/-- what the model's constructor begins with -/
theorem m_pre (h : ∀ k, N 134 k = 0) : ∃ N1, f_M_init N = f_M_lays 29 N1 ∧ (∀ k, N1 135 k = 0) ∧ (∀ k, N1 140 k = 0) ∧ CO N1 ∧ N1 134 6 = 0 ∧ N1 134 15 = 0 := by
  unfold f_M_init
  simp only [bm_s]
  refine ⟨_, bn_e _, ?_, ?_, ?_, ?_, ?_⟩
  · intro k; simp [wr, zr]
  · intro k; simp [wr, zr]
  · intro k
    have i0 : ix (0 : Int32) = 0 := rfl
    have i1 : ix (1 : Int32) = 1 := rfl
    have i2 : ix (2 : Int32) = 2 := rfl
    have i3 : ix (3 : Int32) = 3 := rfl
    have i4 : ix (4 : Int32) = 4 := rfl
    have i5 : ix (5 : Int32) = 5 := rfl
    have i6 : ix (6 : Int32) = 6 := rfl
    rw [i0, i1, i2, i3, i4, i5, i6]
    match k with
    | 0 => simp [wr, zr]; rfl
    | 1 => simp [wr, zr]; rfl
    | 2 => simp [wr, zr]; rfl
    | 3 => simp [wr, zr]; rfl
    | 4 => simp [wr, zr]; rfl
    | 5 => simp [wr, zr]; rfl
    | 6 => simp [wr, zr]; rfl
    | k + 7 =>
      have e : cosL.getD (k + 7) 0 = 0 := by
        rw [List.getD_eq_getElem?_getD, List.getElem?_eq_none (by show 7 ≤ k + 7; omega)]; rfl
      rw [e]
      simp [wr, zr]
  · simp [wr, zr, h]
  · simp [wr, zr, h]
theorem s_init (z0 : Zx M) : ∃ M1 N1 r, f_C_init M = some M1 ∧ RI M1 N1 ∧ PR M1 N1 r := by
  have h9 := fs_ok.2.2.2
  obtain ⟨Ma, ea, za, na⟩ := c_pre z0
  obtain ⟨Mb, eb, tb, fb⟩ := c_text fsL.length 0 fu Ma (by omega) (by unfold fu; omega) (fun k hk => absurd hk (Nat.not_lt_zero k))
  have eb : f_C_init_155 fu 0 Ma = _ := eb
  have zz : ∀ b k, b < 134 → b ≠ 3 → ¬ (b = 0 ∧ k = 4) → ¬ (b = 1 ∧ k = 4) → (k ≠ 11 ∨ (b ≠ 4 ∧ b ≠ 15 ∧ b < 34)) → Mb b k = 0 := by
    intro b k h1 h2 h3 h4 h5
    have e : Mb b k = Ma b k := fb b k (inR_T (l := [(3, 3, 0)]) (lo := b) (hi := b) (by simp [inR]; omega) (Nat.le_refl _) (Nat.le_refl _) k)
    rw [e]
    rcases za b k h1 with q | q | q | q
    · exact q
    · exact absurd q h3
    · exact absurd q h4
    · omega
  have db : DZ Mb := fun i hi => Or.inl (zz 7 i (by decide) (by decide) (by omega) (by omega) (by omega))
  have hin := iniN_ok
  unfold iniN at hin
  obtain ⟨Na, k1, k2, k3, k4, k5, k6⟩ := m_pre (N := fun _ _ => 0) (fun _ => rfl)
  obtain ⟨Nb, q1, q2, q3, q4⟩ := m_text fsL.length 0 fu (wr Na 134 14 (oN fsL.length)) (by omega) (by unfold fu; omega) (wr_s _ _ _ _) (fun k hk => absurd hk (Nat.not_lt_zero k))
  have q1 : f_M_lays_10 29 fu 0 (wr Na 134 14 (oN fsL.length)) = _ := q1
  have gb : Fr [(134, 134, 15), (141, 141, 0)] Na Nb := (fr_wr rfl (by rfl)).tr (q4.up (by rfl))
  have mb : MS Nb 135 0 (fun _ => 0) := fun k hk => by rw [gb 135 _ (by rfl)]; exact k2 _
  obtain ⟨κ, s, e, v, Mc, Nc, a1, a2, p1, m9⟩ := s_begin (M := Mb) (N := Nb) (len := fsL.length) (tx := fun k => fsL.getD k 0) (by omega) q3 (fun k hk => by
    have hc := (fs_at hk).2.2
    show fsL.getD k 0 ≤ 255 ∧ Mb 3 k = (oN (fsL.getD k 0)).toInt8.toInt32 ∧ Nb 141 k = oN (fsL.getD k 0)
    refine ⟨by omega, ?_, q2 k hk⟩
    rw [tb k hk, cl_d _ hc]) db mb
  have f1 := fr_I_begin a1
  have f2 := fr_M_starts a2
  obtain ⟨Nd, b1, b2, b3⟩ := m_load6 284 0 fu Nc (by omega) (by unfold fu; omega) (fun k hk => absurd hk (Nat.not_lt_zero k))
  have b1 : f_M_load_6 fu 0 Nc = _ := b1
  have p2 : PL Mc Nd (fun k => fsL.getD k 0) fsL.length κ s e v := p1.ag (Ag.rf _ _) (Ag.of b3 (by rfl))
  have eC : f_C_init M = bn2 (bn2 (f_I_readsHead Mc) fun r15 M15 => if r15 = 0 then some ((0 : Int32), M15) else f_I_readsCommands M15) fun r M => if r = 0 then some M else bn (f_S_copyFrom 15 4 M) fun M230 => some M230 := by
    rw [ea, eb]
    unfold f_C_init_190 f_C_init_233
    rw [fs_len.1, bn_s, a1, bn_s]
    exact ld_eq (P := fun M => some M) (Q := fun M => bn (f_S_copyFrom 15 4 M) fun M230 => some M230)
  have eM : f_M_init (fun _ _ => 0) = bn2 (bn (f_M_is 30 Nd) fun r31 => if r31 = 0 then f_M_load_42 1 Nd else f_M_load_42 0 Nd) fun r36 M36 => bm (wr M36 134 6 (0 : Int32)) fun M42 => some M42 := by
    rw [k1]
    unfold f_M_lays
    rw [fs_len.2, bn_s, bm_s, q1]
    unfold f_M_load
    rw [a2, bn_s, b1]
  rcases p_setup p2 b2 with ⟨κ', s', e', v', r', c', M3, N3, y0, y1, y2, y3, y4, y5⟩ | ⟨x, M3, N3, y1, y2, y3, y4⟩
  · have gC : Fr lCs Mc M3 := by
      obtain ⟨x, X, e1, e2⟩ := bn2_i y1
      have q1 := (fr_I_readsHead e1).up (L := lCs) (by rfl)
      rcases ite_i e2 with ⟨-, e2⟩ | ⟨-, e2⟩
      · cases e2
      · exact q1.tr ((fr_I_readsCommands e2).up (by rfl))
    obtain ⟨M4, e4, c4⟩ := c_copy (a := 15) (b := 4) (by omega) y3.2.2.1 y3.2.2.2.1
    have g4 := fr_S_copyFrom e4
    have hM4 : ∀ b k, inT [(1, 1, 3), (1, 1, 4), (1, 1, 5), (2, 2, 2), (2, 2, 3), (2, 2, 4), (2, 2, 5), (2, 2, 6), (4, 13, 0), (15, 24, 0)] b k = false → M4 b k = Mb b k := ((f1.up (by rfl)).tr ((gC.up (by rfl)).tr (g4.up (by rfl))) : Fr [(1, 1, 3), (1, 1, 4), (1, 1, 5), (2, 2, 2), (2, 2, 3), (2, 2, 4), (2, 2, 5), (2, 2, 6), (4, 13, 0), (15, 24, 0)] Mb M4)
    have hN3 : Fr [(134, 134, 8), (134, 134, 15), (134, 134, 17), (134, 134, 18), (134, 134, 20), (134, 134, 21), (134, 134, 22), (134, 134, 23), (134, 134, 24), (134, 134, 25), (134, 134, 26), (135, 135, 0), (139, 139, 0), (141, 141, 0), (147, 147, 0)] Na N3 := (gb.up (by rfl)).tr ((f2.up (by rfl)).tr ((b3.up (by rfl)).tr (y5.up (by rfl))))
    -- the model settles
    have fY : Fr [(134, 134, 15)] N3 (wr N3 134 14 0) := fr_wr rfl (by rfl)
    have m9' : MS (wr N3 134 14 0) 139 0 (fun _ => 0) := ((m9.fr b3 (by rfl)).fr y5 (by rfl)).fr fY (by rfl)
    have n6 : (wr N3 134 14 0) 134 6 = oN 0 := by rw [fY 134 6 (by rfl), hN3 134 6 (by rfl), k5]; rfl
    obtain ⟨N4, w1, w2, w3, w4⟩ := m_rem (a := 139) n6 (by decide) (by decide) (by decide) m9'
    have g5 := fr_M_remember w1
    have hz : N4 134 24 = 0 := by rw [g5 134 24 (by rfl), fY 134 24 (by rfl)]; exact y3.2.2.2.2.2.1
    have m4 : MS N4 135 0 r' := (y3.2.2.2.2.1.fr fY (by rfl)).fr g5 (by rfl)
    have e26 : f_M_commands_26 (oN c') N3 = some (oN c', N4) := by
      unfold f_M_commands_26 f_M_commands_62 f_M_commands_74
      rw [bm_s, if_pos (show (wr N3 134 14 0) 134 24 = 0 by rw [wr_n (by decide)]; exact y3.2.2.2.2.2.1), w1, bn_s, if_pos hz]
    have pr : PR M4 (wr N4 134 6 0) r' := ⟨y3.2.2.1, c4, fun k hk => by rw [wr_n (by omega)]; exact m4 k hk⟩
    refine ⟨M4, wr N4 134 6 0, r', ?_, ⟨⟨r', y3.2.2.1, c4, fun k hk => by rw [wr_n (by omega)]; exact m4 k hk⟩, ⟨0, 0, by decide, by decide, ?_, ?_, wr_s _ _ _ _, fun j hj => absurd hj (Nat.not_lt_zero j)⟩, ?_, ⟨0, by decide, ?_, ?_, fun k hk => absurd hk (Nat.not_lt_zero k)⟩, ⟨0, by decide, ?_, ?_, fun k hk => absurd hk (Nat.not_lt_zero k)⟩, ⟨?_, ?_⟩, ⟨?_, ?_, ?_⟩, ?_, ?_⟩, pr⟩
    · rw [eC, y1, bn2_s, if_neg (by decide), e4, bn_s]
    · rw [hM4 0 11 (by rfl), zz 0 11 (by decide) (by decide) (by omega) (by omega) (by omega)]; rfl
    · rw [hM4 0 12 (by rfl), zz 0 12 (by decide) (by decide) (by omega) (by omega) (by omega)]; rfl
    · intro t ht
      have e33 : M4 33 t = 0 := by rw [hM4 33 t (by rfl), zz 33 t (by decide) (by decide) (by omega) (by omega) (by omega)]
      rw [e33]
      refine ⟨Or.inl rfl, ?_, fun q => absurd rfl q⟩
      rw [wr_n (by omega), g5 140 t (by rfl), fY 140 t (by rfl), hN3 140 t (by rfl)]; exact k3 t
    · rw [hM4 0 2 (by rfl), zz 0 2 (by decide) (by decide) (by omega) (by omega) (by omega)]; rfl
    · rw [wr_n (by decide), g5 134 14 (by rfl), wr_s]; rfl
    · rw [hM4 0 6 (by rfl), zz 0 6 (by decide) (by decide) (by omega) (by omega) (by omega)]; rfl
    · rw [wr_n (by decide), g5 134 15 (by rfl), fY 134 15 (by rfl), hN3 134 15 (by rfl), k6]; rfl
    · rw [hM4 0 3 (by rfl), zz 0 3 (by decide) (by decide) (by omega) (by omega) (by omega), wr_n (by decide), g5 134 16 (by rfl), fY 134 16 (by rfl), y3.2.2.2.2.2.2.2.1]
    · rw [hM4 0 4 (by rfl), fb 0 4 (by rfl), na, wr_n (by decide), g5 134 17 (by rfl), fY 134 17 (by rfl), y3.2.2.2.2.2.2.2.2.2]
    · rw [hM4 26 0 (by rfl), zz 26 0 (by decide) (by decide) (by omega) (by omega) (by omega)]
    · rw [hM4 27 0 (by rfl), zz 27 0 (by decide) (by decide) (by omega) (by omega) (by omega)]
    · rw [hM4 28 0 (by rfl), zz 28 0 (by decide) (by decide) (by omega) (by omega) (by omega)]
    · intro k
      rw [wr_n (by omega), g5 146 k (by rfl), fY 146 k (by rfl), hN3 146 k (by rfl)]; exact k4 k
    · intro i hi
      rw [g4 7 i (by rfl)]
      exact y3.2.2.2.1.2.2.2.2.1 i hi
  · -- the first setup would be wrong: it isn't
    exfalso
    have l1 : lnM 135 = 284 := by decide
    have l2 : lnM 139 = 284 := by decide
    have y24 : (wr N3 134 14 0) 134 24 = 1 := by rw [wr_n (by decide)]; exact y3.1
    have e9 := m_copy (a := 139) (b := 135) (i := 0) (j := 0) (wr N3 134 14 0) (by omega) (by omega) (by omega) (by omega)
    rw [show oN (284 * 0) = 0 from rfl, show 284 * 0 = 0 from rfl] at e9
    have f9 : Fr [(135, 135, 0)] (wr N3 134 14 0) (cpy (wr N3 134 14 0) 139 0 135 0 284) := fr_cpy rfl (by intro _; rfl)
    generalize cpy (wr N3 134 14 0) 139 0 135 0 284 = N5 at e9 f9
    have z24 : N5 134 24 = 1 := by rw [f9 134 24 (by rfl), y24]
    have e26 : f_M_commands_26 x N3 = some (-1, N5) := by
      unfold f_M_commands_26 f_M_commands_62 f_M_commands_74
      rw [bm_s, if_neg (show ¬ (wr N3 134 14 0) 134 24 = 0 by rw [y24]; decide), e9, bn_s, if_neg (show ¬ N5 134 24 = 0 by rw [z24]; decide)]
    have e8 : f_M_init (fun _ _ => 0) = some (wr N5 134 6 0) := by
      rw [eM, y2, e26, bn2_s]
      unfold gLoad f_M_load_119
      rw [if_pos rfl, bn2_s, bm_s]
    rw [e8] at hin
    have hin : some ((wr N5 134 6 0) 134 24) = some (0 : Int32) := hin
    rw [wr_n (by decide), z24] at hin
    exact absurd (Option.some.inj hin) (by decide)
end CTR
