/-! legs added -/
section LGA
variable {M N : Mm} {r : Rw}
/-- a chained leg in the class's survey -/
theorem c_addC {a : Nat} {lv : Nat → Nat} {nm : Nat} (v : V r) (h : CS M a r) (h20 : r 0 < 20) (w : VV lv) (hnm : nm = pkN (fun j => lv (8 + j)) (lv 7)) (h6 : lv 6 = 0) :
    ∃ M1, f_S_addChained a (oN nm) (oN (lv 0)) (oN (lv 1)) (oN (lv 2)) (oN (lv 3)) (oN (lv 4)) (oN (lv 5)) M = some M1 ∧ CS M1 a (ov r (r 0 + 1) (r 0) lv) := by
  have h9 := h.1
  unfold f_S_addChained
  rw [h9, if_pos (by rw [show (20 : Int32) = oN 20 from rfl, oN_lt (by omega) (by omega)]; omega)]
  have b20 : iin (oN (r 0)) 20 := (iin_oN (by omega)).mpr h20
  have hne : ∀ q, (a + 1 + q = a) = False := fun q => eq_false (by omega)
  have n9 : ∀ (X : Mm) (q k : Nat) (x : Int32), wr X (a + 1 + q) k x a 9 = X a 9 := fun X q k x => wr_n (by omega)
  simp only [bm_s, n9, h9, chk_t b20, oI (show r 0 < 2147483648 by omega)]
  refine ⟨_, rfl, ?_⟩
  refine h.add v h20 w ?_ ?_ ?_ ?_ ?_ ?_ ?_ ?_ ?_ ?_ ?_ ?_ ?_ ?_
  · rw [wr_s, oN_S]
  · rw [wr_n (by omega), wr_n (by omega), wr_n (by omega), wr_n (by omega), wr_n (by omega), wr_n (by omega), wr_n (by omega), wr_n (by omega), wr_n (by omega), wr_n (by omega)]
  · rw [wr_n (by omega), wr_n (by omega), wr_n (by omega), wr_n (by omega), wr_n (by omega), wr_n (by omega), wr_n (by omega), wr_n (by omega), wr_n (by omega), wr_n (by omega)]
  · rw [wr_n (by omega), wr_n (by omega), wr_n (by omega), wr_n (by omega), wr_n (by omega), wr_n (by omega), wr_n (by omega), wr_n (by omega), wr_n (by omega), wr_n (by omega)]
  · intro q hq k hk
    rw [wr_n (by omega), wr_n (by omega), wr_n (by omega), wr_n (by omega), wr_n (by omega), wr_n (by omega), wr_n (by omega), wr_n (by omega), wr_n (by omega), wr_n (by omega)]
  · simp [wr, hne, hnm]
  · simp [wr, hne]
  · simp [wr, hne, h6]
  · simp [wr, hne, h6]; rfl
  · simp [wr, hne]
  · simp [wr, hne]
  · simp [wr, hne]
  · simp [wr, hne]
  · intro _; simp [wr, hne]
/-- a bog leg in the class's survey -/
theorem c_addB {a : Nat} {lv : Nat → Nat} {nm : Nat} (v : V r) (h : CS M a r) (h20 : r 0 < 20) (w : VV lv) (hnm : nm = pkN (fun j => lv (8 + j)) (lv 7)) (h6 : lv 6 ≠ 0) :
    ∃ M1, f_S_addPaced a (oN nm) (oN (lv 0)) (oN (lv 6)) M = some M1 ∧ CS M1 a (ov r (r 0 + 1) (r 0) lv) := by
  have h9 := h.1
  obtain ⟨z1, z2, z3, z4⟩ := w.2.2.2.2.2.2.2.1 h6
  unfold f_S_addPaced f_S_addChained
  rw [h9, if_pos (by rw [show (20 : Int32) = oN 20 from rfl, oN_lt (by omega) (by omega)]; omega)]
  have b20 : iin (oN (r 0)) 20 := (iin_oN (by omega)).mpr h20
  have hne : ∀ q, (a + 1 + q = a) = False := fun q => eq_false (by omega)
  have n9 : ∀ (X : Mm) (q k : Nat) (x : Int32), wr X (a + 1 + q) k x a 9 = X a 9 := fun X q k x => wr_n (by omega)
  have e1 : oN (r 0) + 1 - 1 = oN (r 0) := by rw [oN_S, show Int32.ofNat (r 0 + 1) - 1 = oN (r 0 + 1 - 1) from oN_P (by omega)]; rfl
  rw [if_pos (show oN (r 0) < 20 by rw [show (20 : Int32) = oN 20 from rfl, oN_lt (by omega) (by omega)]; omega)]
  simp only [bm_s, bn_s, n9, h9, wr_s, e1, chk_t b20, oI (show r 0 < 2147483648 by omega)]
  refine ⟨_, rfl, ?_⟩
  refine h.add v h20 w ?_ ?_ ?_ ?_ ?_ ?_ ?_ ?_ ?_ ?_ ?_ ?_ ?_ ?_
  · rw [wr_n (by omega), wr_n (by omega), wr_s, oN_S]
  · rw [wr_n (by omega), wr_n (by omega), wr_n (by omega), wr_n (by omega), wr_n (by omega), wr_n (by omega), wr_n (by omega), wr_n (by omega), wr_n (by omega), wr_n (by omega), wr_n (by omega), wr_n (by omega)]
  · rw [wr_n (by omega), wr_n (by omega), wr_n (by omega), wr_n (by omega), wr_n (by omega), wr_n (by omega), wr_n (by omega), wr_n (by omega), wr_n (by omega), wr_n (by omega), wr_n (by omega), wr_n (by omega)]
  · rw [wr_n (by omega), wr_n (by omega), wr_n (by omega), wr_n (by omega), wr_n (by omega), wr_n (by omega), wr_n (by omega), wr_n (by omega), wr_n (by omega), wr_n (by omega), wr_n (by omega), wr_n (by omega)]
  · intro q hq k hk
    rw [wr_n (by omega), wr_n (by omega), wr_n (by omega), wr_n (by omega), wr_n (by omega), wr_n (by omega), wr_n (by omega), wr_n (by omega), wr_n (by omega), wr_n (by omega), wr_n (by omega), wr_n (by omega)]
  · simp [wr, hne, hnm]
  · simp [wr, hne]
  · simp [wr, hne, h6]
  · simp [wr, hne]
  · simp [wr, hne, z1]; rfl
  · simp [wr, hne, z2]; rfl
  · simp [wr, hne, z3]; rfl
  · simp [wr, hne, z4]; rfl
  · intro z; exact absurd z h6
/-- the name laid into the model's leg -/
theorem m_lay18 {n nl : Nat} {wd : Nat → Nat} (hn : n < 20) (hnl : nl ≤ 6) : ∀ (d i f : Nat) (N : Mm), d + i = nl → d < f → N 135 0 = oN n → N 134 19 = oN nl → (∀ j, j < nl → N 147 j = oN (wd j)) → (∀ j, j < i → N 135 (4 + 14 * n + (8 + j)) = oN (wd j)) →
    ∃ N1, f_M_layName_18 f (oN i) N = some N1 ∧ (∀ j, j < nl → N1 135 (4 + 14 * n + (8 + j)) = oN (wd j)) ∧ (∀ b k, b ≠ 135 ∨ k < 4 + 14 * n + 8 ∨ 4 + 14 * n + 8 + nl ≤ k → N1 b k = N b k) := by
  intro d
  induction d with
  | zero =>
    intro i f N hd hf h0 h19 h147 hi
    obtain ⟨f, rfl⟩ : ∃ g, f = g + 1 := ⟨f - 1, by omega⟩
    rw [f_M_layName_18, h19, if_pos (by rw [oN_le (by omega) (by omega)]; omega)]
    exact ⟨N, rfl, fun j hj => hi j (by omega), fun _ _ _ => rfl⟩
  | succ d ih =>
    intro i f N hd hf h0 h19 h147 hi
    obtain ⟨f, rfl⟩ : ∃ g, f = g + 1 := ⟨f - 1, by omega⟩
    rw [f_M_layName_18, h19, if_neg (by rw [oN_le (by omega) (by omega)]; omega), chk_t ((iin_oN (by omega)).mpr (by omega)), oI (by omega), show ix (0 : Int32) = 0 from rfl, h0, h147 i (by omega), show (8 : Int32) + oN i = oN (8 + i) from (oN_add 8 i).symm, m_put hn (by omega), bn_s, oN_S]
    obtain ⟨N1, e1, e2, e3⟩ := ih (i + 1) f (wr N 135 (4 + 14 * n + (8 + i)) (oN (wd i))) (by omega) (by omega) (by rw [wr_n (by omega)]; exact h0) (by rw [wr_n (by omega)]; exact h19) (fun j hj => by rw [wr_n (by omega)]; exact h147 j hj) (fun j hj => by
      by_cases c : j = i
      · subst c; rw [wr_s]
      · rw [wr_n (by omega)]; exact hi j (by omega))
    refine ⟨N1, e1, e2, fun b k hk => ?_⟩
    rw [e3 b k hk, wr_n (by omega)]
theorem m_lay {n nl : Nat} {wd : Nat → Nat} (hn : n < 20) (hnl : nl ≤ 6) (h0 : N 135 0 = oN n) (h19 : N 134 19 = oN nl) (h147 : ∀ j, j < nl → N 147 j = oN (wd j)) :
    ∃ N1, f_M_layName N = some N1 ∧ N1 135 (4 + 14 * n + 7) = oN nl ∧ (∀ j, j < nl → N1 135 (4 + 14 * n + (8 + j)) = oN (wd j)) ∧ (∀ b k, b ≠ 135 ∨ k < 4 + 14 * n + 7 ∨ 4 + 14 * n + 8 + nl ≤ k → N1 b k = N b k) := by
  unfold f_M_layName
  rw [show ix (0 : Int32) = 0 from rfl, h0, h19, show (7 : Int32) = oN 7 from rfl, m_put hn (by decide), bn_s]
  obtain ⟨N1, e1, e2, e3⟩ := m_lay18 (wd := wd) hn hnl nl 0 fu (wr N 135 (4 + 14 * n + 7) (oN nl)) (by omega) (by unfold fu; omega) (by rw [wr_n (by omega)]; exact h0) (by rw [wr_n (by omega)]; exact h19) (fun j hj => by rw [wr_n (by omega)]; exact h147 j hj) (fun j hj => absurd hj (Nat.not_lt_zero j))
  refine ⟨N1, e1, ?_, e2, fun b k hk => ?_⟩
  · rw [e3 _ _ (by omega), wr_s]
  · rw [e3 b k (by omega), wr_n (by omega)]
/-- the values of a leg that is told by numbers -/
def lvN (r : Rw) (n b p k d ri t pc nl : Nat) (wd : Nat → Nat) : Nat → Nat
  | 0 => b
  | 1 => p
  | 2 => k
  | 3 => d
  | 4 => ri
  | 5 => t
  | 6 => pc
  | 7 => nl
  | q + 8 => if q < nl then wd q else r (4 + 14 * n + (q + 8))
theorem q14 {P : Nat → Prop} (h0 : P 0) (h1 : P 1) (h2 : P 2) (h3 : P 3) (h4 : P 4) (h5 : P 5) (h6 : P 6) (h7 : P 7) (h8 : ∀ q, q < 6 → P (q + 8)) : ∀ q, q < 14 → P q := by
  intro q hq
  match q, hq with
  | 0, _ => exact h0
  | 1, _ => exact h1
  | 2, _ => exact h2
  | 3, _ => exact h3
  | 4, _ => exact h4
  | 5, _ => exact h5
  | 6, _ => exact h6
  | 7, _ => exact h7
  | q + 8, h => exact h8 q (by omega)
theorem m_adds {b p k ri t pc nl : Nat} {wd : Nat → Nat} (P : PR M N r) (h20 : r 0 < 20) (u : UND M N) (hnl : nl ≤ 6) (h19 : N 134 19 = oN nl) (h147 : ∀ j, j < nl → N 147 j = oN (wd j)) :
    ∃ M1 N1, f_C_remember M = some M1 ∧ f_M_adds (oN b) (oN p) (oN k) (oN ri) (oN t) (oN pc) N = some (oN (r 0), N1) ∧ UND M1 N1 ∧ CS M1 15 r ∧ MS N1 135 0 (ov r (r 0 + 1) (r 0) (lvN r (r 0) b p k 0 ri t pc nl wd)) ∧ Fr [(0, 0, 12), (0, 0, 13), (34, 113, 0)] M M1 := by
  obtain ⟨M1, N1, e1, e2, u1⟩ := s_rem (a := 135) u P.1 P.2.1 (by decide) (by decide) P.2.2
  have f1 := fr_C_remember e1
  have f2 := fr_M_remember e2
  have c1 : CS M1 15 r := P.2.1.fr f1 (by rfl)
  have m1 : MS N1 135 0 r := P.2.2.fr f2 (by rfl)
  obtain ⟨N2, e3, l7, l8, lo⟩ := m_lay (N := N1) (wd := wd) h20 hnl (m_at m1 (by decide)) ((f2 134 19 (by rfl)).trans h19) (fun j hj => (f2 147 j (by rfl)).trans (h147 j hj))
  have hh : ∃ N9, f_M_adds (oN b) (oN p) (oN k) (oN ri) (oN t) (oN pc) N = some (oN (r 0), N9) ∧ N9 135 0 = oN (r 0 + 1) ∧ (∀ q, q < 14 → N9 135 (4 + 14 * r 0 + q) = oN (lvN r (r 0) b p k 0 ri t pc nl wd q)) ∧ (∀ k, k ≠ 0 → (k < 4 + 14 * r 0 ∨ 18 + 14 * r 0 ≤ k) → N9 135 k = N 135 k) := by
    unfold f_M_adds
    rw [e2, bn_s, e3, bn_s, show ix (0 : Int32) = 0 from rfl, m_at P.2.2 (by decide), show f_M_put (oN (r 0)) 0 = f_M_put (oN (r 0)) (oN 0) from rfl, m_put h20 (by decide), bn_s, show f_M_put (oN (r 0)) 1 = f_M_put (oN (r 0)) (oN 1) from rfl, m_put h20 (by decide), bn_s, show f_M_put (oN (r 0)) 2 = f_M_put (oN (r 0)) (oN 2) from rfl, m_put h20 (by decide), bn_s, show f_M_put (oN (r 0)) 3 = f_M_put (oN (r 0)) (oN 3) from rfl, m_put h20 (by decide), bn_s, show f_M_put (oN (r 0)) 4 = f_M_put (oN (r 0)) (oN 4) from rfl, m_put h20 (by decide), bn_s, show f_M_put (oN (r 0)) 5 = f_M_put (oN (r 0)) (oN 5) from rfl, m_put h20 (by decide), bn_s, show f_M_put (oN (r 0)) 6 = f_M_put (oN (r 0)) (oN 6) from rfl, m_put h20 (by decide), bn_s, bm_s]
    have z0 : N2 135 0 = oN (r 0) := (lo 135 0 (by omega)).trans (m_at m1 (by decide))
    refine ⟨_, rfl, ?_, ?_, ?_⟩
    · rw [wr_s, wr_n (by omega), wr_n (by omega), wr_n (by omega), wr_n (by omega), wr_n (by omega), wr_n (by omega), wr_n (by omega), z0, oN_S]
    · refine q14 ?_ ?_ ?_ ?_ ?_ ?_ ?_ ?_ (fun q hq => ?_)
      · simp [wr, lvN]
      · simp [wr, lvN]
      · simp [wr, lvN]
      · simp [wr, lvN]; rfl
      · simp [wr, lvN]
      · simp [wr, lvN]
      · simp [wr, lvN]
      · rw [wr_n (by omega), wr_n (by omega), wr_n (by omega), wr_n (by omega), wr_n (by omega), wr_n (by omega), wr_n (by omega), wr_n (by omega)]; exact l7
      · rw [wr_n (by omega), wr_n (by omega), wr_n (by omega), wr_n (by omega), wr_n (by omega), wr_n (by omega), wr_n (by omega), wr_n (by omega)]
        show N2 135 (4 + 14 * r 0 + (q + 8)) = oN (if q < nl then wd q else r (4 + 14 * r 0 + (q + 8)))
        by_cases c : q < nl
        · rw [if_pos c, Nat.add_comm q 8]; exact l8 q c
        · rw [if_neg c, lo _ _ (by omega)]; exact m_at m1 (by omega)
    · intro k' h1 h2
      rw [wr_n (by omega), wr_n (by omega), wr_n (by omega), wr_n (by omega), wr_n (by omega), wr_n (by omega), wr_n (by omega), wr_n (by omega), lo _ _ (by omega)]
      exact f2 135 k' (by rfl)
  obtain ⟨N9, h1, h2, h3, h4⟩ := hh
  refine ⟨M1, N9, e1, h1, ?_, c1, P.2.2.ovr h20 h2 h3 h4, f1.up (by rfl)⟩
  have fa := fr_M_adds h1
  have fb := fr_M_remember e2
  -- UND speaks of the row of the past, which only remember writes
  have f9 : Ag [(134, 134, 7), (137, 137, 0)] N1 N9 := by
    unfold f_M_adds at h1
    rw [e2, bn_s] at h1
    obtain ⟨X1, x1, h1⟩ := bn_i h1
    obtain ⟨X2, x2, h1⟩ := bn_i h1
    obtain ⟨X3, x3, h1⟩ := bn_i h1
    obtain ⟨X4, x4, h1⟩ := bn_i h1
    obtain ⟨X5, x5, h1⟩ := bn_i h1
    obtain ⟨X6, x6, h1⟩ := bn_i h1
    obtain ⟨X7, x7, h1⟩ := bn_i h1
    obtain ⟨X8, x8, h1⟩ := bn_i h1
    obtain ⟨X9, x9, h1⟩ := bm_i h1
    obtain rfl : X9 = N9 := congrArg Prod.snd (Option.some.inj h1)
    have k : Fr [(135, 135, 0)] N1 X9 := ((fr_M_layName x1).up (by rfl)).tr (((fr_M_put x2).up (by rfl)).tr (((fr_M_put x3).up (by rfl)).tr (((fr_M_put x4).up (by rfl)).tr (((fr_M_put x5).up (by rfl)).tr (((fr_M_put x6).up (by rfl)).tr (((fr_M_put x7).up (by rfl)).tr (((fr_M_put x8).up (by rfl)).tr (fr_wr x9 (by rfl)))))))))
    exact Ag.of k (by rfl)
  exact u1.ag (Ag.rf _ _) f9
theorem c_isBearing (x : Int32) : f_C_isBearing x = some (if (0 ≤ x ∧ x ≤ 345) ∧ x - x / 15 * 15 = 0 then 1 else 0) := by
  unfold f_C_isBearing f_C_isBearing_22 f_C_isBearing_23
  rw [c_between, bn_s]
  by_cases c : (0 : Int32) ≤ x ∧ x ≤ 345
  · rw [if_pos c, if_neg (by decide)]
    by_cases d : x - x / 15 * 15 = 0
    · rw [if_pos d, chk_t (by decide), if_pos ⟨c, d⟩]
    · rw [if_neg d, chk_t (by decide), if_neg (fun q => d q.2)]
  · rw [if_neg c, if_pos rfl, chk_t (by decide), if_neg (fun q => c q.1)]
theorem m_isBearing (x : Int32) : f_M_isBearing x = some (if (0 ≤ x ∧ x ≤ 345) ∧ x - x / 15 * 15 = 0 then 1 else 0) := by
  unfold f_M_isBearing f_M_isBearing_22 f_M_isBearing_23
  rw [m_isIn, bn_s]
  by_cases c : (0 : Int32) ≤ x ∧ x ≤ 345
  · rw [if_pos c, if_neg (by decide)]
    by_cases d : x - x / 15 * 15 = 0
    · rw [if_pos d, chk_t (by decide), if_pos ⟨c, d⟩]
    · rw [if_neg d, chk_t (by decide), if_neg (fun q => d q.2)]
  · rw [if_neg c, if_pos rfl, chk_t (by decide), if_neg (fun q => c q.1)]
theorem bear_of {x : Int32} (h : (0 ≤ x ∧ x ≤ 345) ∧ x - x / 15 * 15 = 0) : ∃ b, b < 24 ∧ x = oN (15 * b) := by
  obtain ⟨i, hi, rfl⟩ := (in_n (n := 345) (by decide)).mp h.1
  have h2 := h.2
  rw [show (15 : Int32) = oN 15 from rfl, rem_oN (by omega) (by omega), oN0 (by omega)] at h2
  exact ⟨i / 15, by omega, congrArg oN (by omega)⟩
/-- the name of the next leg: both agree whether it is free -/
theorem s_next (P : PR M N r) : (r 0 < 20 ∧ f_C_nameForNextLeg M = some (.inr (oN (544 + r 0 + 1))) ∧ ∃ N1, f_M_mayAdd N = some (1, N1) ∧ Fr [(134, 134, 20), (147, 147, 0)] N N1 ∧ N1 134 19 = oN 2 ∧ (∀ j, j < 2 → N1 147 j = oN (if j = 0 then 113 else 97 + r 0))) ∨ (f_C_nameForNextLeg M = some (.inl 2) ∧ ∃ N1, f_M_mayAdd N = some (0, N1) ∧ Fr [(134, 134, 20), (147, 147, 0)] N N1) := by
  have hv := P.1.1
  have hM : ∃ N1, N1 = wr (wr (wr N 134 19 2) 147 0 113) 147 1 (97 + oN (r 0)) ∧ Fr [(134, 134, 20), (147, 147, 0)] N N1 ∧ N1 134 19 = oN 2 ∧ (∀ j, j < 2 → N1 147 j = oN (if j = 0 then 113 else 97 + r 0)) := by
    refine ⟨_, rfl, (fr_wr rfl (by rfl)).tr ((fr_wr rfl (by rfl)).tr (fr_wr rfl (by rfl))), by simp [wr]; rfl, fun j hj => ?_⟩
    rcases (show j = 0 ∨ j = 1 by omega) with rfl | rfl
    · first | (simp [wr]; done) | (simp [wr]; rfl)
    · first | (simp [wr]; done) | (simp [wr]; rfl) | (simp [wr, oN_add]; done) | (simp [wr, oN_add]; rfl)
  obtain ⟨N1, eN, f, k1, k2⟩ := hM
  have m1 : MS N1 135 0 r := P.2.2.fr f (by rfl)
  have em : f_M_mayAdd N = (if (20 : Int32) ≤ oN (r 0) then f_M_mayAdd_51 N1 else bn (f_M_named N1) fun r40 => if r40 = (-1 : Int32) then f_M_mayAdd_52 1 N1 else f_M_mayAdd_51 N1) := by
    unfold f_M_mayAdd
    have e0 : (wr (wr N 134 19 2) 147 0 113) 135 0 = oN (r 0) := by rw [wr_n (by decide), wr_n (by decide)]; exact m_at P.2.2 (by decide)
    rw [bm_s, bm_s, bm_s, show ix (0 : Int32) = 0 from rfl, show ix (1 : Int32) = 1 from rfl, e0, ← eN, m_at m1 (by decide)]
  rw [em]
  unfold f_C_nameForNextLeg f_M_mayAdd_51 f_M_mayAdd_52
  rw [P.2.1.1]
  by_cases c : r 0 < 20
  · rw [if_pos (show oN (r 0) < 20 from (oN_lt (b := 20) (by omega) (by omega)).mpr c), if_neg (show ¬ (20 : Int32) ≤ oN (r 0) from fun q => by have := (oN_le (a := 20) (by omega) (by omega)).mp q; omega)]
    have e5 : (544 : Int32) + oN (r 0) + 1 = oN (544 + r 0 + 1) := by rw [oN_add, oN_add]; rfl
    rw [e5]
    obtain ⟨x, x1, x2⟩ := m_named m1 P.1 k1 (by decide) k2 (fun j hj => by split <;> omega)
    obtain ⟨y, y1, y2⟩ := c_named P.2.1 P.1 (x := 544 + r 0 + 1) (by omega)
    have hw : ∀ j, j < 2 → 97 ≤ (if j = 0 then 113 else 97 + r 0) ∧ (if j = 0 then 113 else 97 + r 0) ≤ 122 := by
      intro j hj; split <;> omega
    have epk : pkN (fun j => if j = 0 then 113 else 97 + r 0) 2 = 544 + r 0 + 1 := by
      show ((0 * 32 + (113 - 96)) * 32 + (97 + r 0 - 96)) = _
      omega
    have hxy : y = x := (y2.cg (fun i hi => by rw [← epk]; exact nm_iff P.1 hi hw)).eq x2
    subst hxy
    rw [x1, y1, bn_s, bn_s]
    by_cases z : y = -1
    · rw [if_pos z, if_pos z, chk_t (by decide)]
      exact Or.inl ⟨c, rfl, N1, rfl, f, k1, k2⟩
    · rw [if_neg z, if_neg z, chk_t (by decide)]
      exact Or.inr ⟨rfl, N1, rfl, f⟩
  · rw [if_neg (show ¬ oN (r 0) < 20 from fun q => c ((oN_lt (b := 20) (by omega) (by omega)).mp q)), if_pos (show (20 : Int32) ≤ oN (r 0) from (oN_le (a := 20) (by omega) (by omega)).mpr (by omega)), chk_t (by decide)]
    exact Or.inr ⟨rfl, N1, rfl, f⟩
theorem VVn {b p k d ri t pc nl : Nat} {wd : Nat → Nat} {n : Nat} (hb : b < 24) (hp : p ≤ 99) (hk : k ≤ 99) (hd : d ≤ 9) (hr : ri ≤ 9999) (ht : t ≤ 50) (hpc : pc ≤ 999) (hz : pc ≠ 0 → p = 0 ∧ k = 0 ∧ d = 0 ∧ ri = 0) (h1 : 1 ≤ nl) (h6 : nl ≤ 6) (hw : ∀ j, j < nl → 97 ≤ wd j ∧ wd j ≤ 122) : VV (lvN r n (15 * b) p k d ri t pc nl wd) := by
  refine ⟨⟨b, hb, rfl⟩, hp, hk, hd, hr, ht, hpc, hz, h1, h6, fun j hj => ?_⟩
  have hj : j < nl := hj
  rw [show 8 + j = j + 8 by omega]
  show 97 ≤ (if j < nl then wd j else _) ∧ (if j < nl then wd j else _) ≤ 122
  rw [if_pos hj]
  exact hw j hj
theorem pk_lvN {b p k d ri t pc nl n : Nat} {wd : Nat → Nat} : pkN (fun j => lvN r n b p k d ri t pc nl wd (8 + j)) nl = pkN wd nl := by
  refine pk_cg _ fun j hj => ?_
  rw [show 8 + j = j + 8 by omega]
  show (if j < nl then wd j else _) = _
  rw [if_pos hj]
theorem s_addLeg (h : RI M N) (l1 l2 l3 l4 l5 : Int32) : ∃ o v M1 N1, f_C_addLeg l1 l2 l3 l4 l5 M = some (o, M1) ∧ f_M_addLeg l1 l2 l3 l4 l5 N = some (v, N1) ∧ RI M1 N1 ∧ An 1 2 o v (N1 134 7) := by
  obtain ⟨r, P⟩ := h.1
  have hbad : (∃ o v M1 N1, f_C_addLeg_54 l1 l2 l3 l4 l5 M = some (o, M1) ∧ f_M_addLeg_54 l1 l2 l3 l4 l5 N = some (v, N1) ∧ RI M1 N1 ∧ An 1 2 o v (N1 134 7)) := by
    unfold f_C_addLeg_54 f_C_addLeg_55 f_M_addLeg_54 f_M_addLeg_55 f_M_addLeg_68 f_M_addLeg_80
    rw [if_pos (show (0 : Int32) = 0 from rfl), if_pos (show (0 : Int32) = 0 from rfl)]
    have key : ∀ N1 : Mm, Fr [(134, 134, 20), (147, 147, 0)] N N1 → ∀ x : Int32, ∃ o v M1 N2, some ((.inl 1 : Nat ⊕ Int32), M) = some (o, M1) ∧ (bn2 (f_M_fails 1 x 0 N1) fun r81 M81 => if r81 = 0 then bn2 (f_M_adds l1 l2 l3 l4 l5 0 M81) fun r98 M98 => some (r98, M98) else some ((0 : Int32), M81)) = some (v, N2) ∧ RI M1 N2 ∧ An 1 2 o v (N2 134 7) := by
      intro N1 f x
      rw [m_fails, bn2_s, if_neg (by rw [if_neg (fun q => absurd q.1 (by decide))]; decide)]
      rw [if_neg (show ¬ (1 : Int32) = 0 by decide)]
      exact ⟨_, _, _, _, rfl, rfl, (h.frN f (by rfl)).n7 1, Or.inl ⟨rfl, wr_s _ _ _ _⟩⟩
    rcases s_next P with ⟨-, -, N1, e, f, -, -⟩ | ⟨-, N1, e, f⟩
    · rw [e, bn2_s, if_neg (by decide)]; exact key N1 f 0
    · rw [e, bn2_s, if_pos rfl]; exact key N1 f 1
  unfold f_C_addLeg f_M_addLeg
  rw [c_isBearing, m_isBearing, bn_s, bn_s]
  by_cases c1 : (0 ≤ l1 ∧ l1 ≤ 345) ∧ l1 - l1 / 15 * 15 = 0
  case neg => rw [if_neg c1, if_pos rfl, if_pos rfl]; exact hbad
  rw [if_pos c1, if_neg (show ¬ (1 : Int32) = 0 by decide), if_neg (show ¬ (1 : Int32) = 0 by decide), c_between, m_isIn, bn_s, bn_s]
  by_cases c2 : 0 ≤ l2 ∧ l2 ≤ 99
  case neg => rw [if_neg c2, if_pos rfl, if_pos rfl]; exact hbad
  rw [if_pos c2, if_neg (show ¬ (1 : Int32) = 0 by decide), if_neg (show ¬ (1 : Int32) = 0 by decide), c_between, m_isIn, bn_s, bn_s]
  by_cases c3 : 0 ≤ l3 ∧ l3 ≤ 99
  case neg => rw [if_neg c3, if_pos rfl, if_pos rfl]; exact hbad
  rw [if_pos c3, if_neg (show ¬ (1 : Int32) = 0 by decide), if_neg (show ¬ (1 : Int32) = 0 by decide), c_between, m_isIn, bn_s, bn_s]
  by_cases c4 : 0 ≤ l4 ∧ l4 ≤ 9999
  case neg => rw [if_neg c4, if_pos rfl, if_pos rfl]; exact hbad
  rw [if_pos c4, if_neg (show ¬ (1 : Int32) = 0 by decide), if_neg (show ¬ (1 : Int32) = 0 by decide), c_between, m_isIn, bn_s, bn_s]
  by_cases c5 : 0 ≤ l5 ∧ l5 ≤ 50
  case neg => rw [if_neg c5, if_pos rfl, if_pos rfl]; exact hbad
  rw [if_pos c5, if_neg (show ¬ (1 : Int32) = 0 by decide), if_neg (show ¬ (1 : Int32) = 0 by decide)]
  obtain ⟨b, hb, rfl⟩ := bear_of c1
  obtain ⟨p, hp, rfl⟩ := (in_n (n := 99) (by decide)).mp c2
  obtain ⟨k, hk, rfl⟩ := (in_n (n := 99) (by decide)).mp c3
  obtain ⟨t, ht, rfl⟩ := (in_n (n := 50) (by decide)).mp c5
  obtain ⟨ri, hri, rfl⟩ : ∃ i, i ≤ 9999 ∧ l4 = oN i := by
    obtain ⟨i, hi, rfl⟩ := oN_ex c4.1
    exact ⟨i, (oN_le (b := 9999) hi (by omega)).mp c4.2, rfl⟩
  unfold f_C_addLeg_55 f_M_addLeg_55 f_M_addLeg_68 f_M_addLeg_80
  rw [if_neg (show ¬ (1 : Int32) = 0 by decide), if_neg (show ¬ (1 : Int32) = 0 by decide)]
  rcases s_next P with ⟨h20, en, N1, e, f, k1, k2⟩ | ⟨en, N1, e, f⟩
  · have hN1 := h.frN f (by rfl)
    have P1 : PR M N1 r := ⟨P.1, P.2.1, P.2.2.fr f (by rfl)⟩
    obtain ⟨M2, N2, a1, a2, a3, a4, a5, a6⟩ := m_adds (b := 15 * b) (p := p) (k := k) (ri := ri) (t := t) (pc := 0) (nl := 2) (wd := fun j => if j = 0 then 113 else 97 + r 0) (P1.n7 0) h20 (hN1.n7 0).2.1 (by decide) (by rw [wr_n (by decide)]; exact k1) (fun j hj => by rw [wr_n (by omega)]; exact k2 j hj)
    have a2 : f_M_adds (oN (15 * b)) (oN p) (oN k) (oN ri) (oN t) 0 (wr N1 134 7 0) = some (oN (r 0), N2) := a2
    have w := VVn (r := r) (n := r 0) (b := b) (p := p) (k := k) (d := 0) (ri := ri) (t := t) (pc := 0) (nl := 2) (wd := fun j => if j = 0 then 113 else 97 + r 0) hb hp hk (by decide) hri ht (by decide) (fun q => absurd rfl q) (by decide) (by decide) (fun j hj => by split <;> omega)
    obtain ⟨M3, b1, b2⟩ := c_addC (M := M2) (nm := 544 + r 0 + 1) P.1 a4 h20 w (by
      show _ = pkN (fun j => lvN r (r 0) (15 * b) p k 0 ri t 0 2 (fun j => if j = 0 then 113 else 97 + r 0) (8 + j)) 2
      rw [pk_lvN]
      show _ = ((0 * 32 + (113 - 96)) * 32 + (97 + r 0 - 96))
      omega) rfl
    have b1 : f_S_addChained 15 (oN (544 + r 0 + 1)) (oN (15 * b)) (oN p) (oN k) 0 (oN ri) (oN t) M2 = some M3 := b1
    have g1 : Fr [(0, 0, 12), (0, 0, 13), (34, 113, 0), (15, 24, 0)] M M3 := (a6.up (by rfl)).tr ((fr_S_addChained b1).up (by rfl))
    have g2 : Fr [(134, 134, 20), (147, 147, 0), (134, 134, 8), (134, 134, 7), (137, 137, 0), (135, 135, 0)] N N2 := (f.up (by rfl)).tr ((fr_wr rfl (by rfl)).tr ((fr_M_adds a2).up (by rfl)))
    rw [en, bti_r, a1, bn_s, b1, bn_s, b2.1, ov_0, oN_P (by omega), e, bn2_s, if_neg (show ¬ (1 : Int32) = 0 by decide), m_fail0, bn2_s, if_pos rfl, a2, bn2_s]
    refine ⟨_, _, _, _, rfl, rfl, h.mk1 ⟨P.1.add h20 w, b2, a5⟩ (a3.ag (Ag.of (fr_S_addChained b1) (by rfl)) (Ag.rf _ _)) (Ag.of g1 (by rfl)) (Ag.of g2 (by rfl)), rfl, ?_⟩
    rw [(fr_M_adds a2) 134 7 (by rfl), wr_s]
  · rw [en, bti_l, e, bn2_s, if_pos rfl, m_fail2, bn2_s, if_neg (show ¬ (1 : Int32) = 0 by decide)]
    exact ⟨_, _, _, _, rfl, rfl, (h.frN f (by rfl)).n7 2, Or.inr ⟨by decide, rfl, wr_s _ _ _ _⟩⟩
theorem s_addBog (h : RI M N) (l1 l2 : Int32) : ∃ o v M1 N1, f_C_addBog l1 l2 M = some (o, M1) ∧ f_M_addBog l1 l2 N = some (v, N1) ∧ RI M1 N1 ∧ An 1 2 o v (N1 134 7) := by
  obtain ⟨r, P⟩ := h.1
  have hbad : (∃ o v M1 N1, f_C_addBog_18 M = some (o, M1) ∧ f_M_addBog_19 l1 l2 N = some (v, N1) ∧ RI M1 N1 ∧ An 1 2 o v (N1 134 7)) := by
    unfold f_C_addBog_18 f_M_addBog_19 f_M_addBog_24 f_M_addBog_36
    have key : ∀ N1 : Mm, Fr [(134, 134, 20), (147, 147, 0)] N N1 → ∀ x : Int32, ∃ o v M1 N2, some ((.inl 1 : Nat ⊕ Int32), M) = some (o, M1) ∧ (bn2 (f_M_fails 1 x 0 N1) fun r37 M37 => if r37 = 0 then bn2 (f_M_adds l1 0 0 0 0 l2 M37) fun r52 M52 => some (r52, M52) else some ((0 : Int32), M37)) = some (v, N2) ∧ RI M1 N2 ∧ An 1 2 o v (N2 134 7) := by
      intro N1 f x
      rw [m_fails, bn2_s, if_neg (by rw [if_neg (fun q => absurd q.1 (by decide))]; decide)]
      rw [if_neg (show ¬ (1 : Int32) = 0 by decide)]
      exact ⟨_, _, _, _, rfl, rfl, (h.frN f (by rfl)).n7 1, Or.inl ⟨rfl, wr_s _ _ _ _⟩⟩
    rcases s_next P with ⟨-, -, N1, e, f, -, -⟩ | ⟨-, N1, e, f⟩
    · rw [e, bn2_s, if_neg (by decide)]; exact key N1 f 0
    · rw [e, bn2_s, if_pos rfl]; exact key N1 f 1
  unfold f_C_addBog f_M_addBog
  rw [c_isBearing, m_isBearing, bn_s, bn_s]
  by_cases c1 : (0 ≤ l1 ∧ l1 ≤ 345) ∧ l1 - l1 / 15 * 15 = 0
  case neg => rw [if_neg c1, if_pos rfl, if_pos rfl]; exact hbad
  rw [if_pos c1, if_neg (show ¬ (1 : Int32) = 0 by decide), if_neg (show ¬ (1 : Int32) = 0 by decide), c_between, m_isIn, bn_s, bn_s]
  by_cases c2 : 1 ≤ l2 ∧ l2 ≤ 999
  case neg => rw [if_neg c2, if_pos rfl, if_pos rfl]; exact hbad
  rw [if_pos c2, if_neg (show ¬ (1 : Int32) = 0 by decide), if_neg (show ¬ (1 : Int32) = 0 by decide)]
  obtain ⟨b, hb, rfl⟩ := bear_of c1
  obtain ⟨pc, hp0, hp, rfl⟩ := (in_n2 (a := 1) (n := 999) (by decide) (by decide)).mp c2
  unfold f_M_addBog_24 f_M_addBog_36
  rcases s_next P with ⟨h20, en, N1, e, f, k1, k2⟩ | ⟨en, N1, e, f⟩
  · have hN1 := h.frN f (by rfl)
    have P1 : PR M N1 r := ⟨P.1, P.2.1, P.2.2.fr f (by rfl)⟩
    obtain ⟨M2, N2, a1, a2, a3, a4, a5, a6⟩ := m_adds (b := 15 * b) (p := 0) (k := 0) (ri := 0) (t := 0) (pc := pc) (nl := 2) (wd := fun j => if j = 0 then 113 else 97 + r 0) (P1.n7 0) h20 (hN1.n7 0).2.1 (by decide) (by rw [wr_n (by decide)]; exact k1) (fun j hj => by rw [wr_n (by omega)]; exact k2 j hj)
    have a2 : f_M_adds (oN (15 * b)) 0 0 0 0 (oN pc) (wr N1 134 7 0) = some (oN (r 0), N2) := a2
    have w := VVn (r := r) (n := r 0) (b := b) (p := 0) (k := 0) (d := 0) (ri := 0) (t := 0) (pc := pc) (nl := 2) (wd := fun j => if j = 0 then 113 else 97 + r 0) hb (by decide) (by decide) (by decide) (by decide) (by decide) hp (fun _ => ⟨rfl, rfl, rfl, rfl⟩) (by decide) (by decide) (fun j hj => by split <;> omega)
    obtain ⟨M3, b1, b2⟩ := c_addB (M := M2) (nm := 544 + r 0 + 1) P.1 a4 h20 w (by
      show _ = pkN (fun j => lvN r (r 0) (15 * b) 0 0 0 0 0 pc 2 (fun j => if j = 0 then 113 else 97 + r 0) (8 + j)) 2
      rw [pk_lvN]
      show _ = ((0 * 32 + (113 - 96)) * 32 + (97 + r 0 - 96))
      omega) (show pc ≠ 0 by omega)
    have b1 : f_S_addPaced 15 (oN (544 + r 0 + 1)) (oN (15 * b)) (oN pc) M2 = some M3 := b1
    have g1 : Fr [(0, 0, 12), (0, 0, 13), (34, 113, 0), (15, 24, 0)] M M3 := (a6.up (by rfl)).tr ((fr_S_addPaced b1).up (by rfl))
    have g2 : Fr [(134, 134, 20), (147, 147, 0), (134, 134, 8), (134, 134, 7), (137, 137, 0), (135, 135, 0)] N N2 := (f.up (by rfl)).tr ((fr_wr rfl (by rfl)).tr ((fr_M_adds a2).up (by rfl)))
    rw [en, bti_r, a1, bn_s, b1, bn_s, b2.1, ov_0, oN_P (by omega), e, bn2_s, if_neg (show ¬ (1 : Int32) = 0 by decide), m_fail0, bn2_s, if_pos rfl, a2, bn2_s]
    refine ⟨_, _, _, _, rfl, rfl, h.mk1 ⟨P.1.add h20 w, b2, a5⟩ (a3.ag (Ag.of (fr_S_addPaced b1) (by rfl)) (Ag.rf _ _)) (Ag.of g1 (by rfl)) (Ag.of g2 (by rfl)), rfl, ?_⟩
    rw [(fr_M_adds a2) 134 7 (by rfl), wr_s]
  · rw [en, bti_l, e, bn2_s, if_pos rfl, m_fail2, bn2_s, if_neg (show ¬ (1 : Int32) = 0 by decide)]
    exact ⟨_, _, _, _, rfl, rfl, (h.frN f (by rfl)).n7 2, Or.inr ⟨by decide, rfl, wr_s _ _ _ _⟩⟩
end LGA
