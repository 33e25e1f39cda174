/-! the stations: class and model -/
theorem z64 {x : Int32} (h : ¬ x = 0) : ¬ x.toInt64 = 0 := by
  intro q
  apply h
  have := congrArg Int64.toInt32 q
  rw [Int32.toInt32_toInt64] at this
  exact this
theorem oN0 {n : Nat} (h : n < 2147483648) : oN n = 0 ↔ n = 0 := by
  rw [show (0 : Int32) = oN 0 from rfl, oN_inj h (by decide)]
section TRA
variable {r : Rw} {M N : Mm} {a i : Nat}
/-- the raw stations in the class's rows -/
def RT (M : Mm) (r : Rw) (k : Nat) : Prop := M 26 k = oN (ruN r k) ∧ M 27 k = eW r k ∧ M 28 k = nW r k
theorem t_share {n w : Nat} {c : Int32} {u : Int32} (h5 : M 25 5 = oN n) (hn : n ≤ 20) (hw : M 26 n = oN w) (hu : M 26 i = u) (hi : i ≤ 20) : f_T_shareAt M (oN i) c = some (shW c u (oN w)) := by
  unfold f_T_shareAt f_T_totalRun f_T_shareAt_27 shW
  rw [h5, chk_t ((iin_oN (by omega)).mpr (by omega)), oI (by omega), bn_s, hw]
  by_cases q : oN w = 0
  · rw [if_pos q, if_pos q]
  · rw [if_neg q, if_neg q, chk_t ((iin_oN (by omega)).mpr (by omega)), chk_t (z64 q), oI (by omega), hu]
theorem t_endE {n : Nat} {x : Int32} (h5 : M 25 5 = oN n) (hn : n ≤ 20) (hw : M 27 n = x) : f_T_endEast M = some x := by
  unfold f_T_endEast
  rw [h5, chk_t ((iin_oN (by omega)).mpr (by omega)), oI (by omega), hw]
theorem t_endN {n : Nat} {x : Int32} (h5 : M 25 5 = oN n) (hn : n ≤ 20) (hw : M 28 n = x) : f_T_endNorth M = some x := by
  unfold f_T_endNorth
  rw [h5, chk_t ((iin_oN (by omega)).mpr (by omega)), oI (by omega), hw]
theorem t_run {n : Nat} {x : Int32} (h5 : M 25 5 = oN n) (hn : n ≤ 20) (hw : M 26 n = x) : f_T_totalRun M = some x := by
  unfold f_T_totalRun
  rw [h5, chk_t ((iin_oN (by omega)).mpr (by omega)), oI (by omega), hw]
theorem t_104 (ha : a + 9 < 25) (v : V r) : ∀ (d i f : Nat) (M : Mm), d + i = r 0 + 1 → d < f → CS M a r → M 25 5 = oN (r 0) → (∀ k, k ≤ r 0 → RT M r k) → (∀ k, k < i → M 29 k = aE r k ∧ M 30 k = aN r k) →
    ∃ M', f_T_follow_104 a f (oN i) M = some M' ∧ M' 25 5 = oN (r 0) ∧ (∀ k, k ≤ r 0 → RT M' r k) ∧ (∀ k, k ≤ r 0 → M' 29 k = aE r k ∧ M' 30 k = aN r k) := by
  have hv := v.1
  intro d
  induction d with
  | zero =>
    intro i f M hd hf hC h5 hR hA
    obtain ⟨f, rfl⟩ : ∃ g, f = g + 1 := ⟨f - 1, by omega⟩
    rw [f_T_follow_104, h5, if_pos (by rw [oN_lt (by omega) (by omega)]; omega)]
    exact ⟨M, rfl, h5, hR, fun k hk => hA k (by omega)⟩
  | succ d ih =>
    intro i f M hd hf hC h5 hR hA
    obtain ⟨f, rfl⟩ : ∃ g, f = g + 1 := ⟨f - 1, by omega⟩
    rw [f_T_follow_104, h5, if_neg (by rw [oN_lt (by omega) (by omega)]; omega), chk_t ((iin_oN (by omega)).mpr (by omega)), oI (by omega), bm_s, bm_s]
    obtain ⟨q6, q7, q8⟩ := hR i (by omega)
    obtain ⟨w6, w7, w8⟩ := hR (r 0) (by omega)
    have n29 : a ≠ 29 := by omega
    have n30 : a ≠ 30 := by omega
    have k3 : ∀ (x y : Int32), CS (wr (wr M 29 i x) 30 i y) a r := fun x y => hC.cg fun b k h1 h2 => by rw [wr_n (by omega), wr_n (by omega)]
    have h12 : M a 12 = oN (r 3) := hC.2.2.2.1
    unfold f_T_follow_179
    by_cases c : r 3 = 0
    · rw [if_pos (by simp only [wr, n29, n30, false_and, if_false]; rw [h12, c]; rfl), oN_S]
      refine ih (i + 1) f _ (by omega) (by omega) (k3 _ _) ?_ ?_ ?_
      · simp [wr, h5]
      · intro k hk
        have := hR k hk
        unfold RT at this ⊢
        simp only [wr]
        simpa using this
      · intro k hk
        by_cases e : k = i
        · subst e
          unfold aE aN
          simp [wr, c, q7, q8]
        · simp only [wr, e, and_false, if_false]
          exact hA k (by omega)
    · have e3 : oN (r 3) ≠ 0 := fun q => c ((oN0 (by have := v.2.2.2.2.1; omega)).mp q)
      rw [if_neg (by simp only [wr, n29, n30, false_and, if_false]; rw [h12]; exact e3)]
      rw [t_endE (n := r 0) (by simp [wr, h5]) hv (x := eW r (r 0)) (by simp [wr, w7]), bn_s]
      rw [t_share (n := r 0) (w := ruN r (r 0)) (u := oN (ruN r i)) (by simp [wr, h5]) hv (by simp [wr, w6]) (by simp [wr, q6]) (by omega), bn_s, bm_s]
      rw [t_endN (n := r 0) (by simp [wr, h5]) hv (x := nW r (r 0)) (by simp [wr, w8]), bn_s]
      rw [t_share (n := r 0) (w := ruN r (r 0)) (u := oN (ruN r i)) (by simp [wr, h5]) hv (by simp [wr, w6]) (by simp [wr, q6]) (by omega), bn_s, bm_s, oN_S]
      refine ih (i + 1) f _ (by omega) (by omega) ?_ ?_ ?_ ?_
      · exact hC.cg fun b k h1 h2 => by rw [wr_n (by omega), wr_n (by omega), wr_n (by omega), wr_n (by omega)]
      · simp [wr, h5]
      · intro k hk
        have := hR k hk
        unfold RT at this ⊢
        simp only [wr]
        simpa using this
      · intro k hk
        by_cases e : k = i
        · subst e
          unfold aE aN
          simp [wr, c, q7, q8]
        · simp only [wr, e, and_false, if_false]
          exact hA k (by omega)
theorem t_10 (ha : a + 9 < 25) (v : V r) : ∀ (d i f : Nat) (M : Mm), d + i = r 0 → d < f → CS M a r → M 25 5 = oN (r 0) → (∀ k, k ≤ i → RT M r k) →
    ∃ M', f_T_follow_10 a f (oN i) M = some M' ∧ M' 25 5 = oN (r 0) ∧ (∀ k, k ≤ r 0 → RT M' r k) ∧ (∀ k, k ≤ r 0 → M' 29 k = aE r k ∧ M' 30 k = aN r k) := by
  have hv := v.1
  intro d
  induction d with
  | zero =>
    intro i f M hd hf hC h5 hR
    obtain ⟨f, rfl⟩ : ∃ g, f = g + 1 := ⟨f - 1, by omega⟩
    rw [f_T_follow_10, h5, if_pos (by rw [oN_le (by omega) (by omega)]; omega)]
    exact t_104 ha v (r 0 + 1) 0 fu M (by omega) (by unfold fu; omega) hC h5 (fun k hk => hR k (by omega)) (fun k hk => absurd hk (Nat.not_lt_zero k))
  | succ d ih =>
    intro i f M hd hf hC h5 hR
    obtain ⟨f, rfl⟩ : ∃ g, f = g + 1 := ⟨f - 1, by omega⟩
    have hi : i < r 0 := by omega
    obtain ⟨n0, b1, -⟩ := hC.2.2.2.2.2 i hi
    obtain ⟨q6, q7, q8⟩ := hR i (by omega)
    rw [f_T_follow_10, h5, if_neg (by rw [oN_le (by omega) (by omega)]; omega), c_flat hC v hi, bn_s, chk_t ((iin_oN (by omega)).mpr (by omega)), chk_t ((iin_oN (by omega)).mpr (by omega)), oN_S, chk_t ((iin_oN (by omega)).mpr (by omega)), oI (by omega), oI (by omega), bm_s, b1, c_sin v hi, bn_s]
    unfold f_C_stepOf
    rw [bn_s, bm_s, c_cos v hi, bn_s, bn_s, bm_s]
    refine ih (i + 1) f _ (by omega) (by omega) ?_ ?_ ?_
    · exact hC.cg fun b k h1 h2 => by rw [wr_n (by omega), wr_n (by omega), wr_n (by omega)]
    · simp [wr, h5]
    · intro k hk
      by_cases e : k = i + 1
      · subst e
        unfold RT
        simp only [wr]
        simp [q6, q7, q8]
        exact ⟨(oN_add _ _).symm, rfl, rfl⟩
      · have := hR k (by omega)
        unfold RT at this ⊢
        simp only [wr, e]
        simpa using this
theorem c_follow (ha : a + 9 < 25) (v : V r) (hC : CS M a r) (h6 : M 26 0 = 0) (h7 : M 27 0 = 0) (h8 : M 28 0 = 0) :
    ∃ M', f_T_follow a M = some M' ∧ M' 25 5 = oN (r 0) ∧ (∀ k, k ≤ r 0 → RT M' r k) ∧ (∀ k, k ≤ r 0 → M' 29 k = aE r k ∧ M' 30 k = aN r k) := by
  unfold f_T_follow
  rw [bm_s, hC.1]
  refine t_10 ha v (r 0) 0 fu _ (by omega) (by have := v.1; unfold fu; omega) ?_ ?_ ?_
  · exact hC.cg fun b k h1 h2 => by rw [wr_n (by omega)]
  · simp [wr]
  · intro k hk
    obtain rfl : k = 0 := by omega
    exact ⟨by simp [wr, h6, ruN]; rfl, by simp [wr, h7]; rfl, by simp [wr, h8]; rfl⟩
/-- the raw stations in the model's rows -/
def RM (N : Mm) (r : Rw) (k : Nat) : Prop := N 145 k = oN (ruN r k) ∧ N 143 k = eW r k ∧ N 144 k = nW r k
theorem m_raw23 (v : V r) : ∀ (d i f : Nat) (N : Mm), d + i = r 0 → d < f → MS N 135 0 r → (∀ k, N 146 k = cosL.getD k 0) → (∀ k, k ≤ i → RM N r k) →
    ∃ N', f_M_findRaw_23 f (oN i) N = some N' ∧ (∀ k, k ≤ r 0 → RM N' r k) := by
  have hv := v.1
  intro d
  induction d with
  | zero =>
    intro i f N hd hf hM hc hR
    obtain ⟨f, rfl⟩ : ∃ g, f = g + 1 := ⟨f - 1, by omega⟩
    rw [f_M_findRaw_23, show ix (0 : Int32) = 0 from rfl, m_at hM (by decide), if_pos (by rw [oN_le (by omega) (by omega)]; omega)]
    exact ⟨N, rfl, fun k hk => hR k (by omega)⟩
  | succ d ih =>
    intro i f N hd hf hM hc hR
    obtain ⟨f, rfl⟩ : ∃ g, f = g + 1 := ⟨f - 1, by omega⟩
    have hi : i < r 0 := by omega
    obtain ⟨q6, q7, q8⟩ := hR i (by omega)
    rw [f_M_findRaw_23, show ix (0 : Int32) = 0 from rfl, m_at hM (by decide), if_neg (by rw [oN_le (by omega) (by omega)]; omega), chk_t ((iin_oN (by omega)).mpr (by omega)), m_step hM hc v hi, bn_s, if_neg (by decide), oN_S, chk_t ((iin_oN (by omega)).mpr (by omega)), oI (by omega), oI (by omega), bm_s]
    have f1 : ∀ x, Fr [(143, 143, 0)] N (wr N 143 (i + 1) x) := fun x => fr_wr rfl (by rfl)
    rw [m_step (hM.fr (f1 _) (by rfl)) (fun k => by rw [wr_n (by omega)]; exact hc k) v hi, bn_s, if_pos rfl, bm_s]
    have f2 : ∀ x y, Fr [(143, 144, 0)] N (wr (wr N 143 (i + 1) x) 144 (i + 1) y) := fun x y => (fr_wr rfl (by rfl)).tr (fr_wr rfl (by rfl))
    rw [m_flat (hM.fr (f2 _ _) (by rfl)) v hi, bn_s, bm_s]
    refine ih (i + 1) f _ (by omega) (by omega) ?_ ?_ ?_
    · intro k hk
      rw [wr_n (by omega), wr_n (by omega), wr_n (by omega)]; exact hM k hk
    · intro k
      rw [wr_n (by omega), wr_n (by omega), wr_n (by omega)]; exact hc k
    · intro k hk
      by_cases e : k = i + 1
      · subst e
        unfold RM
        simp only [wr]
        simp [q6, q7, q8]
        exact ⟨(oN_add _ _).symm, rfl, rfl⟩
      · have := hR k (by omega)
        unfold RM at this ⊢
        simp only [wr, e]
        simpa using this
theorem m_raw (v : V r) (hM : MS N 135 0 r) (hc : ∀ k, N 146 k = cosL.getD k 0) : ∃ N', f_M_findRaw N = some N' ∧ (∀ k, k ≤ r 0 → RM N' r k) := by
  unfold f_M_findRaw
  rw [bm_s, bm_s, bm_s]
  refine m_raw23 v (r 0) 0 fu _ (by omega) (by have := v.1; unfold fu; omega) ?_ ?_ ?_
  · intro k hk
    rw [wr_n (by omega), wr_n (by omega), wr_n (by omega)]; exact hM k hk
  · intro k
    rw [wr_n (by omega), wr_n (by omega), wr_n (by omega)]; exact hc k
  · intro k hk
    obtain rfl : k = 0 := by omega
    exact ⟨by simp [wr]; rfl, by simp [wr]; rfl, by simp [wr]; rfl⟩
theorem m_part (c u : Int32) (w : Int32) : f_M_part c u w = some (shW c u w) := by
  unfold f_M_part f_M_part_17 shW
  by_cases q : w = 0
  · rw [if_pos q, if_pos q]
  · rw [if_neg q, if_neg q, chk_t (z64 q)]
theorem m_around {n : Nat} {x : Int32} (h5 : N 135 0 = oN n) (hn : n ≤ 20) (hw : N 145 n = x) : f_M_around N = some x := by
  unfold f_M_around
  rw [show ix (0 : Int32) = 0 from rfl, h5, chk_t ((iin_oN (by omega)).mpr (by omega)), oI (by omega), hw]
theorem m_st40 (v : V r) (c3 : r 3 ≠ 0) : ∀ (d i f : Nat) (N : Mm), d + i = r 0 + 1 → d < f → N 135 0 = oN (r 0) → (∀ k, k ≤ r 0 → N 145 k = oN (ruN r k)) → (∀ k, k ≤ r 0 → i ≤ k → N 143 k = eW r k ∧ N 144 k = nW r k) → (∀ k, k < i → N 143 k = aE r k ∧ N 144 k = aN r k) →
    ∃ N', f_M_findStations_40 f (eW r (r 0)) (nW r (r 0)) (oN i) N = some N' ∧ (∀ k, k ≤ r 0 → N' 145 k = oN (ruN r k)) ∧ (∀ k, k ≤ r 0 → N' 143 k = aE r k ∧ N' 144 k = aN r k) := by
  have hv := v.1
  intro d
  induction d with
  | zero =>
    intro i f N hd hf h0 hr hw hA
    obtain ⟨f, rfl⟩ : ∃ g, f = g + 1 := ⟨f - 1, by omega⟩
    rw [f_M_findStations_40, show ix (0 : Int32) = 0 from rfl, h0, if_pos (by rw [oN_lt (by omega) (by omega)]; omega)]
    exact ⟨N, rfl, hr, fun k hk => hA k (by omega)⟩
  | succ d ih =>
    intro i f N hd hf h0 hr hw hA
    obtain ⟨f, rfl⟩ : ∃ g, f = g + 1 := ⟨f - 1, by omega⟩
    obtain ⟨q3, q4⟩ := hw i (by omega) (Nat.le_refl _)
    rw [f_M_findStations_40, show ix (0 : Int32) = 0 from rfl, h0, if_neg (by rw [oN_lt (by omega) (by omega)]; omega), chk_t ((iin_oN (by omega)).mpr (by omega)), m_around h0 hv (hr _ (Nat.le_refl _)), bn_s, m_part, bn_s, oI (by omega), bm_s, hr i (by omega)]
    rw [m_around (n := r 0) (x := oN (ruN r (r 0))) (by simp [wr, h0]) hv (by simp [wr, hr]), bn_s, m_part, bn_s, bm_s, oN_S]
    refine ih (i + 1) f _ (by omega) (by omega) (by simp [wr, h0]) ?_ ?_ ?_
    · intro k hk; simp only [wr]; simpa using hr k hk
    · intro k hk hk2
      rw [wr_n (by omega), wr_n (by omega), wr_n (by omega), wr_n (by omega)]
      exact hw k hk (by omega)
    · intro k hk
      by_cases e : k = i
      · subst e
        unfold aE aN
        simp [wr, c3, q3, q4, hr k (by omega)]
      · rw [wr_n (by omega), wr_n (by omega), wr_n (by omega), wr_n (by omega)]
        exact hA k (by omega)
theorem m_stations (v : V r) (hM : MS N 135 0 r) (hc : ∀ k, N 146 k = cosL.getD k 0) :
    ∃ N', f_M_findStations N = some N' ∧ (∀ k, k ≤ r 0 → N' 145 k = oN (ruN r k)) ∧ (∀ k, k ≤ r 0 → N' 143 k = aE r k ∧ N' 144 k = aN r k) := by
  have hv := v.1
  unfold f_M_findStations
  obtain ⟨N1, e1, hR⟩ := m_raw v hM hc
  have hM1 := hM.fr (fr_M_findRaw e1) (by rfl)
  rw [e1, bn_s, show ix (3 : Int32) = 3 from rfl, show ix (0 : Int32) = 0 from rfl, m_at hM1 (by decide), m_at hM1 (by decide)]
  by_cases c : r 3 = 0
  · rw [c, if_pos (show oN 0 = 0 from rfl)]
    refine ⟨N1, rfl, fun k hk => (hR k hk).1, fun k hk => ?_⟩
    unfold aE aN
    rw [if_pos c, if_pos c]
    exact (hR k hk).2
  · rw [if_neg (fun q => c ((oN0 (by have := v.2.2.2.2.1; omega)).mp q)), chk_t ((iin_oN (by omega)).mpr (by omega)), oI (by omega), (hR _ (Nat.le_refl _)).2.1, (hR _ (Nat.le_refl _)).2.2]
    exact m_st40 v c (r 0 + 1) 0 fu N1 (by omega) (by unfold fu; omega) (m_at hM1 (by decide)) (fun k hk => (hR k hk).1) (fun k hk _ => (hR k hk).2) (fun k hk => absurd hk (Nat.not_lt_zero k))
end TRA
