/-! questions on all legs -/
section LEG
variable {M N : Mm} {r : Rw}
def fO (r : Rw) (k : Nat) : Int32 := oN (flN r k)
theorem c_lon (h : CS M 15 r) (v : V r) : ∀ (d i g : Nat), d + (i + 1) = r 0 → d + 1 < g → f_C_longestLeg_6 M g (oN (fx (fO r) i)) (fO r (fx (fO r) i)) (oN (i + 1)) = some (oN (fx (fO r) (r 0 - 1))) := by
  have hv := v.1
  intro d
  induction d with
  | zero =>
    intro i g hd hg
    obtain ⟨g, rfl⟩ : ∃ z, g = z + 1 := ⟨g - 1, by omega⟩
    rw [f_C_longestLeg_6, h.1, if_pos (by rw [oN_le (by omega) (by omega)]; omega), show i = r 0 - 1 by omega]
  | succ d ih =>
    intro i g hd hg
    obtain ⟨g, rfl⟩ : ∃ z, g = z + 1 := ⟨g - 1, by omega⟩
    rw [f_C_longestLeg_6, h.1, if_neg (by rw [oN_le (by omega) (by omega)]; omega), c_flat h v (by omega), bn_s]
    unfold f_C_longestLeg_38
    have hh := ih (i + 1) g (by omega) (by omega)
    have e : fx (fO r) (i + 1) = if fO r (i + 1) ≤ fO r (fx (fO r) i) then fx (fO r) i else i + 1 := rfl
    rw [e] at hh
    by_cases c : fO r (i + 1) ≤ fO r (fx (fO r) i)
    · rw [if_pos c] at hh
      rw [if_pos (show oN (flN r (i + 1)) ≤ _ from c), oN_S]
      exact hh
    · rw [if_neg c] at hh
      rw [if_neg (show ¬ oN (flN r (i + 1)) ≤ _ from c), oN_S]
      exact hh
theorem fO_nn (v : V r) {k : Nat} (hk : k < r 0) : ¬ fO r k ≤ -1 := by
  intro q
  have h1 := fl_le v hk
  have h2 := sl_le v hk
  have := Int32.le_iff_toInt_le.mp q
  unfold fO at this
  rw [oN_int (by omega)] at this
  have e1 : (-1 : Int32).toInt = -1 := by decide
  omega
theorem c_longest (h : CS M 15 r) (v : V r) : f_C_longestLeg M = some (if r 0 = 0 then -1 else oN (fx (fO r) (r 0 - 1))) := by
  have hv := v.1
  unfold f_C_longestLeg
  rw [show fu = 99999 + 1 from rfl, f_C_longestLeg_6, h.1]
  by_cases c : r 0 = 0
  · rw [c, if_pos (by decide), if_pos rfl]
  · rw [if_neg (show ¬ oN (r 0) ≤ 0 by rw [show (0 : Int32) = oN 0 from rfl, oN_le (by omega) (by omega)]; omega), if_neg c, show (0 : Int32) = oN 0 from rfl, c_flat h v (by omega), bn_s]
    unfold f_C_longestLeg_38
    rw [if_neg (show ¬ oN (flN r 0) ≤ -1 from fO_nn v (k := 0) (by omega)), oN_S]
    exact c_lon h v (r 0 - 1) 0 99999 (by omega) (by omega)
theorem m_lon (h : MS N 135 0 r) (v : V r) : ∀ (d i g : Nat), d + (i + 1) = r 0 → d + 1 < g → f_M_longestLeg_9 g (oN (fx (fO r) i)) (oN (i + 1)) N = some (oN (fx (fO r) (r 0 - 1)), N) := by
  have hv := v.1
  intro d
  induction d with
  | zero =>
    intro i g hd hg
    obtain ⟨g, rfl⟩ : ∃ z, g = z + 1 := ⟨g - 1, by omega⟩
    rw [f_M_longestLeg_9, show ix (0 : Int32) = 0 from rfl, m_at h (by decide), if_pos (by rw [oN_le (by omega) (by omega)]; omega), show i = r 0 - 1 by omega]
  | succ d ih =>
    intro i g hd hg
    obtain ⟨g, rfl⟩ : ∃ z, g = z + 1 := ⟨g - 1, by omega⟩
    have hx := fx_le (fO r) i
    have hne : ¬ oN (fx (fO r) i) = -1 := by
      intro q
      have := congrArg Int32.toInt q
      rw [oN_int (by omega)] at this
      have e1 : (-1 : Int32).toInt = -1 := by decide
      omega
    rw [f_M_longestLeg_9, show ix (0 : Int32) = 0 from rfl, m_at h (by decide), if_neg (by rw [oN_le (by omega) (by omega)]; omega), if_neg hne, m_flat h v (by omega), bn_s, m_flat h v (by omega), bn_s]
    unfold f_M_longestLeg_37 f_M_longestLeg_39
    have hh := ih (i + 1) g (by omega) (by omega)
    have e : fx (fO r) (i + 1) = if fO r (i + 1) ≤ fO r (fx (fO r) i) then fx (fO r) i else i + 1 := rfl
    rw [e] at hh
    by_cases c : fO r (i + 1) ≤ fO r (fx (fO r) i)
    · rw [if_pos c] at hh
      rw [if_pos (show oN (flN r (i + 1)) ≤ oN (flN r (fx (fO r) i)) from c), oN_S]
      exact hh
    · rw [if_neg c] at hh
      rw [if_neg (show ¬ oN (flN r (i + 1)) ≤ oN (flN r (fx (fO r) i)) from c), oN_S]
      exact hh
theorem m_longest9 (h : MS N 135 0 r) (v : V r) : f_M_longestLeg_9 fu (-1) 0 N = some (if r 0 = 0 then -1 else oN (fx (fO r) (r 0 - 1)), N) := by
  have hv := v.1
  rw [show fu = 99999 + 1 from rfl, f_M_longestLeg_9, show ix (0 : Int32) = 0 from rfl, m_at h (by decide)]
  by_cases c : r 0 = 0
  · rw [c, if_pos (by decide), if_pos rfl]
  · rw [if_neg (show ¬ oN (r 0) ≤ 0 by rw [show (0 : Int32) = oN 0 from rfl, oN_le (by omega) (by omega)]; omega), if_neg c, if_pos rfl]
    exact m_lon h v (r 0 - 1) 0 99999 (by omega) (by omega)
theorem s_longestLeg (h : RI M N) : ∃ v N1, f_C_longestLeg M = some v ∧ f_M_longestLeg N = some (v, N1) ∧ RI M N1 := by
  obtain ⟨r, v, c, m⟩ := h.1
  refine ⟨_, _, c_longest c v, ?_, h.n7 0⟩
  unfold f_M_longestLeg
  rw [bm_s]
  exact m_longest9 (m.n7 (by decide) 0) v
def boW (r : Rw) (i : Nat) : Int32 := if r (4 + 14 * i + 6) = 0 then 0 else oN (flN r i)
theorem c_bogs (h : CS M 15 r) (v : V r) : ∀ (d i g : Nat), d + i = r 0 → d < g → f_C_bogLength_4 M g (smW (boW r) i) (oN i) = some (smW (boW r) (r 0)) := by
  have hv := v.1
  intro d
  induction d with
  | zero =>
    intro i g hd hg
    obtain ⟨g, rfl⟩ : ∃ z, g = z + 1 := ⟨g - 1, by omega⟩
    rw [f_C_bogLength_4, h.1, if_pos (by rw [oN_le (by omega) (by omega)]; omega), show i = r 0 by omega]
  | succ d ih =>
    intro i g hd hg
    obtain ⟨g, rfl⟩ : ∃ z, g = z + 1 := ⟨g - 1, by omega⟩
    have hi : i < r 0 := by omega
    obtain ⟨n0, b1, z2, -⟩ := h.2.2.2.2.2 i hi
    have z2 : M 18 i = if r (4 + 14 * i + 6) = 0 then 0 else 1 := z2
    have hh := ih (i + 1) g (by omega) (by omega)
    have e : smW (boW r) (i + 1) = smW (boW r) i + boW r i := rfl
    rw [e] at hh
    unfold boW at hh
    rw [f_C_bogLength_4, h.1, if_neg (by rw [oN_le (by omega) (by omega)]; omega), chk_t (iin20 v hi), oI20 v hi, z2]
    unfold f_C_bogLength_38
    by_cases c : r (4 + 14 * i + 6) = 0
    · rw [if_pos c, Int32.add_zero] at hh
      rw [if_pos c, if_pos rfl, oN_S]
      exact hh
    · rw [if_neg c] at hh
      rw [if_neg c, if_neg (by decide), c_flat h v hi, bn_s, oN_S]
      exact hh
theorem m_bogs (h : MS N 135 0 r) (v : V r) : ∀ (d i g : Nat), d + i = r 0 → d < g → f_M_onBogs_4 N g (smW (boW r) i) (oN i) = some (smW (boW r) (r 0)) := by
  have hv := v.1
  intro d
  induction d with
  | zero =>
    intro i g hd hg
    obtain ⟨g, rfl⟩ : ∃ z, g = z + 1 := ⟨g - 1, by omega⟩
    rw [f_M_onBogs_4, show ix (0 : Int32) = 0 from rfl, m_at h (by decide), if_pos (by rw [oN_le (by omega) (by omega)]; omega), show i = r 0 by omega]
  | succ d ih =>
    intro i g hd hg
    obtain ⟨g, rfl⟩ : ∃ z, g = z + 1 := ⟨g - 1, by omega⟩
    have hi : i < r 0 := by omega
    have hh := ih (i + 1) g (by omega) (by omega)
    have e : smW (boW r) (i + 1) = smW (boW r) i + boW r i := rfl
    rw [e] at hh
    unfold boW at hh
    rw [f_M_onBogs_4, show ix (0 : Int32) = 0 from rfl, m_at h (by decide), if_neg (by rw [oN_le (by omega) (by omega)]; omega), m_bog h v hi, bn_s]
    unfold f_M_onBogs_30
    by_cases c : r (4 + 14 * i + 6) = 0
    · rw [if_pos c, Int32.add_zero] at hh
      rw [if_pos c, if_pos rfl, oN_S]
      exact hh
    · rw [if_neg c] at hh
      rw [if_neg c, if_neg (by decide), m_flat h v hi, bn_s, oN_S]
      exact hh
theorem c_bogLength (h : CS M 15 r) (v : V r) : f_C_bogLength M = some (smW (boW r) (r 0)) :=
  c_bogs h v (r 0) 0 fu (by omega) (by have := v.1; unfold fu; omega)
theorem m_onBogs (h : MS N 135 0 r) (v : V r) : f_M_onBogs N = some (smW (boW r) (r 0)) :=
  m_bogs h v (r 0) 0 fu (by omega) (by have := v.1; unfold fu; omega)
theorem s_bogLength (h : RI M N) : ∃ v N1, f_C_bogLength M = some v ∧ f_M_bogLength N = some (v, N1) ∧ RI M N1 := by
  obtain ⟨r, v, c, m⟩ := h.1
  refine ⟨_, wr N 134 7 0, c_bogLength c v, ?_, h.n7 0⟩
  unfold f_M_bogLength
  rw [m_onBogs m v]; rfl
/-! the area -/
def arT (r : Rw) (k : Nat) : Int64 := ((aE r k).toInt64 * (aN r (k + 1)).toInt64) - ((aE r (k + 1)).toInt64 * (aN r k).toInt64)
def arW (r : Rw) : Nat → Int64
  | 0 => 0
  | k + 1 => arW r k + arT r k
def arF (r : Rw) : Int64 := (if 0 < arW r (r 0) then arW r (r 0) else -(arW r (r 0))) / 2
theorem c_area4 (v : V r) (fo : FO M r) : ∀ (d i g : Nat), d + i = r 0 → d < g → f_T_enclosedArea_4 M g (arW r i) (oN i) = some (arF r) := by
  have hv := v.1
  intro d
  induction d with
  | zero =>
    intro i g hd hg
    obtain ⟨g, rfl⟩ : ∃ z, g = z + 1 := ⟨g - 1, by omega⟩
    obtain rfl : i = r 0 := by omega
    rw [f_T_enclosedArea_4, fo.1, if_pos (Int32.le_refl _)]; rfl
  | succ d ih =>
    intro i g hd hg
    obtain ⟨g, rfl⟩ : ∃ z, g = z + 1 := ⟨g - 1, by omega⟩
    rw [f_T_enclosedArea_4, fo.1, if_neg (by rw [oN_le (by omega) (by omega)]; omega), chk_t (iin21 v (by omega)), oN_S, chk_t (iin21 v (by omega)), oI21 v (by omega), oI21 v (by omega), (fo.2.2 i (by omega)).1, (fo.2.2 i (by omega)).2, (fo.2.2 (i + 1) (by omega)).1, (fo.2.2 (i + 1) (by omega)).2]
    exact ih (i + 1) g (by omega) (by omega)
theorem rem_oN {a b : Nat} (ha : a < 2147483648) (hb : b < 2147483648) : oN a - oN a / oN b * oN b = oN (a % b) := by
  rw [show oN a / oN b = oN (a / b) from (Int32.ofNat_div ha hb).symm, ← oN_mul, show oN a - oN (a / b * b) = oN (a - a / b * b) from (Int32.ofNat_sub _ _ (Nat.div_mul_le_self a b)).symm]
  congr 1
  have := Nat.mod_add_div a b
  rw [Nat.mul_comm] at this
  omega
theorem m_area23 (v : V r) (h : ∀ k, k ≤ r 0 → N 143 k = aE r k ∧ N 144 k = aN r k) : ∀ (d i g : Nat), d + i = r 0 → d + 2 < g → f_M_area_23 g (arW r i) (oN (r 0 + 1)) (oN i) N = some (arF r, N) := by
  have hv := v.1
  intro d
  induction d with
  | zero =>
    intro i g hd hg
    obtain ⟨g, rfl⟩ : ∃ z, g = z + 2 := ⟨g - 2, by omega⟩
    obtain rfl : i = r 0 := by omega
    rw [show g + 2 = (g + 1) + 1 from rfl, f_M_area_23, if_neg (by rw [oN_le (by omega) (by omega)]; omega), chk_t (by rw [oN0 (by omega)]; omega), chk_t (iin21 v (by omega)), oN_S, rem_oN (by omega) (by omega), Nat.mod_self, chk_t (iin21 v (by omega)), oI21 v (by omega), oI21 v (by omega), (h (r 0) (by omega)).1, (h (r 0) (by omega)).2, (h 0 (by omega)).1, (h 0 (by omega)).2, a_0.1, a_0.2, show (0 : Int32).toInt64 = 0 from rfl, Int64.mul_zero, Int64.zero_mul, Int64.sub_self, Int64.add_zero, f_M_area_23, if_pos (Int32.le_refl _)]
    rfl
  | succ d ih =>
    intro i g hd hg
    obtain ⟨g, rfl⟩ : ∃ z, g = z + 1 := ⟨g - 1, by omega⟩
    rw [f_M_area_23, if_neg (by rw [oN_le (by omega) (by omega)]; omega), chk_t (by rw [oN0 (by omega)]; omega), chk_t (iin21 v (by omega)), oN_S, rem_oN (by omega) (by omega), Nat.mod_eq_of_lt (by omega), chk_t (iin21 v (by omega)), oI21 v (by omega), oI21 v (by omega), (h i (by omega)).1, (h i (by omega)).2, (h (i + 1) (by omega)).1, (h (i + 1) (by omega)).2]
    exact ih (i + 1) g (by omega) (by omega)
theorem s_area (h : RI M N) : ∃ v M1 N1, f_C_area M = some (v, M1) ∧ f_M_area N = some (v, N1) ∧ RI M1 N1 := by
  obtain ⟨r, p⟩ := h.1
  have hv := p.1.1
  obtain ⟨M1, e1, e2, e3, fo⟩ := c_fo h p
  obtain ⟨N1, f1, f2, f3, f4, f5, f6⟩ := m_staQ (e2.n7 0) (e3.n7 0)
  refine ⟨arF r, M1, N1, ?_, ?_, f2⟩
  · unfold f_C_area f_T_enclosedArea
    rw [e1, bn_s]
    have := c_area4 p.1 fo (r 0) 0 fu (by omega) (by unfold fu; omega)
    rw [show arW r 0 = 0 from rfl] at this
    rw [show (0 : Int32) = oN 0 from rfl, this]; rfl
  · unfold f_M_area
    rw [bm_s, f1, bn_s, show ix (0 : Int32) = 0 from rfl, m_at f3.2.2 (by decide), oN_S]
    exact m_area23 p.1 f6 (r 0) 0 fu (by omega) (by unfold fu; omega)
/-! inconsistencies -/
theorem c_inc66 (h : CS M 15 r) (v : V r) (x : Int32) : ∀ (d i g : Nat), d + i = r 0 → d < g → f_C_inconsistencies_66 g x (oN i) M = some (x, M) := by
  have hv := v.1
  intro d
  induction d with
  | zero =>
    intro i g hd hg
    obtain ⟨g, rfl⟩ : ∃ z, g = z + 1 := ⟨g - 1, by omega⟩
    rw [f_C_inconsistencies_66, h.1, if_pos (by rw [oN_le (by omega) (by omega)]; omega)]
  | succ d ih =>
    intro i g hd hg
    obtain ⟨g, rfl⟩ : ∃ z, g = z + 1 := ⟨g - 1, by omega⟩
    have h1 := fl_le v (i := i) (by omega)
    have h2 := sl_le v (i := i) (by omega)
    rw [f_C_inconsistencies_66, h.1, if_neg (by rw [oN_le (by omega) (by omega)]; omega), c_flat h v (by omega), bn_s, c_slope h v (by omega), bn_s, if_pos ((oN_le (by omega) (by omega)).mpr h1)]
    unfold f_C_inconsistencies_99
    rw [oN_S]
    exact ih (i + 1) g (by omega) (by omega)
theorem c_inc64 (h : CS M 15 r) (v : V r) (x : Int32) : f_C_inconsistencies_64 x M = some (x, M) :=
  c_inc66 h v x (r 0) 0 fu (by omega) (by have := v.1; unfold fu; omega)
theorem m_inc64 (h : MS N 135 0 r) (v : V r) (x : Int32) : ∀ (d i g : Nat), d + i = r 0 → d < g → f_M_inconsistencies_64 g x (oN i) N = some (x, N) := by
  have hv := v.1
  intro d
  induction d with
  | zero =>
    intro i g hd hg
    obtain ⟨g, rfl⟩ : ∃ z, g = z + 1 := ⟨g - 1, by omega⟩
    rw [f_M_inconsistencies_64, show ix (0 : Int32) = 0 from rfl, m_at h (by decide), if_pos (by rw [oN_le (by omega) (by omega)]; omega)]
  | succ d ih =>
    intro i g hd hg
    obtain ⟨g, rfl⟩ : ∃ z, g = z + 1 := ⟨g - 1, by omega⟩
    have h1 := fl_le v (i := i) (by omega)
    have h2 := sl_le v (i := i) (by omega)
    rw [f_M_inconsistencies_64, show ix (0 : Int32) = 0 from rfl, m_at h (by decide), if_neg (by rw [oN_le (by omega) (by omega)]; omega), m_flat h v (by omega), bn_s, m_slope h v (by omega), bn_s, if_pos ((oN_le (by omega) (by omega)).mpr h1)]
    unfold f_M_inconsistencies_90
    rw [oN_S]
    exact ih (i + 1) g (by omega) (by omega)
theorem m_inc62 (h : MS N 135 0 r) (v : V r) (x : Int32) : f_M_inconsistencies_62 x N = some (x, N) :=
  m_inc64 h v x (r 0) 0 fu (by omega) (by have := v.1; unfold fu; omega)
theorem s_inconsistencies (h : RI M N) : ∃ v M1 N1, f_C_inconsistencies M = some (v, M1) ∧ f_M_inconsistencies N = some (v, N1) ∧ RI M1 N1 := by
  obtain ⟨r, p⟩ := h.1
  have hv := p.1.1
  have h3 := p.1.2.2.2.2.1
  obtain ⟨M1, e1, e2, e3, fo⟩ := c_fo h p
  obtain ⟨N1, f1, f2, f3, f4, f5, f6⟩ := m_staQ (e2.n7 0) (e3.n7 0)
  unfold f_C_inconsistencies f_M_inconsistencies f_C_inconsistencies_42 f_M_inconsistencies_45 f_C_inconsistencies_62
  rw [e1, bn_s, bm_s, f1, bn_s, show ix (3 : Int32) = 3 from rfl, show ix (0 : Int32) = 0 from rfl, m_at f3.2.2 (by decide), m_at f3.2.2 (by decide), e3.2.1.2.2.2.1]
  rcases (show r 3 = 0 ∨ r 3 = 1 by omega) with c | c
  · rw [c, if_pos (show oN 0 = 0 from rfl), if_neg (show ¬ oN 0 = 1 by decide), c_inc64 e3.2.1 p.1, m_inc62 f3.2.2 p.1]
    exact ⟨_, _, _, rfl, rfl, f2⟩
  · rw [c, if_neg (show ¬ oN 1 = 0 by decide), if_pos (show oN 1 = 1 from rfl), t_run fo.1 hv (fo.2.1 _ (Nat.le_refl _)).1, bn_s, m_around (m_at f3.2.2 (by decide)) hv (f5 _ (Nat.le_refl _)), bn_s]
    by_cases c2 : oN (ruN r (r 0)) ≤ 0
    · rw [if_pos c2, if_pos c2, c_inc64 e3.2.1 p.1, m_inc62 f3.2.2 p.1]
      exact ⟨_, _, _, rfl, rfl, f2⟩
    · rw [if_neg c2, if_neg c2, fo.1]
      simp only [chk_t (iin21 p.1 (Nat.le_refl _))]
      rw [oI21 p.1 (Nat.le_refl _), (fo.2.2 _ (Nat.le_refl _)).1, (fo.2.2 _ (Nat.le_refl _)).2, (f6 _ (Nat.le_refl _)).1, (f6 _ (Nat.le_refl _)).2]
      by_cases c3 : aE r (r 0) = 0
      · rw [if_pos c3, if_pos c3]
        by_cases c4 : aN r (r 0) = 0
        · rw [if_pos c4, if_pos c4, c_inc64 e3.2.1 p.1, m_inc62 f3.2.2 p.1]
          exact ⟨_, _, _, rfl, rfl, f2⟩
        · rw [if_neg c4, if_neg c4, c_inc64 e3.2.1 p.1, m_inc62 f3.2.2 p.1]
          exact ⟨_, _, _, rfl, rfl, f2⟩
      · rw [if_neg c3, if_neg c3]
        by_cases c4 : aN r (r 0) = 0
        · rw [if_pos c4, if_pos c4, c_inc64 e3.2.1 p.1, m_inc62 f3.2.2 p.1]
          exact ⟨_, _, _, rfl, rfl, f2⟩
        · rw [if_neg c4, if_neg c4, c_inc64 e3.2.1 p.1, m_inc62 f3.2.2 p.1]
          exact ⟨_, _, _, rfl, rfl, f2⟩
end LEG
