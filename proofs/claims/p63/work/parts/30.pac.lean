/-! the best pace -/
section PAC
variable {M N : Mm} {r : Rw}
theorem CL.pace {a i x : Nat} {M : Mm} (v : V r) (h : CS M a r) (hi : i < r 0) : CL M a (up r 2 x) i :=
  (h.2.2.2.2.2 i hi).cg (v.2.2.2.2.2 i hi) (fun k hk => up_n (by omega)) (fun q hq => rfl)
theorem fl_pace_c {i x : Nat} (hb : r (4 + 14 * i + 6) = 0) : flN (up r 2 x) i = flN r i := by
  have e : ∀ j, j ≠ 2 → up r 2 x j = r j := fun j hj => up_n hj
  have e2 : rdN (up r 2 x) i = rdN r i := by
    unfold rdN
    rw [e _ (by omega), if_pos hb, if_pos hb, e _ (by omega), e _ (by omega), e _ (by omega)]
  have e3 : slN (up r 2 x) i = slN r i := by
    unfold slN
    rw [e2, e _ (by omega), e _ (by omega), e _ (by omega)]
  unfold flN
  rw [e3, e _ (by omega)]
theorem fl_pace_b {i x : Nat} (v : V r) (h1 : 100 ≤ x) (h2 : x ≤ 999) (hi : i < r 0) (hb : r (4 + 14 * i + 6) ≠ 0) : flN (up r 2 x) i = r (4 + 14 * i + 6) * x := by
  have e : ∀ j, j ≠ 2 → up r 2 x j = r j := fun j hj => up_n hj
  have hb2 : up r 2 x (4 + 14 * i + 6) ≠ 0 := by rw [e _ (by omega)]; exact hb
  rw [fl_bog (v.pace h1 h2) (by rw [e 0 (by omega)]; exact hi) (Or.inl hb2)]
  unfold slN rdN
  rw [if_neg hb2, if_neg hb2, up_s, e _ (by omega)]
/-- the steps of the chained legs, of the bog legs -/
def chS (f : Nat → Int32) (r : Rw) (i : Nat) : Int32 := if r (4 + 14 * i + 6) = 0 then f i else 0
def boS (f : Nat → Int32) (r : Rw) (i : Nat) : Int32 := if r (4 + 14 * i + 6) = 0 then 0 else f i
theorem sm_split (f : Nat → Int32) (r : Rw) : ∀ k, smW (chS f r) k + smW (boS f r) k = smW f k := by
  intro k
  induction k with
  | zero => rfl
  | succ k ih =>
    show (smW (chS f r) k + chS f r k) + (smW (boS f r) k + boS f r k) = smW f k + f k
    rw [← ih]
    unfold chS boS
    by_cases c : r (4 + 14 * k + 6) = 0
    · rw [if_pos c, if_pos c, Int32.add_zero]
      ac_rfl
    · rw [if_neg c, if_neg c, Int32.add_zero]
      ac_rfl
theorem sm_cg {f g : Nat → Int32} : ∀ k, (∀ i, i < k → f i = g i) → smW f k = smW g k := by
  intro k
  induction k with
  | zero => intro _; rfl
  | succ k ih =>
    intro h
    show smW f k + f k = smW g k + g k
    rw [ih (fun i hi => h i (by omega)), h k (by omega)]
def paW (r : Rw) (x : Nat) : Int32 := msW (up r 2 x)
theorem c_mwp (h : CS M 15 r) (v : V r) {x : Nat} (h1 : 100 ≤ x) (h2 : x ≤ 999) : ∀ (d i g : Nat), d + i = r 0 → d < g →
    f_C_misclosureWithPace_9 M g (oN x) (smW (chS (stE r) r) (r 0) + smW (boS (stE (up r 2 x)) r) i) (smW (chS (stN r) r) (r 0) + smW (boS (stN (up r 2 x)) r) i) (oN i) = some (paW r x) := by
  have hv := v.1
  have hV := v.pace h1 h2
  have e : ∀ j, j ≠ 2 → up r 2 x j = r j := fun j hj => up_n hj
  intro d
  induction d with
  | zero =>
    intro i g hd hg
    obtain ⟨g, rfl⟩ : ∃ z, g = z + 1 := ⟨g - 1, by omega⟩
    have hE : smW (chS (stE r) r) (r 0) + smW (boS (stE (up r 2 x)) r) (r 0) = eW (up r 2 x) (r 0) := by
      rw [sm_cg (f := chS (stE r) r) (g := chS (stE (up r 2 x)) r) (r 0) ?_, sm_split]; rfl
      intro i hi
      unfold chS
      by_cases c : r (4 + 14 * i + 6) = 0
      · rw [if_pos c, if_pos c]
        unfold stE
        rw [fl_pace_c c, e _ (by omega)]
      · rw [if_neg c, if_neg c]
    have hN : smW (chS (stN r) r) (r 0) + smW (boS (stN (up r 2 x)) r) (r 0) = nW (up r 2 x) (r 0) := by
      rw [sm_cg (f := chS (stN r) r) (g := chS (stN (up r 2 x)) r) (r 0) ?_, sm_split]; rfl
      intro i hi
      unfold chS
      by_cases c : r (4 + 14 * i + 6) = 0
      · rw [if_pos c, if_pos c]
        unfold stN
        rw [fl_pace_c c, e _ (by omega)]
      · rw [if_neg c, if_neg c]
    have hb := ew_bd hV (k := r 0) (by rw [e 0 (by omega)]; exact Nat.le_refl _)
    rw [f_C_misclosureWithPace_9, h.1, if_pos (by rw [oN_le (by omega) (by omega)]; omega), show i = r 0 by omega, hE, hN, c_dist hb.1 hb.2, bn_s]
    unfold paW msW
    rw [e 0 (by omega)]
  | succ d ih =>
    intro i g hd hg
    obtain ⟨g, rfl⟩ : ∃ z, g = z + 1 := ⟨g - 1, by omega⟩
    have hi : i < r 0 := by omega
    obtain ⟨n0, b1, z2, p3, p4, l5, d6, r7, t8⟩ := h.2.2.2.2.2 i hi
    have b1 : M 17 i = oN (r (4 + 14 * i + 0)) := b1
    have z2 : M 18 i = if r (4 + 14 * i + 6) = 0 then 0 else 1 := z2
    have p3 : M 19 i = oN (r (4 + 14 * i + 6)) := p3
    have hh := ih (i + 1) g (by omega) (by omega)
    have q1 : smW (boS (stE (up r 2 x)) r) (i + 1) = smW (boS (stE (up r 2 x)) r) i + boS (stE (up r 2 x)) r i := rfl
    have q2 : smW (boS (stN (up r 2 x)) r) (i + 1) = smW (boS (stN (up r 2 x)) r) i + boS (stN (up r 2 x)) r i := rfl
    rw [q1, q2] at hh
    unfold boS at hh
    rw [f_C_misclosureWithPace_9, h.1, if_neg (by rw [oN_le (by omega) (by omega)]; omega), chk_t (iin20 v hi), oI20 v hi, z2]
    unfold f_C_misclosureWithPace_94
    by_cases c : r (4 + 14 * i + 6) = 0
    · rw [if_pos c, if_pos c, Int32.add_zero, Int32.add_zero] at hh
      rw [if_pos c, if_pos rfl, oN_S]
      exact hh
    · rw [if_neg c, if_neg c, ← Int32.add_assoc, ← Int32.add_assoc] at hh
      unfold stE stN at hh
      rw [fl_pace_b v h1 h2 hi c, e _ (by omega)] at hh
      unfold stpW at hh
      rw [if_neg c, if_neg (by decide), b1, p3, c_sin v hi, bn_s, ← oN_mul, c_cos v hi]
      unfold f_C_stepOf
      rw [bn_s, bn_s, bn_s, oN_S]
      exact hh
/-- the place of the least so far, of 100 and on -/
def lx (f : Nat → Int32) : Nat → Nat
  | 0 => 0
  | k + 1 => if f (k + 1) < f (lx f k) then k + 1 else lx f k
theorem lx_le (f : Nat → Int32) : ∀ k, lx f k ≤ k := by
  intro k
  induction k with
  | zero => exact Nat.le_refl _
  | succ k ih =>
    unfold lx
    split
    · exact Nat.le_refl _
    · exact Nat.le_succ_of_le ih
def pF (r : Rw) (k : Nat) : Int32 := paW r (100 + k)
theorem c_bp114 (h : CS M 15 r) (v : V r) : ∀ (d i g : Nat), d + i = 899 → d < g →
    f_C_bestPace_114 M g (smW (chS (stE r) r) (r 0)) (smW (chS (stN r) r) (r 0)) (oN (100 + lx (pF r) i)) (pF r (lx (pF r) i)) (oN (100 + (i + 1))) = some (oN (100 + lx (pF r) 899)) := by
  have hv := v.1
  intro d
  induction d with
  | zero =>
    intro i g hd hg
    obtain ⟨g, rfl⟩ : ∃ z, g = z + 1 := ⟨g - 1, by omega⟩
    obtain rfl : i = 899 := by omega
    rw [f_C_bestPace_114, if_pos (by decide)]
  | succ d ih =>
    intro i g hd hg
    obtain ⟨g, rfl⟩ : ∃ z, g = z + 1 := ⟨g - 1, by omega⟩
    have hx := lx_le (pF r) i
    rw [f_C_bestPace_114, if_neg (by rw [show (999 : Int32) = oN 999 from rfl, oN_lt (by omega) (by omega)]; omega)]
    have hm : f_C_misclosureWithPace M (smW (chS (stE r) r) (r 0)) (smW (chS (stN r) r) (r 0)) (oN (100 + (i + 1))) = some (pF r (i + 1)) := by
      have := c_mwp h v (x := 100 + (i + 1)) (by omega) (by omega) (r 0) 0 fu (by omega) (by unfold fu; omega)
      rw [show smW (boS (stE (up r 2 (100 + (i + 1)))) r) 0 = 0 from rfl, show smW (boS (stN (up r 2 (100 + (i + 1)))) r) 0 = 0 from rfl, Int32.add_zero, Int32.add_zero] at this
      exact this
    rw [hm, bn_s]
    unfold f_C_bestPace_146
    have hh := ih (i + 1) g (by omega) (by omega)
    have e : lx (pF r) (i + 1) = if pF r (i + 1) < pF r (lx (pF r) i) then i + 1 else lx (pF r) i := rfl
    rw [e] at hh
    by_cases c : pF r (i + 1) < pF r (lx (pF r) i)
    · rw [if_pos c] at hh
      rw [if_neg (i_nle.mpr c), oN_S]
      exact hh
    · rw [if_neg c] at hh
      rw [if_pos (i_nl.mp c), oN_S]
      exact hh
theorem c_bp18 (h : CS M 15 r) (v : V r) : ∀ (d i g : Nat), d + i = r 0 → d < g →
    f_C_bestPace_18 M g (smW (chS (stE r) r) i) (smW (chS (stN r) r) i) (oN i) = some (oN (100 + lx (pF r) 899)) := by
  have hv := v.1
  intro d
  induction d with
  | zero =>
    intro i g hd hg
    obtain ⟨g, rfl⟩ : ∃ z, g = z + 1 := ⟨g - 1, by omega⟩
    have hm : f_C_misclosureWithPace M (smW (chS (stE r) r) (r 0)) (smW (chS (stN r) r) (r 0)) 100 = some (pF r 0) := by
      have := c_mwp h v (x := 100) (by omega) (by omega) (r 0) 0 fu (by omega) (by unfold fu; omega)
      rw [show smW (boS (stE (up r 2 100)) r) 0 = 0 from rfl, show smW (boS (stN (up r 2 100)) r) 0 = 0 from rfl, Int32.add_zero, Int32.add_zero] at this
      exact this
    rw [f_C_bestPace_18, h.1, if_pos (by rw [oN_le (by omega) (by omega)]; omega), show i = r 0 by omega, hm, bn_s]
    exact c_bp114 h v 899 0 fu (by omega) (by unfold fu; omega)
  | succ d ih =>
    intro i g hd hg
    obtain ⟨g, rfl⟩ : ∃ z, g = z + 1 := ⟨g - 1, by omega⟩
    have hi : i < r 0 := by omega
    obtain ⟨n0, b1, z2, p3, p4, l5, d6, r7, t8⟩ := h.2.2.2.2.2 i hi
    have b1 : M 17 i = oN (r (4 + 14 * i + 0)) := b1
    have z2 : M 18 i = if r (4 + 14 * i + 6) = 0 then 0 else 1 := z2
    have hh := ih (i + 1) g (by omega) (by omega)
    have q1 : smW (chS (stE r) r) (i + 1) = smW (chS (stE r) r) i + chS (stE r) r i := rfl
    have q2 : smW (chS (stN r) r) (i + 1) = smW (chS (stN r) r) i + chS (stN r) r i := rfl
    rw [q1, q2] at hh
    unfold chS at hh
    rw [f_C_bestPace_18, h.1, if_neg (by rw [oN_le (by omega) (by omega)]; omega), chk_t (iin20 v hi), oI20 v hi, z2]
    unfold f_C_bestPace_91
    by_cases c : r (4 + 14 * i + 6) = 0
    · rw [if_pos c, if_pos c] at hh
      rw [if_pos c, if_pos rfl, c_flat h v hi, bn_s, b1, c_sin v hi, bn_s, c_cos v hi]
      unfold f_C_stepOf
      rw [bn_s, bn_s, bn_s, oN_S]
      exact hh
    · rw [if_neg c, if_neg c, Int32.add_zero, Int32.add_zero] at hh
      rw [if_neg c, if_neg (by decide), oN_S]
      exact hh
/-- is there a bog among the first k -/
def anB (r : Rw) : Nat → Bool
  | 0 => false
  | k + 1 => anB r k || (r (4 + 14 * k + 6) != 0)
theorem anB_mono {k : Nat} (h : anB r k = true) : ∀ d, anB r (k + d) = true := by
  intro d
  induction d with
  | zero => exact h
  | succ d ih => show (anB r (k + d) || _) = true; rw [ih]; rfl
theorem c_hasBog (h : CS M 15 r) (v : V r) : ∀ (d i g : Nat), d + i = r 0 → d < g → anB r i = false → f_S_hasBog_2 15 M g (oN i) = some (if anB r (r 0) then 1 else 0) := by
  have hv := v.1
  intro d
  induction d with
  | zero =>
    intro i g hd hg ha
    obtain ⟨g, rfl⟩ : ∃ z, g = z + 1 := ⟨g - 1, by omega⟩
    rw [f_S_hasBog_2, h.1, if_pos (by rw [oN_le (by omega) (by omega)]; omega), ← show i = r 0 by omega, ha]; rfl
  | succ d ih =>
    intro i g hd hg ha
    obtain ⟨g, rfl⟩ : ∃ z, g = z + 1 := ⟨g - 1, by omega⟩
    have hi : i < r 0 := by omega
    obtain ⟨n0, b1, z2, p3, p4, l5, d6, r7, t8⟩ := h.2.2.2.2.2 i hi
    rw [f_S_hasBog_2, h.1, if_neg (by rw [oN_le (by omega) (by omega)]; omega), chk_t (iin20 v hi), oI20 v hi, z2]
    by_cases c : r (4 + 14 * i + 6) = 0
    · rw [if_pos c, if_pos rfl, oN_S]
      refine ih (i + 1) g (by omega) (by omega) ?_
      show (anB r i || (r (4 + 14 * i + 6) != 0)) = false
      rw [ha, c]; rfl
    · have hb : anB r (i + 1) = true := by
        show (anB r i || (r (4 + 14 * i + 6) != 0)) = true
        rw [ha, Bool.false_or, bne_iff_ne]; exact c
      have hb2 := anB_mono hb (r 0 - (i + 1))
      rw [show i + 1 + (r 0 - (i + 1)) = r 0 by omega] at hb2
      rw [if_neg c, if_neg (by decide), hb2]; rfl
theorem c_bestPace (h : CS M 15 r) (v : V r) : f_C_bestPace M = some (if anB r (r 0) then oN (100 + lx (pF r) 899) else -1) := by
  have hv := v.1
  unfold f_C_bestPace f_S_hasBog
  rw [show (0 : Int32) = oN 0 from rfl, c_hasBog h v (r 0) 0 fu (by omega) (by unfold fu; omega) rfl, bn_s]
  by_cases c : anB r (r 0) = true
  · rw [if_pos c, if_pos c, if_neg (by decide)]
    exact c_bp18 h v (r 0) 0 fu (by omega) (by unfold fu; omega)
  · rw [if_neg c, if_neg c, if_pos (by decide)]
/-- one pace tried in the model -/
theorem m_try {N : Mm} {q x : Nat} (v : V r) (h : MS N 135 0 (up r 2 q)) (co : CO N) (h1 : 100 ≤ x) (h2 : x ≤ 999) : ∃ N1, f_M_miss (wr N 135 2 (oN x)) = some (paW r x, N1) ∧ MS N1 135 0 (up r 2 x) ∧ CO N1 := by
  have hV := v.pace h1 h2
  have m1 : MS (wr N 135 2 (oN x)) 135 0 (up r 2 x) := (h.up rfl).cg (fun j hj => by
    by_cases c : j = 2
    · subst c; rw [up_s, up_s]
    · rw [up_n c, up_n c, up_n c])
  have co1 : CO (wr N 135 2 (oN x)) := fun k => by rw [wr_n (by omega)]; exact co k
  obtain ⟨N1, e1, k1⟩ := m_raw hV m1 co1
  have m2 := m1.fr (fr_M_findRaw e1) (by rfl)
  refine ⟨N1, ?_, m2, fun k => ((fr_M_findRaw e1) 146 k (by rfl)).trans (co1 k)⟩
  unfold f_M_miss
  have k2 := k1 _ (Nat.le_refl _)
  rw [e1, bn_s, show ix (0 : Int32) = 0 from rfl, m_at m2 (by decide), chk_t (iin21 hV (Nat.le_refl _)), oI21 hV (Nat.le_refl _), k2.2.1, k2.2.2, m_far (ew_bd hV (Nat.le_refl _)).1 (ew_bd hV (Nat.le_refl _)).2]; rfl
theorem m_bp55 (v : V r) : ∀ (d i g : Nat) (N : Mm) (q : Nat), d + i = 899 → d < g → MS N 135 0 (up r 2 q) → CO N →
    ∃ N1, f_M_bestPace_55 g (oN (r 2)) (oN (100 + lx (pF r) i)) (pF r (lx (pF r) i)) (oN (100 + (i + 1))) N = some (oN (100 + lx (pF r) 899), N1) ∧ MS N1 135 0 r := by
  have hv := v.1
  intro d
  induction d with
  | zero =>
    intro i g N q hd hg hM co
    obtain ⟨g, rfl⟩ : ∃ z, g = z + 1 := ⟨g - 1, by omega⟩
    obtain rfl : i = 899 := by omega
    rw [f_M_bestPace_55, if_pos (by decide), bm_s]
    refine ⟨_, rfl, (hM.up rfl).cg (fun j hj => ?_)⟩
    exact (up_back rfl q j).symm
  | succ d ih =>
    intro i g N q hd hg hM co
    obtain ⟨g, rfl⟩ : ∃ z, g = z + 1 := ⟨g - 1, by omega⟩
    have hx := lx_le (pF r) i
    have hne : ¬ oN (100 + lx (pF r) i) = -1 := by
      intro q
      have := congrArg Int32.toInt q
      rw [oN_int (by omega)] at this
      have e1 : (-1 : Int32).toInt = -1 := by decide
      omega
    obtain ⟨N1, e1, e2, e3⟩ := m_try (x := 100 + (i + 1)) v hM co (by omega) (by omega)
    rw [f_M_bestPace_55, if_neg (by rw [show (999 : Int32) = oN 999 from rfl, oN_lt (by omega) (by omega)]; omega), bm_s, show ix (2 : Int32) = 2 from rfl, e1, bn2_s, if_neg hne]
    unfold f_M_bestPace_92 f_M_bestPace_99
    have hh := ih (i + 1) g N1 _ (by omega) (by omega) e2 e3
    have e : lx (pF r) (i + 1) = if pF r (i + 1) < pF r (lx (pF r) i) then i + 1 else lx (pF r) i := rfl
    rw [e] at hh
    by_cases c : pF r (i + 1) < pF r (lx (pF r) i)
    · rw [if_pos c] at hh
      rw [if_pos (show paW r (100 + (i + 1)) < _ from c), oN_S]
      exact hh
    · rw [if_neg c] at hh
      rw [if_neg (show ¬ paW r (100 + (i + 1)) < _ from c), oN_S]
      exact hh
theorem m_bp9 (v : V r) (hM : MS N 135 0 r) (co : CO N) : ∀ (d i g : Nat), d + i = r 0 → d < g →
    ∃ N1, f_M_bestPace_9 g (if anB r i then 1 else 0) (oN i) N = some (if anB r (r 0) then oN (100 + lx (pF r) 899) else -1, N1) ∧ MS N1 135 0 r := by
  have hv := v.1
  intro d
  induction d with
  | zero =>
    intro i g hd hg
    obtain ⟨g, rfl⟩ : ∃ z, g = z + 1 := ⟨g - 1, by omega⟩
    rw [f_M_bestPace_9, show ix (0 : Int32) = 0 from rfl, m_at hM (by decide), if_pos (by rw [oN_le (by omega) (by omega)]; omega), show i = r 0 by omega]
    by_cases c : anB r (r 0) = true
    · rw [if_pos c, if_pos c, if_neg (by decide), show ix (2 : Int32) = 2 from rfl, m_at hM (by decide)]
      obtain ⟨N1, e1, e2, e3⟩ := m_try (q := r 2) (x := 100) v (hM.cg (fun j hj => by
        by_cases c : j = 2
        · subst c; exact up_s _ _ _
        · exact up_n c)) co (by omega) (by omega)
      rw [show fu = 99999 + 1 from rfl, f_M_bestPace_55, if_neg (by decide), bm_s, show ix (2 : Int32) = 2 from rfl, show (100 : Int32) = oN 100 from rfl, e1, bn2_s, if_pos rfl]
      unfold f_M_bestPace_92 f_M_bestPace_99
      rw [oN_S]
      exact m_bp55 v 899 0 99999 N1 100 (by omega) (by omega) e2 e3
    · rw [if_neg c, if_neg c, if_pos rfl]
      exact ⟨N, rfl, hM⟩
  | succ d ih =>
    intro i g hd hg
    obtain ⟨g, rfl⟩ : ∃ z, g = z + 1 := ⟨g - 1, by omega⟩
    have hi : i < r 0 := by omega
    rw [f_M_bestPace_9, show ix (0 : Int32) = 0 from rfl, m_at hM (by decide), if_neg (by rw [oN_le (by omega) (by omega)]; omega), m_bog hM v hi, bn_s, oN_S]
    have hh := ih (i + 1) g (by omega) (by omega)
    have e : anB r (i + 1) = (anB r i || (r (4 + 14 * i + 6) != 0)) := rfl
    rw [e] at hh
    by_cases c : r (4 + 14 * i + 6) = 0
    · rw [c] at hh
      rw [if_pos c]
      cases ha : anB r i with
      | true => rw [ha] at hh; exact hh
      | false => rw [ha] at hh; exact hh
    · rw [(bne_iff_ne (a := r (4 + 14 * i + 6)) (b := 0)).mpr c] at hh
      rw [if_neg c]
      cases ha : anB r i with
      | true => rw [ha] at hh; exact hh
      | false => rw [ha] at hh; exact hh
theorem s_bestPace (h : RI M N) : ∃ v N1, f_C_bestPace M = some v ∧ f_M_bestPace N = some (v, N1) ∧ RI M N1 := by
  obtain ⟨r, p⟩ := h.1
  have hv := p.1.1
  obtain ⟨N1, e1, e2⟩ := m_bp9 p.1 (p.2.2.n7 (by decide) 0) (h.co.n7 0) (r 0) 0 fu (by omega) (by unfold fu; omega)
  have e3 : f_M_bestPace N = some (if anB r (r 0) then oN (100 + lx (pF r) 899) else -1, N1) := by
    unfold f_M_bestPace
    rw [bm_s]; exact e1
  have f9 := fr_M_bestPace e3
  refine ⟨_, N1, c_bestPace p.2.1 p.1, e3, ?_⟩
  obtain ⟨_, u, s, t, o, e, z, co, dz⟩ := h
  have g := Ag.of (cs := [(134, 134, 7), (137, 137, 0), (138, 138, 0), (140, 140, 0), (134, 134, 15), (141, 141, 0), (134, 134, 16), (142, 142, 0), (134, 134, 17), (134, 134, 18), (146, 146, 0)]) f9 (by rfl)
  exact ⟨⟨r, p.1, p.2.1, e2⟩, u.ag (Ag.rf _ _) (g.su (by rfl)), s.ag (Ag.rf _ _) (g.su (by rfl)), t.ag (Ag.rf _ _) (g.su (by rfl)), o.ag (Ag.rf _ _) (g.su (by rfl)), e.ag (Ag.rf _ _) (g.su (by rfl)), z, co.ag (g.su (by rfl)), dz⟩
end PAC
