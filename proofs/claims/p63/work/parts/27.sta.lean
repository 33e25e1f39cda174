/-! questions on stations -/
/-- what follow() leaves in the class's rows -/
def FO (M : Mm) (r : Rw) : Prop := M 25 5 = oN (r 0) ∧ (∀ k, k ≤ r 0 → RT M r k) ∧ (∀ k, k ≤ r 0 → M 29 k = aE r k ∧ M 30 k = aN r k)
section STA
variable {M N : Mm} {r : Rw}
theorem ru_lt (v : V r) {k : Nat} (hk : k ≤ r 0) : ruN r k < 2147483648 := by
  have := ru_le v k hk
  have := v.1
  omega
theorem FO.z {M1 : Mm} (f : FO M1 r) : Z0 M1 := ⟨(f.2.1 0 (Nat.zero_le _)).1, (f.2.1 0 (Nat.zero_le _)).2.1, (f.2.1 0 (Nat.zero_le _)).2.2⟩
theorem c_fo (h : RI M N) (p : PR M N r) : ∃ M1, f_C_followed M = some M1 ∧ RI M1 N ∧ PR M1 N r ∧ FO M1 r := by
  obtain ⟨M1, e, f⟩ := c_follow (a := 15) (by decide) p.1 p.2.1 h.z.1 h.z.2.1 h.z.2.2
  have e2 : f_C_followed M = some M1 := by unfold f_C_followed; rw [e]; rfl
  have f9 := fr_C_followed e2
  have f : FO M1 r := f
  exact ⟨M1, e2, h.frM f9 (by rfl) f.z, ⟨p.1, p.2.1.fr f9 (by rfl), p.2.2⟩, f⟩
theorem m_rawQ (h : RI M N) (p : PR M N r) : ∃ N1, f_M_findRaw N = some N1 ∧ RI M N1 ∧ PR M N1 r ∧ N1 134 7 = N 134 7 ∧ (∀ k, k ≤ r 0 → RM N1 r k) := by
  obtain ⟨N1, e, f⟩ := m_raw p.1 p.2.2 h.co
  have f9 := fr_M_findRaw e
  exact ⟨N1, e, h.frN f9 (by rfl), ⟨p.1, p.2.1, p.2.2.fr f9 (by rfl)⟩, f9 134 7 (by rfl), f⟩
theorem m_staQ (h : RI M N) (p : PR M N r) : ∃ N1, f_M_findStations N = some N1 ∧ RI M N1 ∧ PR M N1 r ∧ N1 134 7 = N 134 7 ∧ (∀ k, k ≤ r 0 → N1 145 k = oN (ruN r k)) ∧ (∀ k, k ≤ r 0 → N1 143 k = aE r k ∧ N1 144 k = aN r k) := by
  obtain ⟨N1, e, f⟩ := m_stations p.1 p.2.2 h.co
  have f9 := fr_M_findStations e
  exact ⟨N1, e, h.frN f9 (by rfl), ⟨p.1, p.2.1, p.2.2.fr f9 (by rfl)⟩, f9 134 7 (by rfl), f⟩
theorem PR.n7 (p : PR M N r) (x : Int32) : PR M (wr N 134 7 x) r := ⟨p.1, p.2.1, p.2.2.n7 (by decide) x⟩
theorem c_station (v : V r) (h : CS M 15 r) (l : Int32) : (∃ i, i ≤ r 0 ∧ l = oN i ∧ f_C_requireStation M l = some (.inr ())) ∨ ((¬ ∃ i, i ≤ r 0 ∧ l = oN i) ∧ f_C_requireStation M l = some (.inl 3)) := by
  have hv := v.1
  unfold f_C_requireStation
  rw [h.1, c_between, bn_s]
  by_cases c : 0 ≤ l ∧ l ≤ oN (r 0)
  · rw [if_pos c, if_neg (by decide)]
    obtain ⟨i, hi, e⟩ := (in_n (by omega)).mp c
    exact Or.inl ⟨i, hi, e, rfl⟩
  · rw [if_neg c, if_pos rfl]
    exact Or.inr ⟨fun q => c ((in_n (by omega)).mpr q), rfl⟩
theorem m_nost_y {l : Int32} (v : V r) (h : MS N 135 0 r) (c : ∃ i, i ≤ r 0 ∧ l = oN i) : f_M_noStation l N = some (0, wr N 134 7 0) := by
  unfold f_M_noStation f_M_noStation_20
  rw [show ix (0 : Int32) = 0 from rfl, m_at h (by decide), m_isIn, if_pos ((in_n (by have := v.1; omega)).mpr c), bn_s, if_neg (by decide), m_fails]; rfl
theorem m_nost_n {l : Int32} (v : V r) (h : MS N 135 0 r) (c : ¬ ∃ i, i ≤ r 0 ∧ l = oN i) : f_M_noStation l N = some (1, wr N 134 7 1) := by
  unfold f_M_noStation f_M_noStation_20
  rw [show ix (0 : Int32) = 0 from rfl, m_at h (by decide), m_isIn, if_neg (fun q => c ((in_n (by have := v.1; omega)).mp q)), bn_s, if_pos rfl, m_fails]; rfl
/-- a question on a station -/
theorem s_sta {l : Int32} {fC : Option ((Nat ⊕ Int32) × Mm)} {fM : Option (Int32 × Mm)} (h : RI M N)
    (hn : f_C_requireStation M l = some (.inl 3) → fC = some (.inl 3, M)) (hm : f_M_noStation l N = some (1, wr N 134 7 1) → ∃ x, fM = some (x, wr N 134 7 1))
    (hy : ∀ r i M1, V r → i ≤ r 0 → l = oN i → f_C_requireStation M l = some (.inr ()) → f_C_followed M = some M1 → FO M1 r → f_M_noStation l N = some (0, wr N 134 7 0) → RI M (wr N 134 7 0) → PR M (wr N 134 7 0) r → ∃ x N1, fC = some (.inr x, M1) ∧ fM = some (x, N1) ∧ RI M N1 ∧ N1 134 7 = (wr N 134 7 0) 134 7) :
    ∃ o v M1 N1, fC = some (o, M1) ∧ fM = some (v, N1) ∧ RI M1 N1 ∧ An 3 9 o v (N1 134 7) := by
  obtain ⟨r, p⟩ := h.1
  rcases c_station p.1 p.2.1 l with ⟨i, hi, e, hc⟩ | ⟨hi, hc⟩
  · obtain ⟨M1, e1, e2, e3, e4⟩ := c_fo h p
    obtain ⟨x, N1, h1, h2, h3, h4⟩ := hy r i M1 p.1 hi e hc e1 e4 (m_nost_y p.1 p.2.2 ⟨i, hi, e⟩) (h.n7 0) (p.n7 0)
    exact ⟨_, _, _, _, h1, h2, h3.frM (fr_C_followed e1) (by rfl) e4.z, rfl, h4.trans (wr_s _ _ _ _)⟩
  · obtain ⟨x, h2⟩ := hm (m_nost_n p.1 p.2.2 hi)
    exact ⟨_, _, _, _, hn hc, h2, h.n7 1, Or.inl ⟨rfl, wr_s _ _ _ _⟩⟩
theorem iin21 {i : Nat} (v : V r) (hi : i ≤ r 0) : iin (oN i) 21 := (iin_oN (by have := v.1; omega)).mpr (by have := v.1; omega)
theorem oI21 {i : Nat} (v : V r) (hi : i ≤ r 0) : ix (oN i) = i := oI (by have := v.1; omega)
theorem s_rawEast (h : RI M N) (l : Int32) : ∃ o v M1 N1, f_C_rawEast l M = some (o, M1) ∧ f_M_rawEast l N = some (v, N1) ∧ RI M1 N1 ∧ An 3 9 o v (N1 134 7) := by
  refine s_sta (l := l) h (fun q => by unfold f_C_rawEast; rw [q]; rfl) (fun q => ⟨0, by unfold f_M_rawEast; rw [q]; rfl⟩) (fun r i M1 v hi e q1 q2 fo q3 h' p' => ?_)
  obtain ⟨N1, e1, e2, e3, e4, e5⟩ := m_rawQ h' p'
  refine ⟨eW r i, N1, ?_, ?_, e2, e4⟩
  · unfold f_C_rawEast; rw [q1, e]
    show bn _ _ = _
    rw [q2, bn_s, chk_t (iin21 v hi), oI21 v hi, (fo.2.1 i hi).2.1]
  · unfold f_M_rawEast; rw [q3, e, bn2_s, if_pos rfl, e1, bn_s, chk_t (iin21 v hi), oI21 v hi, (e5 i hi).2.1]
theorem s_rawNorth (h : RI M N) (l : Int32) : ∃ o v M1 N1, f_C_rawNorth l M = some (o, M1) ∧ f_M_rawNorth l N = some (v, N1) ∧ RI M1 N1 ∧ An 3 9 o v (N1 134 7) := by
  refine s_sta (l := l) h (fun q => by unfold f_C_rawNorth; rw [q]; rfl) (fun q => ⟨0, by unfold f_M_rawNorth; rw [q]; rfl⟩) (fun r i M1 v hi e q1 q2 fo q3 h' p' => ?_)
  obtain ⟨N1, e1, e2, e3, e4, e5⟩ := m_rawQ h' p'
  refine ⟨nW r i, N1, ?_, ?_, e2, e4⟩
  · unfold f_C_rawNorth; rw [q1, e]
    show bn _ _ = _
    rw [q2, bn_s, chk_t (iin21 v hi), oI21 v hi, (fo.2.1 i hi).2.2]
  · unfold f_M_rawNorth; rw [q3, e, bn2_s, if_pos rfl, e1, bn_s, chk_t (iin21 v hi), oI21 v hi, (e5 i hi).2.2]
theorem s_run (h : RI M N) (l : Int32) : ∃ o v M1 N1, f_C_run l M = some (o, M1) ∧ f_M_run l N = some (v, N1) ∧ RI M1 N1 ∧ An 3 9 o v (N1 134 7) := by
  refine s_sta (l := l) h (fun q => by unfold f_C_run; rw [q]; rfl) (fun q => ⟨0, by unfold f_M_run; rw [q]; rfl⟩) (fun r i M1 v hi e q1 q2 fo q3 h' p' => ?_)
  obtain ⟨N1, e1, e2, e3, e4, e5⟩ := m_rawQ h' p'
  refine ⟨oN (ruN r i), N1, ?_, ?_, e2, e4⟩
  · unfold f_C_run; rw [q1, e]
    show bn _ _ = _
    rw [q2, bn_s, chk_t (iin21 v hi), oI21 v hi, (fo.2.1 i hi).1]
  · unfold f_M_run; rw [q3, e, bn2_s, if_pos rfl, e1, bn_s, chk_t (iin21 v hi), oI21 v hi, (e5 i hi).1]
theorem s_east (h : RI M N) (l : Int32) : ∃ o v M1 N1, f_C_east l M = some (o, M1) ∧ f_M_east l N = some (v, N1) ∧ RI M1 N1 ∧ An 3 9 o v (N1 134 7) := by
  refine s_sta (l := l) h (fun q => by unfold f_C_east; rw [q]; rfl) (fun q => ⟨0, by unfold f_M_east; rw [q]; rfl⟩) (fun r i M1 v hi e q1 q2 fo q3 h' p' => ?_)
  obtain ⟨N1, e1, e2, e3, e4, e5, e6⟩ := m_staQ h' p'
  refine ⟨aE r i, N1, ?_, ?_, e2, e4⟩
  · unfold f_C_east; rw [q1, e]
    show bn _ _ = _
    rw [q2, bn_s, chk_t (iin21 v hi), oI21 v hi, (fo.2.2 i hi).1]
  · unfold f_M_east; rw [q3, e, bn2_s, if_pos rfl, e1, bn_s, chk_t (iin21 v hi), oI21 v hi, (e6 i hi).1]
theorem s_north (h : RI M N) (l : Int32) : ∃ o v M1 N1, f_C_north l M = some (o, M1) ∧ f_M_north l N = some (v, N1) ∧ RI M1 N1 ∧ An 3 9 o v (N1 134 7) := by
  refine s_sta (l := l) h (fun q => by unfold f_C_north; rw [q]; rfl) (fun q => ⟨0, by unfold f_M_north; rw [q]; rfl⟩) (fun r i M1 v hi e q1 q2 fo q3 h' p' => ?_)
  obtain ⟨N1, e1, e2, e3, e4, e5, e6⟩ := m_staQ h' p'
  refine ⟨aN r i, N1, ?_, ?_, e2, e4⟩
  · unfold f_C_north; rw [q1, e]
    show bn _ _ = _
    rw [q2, bn_s, chk_t (iin21 v hi), oI21 v hi, (fo.2.2 i hi).2]
  · unfold f_M_north; rw [q3, e, bn2_s, if_pos rfl, e1, bn_s, chk_t (iin21 v hi), oI21 v hi, (e6 i hi).2]
theorem t_distOf (v : V r) {i : Nat} (fo : FO M r) (hi : i ≤ r 0) : f_T_distanceOf M (oN i) = some (dW (aE r i) (aN r i)) := by
  unfold f_T_distanceOf
  rw [chk_t (iin21 v hi), oI21 v hi, (fo.2.2 i hi).1, (fo.2.2 i hi).2, c_dist (a_bd v hi).1 (a_bd v hi).2]; rfl
theorem s_distanceFromStart (h : RI M N) (l : Int32) : ∃ o v M1 N1, f_C_distanceFromStart l M = some (o, M1) ∧ f_M_distanceFromStart l N = some (v, N1) ∧ RI M1 N1 ∧ An 3 9 o v (N1 134 7) := by
  refine s_sta (l := l) h (fun q => by unfold f_C_distanceFromStart; rw [q]; rfl) (fun q => ⟨0, by unfold f_M_distanceFromStart; rw [q]; rfl⟩) (fun r i M1 v hi e q1 q2 fo q3 h' p' => ?_)
  obtain ⟨N1, e1, e2, e3, e4, e5, e6⟩ := m_staQ h' p'
  refine ⟨dW (aE r i) (aN r i), N1, ?_, ?_, e2, e4⟩
  · unfold f_C_distanceFromStart; rw [q1, e]
    show bn _ _ = _
    rw [q2, bn_s, t_distOf v fo hi]; rfl
  · unfold f_M_distanceFromStart; rw [q3, e, bn2_s, if_pos rfl, e1, bn_s, chk_t (iin21 v hi), oI21 v hi, (e6 i hi).1, (e6 i hi).2, m_far (a_bd v hi).1 (a_bd v hi).2]; rfl
/-! the whole traverse -/
theorem t_clos (v : V r) (fo : FO M r) : f_T_closingDistance M = some (dW (eW r (r 0)) (nW r (r 0))) := by
  unfold f_T_closingDistance
  rw [t_endE fo.1 v.1 (fo.2.1 _ (Nat.le_refl _)).2.1, bn_s, t_endN fo.1 v.1 (fo.2.1 _ (Nat.le_refl _)).2.2, bn_s, c_dist (ew_bd v (Nat.le_refl _)).1 (ew_bd v (Nat.le_refl _)).2]; rfl
theorem m_missQ (h : RI M N) (p : PR M N r) : ∃ N1, f_M_miss N = some (dW (eW r (r 0)) (nW r (r 0)), N1) ∧ RI M N1 ∧ PR M N1 r ∧ N1 134 7 = N 134 7 ∧ (∀ k, k ≤ r 0 → RM N1 r k) := by
  obtain ⟨N1, e1, e2, e3, e4, e5⟩ := m_rawQ h p
  refine ⟨N1, ?_, e2, e3, e4, e5⟩
  unfold f_M_miss
  rw [e1, bn_s, show ix (0 : Int32) = 0 from rfl, m_at e3.2.2 (by decide), chk_t (iin21 p.1 (Nat.le_refl _)), oI21 p.1 (Nat.le_refl _), (e5 _ (Nat.le_refl _)).2.1, (e5 _ (Nat.le_refl _)).2.2, m_far (ew_bd p.1 (Nat.le_refl _)).1 (ew_bd p.1 (Nat.le_refl _)).2]; rfl
theorem c_peri (h : RI M N) (p : PR M N r) : ∃ M1, f_C_perimeter M = some (oN (ruN r (r 0)), M1) ∧ RI M1 N ∧ PR M1 N r := by
  obtain ⟨M1, e1, e2, e3, fo⟩ := c_fo h p
  refine ⟨M1, ?_, e2, e3⟩
  unfold f_C_perimeter
  rw [e1, bn_s, t_run fo.1 p.1.1 (fo.2.1 _ (Nat.le_refl _)).1]; rfl
theorem m_peri (h : RI M N) (p : PR M N r) : ∃ N1, f_M_perimeterNow N = some (oN (ruN r (r 0)), N1) ∧ RI M N1 ∧ PR M N1 r ∧ N1 134 7 = N 134 7 := by
  obtain ⟨N1, e1, e2, e3, e4, e5⟩ := m_rawQ h p
  refine ⟨N1, ?_, e2, e3, e4⟩
  unfold f_M_perimeterNow
  rw [e1, bn_s, m_around (m_at e3.2.2 (by decide)) p.1.1 (e5 _ (Nat.le_refl _)).1]; rfl
theorem s_perimeter (h : RI M N) : ∃ v M1 N1, f_C_perimeter M = some (v, M1) ∧ f_M_perimeter N = some (v, N1) ∧ RI M1 N1 := by
  obtain ⟨r, p⟩ := h.1
  obtain ⟨M1, e1, e2, e3⟩ := c_peri h p
  obtain ⟨N1, f1, f2, f3, f4⟩ := m_peri e2 e3
  refine ⟨_, M1, _, e1, ?_, f2.n7 0⟩
  unfold f_M_perimeter
  rw [f1, bn2_s, m_told]; rfl
theorem s_closingEast (h : RI M N) : ∃ v M1 N1, f_C_closingEast M = some (v, M1) ∧ f_M_closingEast N = some (v, N1) ∧ RI M1 N1 := by
  obtain ⟨r, p⟩ := h.1
  obtain ⟨M1, e1, e2, e3, fo⟩ := c_fo h p
  obtain ⟨N1, f1, f2, f3, f4, f5⟩ := m_rawQ (e2.n7 0) (e3.n7 0)
  refine ⟨eW r (r 0), M1, N1, ?_, ?_, f2⟩
  · unfold f_C_closingEast
    rw [e1, bn_s, t_endE fo.1 p.1.1 (fo.2.1 _ (Nat.le_refl _)).2.1]; rfl
  · unfold f_M_closingEast
    rw [bm_s, f1, bn_s, show ix (0 : Int32) = 0 from rfl, m_at f3.2.2 (by decide), chk_t (iin21 p.1 (Nat.le_refl _)), oI21 p.1 (Nat.le_refl _), (f5 _ (Nat.le_refl _)).2.1]
theorem s_closingNorth (h : RI M N) : ∃ v M1 N1, f_C_closingNorth M = some (v, M1) ∧ f_M_closingNorth N = some (v, N1) ∧ RI M1 N1 := by
  obtain ⟨r, p⟩ := h.1
  obtain ⟨M1, e1, e2, e3, fo⟩ := c_fo h p
  obtain ⟨N1, f1, f2, f3, f4, f5⟩ := m_rawQ (e2.n7 0) (e3.n7 0)
  refine ⟨nW r (r 0), M1, N1, ?_, ?_, f2⟩
  · unfold f_C_closingNorth
    rw [e1, bn_s, t_endN fo.1 p.1.1 (fo.2.1 _ (Nat.le_refl _)).2.2]; rfl
  · unfold f_M_closingNorth
    rw [bm_s, f1, bn_s, show ix (0 : Int32) = 0 from rfl, m_at f3.2.2 (by decide), chk_t (iin21 p.1 (Nat.le_refl _)), oI21 p.1 (Nat.le_refl _), (f5 _ (Nat.le_refl _)).2.2]
theorem s_misclosure (h : RI M N) : ∃ v M1 N1, f_C_misclosure M = some (v, M1) ∧ f_M_misclosure N = some (v, N1) ∧ RI M1 N1 := by
  obtain ⟨r, p⟩ := h.1
  obtain ⟨M1, e1, e2, e3, fo⟩ := c_fo h p
  obtain ⟨N1, f1, f2, f3, f4, f5⟩ := m_missQ e2 e3
  refine ⟨dW (eW r (r 0)) (nW r (r 0)), M1, _, ?_, ?_, f2.n7 0⟩
  · unfold f_C_misclosure
    rw [e1, bn_s, t_clos p.1 fo]; rfl
  · unfold f_M_misclosure
    rw [f1, bn2_s, m_told]; rfl
theorem s_precision (h : RI M N) : ∃ v M1 N1, f_C_precision M = some (v, M1) ∧ f_M_precision N = some (v, N1) ∧ RI M1 N1 := by
  obtain ⟨r, p⟩ := h.1
  obtain ⟨M1, e1, e2, e3, fo⟩ := c_fo h p
  obtain ⟨N1, f1, f2, f3, f4, f5⟩ := m_missQ (e2.n7 0) (e3.n7 0)
  unfold f_C_precision f_C_precision_24 f_M_precision f_M_precision_24
  rw [e1, bn_s, t_clos p.1 fo, bn_s, bm_s, f1, bn2_s]
  by_cases c : dW (eW r (r 0)) (nW r (r 0)) = 0
  · rw [if_pos c, if_pos c]
    exact ⟨_, _, _, rfl, rfl, f2⟩
  · rw [if_neg c, if_neg c, t_run fo.1 p.1.1 (fo.2.1 _ (Nat.le_refl _)).1, bn_s, chk_t c, m_around (m_at f3.2.2 (by decide)) p.1.1 (f5 _ (Nat.le_refl _)).1, bn_s, chk_t c]
    exact ⟨_, _, _, rfl, rfl, f2⟩
/-- the least and greatest of the first k -/
def mnW (f : Nat → Int32) : Nat → Int32
  | 0 => f 0
  | k + 1 => if f (k + 1) < mnW f k then f (k + 1) else mnW f k
def mxW (f : Nat → Int32) : Nat → Int32
  | 0 => f 0
  | k + 1 => if mxW f k < f (k + 1) then f (k + 1) else mxW f k
theorem c_spr {a n : Nat} {f : Nat → Int32} (hn : n ≤ 20) (h : ∀ k, k ≤ n → M a k = f k) : ∀ (d i g : Nat), d + i = n → d + 1 < g →
    f_C_spread_7 a M g (oN (n + 1)) (mnW f i) (mxW f i) (oN (i + 1)) = some (mxW f n - mnW f n) := by
  intro d
  induction d with
  | zero =>
    intro i g hd hg
    obtain ⟨g, rfl⟩ : ∃ z, g = z + 1 := ⟨g - 1, by omega⟩
    obtain rfl : i = n := by omega
    rw [f_C_spread_7, if_pos (Int32.le_refl _)]; rfl
  | succ d ih =>
    intro i g hd hg
    obtain ⟨g, rfl⟩ : ∃ z, g = z + 1 := ⟨g - 1, by omega⟩
    rw [f_C_spread_7, if_neg (by rw [oN_le (by omega) (by omega)]; omega), if_neg (by rw [show (21 : Int32) = oN 21 from rfl, oN_le (by omega) (by omega)]; omega), chk_t ((iin_oN (by omega)).mpr (by omega)), oI (by omega), h (i + 1) (by omega), oN_S]
    exact ih (i + 1) g (by omega) (by omega)
theorem c_spread {a n : Nat} {f : Nat → Int32} (hn : n ≤ 20) (h0 : f 0 = 0) (h : ∀ k, k ≤ n → M a k = f k) : f_C_spread a M (oN n + 1) = some (mxW f n - mnW f n) := by
  unfold f_C_spread
  have h1 : ¬ Int32.ofNat (n + 1) ≤ 0 := by rw [show (0 : Int32) = oN 0 from rfl, oN_le (by omega) (by omega)]; omega
  rw [show fu = 99999 + 1 from rfl, oN_S, f_C_spread_7, if_neg h1, if_neg (by decide), chk_t (show iin (0 : Int32) 21 by decide), show ix (0 : Int32) = 0 from rfl, h 0 (by omega), h0]
  have := c_spr hn h n 0 99999 (by omega) (by omega)
  rw [show mnW f 0 = 0 from h0, show mxW f 0 = 0 from h0] at this
  rw [if_neg (show ¬ (0 : Int32) < 0 by decide)]
  exact this
theorem m_spr {a : Nat} {f : Nat → Int32} (v : V r) (hM : MS N 135 0 r) (h : ∀ k, k ≤ r 0 → N a k = f k) : ∀ (d i g : Nat), d + i = r 0 → d + 1 < g →
    f_M_spread_11 a N g (mnW f i) (mxW f i) (oN (i + 1)) = some (mxW f (r 0) - mnW f (r 0)) := by
  have hv := v.1
  intro d
  induction d with
  | zero =>
    intro i g hd hg
    obtain ⟨g, rfl⟩ : ∃ z, g = z + 1 := ⟨g - 1, by omega⟩
    rw [f_M_spread_11, show ix (0 : Int32) = 0 from rfl, m_at hM (by decide), if_pos (by rw [oN_lt (by omega) (by omega)]; omega), show i = r 0 by omega]
  | succ d ih =>
    intro i g hd hg
    obtain ⟨g, rfl⟩ : ∃ z, g = z + 1 := ⟨g - 1, by omega⟩
    rw [f_M_spread_11, show ix (0 : Int32) = 0 from rfl, m_at hM (by decide), if_neg (by rw [oN_lt (by omega) (by omega)]; omega), chk_t ((iin_oN (by omega)).mpr (by omega)), oI (by omega), h (i + 1) (by omega), oN_S]
    exact ih (i + 1) g (by omega) (by omega)
theorem m_spread {a : Nat} {f : Nat → Int32} (v : V r) (hM : MS N 135 0 r) (h : ∀ k, k ≤ r 0 → N a k = f k) : f_M_spread a N = some (mxW f (r 0) - mnW f (r 0)) := by
  unfold f_M_spread
  rw [show ix (0 : Int32) = 0 from rfl, h 0 (by omega)]
  exact m_spr v hM h (r 0) 0 fu (by omega) (by have := v.1; unfold fu; omega)
theorem sh_0 (c w : Int32) : shW c 0 w = 0 := by
  unfold shW
  split
  · rfl
  · rw [show (0 : Int32).toInt64 = 0 from rfl, Int64.mul_zero, Int64.zero_div]; rfl
theorem a_0 : aE r 0 = 0 ∧ aN r 0 = 0 := by
  unfold aE aN
  show (if r 3 = 0 then (0 : Int32) else 0 - shW _ (oN 0) _) = 0 ∧ (if r 3 = 0 then (0 : Int32) else 0 - shW _ (oN 0) _) = 0
  rw [show oN 0 = (0 : Int32) from rfl, sh_0, sh_0]
  split <;> exact ⟨rfl, rfl⟩
theorem s_width (h : RI M N) : ∃ v M1 N1, f_C_width M = some (v, M1) ∧ f_M_width N = some (v, N1) ∧ RI M1 N1 := by
  obtain ⟨r, p⟩ := h.1
  obtain ⟨M1, e1, e2, e3, fo⟩ := c_fo h p
  obtain ⟨N1, f1, f2, f3, f4, f5, f6⟩ := m_staQ (e2.n7 0) (e3.n7 0)
  refine ⟨mxW (aE r) (r 0) - mnW (aE r) (r 0), M1, N1, ?_, ?_, f2⟩
  · unfold f_C_width
    rw [e1, bn_s, fo.1, c_spread p.1.1 a_0.1 (fun k hk => (fo.2.2 k hk).1)]; rfl
  · unfold f_M_width
    rw [bm_s, f1, bn_s, m_spread p.1 f3.2.2 (fun k hk => (f6 k hk).1)]; rfl
theorem s_height (h : RI M N) : ∃ v M1 N1, f_C_height M = some (v, M1) ∧ f_M_height N = some (v, N1) ∧ RI M1 N1 := by
  obtain ⟨r, p⟩ := h.1
  obtain ⟨M1, e1, e2, e3, fo⟩ := c_fo h p
  obtain ⟨N1, f1, f2, f3, f4, f5, f6⟩ := m_staQ (e2.n7 0) (e3.n7 0)
  refine ⟨mxW (aN r) (r 0) - mnW (aN r) (r 0), M1, N1, ?_, ?_, f2⟩
  · unfold f_C_height
    rw [e1, bn_s, fo.1, c_spread p.1.1 a_0.2 (fun k hk => (fo.2.2 k hk).2)]; rfl
  · unfold f_M_height
    rw [bm_s, f1, bn_s, m_spread p.1 f3.2.2 (fun k hk => (f6 k hk).2)]; rfl
/-- the place of the greatest so far -/
def fx (f : Nat → Int32) : Nat → Nat
  | 0 => 0
  | k + 1 => if f (k + 1) ≤ f (fx f k) then fx f k else k + 1
theorem fx_le (f : Nat → Int32) : ∀ k, fx f k ≤ k := by
  intro k
  induction k with
  | zero => exact Nat.le_refl _
  | succ k ih =>
    unfold fx
    split
    · exact Nat.le_succ_of_le ih
    · exact Nat.le_refl _
def dS (r : Rw) (k : Nat) : Int32 := dW (aE r k) (aN r k)
theorem dS_0 : dS r 0 = 0 := by
  unfold dS
  rw [a_0.1, a_0.2]; decide
theorem c_far (v : V r) (fo : FO M r) : ∀ (d i g : Nat), d + i = r 0 → d + 1 < g → f_C_farthestStation_12 g (oN (fx (dS r) i)) (dS r (fx (dS r) i)) (oN (i + 1)) M = some (oN (fx (dS r) (r 0)), M) := by
  have hv := v.1
  intro d
  induction d with
  | zero =>
    intro i g hd hg
    obtain ⟨g, rfl⟩ : ∃ z, g = z + 1 := ⟨g - 1, by omega⟩
    rw [f_C_farthestStation_12, fo.1, if_pos (by rw [oN_lt (by omega) (by omega)]; omega), show i = r 0 by omega]
  | succ d ih =>
    intro i g hd hg
    obtain ⟨g, rfl⟩ : ∃ z, g = z + 1 := ⟨g - 1, by omega⟩
    rw [f_C_farthestStation_12, fo.1, if_neg (by rw [oN_lt (by omega) (by omega)]; omega), t_distOf v fo (by omega), bn_s]
    unfold f_C_farthestStation_41
    have hh := ih (i + 1) g (by omega) (by omega)
    have e : fx (dS r) (i + 1) = if dS r (i + 1) ≤ dS r (fx (dS r) i) then fx (dS r) i else i + 1 := rfl
    rw [e] at hh
    by_cases c : dS r (i + 1) ≤ dS r (fx (dS r) i)
    · rw [if_pos c] at hh
      rw [if_pos (show dW (aE r (i + 1)) (aN r (i + 1)) ≤ _ from c), oN_S]
      exact hh
    · rw [if_neg c] at hh
      rw [if_neg (show ¬ dW (aE r (i + 1)) (aN r (i + 1)) ≤ _ from c), oN_S]
      exact hh
theorem m_far13 (v : V r) (hM : MS N 135 0 r) (h : ∀ k, k ≤ r 0 → N 143 k = aE r k ∧ N 144 k = aN r k) : ∀ (d i g : Nat), d + i = r 0 → d + 1 < g → f_M_farthestStation_13 g (oN (fx (dS r) i)) (oN (i + 1)) N = some (oN (fx (dS r) (r 0)), N) := by
  have hv := v.1
  intro d
  induction d with
  | zero =>
    intro i g hd hg
    obtain ⟨g, rfl⟩ : ∃ z, g = z + 1 := ⟨g - 1, by omega⟩
    rw [f_M_farthestStation_13, show ix (0 : Int32) = 0 from rfl, m_at hM (by decide), if_pos (by rw [oN_lt (by omega) (by omega)]; omega), show i = r 0 by omega]
  | succ d ih =>
    intro i g hd hg
    obtain ⟨g, rfl⟩ : ∃ z, g = z + 1 := ⟨g - 1, by omega⟩
    have hx := fx_le (dS r) i
    have b1 := a_bd v (k := i + 1) (by omega)
    have b2 := a_bd v (k := fx (dS r) i) (by omega)
    rw [f_M_farthestStation_13, show ix (0 : Int32) = 0 from rfl, m_at hM (by decide), if_neg (by rw [oN_lt (by omega) (by omega)]; omega), chk_t (iin21 v (by omega)), oI21 v (by omega), (h (i + 1) (by omega)).1, (h (i + 1) (by omega)).2, m_far b1.1 b1.2, bn_s, chk_t (iin21 v (by omega)), oI21 v (by omega), (h (fx (dS r) i) (by omega)).1, (h (fx (dS r) i) (by omega)).2, m_far b2.1 b2.2, bn_s]
    unfold f_M_farthestStation_62
    have hh := ih (i + 1) g (by omega) (by omega)
    have e : fx (dS r) (i + 1) = if dS r (i + 1) ≤ dS r (fx (dS r) i) then fx (dS r) i else i + 1 := rfl
    rw [e] at hh
    by_cases c : dS r (i + 1) ≤ dS r (fx (dS r) i)
    · rw [if_pos c] at hh
      rw [if_pos (show dW (aE r (i + 1)) (aN r (i + 1)) ≤ dW (aE r (fx (dS r) i)) (aN r (fx (dS r) i)) from c), oN_S]
      exact hh
    · rw [if_neg c] at hh
      rw [if_neg (show ¬ dW (aE r (i + 1)) (aN r (i + 1)) ≤ dW (aE r (fx (dS r) i)) (aN r (fx (dS r) i)) from c), oN_S]
      exact hh
theorem s_farthestStation (h : RI M N) : ∃ v M1 N1, f_C_farthestStation M = some (v, M1) ∧ f_M_farthestStation N = some (v, N1) ∧ RI M1 N1 := by
  obtain ⟨r, p⟩ := h.1
  obtain ⟨M1, e1, e2, e3, fo⟩ := c_fo h p
  obtain ⟨N1, f1, f2, f3, f4, f5, f6⟩ := m_staQ (e2.n7 0) (e3.n7 0)
  refine ⟨oN (fx (dS r) (r 0)), M1, N1, ?_, ?_, f2⟩
  · unfold f_C_farthestStation
    rw [e1, bn_s]
    have := c_far p.1 fo (r 0) 0 fu (by omega) (by have := p.1.1; unfold fu; omega)
    rw [show fx (dS r) 0 = 0 from rfl, dS_0] at this
    exact this
  · unfold f_M_farthestStation
    rw [bm_s, f1, bn_s]
    exact m_far13 p.1 f3.2.2 f6 (r 0) 0 fu (by omega) (by have := p.1.1; unfold fu; omega)
end STA
