/-! what the class answers, in the words of its rows -/
abbrev FRL : List (Nat × Nat × Nat) := [(25, 30, 0)]
/-- a state of the class that stands for the row r (with some reference beside it in the mind) -/
def ST (M : Mm) (r : Rw) : Prop := ∃ N, RI M N ∧ PR M N r
/-- a question on the whole traverse -/
def QQ {α : Type} (M : Mm) (r : Rw) (f : Option (α × Mm)) (x : α) : Prop := ∃ M1, f = some (x, M1) ∧ ST M1 r ∧ Fr FRL M M1
section QUE
variable {M : Mm} {r : Rw} {i : Nat}
theorem ST.v (s : ST M r) : V r := s.choose_spec.2.1
theorem ST.cs (s : ST M r) : CS M 15 r := s.choose_spec.2.2.1
theorem ST.ag {M1 : Mm} (s : ST M r) (f : Ag cC M M1) (z : Z0 M1) : ST M1 r := by
  obtain ⟨N, h, p⟩ := s
  exact ⟨N, h.agM f z, p.ag (f.su (by rfl)) (Ag.rf _ _)⟩
theorem ST.z (s : ST M r) : Z0 M := s.choose_spec.1.z
theorem lg_ok (s : ST M r) (hi : i < r 0) : f_C_requireLeg M (oN i) = some (.inr ()) := by
  rcases c_leg s.v s.cs (oN i) with ⟨j, _, _, hc⟩ | ⟨hn, _⟩
  · exact hc
  · exact absurd ⟨i, hi, rfl⟩ hn
theorem lg_no (s : ST M r) {l : Int32} (hn : ¬ ∃ i, i < r 0 ∧ l = oN i) : f_C_requireLeg M l = some (.inl 3) := by
  rcases c_leg s.v s.cs l with ⟨j, hj, e, _⟩ | ⟨_, hc⟩
  · exact absurd ⟨j, hj, e⟩ hn
  · exact hc
theorem st_ok (s : ST M r) (hi : i ≤ r 0) : f_C_requireStation M (oN i) = some (.inr ()) := by
  rcases c_station s.v s.cs (oN i) with ⟨j, _, _, hc⟩ | ⟨hn, _⟩
  · exact hc
  · exact absurd ⟨i, hi, rfl⟩ hn
theorem st_no (s : ST M r) {l : Int32} (hn : ¬ ∃ i, i ≤ r 0 ∧ l = oN i) : f_C_requireStation M l = some (.inl 3) := by
  rcases c_station s.v s.cs l with ⟨j, hj, e, _⟩ | ⟨_, hc⟩
  · exact absurd ⟨j, hj, e⟩ hn
  · exact hc
theorem bc_r {α β : Type} (a : α) (t : Nat → Option β) (k : α → Option β) : bc (some (.inr a)) t k = k a := rfl
theorem bc_l {α β : Type} (e : Nat) (t : Nat → Option β) (k : α → Option β) : bc (some (.inl e : Nat ⊕ α)) t k = t e := rfl
theorem bc2_r {α β : Type} (a : α) (M : Mm) (t : Nat → Mm → Option β) (k : α → Mm → Option β) : bc2 (some (.inr a, M)) t k = k a M := rfl
theorem bc2_l {α β : Type} (e : Nat) (M : Mm) (t : Nat → Mm → Option β) (k : α → Mm → Option β) : bc2 (some ((.inl e : Nat ⊕ α), M)) t k = t e M := rfl
/-! plain questions -/
theorem q_legs (s : ST M r) : f_C_legCount M = some (oN (r 0)) := by unfold f_C_legCount; exact congrArg some s.cs.1
theorem q_stations (s : ST M r) : f_C_stationCount M = some (oN (r 0) + 1) := by unfold f_C_stationCount; rw [s.cs.1]
theorem q_wear (s : ST M r) : f_C_wear M = some (oN (r 1)) := by unfold f_C_wear; exact congrArg some s.cs.2.1
theorem q_pace (s : ST M r) : f_C_pace M = some (oN (r 2)) := by unfold f_C_pace; exact congrArg some s.cs.2.2.1
theorem q_adj (s : ST M r) : f_C_isAdjusted M = some (oN (r 3)) := by
  unfold f_C_isAdjusted
  have e := s.cs.2.2.2.1
  rw [e, chk_t (r3_Z s.v)]
theorem q_bearing (s : ST M r) (hi : i < r 0) : f_W_bearing M (oN i) = some (oN (r (4 + 14 * i + 0))) := by
  obtain ⟨n0, b1, z2, p3, p4, l5, d6, r7, t8⟩ := s.cs.2.2.2.2.2 i hi
  have b1 : M 17 i = oN (r (4 + 14 * i + 0)) := b1
  unfold f_W_bearing f_C_bearing
  rw [lg_ok s hi]
  show bc (chk _ _) _ _ = _
  rw [chk_t (iin20 s.v hi), oI20 s.v hi, bc_r, b1]
theorem q_pins (s : ST M r) (hi : i < r 0) : f_W_pins M (oN i) = some (oN (r (4 + 14 * i + 1))) := by
  obtain ⟨n0, b1, z2, p3, p4, l5, d6, r7, t8⟩ := s.cs.2.2.2.2.2 i hi
  have p4 : M 20 i = oN (r (4 + 14 * i + 1)) := p4
  unfold f_W_pins f_C_pins
  rw [lg_ok s hi]
  show bc (chk _ _) _ _ = _
  rw [chk_t (iin20 s.v hi), oI20 s.v hi, bc_r, p4]
theorem q_dropped (s : ST M r) (hi : i < r 0) : f_W_droppedPins M (oN i) = some (oN (r (4 + 14 * i + 3))) := by
  obtain ⟨n0, b1, z2, p3, p4, l5, d6, r7, t8⟩ := s.cs.2.2.2.2.2 i hi
  have d6 : M 22 i = oN (r (4 + 14 * i + 3)) := d6
  unfold f_W_droppedPins f_C_droppedPins
  rw [lg_ok s hi]
  show bc (chk _ _) _ _ = _
  rw [chk_t (iin20 s.v hi), oI20 s.v hi, bc_r, d6]
theorem q_tallies (s : ST M r) (hi : i < r 0) : f_W_tallies M (oN i) = some ((oN (r (4 + 14 * i + 1)) + oN (r (4 + 14 * i + 3))) / 10) := by
  obtain ⟨n0, b1, z2, p3, p4, l5, d6, r7, t8⟩ := s.cs.2.2.2.2.2 i hi
  have p4 : M 20 i = oN (r (4 + 14 * i + 1)) := p4
  have d6 : M 22 i = oN (r (4 + 14 * i + 3)) := d6
  unfold f_W_tallies f_C_tallies
  rw [lg_ok s hi]
  show bc (chk _ _) _ _ = _
  rw [chk_t (iin20 s.v hi), oI20 s.v hi, bc_r, p4, d6]
theorem q_read (s : ST M r) (hi : i < r 0) : f_W_readLength M (oN i) = some (oN (rdN r i)) := by
  unfold f_W_readLength f_C_readLength
  rw [lg_ok s hi]
  show bc (bn _ _) _ _ = _
  rw [c_read s.cs s.v hi]; rfl
theorem q_slope (s : ST M r) (hi : i < r 0) : f_W_slopeLength M (oN i) = some (oN (slN r i)) := by
  unfold f_W_slopeLength f_C_slopeLength
  rw [lg_ok s hi]
  show bc (bn _ _) _ _ = _
  rw [c_slope s.cs s.v hi]; rfl
theorem q_flat (s : ST M r) (hi : i < r 0) : f_W_horizontalLength M (oN i) = some (oN (flN r i)) := by
  unfold f_W_horizontalLength f_C_horizontalLength
  rw [lg_ok s hi]
  show bc (bn _ _) _ _ = _
  rw [c_flat s.cs s.v hi]; rfl
theorem q_east (s : ST M r) (hi : i < r 0) : f_W_eastStep M (oN i) = some (stE r i) := by
  obtain ⟨n0, b1, z2, p3, p4, l5, d6, r7, t8⟩ := s.cs.2.2.2.2.2 i hi
  have b1 : M 17 i = oN (r (4 + 14 * i + 0)) := b1
  unfold f_W_eastStep f_C_eastStep f_C_stepOf
  rw [lg_ok s hi]
  show bc (bn _ _) _ _ = _
  rw [c_flat s.cs s.v hi, bn_s, chk_t (iin20 s.v hi), oI20 s.v hi, b1, c_sin s.v hi]; rfl
theorem q_north (s : ST M r) (hi : i < r 0) : f_W_northStep M (oN i) = some (stN r i) := by
  obtain ⟨n0, b1, z2, p3, p4, l5, d6, r7, t8⟩ := s.cs.2.2.2.2.2 i hi
  have b1 : M 17 i = oN (r (4 + 14 * i + 0)) := b1
  unfold f_W_northStep f_C_northStep f_C_stepOf
  rw [lg_ok s hi]
  show bc (bn _ _) _ _ = _
  rw [c_flat s.cs s.v hi, bn_s, chk_t (iin20 s.v hi), oI20 s.v hi, b1, c_cos s.v hi]; rfl
theorem q_bog (s : ST M r) (hi : i < r 0) : f_W_isBog M (oN i) = some (if r (4 + 14 * i + 6) = 0 then 0 else 1) := by
  obtain ⟨n0, b1, z2, p3, p4, l5, d6, r7, t8⟩ := s.cs.2.2.2.2.2 i hi
  have z2 : M 18 i = (if r (4 + 14 * i + 6) = 0 then 0 else 1) := z2
  have hz := s.cs.2.2.2.2.1 i (lt20 s.v hi)
  have hz : isZ (M 18 i) := hz
  unfold f_W_isBog f_C_isBog
  rw [lg_ok s hi]
  show bc (chk _ _) _ _ = _
  rw [chk_t (iin20 s.v hi), oI20 s.v hi, chk_t hz, bc_r, z2]
  by_cases c : r (4 + 14 * i + 6) = 0
  · rw [if_pos c, if_pos rfl]
  · rw [if_neg c, if_neg (by decide)]
/-! questions on stations -/
theorem q_fol (s : ST M r) : ∃ M1, f_C_followed M = some M1 ∧ ST M1 r ∧ FO M1 r ∧ Fr FRL M M1 := by
  obtain ⟨N, h, p⟩ := s
  obtain ⟨M1, e, h1, p1, fo⟩ := c_fo h p
  exact ⟨M1, e, ⟨N, h1, p1⟩, fo, (fr_C_followed e).up (by rfl)⟩
theorem q_rawEast (s : ST M r) (hi : i ≤ r 0) : QQ M r (f_W_rawEast (oN i) M) (eW r i) := by
  obtain ⟨M1, e, s1, fo, f⟩ := q_fol s
  refine ⟨M1, ?_, s1, f⟩
  unfold f_W_rawEast f_C_rawEast
  rw [st_ok s hi]
  show bc2 (bn _ _) _ _ = _
  rw [e, bn_s, chk_t (iin21 s.v hi), oI21 s.v hi, (fo.2.1 i hi).2.1]; rfl
theorem q_rawEast_no (s : ST M r) {l : Int32} (hn : ¬ ∃ i, i ≤ r 0 ∧ l = oN i) : f_W_rawEast l M = some (-1000000017, M) := by
  unfold f_W_rawEast f_C_rawEast
  rw [st_no s hn]; rfl
theorem q_rawNorth (s : ST M r) (hi : i ≤ r 0) : QQ M r (f_W_rawNorth (oN i) M) (nW r i) := by
  obtain ⟨M1, e, s1, fo, f⟩ := q_fol s
  refine ⟨M1, ?_, s1, f⟩
  unfold f_W_rawNorth f_C_rawNorth
  rw [st_ok s hi]
  show bc2 (bn _ _) _ _ = _
  rw [e, bn_s, chk_t (iin21 s.v hi), oI21 s.v hi, (fo.2.1 i hi).2.2]; rfl
theorem q_run (s : ST M r) (hi : i ≤ r 0) : QQ M r (f_W_run (oN i) M) (oN (ruN r i)) := by
  obtain ⟨M1, e, s1, fo, f⟩ := q_fol s
  refine ⟨M1, ?_, s1, f⟩
  unfold f_W_run f_C_run
  rw [st_ok s hi]
  show bc2 (bn _ _) _ _ = _
  rw [e, bn_s, chk_t (iin21 s.v hi), oI21 s.v hi, (fo.2.1 i hi).1]; rfl
theorem q_aE (s : ST M r) (hi : i ≤ r 0) : QQ M r (f_W_east (oN i) M) (aE r i) := by
  obtain ⟨M1, e, s1, fo, f⟩ := q_fol s
  refine ⟨M1, ?_, s1, f⟩
  unfold f_W_east f_C_east
  rw [st_ok s hi]
  show bc2 (bn _ _) _ _ = _
  rw [e, bn_s, chk_t (iin21 s.v hi), oI21 s.v hi, (fo.2.2 i hi).1]; rfl
theorem q_aN (s : ST M r) (hi : i ≤ r 0) : QQ M r (f_W_north (oN i) M) (aN r i) := by
  obtain ⟨M1, e, s1, fo, f⟩ := q_fol s
  refine ⟨M1, ?_, s1, f⟩
  unfold f_W_north f_C_north
  rw [st_ok s hi]
  show bc2 (bn _ _) _ _ = _
  rw [e, bn_s, chk_t (iin21 s.v hi), oI21 s.v hi, (fo.2.2 i hi).2]; rfl
theorem q_dist (s : ST M r) (hi : i ≤ r 0) : QQ M r (f_W_distanceFromStart (oN i) M) (dS r i) := by
  obtain ⟨M1, e, s1, fo, f⟩ := q_fol s
  refine ⟨M1, ?_, s1, f⟩
  unfold f_W_distanceFromStart f_C_distanceFromStart
  rw [st_ok s hi]
  show bc2 (bn _ _) _ _ = _
  rw [e, bn_s, t_distOf s.v fo hi]; rfl
/-! the whole traverse -/
theorem q_peri (s : ST M r) : QQ M r (f_C_perimeter M) (oN (ruN r (r 0))) := by
  obtain ⟨M1, e, s1, fo, f⟩ := q_fol s
  refine ⟨M1, ?_, s1, f⟩
  unfold f_C_perimeter
  rw [e, bn_s, t_run fo.1 s.v.1 (fo.2.1 _ (Nat.le_refl _)).1]; rfl
theorem q_cloE (s : ST M r) : QQ M r (f_C_closingEast M) (eW r (r 0)) := by
  obtain ⟨M1, e, s1, fo, f⟩ := q_fol s
  refine ⟨M1, ?_, s1, f⟩
  unfold f_C_closingEast
  rw [e, bn_s, t_endE fo.1 s.v.1 (fo.2.1 _ (Nat.le_refl _)).2.1]; rfl
theorem q_cloN (s : ST M r) : QQ M r (f_C_closingNorth M) (nW r (r 0)) := by
  obtain ⟨M1, e, s1, fo, f⟩ := q_fol s
  refine ⟨M1, ?_, s1, f⟩
  unfold f_C_closingNorth
  rw [e, bn_s, t_endN fo.1 s.v.1 (fo.2.1 _ (Nat.le_refl _)).2.2]; rfl
theorem q_miss (s : ST M r) : QQ M r (f_C_misclosure M) (msW r) := by
  obtain ⟨M1, e, s1, fo, f⟩ := q_fol s
  refine ⟨M1, ?_, s1, f⟩
  unfold f_C_misclosure
  rw [e, bn_s, t_clos s.v fo]; rfl
theorem q_prec (s : ST M r) : QQ M r (f_C_precision M) (if msW r = 0 then -1 else oN (ruN r (r 0)) / msW r) := by
  obtain ⟨M1, e, s1, fo, f⟩ := q_fol s
  refine ⟨M1, ?_, s1, f⟩
  unfold f_C_precision f_C_precision_24
  rw [e, bn_s, t_clos s.v fo, bn_s]
  by_cases c : msW r = 0
  · rw [if_pos (show dW (eW r (r 0)) (nW r (r 0)) = 0 from c), if_pos c]
  · rw [if_neg (show ¬ dW (eW r (r 0)) (nW r (r 0)) = 0 from c), if_neg c, t_run fo.1 s.v.1 (fo.2.1 _ (Nat.le_refl _)).1, bn_s, chk_t (show ¬ dW (eW r (r 0)) (nW r (r 0)) = 0 from c)]; rfl
theorem q_width (s : ST M r) : QQ M r (f_C_width M) (mxW (aE r) (r 0) - mnW (aE r) (r 0)) := by
  obtain ⟨M1, e, s1, fo, f⟩ := q_fol s
  refine ⟨M1, ?_, s1, f⟩
  unfold f_C_width
  rw [e, bn_s, fo.1, c_spread s.v.1 a_0.1 (fun k hk => (fo.2.2 k hk).1)]; rfl
theorem q_height (s : ST M r) : QQ M r (f_C_height M) (mxW (aN r) (r 0) - mnW (aN r) (r 0)) := by
  obtain ⟨M1, e, s1, fo, f⟩ := q_fol s
  refine ⟨M1, ?_, s1, f⟩
  unfold f_C_height
  rw [e, bn_s, fo.1, c_spread s.v.1 a_0.2 (fun k hk => (fo.2.2 k hk).2)]; rfl
theorem q_far (s : ST M r) : QQ M r (f_C_farthestStation M) (oN (fx (dS r) (r 0))) := by
  obtain ⟨M1, e, s1, fo, f⟩ := q_fol s
  refine ⟨M1, ?_, s1, f⟩
  unfold f_C_farthestStation
  rw [e, bn_s]
  have := c_far s.v fo (r 0) 0 fu (by omega) (by have := s.v.1; unfold fu; omega)
  rw [show fx (dS r) 0 = 0 from rfl, dS_0] at this
  exact this
theorem q_area (s : ST M r) : QQ M r (f_C_area M) (arF r) := by
  have hv := s.v.1
  obtain ⟨M1, e, s1, fo, f⟩ := q_fol s
  refine ⟨M1, ?_, s1, f⟩
  unfold f_C_area f_T_enclosedArea
  rw [e, bn_s]
  have := c_area4 s.v fo (r 0) 0 fu (by omega) (by unfold fu; omega)
  rw [show arW r 0 = 0 from rfl] at this
  rw [show (0 : Int32) = oN 0 from rfl, this]; rfl
theorem q_long (s : ST M r) : f_C_longestLeg M = some (if r 0 = 0 then -1 else oN (fx (fO r) (r 0 - 1))) := c_longest s.cs s.v
theorem q_bogs (s : ST M r) : f_C_bogLength M = some (smW (boW r) (r 0)) := c_bogLength s.cs s.v
theorem q_best (s : ST M r) : f_C_bestPace M = some (if anB r (r 0) then oN (100 + lx (pF r) 899) else -1) := c_bestPace s.cs s.v
/-- an adjusted traverse closes -/
theorem sh_all {c : Int32} {C n : Nat} (hc : bd C c) (hC : C < 2147483648) (h0 : n ≠ 0) (hn : n < 2147483648) : shW c (oN n) (oN n) = c := by
  unfold shW
  have z : ¬ oN n = 0 := fun q => h0 ((oN0 hn).mp q)
  rw [if_neg z]
  have hw : (oN n).toInt = n := oN_int hn
  apply Int32.toInt_inj.mp
  have e1 : (oN n).toInt64.toInt = n := by rw [Int32.toInt_toInt64]; exact hw
  have e2 : (c.toInt64 * (oN n).toInt64).toInt = c.toInt * n := by rw [j_mul, hw]
  have hn1 : (oN n).toInt64 ≠ -1 := by
    intro q
    rw [q] at e1
    have : (-1 : Int64).toInt = -1 := by decide
    omega
  have hd : (c.toInt * (n : Int)).tdiv n = c.toInt := Int.mul_tdiv_cancel _ (by omega)
  rw [j_div hn1 (by rw [e2, e1, hd]; unfold bd at hc; omega), e2, e1, hd]
theorem adj_0 (v : V r) (h3 : r 3 ≠ 0) (hr : ruN r (r 0) ≠ 0) : aE r (r 0) = 0 ∧ aN r (r 0) = 0 := by
  unfold aE aN
  have b := e_bd v (r 0) (Nat.le_refl _)
  have hl := ru_le v (r 0) (Nat.le_refl _)
  have h20 := v.1
  have hC : 1199284 * r 0 < 2147483648 := by omega
  rw [if_neg h3, if_neg h3, sh_all b.1 hC hr (by omega), sh_all b.2 hC hr (by omega)]
  exact ⟨Int32.sub_self _, Int32.sub_self _⟩
theorem q_incon (s : ST M r) : QQ M r (f_C_inconsistencies M) 0 := by
  have hv := s.v.1
  have h3 := s.v.2.2.2.2.1
  obtain ⟨M1, e, s1, fo, f⟩ := q_fol s
  refine ⟨M1, ?_, s1, f⟩
  unfold f_C_inconsistencies f_C_inconsistencies_42 f_C_inconsistencies_62
  rw [e, bn_s, s1.cs.2.2.2.1]
  rcases (show r 3 = 0 ∨ r 3 = 1 by omega) with c | c
  · rw [c, if_pos (show oN 0 = 0 from rfl), c_inc64 s1.cs s.v]
  · rw [c, if_neg (show ¬ oN 1 = 0 by decide), t_run fo.1 hv (fo.2.1 _ (Nat.le_refl _)).1, bn_s]
    by_cases c2 : oN (ruN r (r 0)) ≤ 0
    · rw [if_pos c2, c_inc64 s1.cs s.v]
    · have hne : ruN r (r 0) ≠ 0 := fun q => c2 (by rw [q]; decide)
      obtain ⟨a1, a2⟩ := adj_0 s.v (by omega) hne
      rw [if_neg c2, fo.1]
      simp only [chk_t (iin21 s.v (Nat.le_refl _))]
      rw [oI21 s.v (Nat.le_refl _), (fo.2.2 _ (Nat.le_refl _)).1, (fo.2.2 _ (Nat.le_refl _)).2, a1, a2, if_pos rfl, if_pos rfl, c_inc64 s1.cs s.v]; rfl
end QUE
