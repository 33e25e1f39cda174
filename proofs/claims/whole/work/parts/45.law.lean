/-! the law's cases -/
theorem cmp_0 (x : Int64) : lg_cmp x x = 0 := (lg_cmp_eq x x).mpr rfl
theorem dis_Z {l : List (Nat × Nat × Nat)} {M N : Mm} (f : Fr l M N) (e : dis l [(26, 28, 1)] = true) (z : Z0 M) : Z0 N := z.ag (Ag.of f e)
/-- the model ran on the class's memory -/
theorem RI.close {l : List (Nat × Nat × Nat)} {M N : Mm} (h : RI M N) (f : Fr l M N) (e1 : dis l cC = true) (e2 : dis l [(26, 28, 1)] = true) : RI N N :=
  h.ag (Ag.of f e1) (dis_Z f e2 h.z) (Ag.rf _ _)
theorem RI.opn {l : List (Nat × Nat × Nat)} {M N : Mm} (h : RI M M) (f : Fr l M N) (e1 : dis l cM = true) : RI M N := h.agN (Ag.of f e1)
theorem rdJ_fr {l : List (Nat × Nat × Nat)} {M N : Mm} (f : Fr l M N) (e : dis l [(148, 148, 0)] = true) : rdJ N 148 = rdJ M 148 := by
  have g := Ag.of f e
  unfold rdJ
  rw [g 148 0 (by rfl), g 148 1 (by rfl)]
theorem fr_J {M : Mm} (x : Int64) : Fr [(148, 148, 0)] M (wrJ M 148 x) := fr_wrJ rfl (by intro _; rfl)
section LAW
variable {M : Mm}
theorem W_truncateInput (h : RI M M) (l1 : Int32) : ∃ c M1 v M2, f_W_truncateInput l1 M = some (c, M1) ∧ f_M_truncateInput l1 M1 = some (v, M2) ∧ M2 134 7 = c ∧ (c = 0 → rdJ M2 148 = v.toInt64) ∧ RI M2 M2 := by
  obtain ⟨o, v0, M1, N0, a1, -, -, -⟩ := s_truncateInput h l1
  have fC := fr_C_truncateInput a1
  cases o with
  | inr y =>
    have fW : Fr [(0, 133, 0), (148, 148, 0)] M (wrJ M1 148 y.toInt64) := (fC.up (by rfl)).tr ((fr_J _).up (by rfl))
    have hR : RI M (wrJ M1 148 y.toInt64) := h.opn fW (by rfl)
    obtain ⟨o', v, M1', N1, b1, b2, b3, b4⟩ := s_truncateInput hR l1
    have he := Option.some.inj (b1.symm.trans a1)
    obtain rfl : o' = .inr y := congrArg Prod.fst he
    obtain rfl : M1' = M1 := congrArg Prod.snd he
    have fN := fr_M_truncateInput b2
    have fT : Fr [(134, 147, 0), (148, 148, 0)] M1' N1 := ((fr_J _).up (by rfl)).tr (fN.up (by rfl))
    refine ⟨0, wrJ M1' 148 y.toInt64, v, N1, ?_, b2, b4.2, fun _ => ?_, b3.close fT (by rfl) (by rfl)⟩
    · unfold f_W_truncateInput
      rw [a1]; rfl
    · rw [rdJ_fr fN (by rfl), wrJ_s, b4.1]
  | inl e =>
    have hR : RI M M1 := h.opn fC (by rfl)
    obtain ⟨o', v, M1', N1, b1, b2, b3, b4⟩ := s_truncateInput hR l1
    have he := Option.some.inj (b1.symm.trans a1)
    obtain rfl : o' = .inl e := congrArg Prod.fst he
    obtain rfl : M1' = M1 := congrArg Prod.snd he
    have fN := fr_M_truncateInput b2
    rcases b4 with ⟨q, t⟩ | ⟨z, q, t⟩
    · subst q
      refine ⟨1, M1', v, N1, ?_, b2, t, fun q => absurd q (by decide), b3.close fN (by rfl) (by rfl)⟩
      unfold f_W_truncateInput
      rw [a1]; rfl
    · exact absurd rfl z
theorem W_addLeg (h : RI M M) (l1 : Int32) (l2 : Int32) (l3 : Int32) (l4 : Int32) (l5 : Int32) : ∃ c M1 v M2, f_W_addLeg l1 l2 l3 l4 l5 M = some (c, M1) ∧ f_M_addLeg l1 l2 l3 l4 l5 M1 = some (v, M2) ∧ M2 134 7 = c ∧ (c = 0 → rdJ M2 148 = v.toInt64) ∧ RI M2 M2 := by
  obtain ⟨o, v0, M1, N0, a1, -, -, -⟩ := s_addLeg h l1 l2 l3 l4 l5
  have fC := fr_C_addLeg a1
  cases o with
  | inr y =>
    have fW : Fr [(0, 133, 0), (148, 148, 0)] M (wrJ M1 148 y.toInt64) := (fC.up (by rfl)).tr ((fr_J _).up (by rfl))
    have hR : RI M (wrJ M1 148 y.toInt64) := h.opn fW (by rfl)
    obtain ⟨o', v, M1', N1, b1, b2, b3, b4⟩ := s_addLeg hR l1 l2 l3 l4 l5
    have he := Option.some.inj (b1.symm.trans a1)
    obtain rfl : o' = .inr y := congrArg Prod.fst he
    obtain rfl : M1' = M1 := congrArg Prod.snd he
    have fN := fr_M_addLeg b2
    have fT : Fr [(134, 147, 0), (148, 148, 0)] M1' N1 := ((fr_J _).up (by rfl)).tr (fN.up (by rfl))
    refine ⟨0, wrJ M1' 148 y.toInt64, v, N1, ?_, b2, b4.2, fun _ => ?_, b3.close fT (by rfl) (by rfl)⟩
    · unfold f_W_addLeg
      rw [a1]; rfl
    · rw [rdJ_fr fN (by rfl), wrJ_s, b4.1]
  | inl e =>
    have hR : RI M M1 := h.opn fC (by rfl)
    obtain ⟨o', v, M1', N1, b1, b2, b3, b4⟩ := s_addLeg hR l1 l2 l3 l4 l5
    have he := Option.some.inj (b1.symm.trans a1)
    obtain rfl : o' = .inl e := congrArg Prod.fst he
    obtain rfl : M1' = M1 := congrArg Prod.snd he
    have fN := fr_M_addLeg b2
    rcases b4 with ⟨q, t⟩ | ⟨z, q, t⟩
    · subst q
      refine ⟨1, M1', v, N1, ?_, b2, t, fun q => absurd q (by decide), b3.close fN (by rfl) (by rfl)⟩
      unfold f_W_addLeg
      rw [a1]; rfl
    · subst q
      refine ⟨2, M1', v, N1, ?_, b2, t, fun q => absurd q (by decide), b3.close fN (by rfl) (by rfl)⟩
      unfold f_W_addLeg
      rw [a1]; rfl
theorem W_addBog (h : RI M M) (l1 : Int32) (l2 : Int32) : ∃ c M1 v M2, f_W_addBog l1 l2 M = some (c, M1) ∧ f_M_addBog l1 l2 M1 = some (v, M2) ∧ M2 134 7 = c ∧ (c = 0 → rdJ M2 148 = v.toInt64) ∧ RI M2 M2 := by
  obtain ⟨o, v0, M1, N0, a1, -, -, -⟩ := s_addBog h l1 l2
  have fC := fr_C_addBog a1
  cases o with
  | inr y =>
    have fW : Fr [(0, 133, 0), (148, 148, 0)] M (wrJ M1 148 y.toInt64) := (fC.up (by rfl)).tr ((fr_J _).up (by rfl))
    have hR : RI M (wrJ M1 148 y.toInt64) := h.opn fW (by rfl)
    obtain ⟨o', v, M1', N1, b1, b2, b3, b4⟩ := s_addBog hR l1 l2
    have he := Option.some.inj (b1.symm.trans a1)
    obtain rfl : o' = .inr y := congrArg Prod.fst he
    obtain rfl : M1' = M1 := congrArg Prod.snd he
    have fN := fr_M_addBog b2
    have fT : Fr [(134, 147, 0), (148, 148, 0)] M1' N1 := ((fr_J _).up (by rfl)).tr (fN.up (by rfl))
    refine ⟨0, wrJ M1' 148 y.toInt64, v, N1, ?_, b2, b4.2, fun _ => ?_, b3.close fT (by rfl) (by rfl)⟩
    · unfold f_W_addBog
      rw [a1]; rfl
    · rw [rdJ_fr fN (by rfl), wrJ_s, b4.1]
  | inl e =>
    have hR : RI M M1 := h.opn fC (by rfl)
    obtain ⟨o', v, M1', N1, b1, b2, b3, b4⟩ := s_addBog hR l1 l2
    have he := Option.some.inj (b1.symm.trans a1)
    obtain rfl : o' = .inl e := congrArg Prod.fst he
    obtain rfl : M1' = M1 := congrArg Prod.snd he
    have fN := fr_M_addBog b2
    rcases b4 with ⟨q, t⟩ | ⟨z, q, t⟩
    · subst q
      refine ⟨1, M1', v, N1, ?_, b2, t, fun q => absurd q (by decide), b3.close fN (by rfl) (by rfl)⟩
      unfold f_W_addBog
      rw [a1]; rfl
    · subst q
      refine ⟨2, M1', v, N1, ?_, b2, t, fun q => absurd q (by decide), b3.close fN (by rfl) (by rfl)⟩
      unfold f_W_addBog
      rw [a1]; rfl
theorem W_dropPin (h : RI M M) (l1 : Int32) : ∃ c M1 v M2, f_W_dropPin l1 M = some (c, M1) ∧ f_M_dropPin l1 M1 = some (v, M2) ∧ M2 134 7 = c ∧ (c = 0 → rdJ M2 148 = v.toInt64) ∧ RI M2 M2 := by
  obtain ⟨o, v0, M1, N0, a1, -, -, -⟩ := s_dropPin h l1
  have fC := fr_C_dropPin a1
  cases o with
  | inr y =>
    have fW : Fr [(0, 133, 0), (148, 148, 0)] M (wrJ M1 148 y.toInt64) := (fC.up (by rfl)).tr ((fr_J _).up (by rfl))
    have hR : RI M (wrJ M1 148 y.toInt64) := h.opn fW (by rfl)
    obtain ⟨o', v, M1', N1, b1, b2, b3, b4⟩ := s_dropPin hR l1
    have he := Option.some.inj (b1.symm.trans a1)
    obtain rfl : o' = .inr y := congrArg Prod.fst he
    obtain rfl : M1' = M1 := congrArg Prod.snd he
    have fN := fr_M_dropPin b2
    have fT : Fr [(134, 147, 0), (148, 148, 0)] M1' N1 := ((fr_J _).up (by rfl)).tr (fN.up (by rfl))
    refine ⟨0, wrJ M1' 148 y.toInt64, v, N1, ?_, b2, b4.2, fun _ => ?_, b3.close fT (by rfl) (by rfl)⟩
    · unfold f_W_dropPin
      rw [a1]; rfl
    · rw [rdJ_fr fN (by rfl), wrJ_s, b4.1]
  | inl e =>
    have hR : RI M M1 := h.opn fC (by rfl)
    obtain ⟨o', v, M1', N1, b1, b2, b3, b4⟩ := s_dropPin hR l1
    have he := Option.some.inj (b1.symm.trans a1)
    obtain rfl : o' = .inl e := congrArg Prod.fst he
    obtain rfl : M1' = M1 := congrArg Prod.snd he
    have fN := fr_M_dropPin b2
    rcases b4 with ⟨q, t⟩ | ⟨z, q, t⟩
    · subst q
      refine ⟨1, M1', v, N1, ?_, b2, t, fun q => absurd q (by decide), b3.close fN (by rfl) (by rfl)⟩
      unfold f_W_dropPin
      rw [a1]; rfl
    · subst q
      refine ⟨2, M1', v, N1, ?_, b2, t, fun q => absurd q (by decide), b3.close fN (by rfl) (by rfl)⟩
      unfold f_W_dropPin
      rw [a1]; rfl
theorem W_findPin (h : RI M M) (l1 : Int32) : ∃ c M1 v M2, f_W_findPin l1 M = some (c, M1) ∧ f_M_findPin l1 M1 = some (v, M2) ∧ M2 134 7 = c ∧ (c = 0 → rdJ M2 148 = v.toInt64) ∧ RI M2 M2 := by
  obtain ⟨o, v0, M1, N0, a1, -, -, -⟩ := s_findPin h l1
  have fC := fr_C_findPin a1
  cases o with
  | inr y =>
    have fW : Fr [(0, 133, 0), (148, 148, 0)] M (wrJ M1 148 y.toInt64) := (fC.up (by rfl)).tr ((fr_J _).up (by rfl))
    have hR : RI M (wrJ M1 148 y.toInt64) := h.opn fW (by rfl)
    obtain ⟨o', v, M1', N1, b1, b2, b3, b4⟩ := s_findPin hR l1
    have he := Option.some.inj (b1.symm.trans a1)
    obtain rfl : o' = .inr y := congrArg Prod.fst he
    obtain rfl : M1' = M1 := congrArg Prod.snd he
    have fN := fr_M_findPin b2
    have fT : Fr [(134, 147, 0), (148, 148, 0)] M1' N1 := ((fr_J _).up (by rfl)).tr (fN.up (by rfl))
    refine ⟨0, wrJ M1' 148 y.toInt64, v, N1, ?_, b2, b4.2, fun _ => ?_, b3.close fT (by rfl) (by rfl)⟩
    · unfold f_W_findPin
      rw [a1]; rfl
    · rw [rdJ_fr fN (by rfl), wrJ_s, b4.1]
  | inl e =>
    have hR : RI M M1 := h.opn fC (by rfl)
    obtain ⟨o', v, M1', N1, b1, b2, b3, b4⟩ := s_findPin hR l1
    have he := Option.some.inj (b1.symm.trans a1)
    obtain rfl : o' = .inl e := congrArg Prod.fst he
    obtain rfl : M1' = M1 := congrArg Prod.snd he
    have fN := fr_M_findPin b2
    rcases b4 with ⟨q, t⟩ | ⟨z, q, t⟩
    · subst q
      refine ⟨1, M1', v, N1, ?_, b2, t, fun q => absurd q (by decide), b3.close fN (by rfl) (by rfl)⟩
      unfold f_W_findPin
      rw [a1]; rfl
    · subst q
      refine ⟨2, M1', v, N1, ?_, b2, t, fun q => absurd q (by decide), b3.close fN (by rfl) (by rfl)⟩
      unfold f_W_findPin
      rw [a1]; rfl
theorem W_removeLast (h : RI M M) : ∃ c M1 v M2, f_W_removeLast M = some (c, M1) ∧ f_M_removeLast M1 = some (v, M2) ∧ M2 134 7 = c ∧ (c = 0 → rdJ M2 148 = v.toInt64) ∧ RI M2 M2 := by
  obtain ⟨o, v0, M1, N0, a1, -, -, -⟩ := s_removeLast h
  have fC := fr_C_removeLast a1
  cases o with
  | inr y =>
    have fW : Fr [(0, 133, 0), (148, 148, 0)] M (wrJ M1 148 y.toInt64) := (fC.up (by rfl)).tr ((fr_J _).up (by rfl))
    have hR : RI M (wrJ M1 148 y.toInt64) := h.opn fW (by rfl)
    obtain ⟨o', v, M1', N1, b1, b2, b3, b4⟩ := s_removeLast hR
    have he := Option.some.inj (b1.symm.trans a1)
    obtain rfl : o' = .inr y := congrArg Prod.fst he
    obtain rfl : M1' = M1 := congrArg Prod.snd he
    have fN := fr_M_removeLast b2
    have fT : Fr [(134, 147, 0), (148, 148, 0)] M1' N1 := ((fr_J _).up (by rfl)).tr (fN.up (by rfl))
    refine ⟨0, wrJ M1' 148 y.toInt64, v, N1, ?_, b2, b4.2, fun _ => ?_, b3.close fT (by rfl) (by rfl)⟩
    · unfold f_W_removeLast
      rw [a1]; rfl
    · rw [rdJ_fr fN (by rfl), wrJ_s, b4.1]
  | inl e =>
    have hR : RI M M1 := h.opn fC (by rfl)
    obtain ⟨o', v, M1', N1, b1, b2, b3, b4⟩ := s_removeLast hR
    have he := Option.some.inj (b1.symm.trans a1)
    obtain rfl : o' = .inl e := congrArg Prod.fst he
    obtain rfl : M1' = M1 := congrArg Prod.snd he
    have fN := fr_M_removeLast b2
    rcases b4 with ⟨q, t⟩ | ⟨z, q, t⟩
    · subst q
      refine ⟨1, M1', v, N1, ?_, b2, t, fun q => absurd q (by decide), b3.close fN (by rfl) (by rfl)⟩
      unfold f_W_removeLast
      rw [a1]; rfl
    · exact absurd rfl z
theorem W_setWear (h : RI M M) (l1 : Int32) : ∃ c M1 v M2, f_W_setWear l1 M = some (c, M1) ∧ f_M_setWear l1 M1 = some (v, M2) ∧ M2 134 7 = c ∧ (c = 0 → rdJ M2 148 = v.toInt64) ∧ RI M2 M2 := by
  obtain ⟨o, v0, M1, N0, a1, -, -, -⟩ := s_setWear h l1
  have fC := fr_C_setWear a1
  cases o with
  | inr y =>
    have fW : Fr [(0, 133, 0), (148, 148, 0)] M (wrJ M1 148 y.toInt64) := (fC.up (by rfl)).tr ((fr_J _).up (by rfl))
    have hR : RI M (wrJ M1 148 y.toInt64) := h.opn fW (by rfl)
    obtain ⟨o', v, M1', N1, b1, b2, b3, b4⟩ := s_setWear hR l1
    have he := Option.some.inj (b1.symm.trans a1)
    obtain rfl : o' = .inr y := congrArg Prod.fst he
    obtain rfl : M1' = M1 := congrArg Prod.snd he
    have fN := fr_M_setWear b2
    have fT : Fr [(134, 147, 0), (148, 148, 0)] M1' N1 := ((fr_J _).up (by rfl)).tr (fN.up (by rfl))
    refine ⟨0, wrJ M1' 148 y.toInt64, v, N1, ?_, b2, b4.2, fun _ => ?_, b3.close fT (by rfl) (by rfl)⟩
    · unfold f_W_setWear
      rw [a1]; rfl
    · rw [rdJ_fr fN (by rfl), wrJ_s, b4.1]
  | inl e =>
    have hR : RI M M1 := h.opn fC (by rfl)
    obtain ⟨o', v, M1', N1, b1, b2, b3, b4⟩ := s_setWear hR l1
    have he := Option.some.inj (b1.symm.trans a1)
    obtain rfl : o' = .inl e := congrArg Prod.fst he
    obtain rfl : M1' = M1 := congrArg Prod.snd he
    have fN := fr_M_setWear b2
    rcases b4 with ⟨q, t⟩ | ⟨z, q, t⟩
    · subst q
      refine ⟨1, M1', v, N1, ?_, b2, t, fun q => absurd q (by decide), b3.close fN (by rfl) (by rfl)⟩
      unfold f_W_setWear
      rw [a1]; rfl
    · exact absurd rfl z
theorem W_setPace (h : RI M M) (l1 : Int32) : ∃ c M1 v M2, f_W_setPace l1 M = some (c, M1) ∧ f_M_setPace l1 M1 = some (v, M2) ∧ M2 134 7 = c ∧ (c = 0 → rdJ M2 148 = v.toInt64) ∧ RI M2 M2 := by
  obtain ⟨o, v0, M1, N0, a1, -, -, -⟩ := s_setPace h l1
  have fC := fr_C_setPace a1
  cases o with
  | inr y =>
    have fW : Fr [(0, 133, 0), (148, 148, 0)] M (wrJ M1 148 y.toInt64) := (fC.up (by rfl)).tr ((fr_J _).up (by rfl))
    have hR : RI M (wrJ M1 148 y.toInt64) := h.opn fW (by rfl)
    obtain ⟨o', v, M1', N1, b1, b2, b3, b4⟩ := s_setPace hR l1
    have he := Option.some.inj (b1.symm.trans a1)
    obtain rfl : o' = .inr y := congrArg Prod.fst he
    obtain rfl : M1' = M1 := congrArg Prod.snd he
    have fN := fr_M_setPace b2
    have fT : Fr [(134, 147, 0), (148, 148, 0)] M1' N1 := ((fr_J _).up (by rfl)).tr (fN.up (by rfl))
    refine ⟨0, wrJ M1' 148 y.toInt64, v, N1, ?_, b2, b4.2, fun _ => ?_, b3.close fT (by rfl) (by rfl)⟩
    · unfold f_W_setPace
      rw [a1]; rfl
    · rw [rdJ_fr fN (by rfl), wrJ_s, b4.1]
  | inl e =>
    have hR : RI M M1 := h.opn fC (by rfl)
    obtain ⟨o', v, M1', N1, b1, b2, b3, b4⟩ := s_setPace hR l1
    have he := Option.some.inj (b1.symm.trans a1)
    obtain rfl : o' = .inl e := congrArg Prod.fst he
    obtain rfl : M1' = M1 := congrArg Prod.snd he
    have fN := fr_M_setPace b2
    rcases b4 with ⟨q, t⟩ | ⟨z, q, t⟩
    · subst q
      refine ⟨1, M1', v, N1, ?_, b2, t, fun q => absurd q (by decide), b3.close fN (by rfl) (by rfl)⟩
      unfold f_W_setPace
      rw [a1]; rfl
    · exact absurd rfl z
theorem W_undo (h : RI M M) : ∃ c M1 v M2, f_W_undo M = some (c, M1) ∧ f_M_undo M1 = some (v, M2) ∧ M2 134 7 = c ∧ (c = 0 → rdJ M2 148 = v.toInt64) ∧ RI M2 M2 := by
  obtain ⟨o, v0, M1, N0, a1, -, -, -⟩ := s_undo h
  have fC := fr_C_undo a1
  cases o with
  | inr y =>
    have fW : Fr [(0, 133, 0), (148, 148, 0)] M (wrJ M1 148 y.toInt64) := (fC.up (by rfl)).tr ((fr_J _).up (by rfl))
    have hR : RI M (wrJ M1 148 y.toInt64) := h.opn fW (by rfl)
    obtain ⟨o', v, M1', N1, b1, b2, b3, b4⟩ := s_undo hR
    have he := Option.some.inj (b1.symm.trans a1)
    obtain rfl : o' = .inr y := congrArg Prod.fst he
    obtain rfl : M1' = M1 := congrArg Prod.snd he
    have fN := fr_M_undo b2
    have fT : Fr [(134, 147, 0), (148, 148, 0)] M1' N1 := ((fr_J _).up (by rfl)).tr (fN.up (by rfl))
    refine ⟨0, wrJ M1' 148 y.toInt64, v, N1, ?_, b2, b4.2, fun _ => ?_, b3.close fT (by rfl) (by rfl)⟩
    · unfold f_W_undo
      rw [a1]; rfl
    · rw [rdJ_fr fN (by rfl), wrJ_s, b4.1]
  | inl e =>
    have hR : RI M M1 := h.opn fC (by rfl)
    obtain ⟨o', v, M1', N1, b1, b2, b3, b4⟩ := s_undo hR
    have he := Option.some.inj (b1.symm.trans a1)
    obtain rfl : o' = .inl e := congrArg Prod.fst he
    obtain rfl : M1' = M1 := congrArg Prod.snd he
    have fN := fr_M_undo b2
    rcases b4 with ⟨q, t⟩ | ⟨z, q, t⟩
    · subst q
      refine ⟨1, M1', v, N1, ?_, b2, t, fun q => absurd q (by decide), b3.close fN (by rfl) (by rfl)⟩
      unfold f_W_undo
      rw [a1]; rfl
    · exact absurd rfl z
theorem W_save (h : RI M M) (l1 : Int32) : ∃ c M1 v M2, f_W_save l1 M = some (c, M1) ∧ f_M_save l1 M1 = some (v, M2) ∧ M2 134 7 = c ∧ (c = 0 → rdJ M2 148 = v.toInt64) ∧ RI M2 M2 := by
  obtain ⟨o, v0, M1, N0, a1, -, -, -⟩ := s_save h l1
  have fC := fr_C_save a1
  cases o with
  | inr y =>
    have fW : Fr [(0, 133, 0), (148, 148, 0)] M (wrJ M1 148 y.toInt64) := (fC.up (by rfl)).tr ((fr_J _).up (by rfl))
    have hR : RI M (wrJ M1 148 y.toInt64) := h.opn fW (by rfl)
    obtain ⟨o', v, M1', N1, b1, b2, b3, b4⟩ := s_save hR l1
    have he := Option.some.inj (b1.symm.trans a1)
    obtain rfl : o' = .inr y := congrArg Prod.fst he
    obtain rfl : M1' = M1 := congrArg Prod.snd he
    have fN := fr_M_save b2
    have fT : Fr [(134, 147, 0), (148, 148, 0)] M1' N1 := ((fr_J _).up (by rfl)).tr (fN.up (by rfl))
    refine ⟨0, wrJ M1' 148 y.toInt64, v, N1, ?_, b2, b4.2, fun _ => ?_, b3.close fT (by rfl) (by rfl)⟩
    · unfold f_W_save
      rw [a1]; rfl
    · rw [rdJ_fr fN (by rfl), wrJ_s, b4.1]
  | inl e =>
    have hR : RI M M1 := h.opn fC (by rfl)
    obtain ⟨o', v, M1', N1, b1, b2, b3, b4⟩ := s_save hR l1
    have he := Option.some.inj (b1.symm.trans a1)
    obtain rfl : o' = .inl e := congrArg Prod.fst he
    obtain rfl : M1' = M1 := congrArg Prod.snd he
    have fN := fr_M_save b2
    rcases b4 with ⟨q, t⟩ | ⟨z, q, t⟩
    · subst q
      refine ⟨1, M1', v, N1, ?_, b2, t, fun q => absurd q (by decide), b3.close fN (by rfl) (by rfl)⟩
      unfold f_W_save
      rw [a1]; rfl
    · exact absurd rfl z
theorem W_restore (h : RI M M) (l1 : Int32) : ∃ c M1 v M2, f_W_restore l1 M = some (c, M1) ∧ f_M_restore l1 M1 = some (v, M2) ∧ M2 134 7 = c ∧ (c = 0 → rdJ M2 148 = v.toInt64) ∧ RI M2 M2 := by
  obtain ⟨o, v0, M1, N0, a1, -, -, -⟩ := s_restore h l1
  have fC := fr_C_restore a1
  cases o with
  | inr y =>
    have fW : Fr [(0, 133, 0), (148, 148, 0)] M (wrJ M1 148 y.toInt64) := (fC.up (by rfl)).tr ((fr_J _).up (by rfl))
    have hR : RI M (wrJ M1 148 y.toInt64) := h.opn fW (by rfl)
    obtain ⟨o', v, M1', N1, b1, b2, b3, b4⟩ := s_restore hR l1
    have he := Option.some.inj (b1.symm.trans a1)
    obtain rfl : o' = .inr y := congrArg Prod.fst he
    obtain rfl : M1' = M1 := congrArg Prod.snd he
    have fN := fr_M_restore b2
    have fT : Fr [(134, 147, 0), (148, 148, 0)] M1' N1 := ((fr_J _).up (by rfl)).tr (fN.up (by rfl))
    refine ⟨0, wrJ M1' 148 y.toInt64, v, N1, ?_, b2, b4.2, fun _ => ?_, b3.close fT (by rfl) (by rfl)⟩
    · unfold f_W_restore
      rw [a1]; rfl
    · rw [rdJ_fr fN (by rfl), wrJ_s, b4.1]
  | inl e =>
    have hR : RI M M1 := h.opn fC (by rfl)
    obtain ⟨o', v, M1', N1, b1, b2, b3, b4⟩ := s_restore hR l1
    have he := Option.some.inj (b1.symm.trans a1)
    obtain rfl : o' = .inl e := congrArg Prod.fst he
    obtain rfl : M1' = M1 := congrArg Prod.snd he
    have fN := fr_M_restore b2
    rcases b4 with ⟨q, t⟩ | ⟨z, q, t⟩
    · subst q
      refine ⟨1, M1', v, N1, ?_, b2, t, fun q => absurd q (by decide), b3.close fN (by rfl) (by rfl)⟩
      unfold f_W_restore
      rw [a1]; rfl
    · subst q
      refine ⟨2, M1', v, N1, ?_, b2, t, fun q => absurd q (by decide), b3.close fN (by rfl) (by rfl)⟩
      unfold f_W_restore
      rw [a1]; rfl
theorem W_bearing (h : RI M M) (l1 : Int32) : ∃ c M1 v M2, f_W_bearing l1 M = some (c, M1) ∧ f_M_bearing l1 M1 = some (v, M2) ∧ M2 134 7 = c ∧ (c = 0 → rdJ M2 148 = v.toInt64) ∧ RI M2 M2 := by
  obtain ⟨o, v0, N0, a1, a2, a3, a4⟩ := s_bearing h l1
  cases o with
  | inr y =>
    have hR : RI M (wrJ M 148 y.toInt64) := h.opn (fr_J _) (by rfl)
    obtain ⟨o', v, N1, b1, b2, b3, b4⟩ := s_bearing hR l1
    obtain rfl : o' = .inr y := Option.some.inj (b1.symm.trans a1)
    have fN := fr_M_bearing b2
    have fT : Fr [(134, 147, 0), (148, 148, 0)] M N1 := ((fr_J _).up (by rfl)).tr (fN.up (by rfl))
    refine ⟨0, wrJ M 148 y.toInt64, v, N1, ?_, b2, b4.2, fun _ => ?_, b3.close fT (by rfl) (by rfl)⟩
    · unfold f_W_bearing
      rw [a1]; rfl
    · rw [rdJ_fr fN (by rfl), wrJ_s, b4.1]
  | inl e =>
    rcases a4 with ⟨rfl, t⟩ | ⟨z, q, t⟩
    · have fN := fr_M_bearing a2
      refine ⟨1, M, v0, N0, ?_, a2, t, fun q => absurd q (by decide), a3.close fN (by rfl) (by rfl)⟩
      unfold f_W_bearing
      rw [a1]; rfl
    · exact absurd rfl z
theorem W_pins (h : RI M M) (l1 : Int32) : ∃ c M1 v M2, f_W_pins l1 M = some (c, M1) ∧ f_M_pins l1 M1 = some (v, M2) ∧ M2 134 7 = c ∧ (c = 0 → rdJ M2 148 = v.toInt64) ∧ RI M2 M2 := by
  obtain ⟨o, v0, N0, a1, a2, a3, a4⟩ := s_pins h l1
  cases o with
  | inr y =>
    have hR : RI M (wrJ M 148 y.toInt64) := h.opn (fr_J _) (by rfl)
    obtain ⟨o', v, N1, b1, b2, b3, b4⟩ := s_pins hR l1
    obtain rfl : o' = .inr y := Option.some.inj (b1.symm.trans a1)
    have fN := fr_M_pins b2
    have fT : Fr [(134, 147, 0), (148, 148, 0)] M N1 := ((fr_J _).up (by rfl)).tr (fN.up (by rfl))
    refine ⟨0, wrJ M 148 y.toInt64, v, N1, ?_, b2, b4.2, fun _ => ?_, b3.close fT (by rfl) (by rfl)⟩
    · unfold f_W_pins
      rw [a1]; rfl
    · rw [rdJ_fr fN (by rfl), wrJ_s, b4.1]
  | inl e =>
    rcases a4 with ⟨rfl, t⟩ | ⟨z, q, t⟩
    · have fN := fr_M_pins a2
      refine ⟨1, M, v0, N0, ?_, a2, t, fun q => absurd q (by decide), a3.close fN (by rfl) (by rfl)⟩
      unfold f_W_pins
      rw [a1]; rfl
    · exact absurd rfl z
theorem W_droppedPins (h : RI M M) (l1 : Int32) : ∃ c M1 v M2, f_W_droppedPins l1 M = some (c, M1) ∧ f_M_droppedPins l1 M1 = some (v, M2) ∧ M2 134 7 = c ∧ (c = 0 → rdJ M2 148 = v.toInt64) ∧ RI M2 M2 := by
  obtain ⟨o, v0, N0, a1, a2, a3, a4⟩ := s_droppedPins h l1
  cases o with
  | inr y =>
    have hR : RI M (wrJ M 148 y.toInt64) := h.opn (fr_J _) (by rfl)
    obtain ⟨o', v, N1, b1, b2, b3, b4⟩ := s_droppedPins hR l1
    obtain rfl : o' = .inr y := Option.some.inj (b1.symm.trans a1)
    have fN := fr_M_droppedPins b2
    have fT : Fr [(134, 147, 0), (148, 148, 0)] M N1 := ((fr_J _).up (by rfl)).tr (fN.up (by rfl))
    refine ⟨0, wrJ M 148 y.toInt64, v, N1, ?_, b2, b4.2, fun _ => ?_, b3.close fT (by rfl) (by rfl)⟩
    · unfold f_W_droppedPins
      rw [a1]; rfl
    · rw [rdJ_fr fN (by rfl), wrJ_s, b4.1]
  | inl e =>
    rcases a4 with ⟨rfl, t⟩ | ⟨z, q, t⟩
    · have fN := fr_M_droppedPins a2
      refine ⟨1, M, v0, N0, ?_, a2, t, fun q => absurd q (by decide), a3.close fN (by rfl) (by rfl)⟩
      unfold f_W_droppedPins
      rw [a1]; rfl
    · exact absurd rfl z
theorem W_readLength (h : RI M M) (l1 : Int32) : ∃ c M1 v M2, f_W_readLength l1 M = some (c, M1) ∧ f_M_readLength l1 M1 = some (v, M2) ∧ M2 134 7 = c ∧ (c = 0 → rdJ M2 148 = v.toInt64) ∧ RI M2 M2 := by
  obtain ⟨o, v0, N0, a1, a2, a3, a4⟩ := s_readLength h l1
  cases o with
  | inr y =>
    have hR : RI M (wrJ M 148 y.toInt64) := h.opn (fr_J _) (by rfl)
    obtain ⟨o', v, N1, b1, b2, b3, b4⟩ := s_readLength hR l1
    obtain rfl : o' = .inr y := Option.some.inj (b1.symm.trans a1)
    have fN := fr_M_readLength b2
    have fT : Fr [(134, 147, 0), (148, 148, 0)] M N1 := ((fr_J _).up (by rfl)).tr (fN.up (by rfl))
    refine ⟨0, wrJ M 148 y.toInt64, v, N1, ?_, b2, b4.2, fun _ => ?_, b3.close fT (by rfl) (by rfl)⟩
    · unfold f_W_readLength
      rw [a1]; rfl
    · rw [rdJ_fr fN (by rfl), wrJ_s, b4.1]
  | inl e =>
    rcases a4 with ⟨rfl, t⟩ | ⟨z, q, t⟩
    · have fN := fr_M_readLength a2
      refine ⟨1, M, v0, N0, ?_, a2, t, fun q => absurd q (by decide), a3.close fN (by rfl) (by rfl)⟩
      unfold f_W_readLength
      rw [a1]; rfl
    · exact absurd rfl z
theorem W_slopeLength (h : RI M M) (l1 : Int32) : ∃ c M1 v M2, f_W_slopeLength l1 M = some (c, M1) ∧ f_M_slopeLength l1 M1 = some (v, M2) ∧ M2 134 7 = c ∧ (c = 0 → rdJ M2 148 = v.toInt64) ∧ RI M2 M2 := by
  obtain ⟨o, v0, N0, a1, a2, a3, a4⟩ := s_slopeLength h l1
  cases o with
  | inr y =>
    have hR : RI M (wrJ M 148 y.toInt64) := h.opn (fr_J _) (by rfl)
    obtain ⟨o', v, N1, b1, b2, b3, b4⟩ := s_slopeLength hR l1
    obtain rfl : o' = .inr y := Option.some.inj (b1.symm.trans a1)
    have fN := fr_M_slopeLength b2
    have fT : Fr [(134, 147, 0), (148, 148, 0)] M N1 := ((fr_J _).up (by rfl)).tr (fN.up (by rfl))
    refine ⟨0, wrJ M 148 y.toInt64, v, N1, ?_, b2, b4.2, fun _ => ?_, b3.close fT (by rfl) (by rfl)⟩
    · unfold f_W_slopeLength
      rw [a1]; rfl
    · rw [rdJ_fr fN (by rfl), wrJ_s, b4.1]
  | inl e =>
    rcases a4 with ⟨rfl, t⟩ | ⟨z, q, t⟩
    · have fN := fr_M_slopeLength a2
      refine ⟨1, M, v0, N0, ?_, a2, t, fun q => absurd q (by decide), a3.close fN (by rfl) (by rfl)⟩
      unfold f_W_slopeLength
      rw [a1]; rfl
    · exact absurd rfl z
theorem W_horizontalLength (h : RI M M) (l1 : Int32) : ∃ c M1 v M2, f_W_horizontalLength l1 M = some (c, M1) ∧ f_M_horizontalLength l1 M1 = some (v, M2) ∧ M2 134 7 = c ∧ (c = 0 → rdJ M2 148 = v.toInt64) ∧ RI M2 M2 := by
  obtain ⟨o, v0, N0, a1, a2, a3, a4⟩ := s_horizontalLength h l1
  cases o with
  | inr y =>
    have hR : RI M (wrJ M 148 y.toInt64) := h.opn (fr_J _) (by rfl)
    obtain ⟨o', v, N1, b1, b2, b3, b4⟩ := s_horizontalLength hR l1
    obtain rfl : o' = .inr y := Option.some.inj (b1.symm.trans a1)
    have fN := fr_M_horizontalLength b2
    have fT : Fr [(134, 147, 0), (148, 148, 0)] M N1 := ((fr_J _).up (by rfl)).tr (fN.up (by rfl))
    refine ⟨0, wrJ M 148 y.toInt64, v, N1, ?_, b2, b4.2, fun _ => ?_, b3.close fT (by rfl) (by rfl)⟩
    · unfold f_W_horizontalLength
      rw [a1]; rfl
    · rw [rdJ_fr fN (by rfl), wrJ_s, b4.1]
  | inl e =>
    rcases a4 with ⟨rfl, t⟩ | ⟨z, q, t⟩
    · have fN := fr_M_horizontalLength a2
      refine ⟨1, M, v0, N0, ?_, a2, t, fun q => absurd q (by decide), a3.close fN (by rfl) (by rfl)⟩
      unfold f_W_horizontalLength
      rw [a1]; rfl
    · exact absurd rfl z
theorem W_eastStep (h : RI M M) (l1 : Int32) : ∃ c M1 v M2, f_W_eastStep l1 M = some (c, M1) ∧ f_M_eastStep l1 M1 = some (v, M2) ∧ M2 134 7 = c ∧ (c = 0 → rdJ M2 148 = v.toInt64) ∧ RI M2 M2 := by
  obtain ⟨o, v0, N0, a1, a2, a3, a4⟩ := s_eastStep h l1
  cases o with
  | inr y =>
    have hR : RI M (wrJ M 148 y.toInt64) := h.opn (fr_J _) (by rfl)
    obtain ⟨o', v, N1, b1, b2, b3, b4⟩ := s_eastStep hR l1
    obtain rfl : o' = .inr y := Option.some.inj (b1.symm.trans a1)
    have fN := fr_M_eastStep b2
    have fT : Fr [(134, 147, 0), (148, 148, 0)] M N1 := ((fr_J _).up (by rfl)).tr (fN.up (by rfl))
    refine ⟨0, wrJ M 148 y.toInt64, v, N1, ?_, b2, b4.2, fun _ => ?_, b3.close fT (by rfl) (by rfl)⟩
    · unfold f_W_eastStep
      rw [a1]; rfl
    · rw [rdJ_fr fN (by rfl), wrJ_s, b4.1]
  | inl e =>
    rcases a4 with ⟨rfl, t⟩ | ⟨z, q, t⟩
    · have fN := fr_M_eastStep a2
      refine ⟨1, M, v0, N0, ?_, a2, t, fun q => absurd q (by decide), a3.close fN (by rfl) (by rfl)⟩
      unfold f_W_eastStep
      rw [a1]; rfl
    · exact absurd rfl z
theorem W_northStep (h : RI M M) (l1 : Int32) : ∃ c M1 v M2, f_W_northStep l1 M = some (c, M1) ∧ f_M_northStep l1 M1 = some (v, M2) ∧ M2 134 7 = c ∧ (c = 0 → rdJ M2 148 = v.toInt64) ∧ RI M2 M2 := by
  obtain ⟨o, v0, N0, a1, a2, a3, a4⟩ := s_northStep h l1
  cases o with
  | inr y =>
    have hR : RI M (wrJ M 148 y.toInt64) := h.opn (fr_J _) (by rfl)
    obtain ⟨o', v, N1, b1, b2, b3, b4⟩ := s_northStep hR l1
    obtain rfl : o' = .inr y := Option.some.inj (b1.symm.trans a1)
    have fN := fr_M_northStep b2
    have fT : Fr [(134, 147, 0), (148, 148, 0)] M N1 := ((fr_J _).up (by rfl)).tr (fN.up (by rfl))
    refine ⟨0, wrJ M 148 y.toInt64, v, N1, ?_, b2, b4.2, fun _ => ?_, b3.close fT (by rfl) (by rfl)⟩
    · unfold f_W_northStep
      rw [a1]; rfl
    · rw [rdJ_fr fN (by rfl), wrJ_s, b4.1]
  | inl e =>
    rcases a4 with ⟨rfl, t⟩ | ⟨z, q, t⟩
    · have fN := fr_M_northStep a2
      refine ⟨1, M, v0, N0, ?_, a2, t, fun q => absurd q (by decide), a3.close fN (by rfl) (by rfl)⟩
      unfold f_W_northStep
      rw [a1]; rfl
    · exact absurd rfl z
theorem W_tallies (h : RI M M) (l1 : Int32) : ∃ c M1 v M2, f_W_tallies l1 M = some (c, M1) ∧ f_M_tallies l1 M1 = some (v, M2) ∧ M2 134 7 = c ∧ (c = 0 → rdJ M2 148 = v.toInt64) ∧ RI M2 M2 := by
  obtain ⟨o, v0, N0, a1, a2, a3, a4⟩ := s_tallies h l1
  cases o with
  | inr y =>
    have hR : RI M (wrJ M 148 y.toInt64) := h.opn (fr_J _) (by rfl)
    obtain ⟨o', v, N1, b1, b2, b3, b4⟩ := s_tallies hR l1
    obtain rfl : o' = .inr y := Option.some.inj (b1.symm.trans a1)
    have fN := fr_M_tallies b2
    have fT : Fr [(134, 147, 0), (148, 148, 0)] M N1 := ((fr_J _).up (by rfl)).tr (fN.up (by rfl))
    refine ⟨0, wrJ M 148 y.toInt64, v, N1, ?_, b2, b4.2, fun _ => ?_, b3.close fT (by rfl) (by rfl)⟩
    · unfold f_W_tallies
      rw [a1]; rfl
    · rw [rdJ_fr fN (by rfl), wrJ_s, b4.1]
  | inl e =>
    rcases a4 with ⟨rfl, t⟩ | ⟨z, q, t⟩
    · have fN := fr_M_tallies a2
      refine ⟨1, M, v0, N0, ?_, a2, t, fun q => absurd q (by decide), a3.close fN (by rfl) (by rfl)⟩
      unfold f_W_tallies
      rw [a1]; rfl
    · exact absurd rfl z
theorem W_isBog (h : RI M M) (l1 : Int32) : ∃ c M1 v M2, f_W_isBog l1 M = some (c, M1) ∧ f_M_isBog l1 M1 = some (v, M2) ∧ M2 134 7 = c ∧ (c = 0 → rdJ M2 148 = (if v = 0 then (0 : Int64) else 1)) ∧ RI M2 M2 := by
  obtain ⟨o, v0, N0, a1, a2, a3, a4⟩ := s_isBog h l1
  cases o with
  | inr y =>
    have hR : RI M (wrJ M 148 (if y = 0 then (0 : Int64) else 1)) := h.opn (fr_J _) (by rfl)
    obtain ⟨o', v, N1, b1, b2, b3, b4⟩ := s_isBog hR l1
    obtain rfl : o' = .inr y := Option.some.inj (b1.symm.trans a1)
    have fN := fr_M_isBog b2
    have fT : Fr [(134, 134, 8), (148, 148, 0)] M N1 := ((fr_J _).up (by rfl)).tr (fN.up (by rfl))
    refine ⟨0, wrJ M 148 (if y = 0 then (0 : Int64) else 1), v, N1, ?_, b2, b4.2, fun _ => ?_, b3.close fT (by rfl) (by rfl)⟩
    · unfold f_W_isBog
      rw [a1]
      show (if y = 0 then _ else _) = _
      split <;> rfl
    · rw [rdJ_fr fN (by rfl), wrJ_s, b4.1]
  | inl e =>
    rcases a4 with ⟨rfl, t⟩ | ⟨z, -, -⟩
    · have fN := fr_M_isBog a2
      refine ⟨1, M, v0, N0, ?_, a2, t, fun q => absurd q (by decide), a3.close fN (by rfl) (by rfl)⟩
      unfold f_W_isBog
      rw [a1]; rfl
    · exact absurd rfl z
theorem W_nameByte (h : RI M M) (l1 : Int32) (l2 : Int32) : ∃ c M1 v M2, f_W_nameByte l1 l2 M = some (c, M1) ∧ f_M_nameByte l1 l2 M1 = some (v, M2) ∧ M2 134 7 = c ∧ (c = 0 → rdJ M2 148 = v.toInt64) ∧ RI M2 M2 := by
  obtain ⟨o, v0, N0, a1, a2, a3, a4⟩ := s_nameByte h l1 l2
  cases o with
  | inr y =>
    have hR : RI M (wrJ M 148 y.toInt64) := h.opn (fr_J _) (by rfl)
    obtain ⟨o', v, N1, b1, b2, b3, b4⟩ := s_nameByte hR l1 l2
    obtain rfl : o' = .inr y := Option.some.inj (b1.symm.trans a1)
    have fN := fr_M_nameByte b2
    have fT : Fr [(134, 147, 0), (148, 148, 0)] M N1 := ((fr_J _).up (by rfl)).tr (fN.up (by rfl))
    refine ⟨0, wrJ M 148 y.toInt64, v, N1, ?_, b2, b4.2, fun _ => ?_, b3.close fT (by rfl) (by rfl)⟩
    · unfold f_W_nameByte
      rw [a1]; rfl
    · rw [rdJ_fr fN (by rfl), wrJ_s, b4.1]
  | inl e =>
    rcases a4 with ⟨rfl, t⟩ | ⟨z, q, t⟩
    · have fN := fr_M_nameByte a2
      refine ⟨1, M, v0, N0, ?_, a2, t, fun q => absurd q (by decide), a3.close fN (by rfl) (by rfl)⟩
      unfold f_W_nameByte
      rw [a1]; rfl
    · exact absurd rfl z
theorem W_rawEast (h : RI M M) (l1 : Int32) : ∃ c M1 v M2, f_W_rawEast l1 M = some (c, M1) ∧ f_M_rawEast l1 M1 = some (v, M2) ∧ M2 134 7 = c ∧ (c = 0 → rdJ M2 148 = v.toInt64) ∧ RI M2 M2 := by
  obtain ⟨o, v0, M1, N0, a1, -, -, -⟩ := s_rawEast h l1
  have fC := fr_C_rawEast a1
  cases o with
  | inr y =>
    have fW : Fr [(0, 133, 0), (148, 148, 0)] M (wrJ M1 148 y.toInt64) := (fC.up (by rfl)).tr ((fr_J _).up (by rfl))
    have hR : RI M (wrJ M1 148 y.toInt64) := h.opn fW (by rfl)
    obtain ⟨o', v, M1', N1, b1, b2, b3, b4⟩ := s_rawEast hR l1
    have he := Option.some.inj (b1.symm.trans a1)
    obtain rfl : o' = .inr y := congrArg Prod.fst he
    obtain rfl : M1' = M1 := congrArg Prod.snd he
    have fN := fr_M_rawEast b2
    have fT : Fr [(134, 147, 0), (148, 148, 0)] M1' N1 := ((fr_J _).up (by rfl)).tr (fN.up (by rfl))
    refine ⟨0, wrJ M1' 148 y.toInt64, v, N1, ?_, b2, b4.2, fun _ => ?_, b3.close fT (by rfl) (by rfl)⟩
    · unfold f_W_rawEast
      rw [a1]; rfl
    · rw [rdJ_fr fN (by rfl), wrJ_s, b4.1]
  | inl e =>
    have hR : RI M M1 := h.opn fC (by rfl)
    obtain ⟨o', v, M1', N1, b1, b2, b3, b4⟩ := s_rawEast hR l1
    have he := Option.some.inj (b1.symm.trans a1)
    obtain rfl : o' = .inl e := congrArg Prod.fst he
    obtain rfl : M1' = M1 := congrArg Prod.snd he
    have fN := fr_M_rawEast b2
    rcases b4 with ⟨q, t⟩ | ⟨z, q, t⟩
    · subst q
      refine ⟨1, M1', v, N1, ?_, b2, t, fun q => absurd q (by decide), b3.close fN (by rfl) (by rfl)⟩
      unfold f_W_rawEast
      rw [a1]; rfl
    · exact absurd rfl z
theorem W_rawNorth (h : RI M M) (l1 : Int32) : ∃ c M1 v M2, f_W_rawNorth l1 M = some (c, M1) ∧ f_M_rawNorth l1 M1 = some (v, M2) ∧ M2 134 7 = c ∧ (c = 0 → rdJ M2 148 = v.toInt64) ∧ RI M2 M2 := by
  obtain ⟨o, v0, M1, N0, a1, -, -, -⟩ := s_rawNorth h l1
  have fC := fr_C_rawNorth a1
  cases o with
  | inr y =>
    have fW : Fr [(0, 133, 0), (148, 148, 0)] M (wrJ M1 148 y.toInt64) := (fC.up (by rfl)).tr ((fr_J _).up (by rfl))
    have hR : RI M (wrJ M1 148 y.toInt64) := h.opn fW (by rfl)
    obtain ⟨o', v, M1', N1, b1, b2, b3, b4⟩ := s_rawNorth hR l1
    have he := Option.some.inj (b1.symm.trans a1)
    obtain rfl : o' = .inr y := congrArg Prod.fst he
    obtain rfl : M1' = M1 := congrArg Prod.snd he
    have fN := fr_M_rawNorth b2
    have fT : Fr [(134, 147, 0), (148, 148, 0)] M1' N1 := ((fr_J _).up (by rfl)).tr (fN.up (by rfl))
    refine ⟨0, wrJ M1' 148 y.toInt64, v, N1, ?_, b2, b4.2, fun _ => ?_, b3.close fT (by rfl) (by rfl)⟩
    · unfold f_W_rawNorth
      rw [a1]; rfl
    · rw [rdJ_fr fN (by rfl), wrJ_s, b4.1]
  | inl e =>
    have hR : RI M M1 := h.opn fC (by rfl)
    obtain ⟨o', v, M1', N1, b1, b2, b3, b4⟩ := s_rawNorth hR l1
    have he := Option.some.inj (b1.symm.trans a1)
    obtain rfl : o' = .inl e := congrArg Prod.fst he
    obtain rfl : M1' = M1 := congrArg Prod.snd he
    have fN := fr_M_rawNorth b2
    rcases b4 with ⟨q, t⟩ | ⟨z, q, t⟩
    · subst q
      refine ⟨1, M1', v, N1, ?_, b2, t, fun q => absurd q (by decide), b3.close fN (by rfl) (by rfl)⟩
      unfold f_W_rawNorth
      rw [a1]; rfl
    · exact absurd rfl z
theorem W_east (h : RI M M) (l1 : Int32) : ∃ c M1 v M2, f_W_east l1 M = some (c, M1) ∧ f_M_east l1 M1 = some (v, M2) ∧ M2 134 7 = c ∧ (c = 0 → rdJ M2 148 = v.toInt64) ∧ RI M2 M2 := by
  obtain ⟨o, v0, M1, N0, a1, -, -, -⟩ := s_east h l1
  have fC := fr_C_east a1
  cases o with
  | inr y =>
    have fW : Fr [(0, 133, 0), (148, 148, 0)] M (wrJ M1 148 y.toInt64) := (fC.up (by rfl)).tr ((fr_J _).up (by rfl))
    have hR : RI M (wrJ M1 148 y.toInt64) := h.opn fW (by rfl)
    obtain ⟨o', v, M1', N1, b1, b2, b3, b4⟩ := s_east hR l1
    have he := Option.some.inj (b1.symm.trans a1)
    obtain rfl : o' = .inr y := congrArg Prod.fst he
    obtain rfl : M1' = M1 := congrArg Prod.snd he
    have fN := fr_M_east b2
    have fT : Fr [(134, 147, 0), (148, 148, 0)] M1' N1 := ((fr_J _).up (by rfl)).tr (fN.up (by rfl))
    refine ⟨0, wrJ M1' 148 y.toInt64, v, N1, ?_, b2, b4.2, fun _ => ?_, b3.close fT (by rfl) (by rfl)⟩
    · unfold f_W_east
      rw [a1]; rfl
    · rw [rdJ_fr fN (by rfl), wrJ_s, b4.1]
  | inl e =>
    have hR : RI M M1 := h.opn fC (by rfl)
    obtain ⟨o', v, M1', N1, b1, b2, b3, b4⟩ := s_east hR l1
    have he := Option.some.inj (b1.symm.trans a1)
    obtain rfl : o' = .inl e := congrArg Prod.fst he
    obtain rfl : M1' = M1 := congrArg Prod.snd he
    have fN := fr_M_east b2
    rcases b4 with ⟨q, t⟩ | ⟨z, q, t⟩
    · subst q
      refine ⟨1, M1', v, N1, ?_, b2, t, fun q => absurd q (by decide), b3.close fN (by rfl) (by rfl)⟩
      unfold f_W_east
      rw [a1]; rfl
    · exact absurd rfl z
theorem W_north (h : RI M M) (l1 : Int32) : ∃ c M1 v M2, f_W_north l1 M = some (c, M1) ∧ f_M_north l1 M1 = some (v, M2) ∧ M2 134 7 = c ∧ (c = 0 → rdJ M2 148 = v.toInt64) ∧ RI M2 M2 := by
  obtain ⟨o, v0, M1, N0, a1, -, -, -⟩ := s_north h l1
  have fC := fr_C_north a1
  cases o with
  | inr y =>
    have fW : Fr [(0, 133, 0), (148, 148, 0)] M (wrJ M1 148 y.toInt64) := (fC.up (by rfl)).tr ((fr_J _).up (by rfl))
    have hR : RI M (wrJ M1 148 y.toInt64) := h.opn fW (by rfl)
    obtain ⟨o', v, M1', N1, b1, b2, b3, b4⟩ := s_north hR l1
    have he := Option.some.inj (b1.symm.trans a1)
    obtain rfl : o' = .inr y := congrArg Prod.fst he
    obtain rfl : M1' = M1 := congrArg Prod.snd he
    have fN := fr_M_north b2
    have fT : Fr [(134, 147, 0), (148, 148, 0)] M1' N1 := ((fr_J _).up (by rfl)).tr (fN.up (by rfl))
    refine ⟨0, wrJ M1' 148 y.toInt64, v, N1, ?_, b2, b4.2, fun _ => ?_, b3.close fT (by rfl) (by rfl)⟩
    · unfold f_W_north
      rw [a1]; rfl
    · rw [rdJ_fr fN (by rfl), wrJ_s, b4.1]
  | inl e =>
    have hR : RI M M1 := h.opn fC (by rfl)
    obtain ⟨o', v, M1', N1, b1, b2, b3, b4⟩ := s_north hR l1
    have he := Option.some.inj (b1.symm.trans a1)
    obtain rfl : o' = .inl e := congrArg Prod.fst he
    obtain rfl : M1' = M1 := congrArg Prod.snd he
    have fN := fr_M_north b2
    rcases b4 with ⟨q, t⟩ | ⟨z, q, t⟩
    · subst q
      refine ⟨1, M1', v, N1, ?_, b2, t, fun q => absurd q (by decide), b3.close fN (by rfl) (by rfl)⟩
      unfold f_W_north
      rw [a1]; rfl
    · exact absurd rfl z
theorem W_run (h : RI M M) (l1 : Int32) : ∃ c M1 v M2, f_W_run l1 M = some (c, M1) ∧ f_M_run l1 M1 = some (v, M2) ∧ M2 134 7 = c ∧ (c = 0 → rdJ M2 148 = v.toInt64) ∧ RI M2 M2 := by
  obtain ⟨o, v0, M1, N0, a1, -, -, -⟩ := s_run h l1
  have fC := fr_C_run a1
  cases o with
  | inr y =>
    have fW : Fr [(0, 133, 0), (148, 148, 0)] M (wrJ M1 148 y.toInt64) := (fC.up (by rfl)).tr ((fr_J _).up (by rfl))
    have hR : RI M (wrJ M1 148 y.toInt64) := h.opn fW (by rfl)
    obtain ⟨o', v, M1', N1, b1, b2, b3, b4⟩ := s_run hR l1
    have he := Option.some.inj (b1.symm.trans a1)
    obtain rfl : o' = .inr y := congrArg Prod.fst he
    obtain rfl : M1' = M1 := congrArg Prod.snd he
    have fN := fr_M_run b2
    have fT : Fr [(134, 147, 0), (148, 148, 0)] M1' N1 := ((fr_J _).up (by rfl)).tr (fN.up (by rfl))
    refine ⟨0, wrJ M1' 148 y.toInt64, v, N1, ?_, b2, b4.2, fun _ => ?_, b3.close fT (by rfl) (by rfl)⟩
    · unfold f_W_run
      rw [a1]; rfl
    · rw [rdJ_fr fN (by rfl), wrJ_s, b4.1]
  | inl e =>
    have hR : RI M M1 := h.opn fC (by rfl)
    obtain ⟨o', v, M1', N1, b1, b2, b3, b4⟩ := s_run hR l1
    have he := Option.some.inj (b1.symm.trans a1)
    obtain rfl : o' = .inl e := congrArg Prod.fst he
    obtain rfl : M1' = M1 := congrArg Prod.snd he
    have fN := fr_M_run b2
    rcases b4 with ⟨q, t⟩ | ⟨z, q, t⟩
    · subst q
      refine ⟨1, M1', v, N1, ?_, b2, t, fun q => absurd q (by decide), b3.close fN (by rfl) (by rfl)⟩
      unfold f_W_run
      rw [a1]; rfl
    · exact absurd rfl z
theorem W_distanceFromStart (h : RI M M) (l1 : Int32) : ∃ c M1 v M2, f_W_distanceFromStart l1 M = some (c, M1) ∧ f_M_distanceFromStart l1 M1 = some (v, M2) ∧ M2 134 7 = c ∧ (c = 0 → rdJ M2 148 = v.toInt64) ∧ RI M2 M2 := by
  obtain ⟨o, v0, M1, N0, a1, -, -, -⟩ := s_distanceFromStart h l1
  have fC := fr_C_distanceFromStart a1
  cases o with
  | inr y =>
    have fW : Fr [(0, 133, 0), (148, 148, 0)] M (wrJ M1 148 y.toInt64) := (fC.up (by rfl)).tr ((fr_J _).up (by rfl))
    have hR : RI M (wrJ M1 148 y.toInt64) := h.opn fW (by rfl)
    obtain ⟨o', v, M1', N1, b1, b2, b3, b4⟩ := s_distanceFromStart hR l1
    have he := Option.some.inj (b1.symm.trans a1)
    obtain rfl : o' = .inr y := congrArg Prod.fst he
    obtain rfl : M1' = M1 := congrArg Prod.snd he
    have fN := fr_M_distanceFromStart b2
    have fT : Fr [(134, 147, 0), (148, 148, 0)] M1' N1 := ((fr_J _).up (by rfl)).tr (fN.up (by rfl))
    refine ⟨0, wrJ M1' 148 y.toInt64, v, N1, ?_, b2, b4.2, fun _ => ?_, b3.close fT (by rfl) (by rfl)⟩
    · unfold f_W_distanceFromStart
      rw [a1]; rfl
    · rw [rdJ_fr fN (by rfl), wrJ_s, b4.1]
  | inl e =>
    have hR : RI M M1 := h.opn fC (by rfl)
    obtain ⟨o', v, M1', N1, b1, b2, b3, b4⟩ := s_distanceFromStart hR l1
    have he := Option.some.inj (b1.symm.trans a1)
    obtain rfl : o' = .inl e := congrArg Prod.fst he
    obtain rfl : M1' = M1 := congrArg Prod.snd he
    have fN := fr_M_distanceFromStart b2
    rcases b4 with ⟨q, t⟩ | ⟨z, q, t⟩
    · subst q
      refine ⟨1, M1', v, N1, ?_, b2, t, fun q => absurd q (by decide), b3.close fN (by rfl) (by rfl)⟩
      unfold f_W_distanceFromStart
      rw [a1]; rfl
    · exact absurd rfl z
theorem W_misclosureIfDropped (h : RI M M) (l1 : Int32) : ∃ c M1 v M2, f_W_misclosureIfDropped l1 M = some (c, M1) ∧ f_M_misclosureIfDropped l1 M1 = some (v, M2) ∧ M2 134 7 = c ∧ (c = 0 → rdJ M2 148 = v.toInt64) ∧ RI M2 M2 := by
  obtain ⟨o, v0, M1, N0, a1, -, -, -⟩ := s_misclosureIfDropped h l1
  have fC := fr_C_misclosureIfDropped a1
  cases o with
  | inr y =>
    have fW : Fr [(0, 133, 0), (148, 148, 0)] M (wrJ M1 148 y.toInt64) := (fC.up (by rfl)).tr ((fr_J _).up (by rfl))
    have hR : RI M (wrJ M1 148 y.toInt64) := h.opn fW (by rfl)
    obtain ⟨o', v, M1', N1, b1, b2, b3, b4⟩ := s_misclosureIfDropped hR l1
    have he := Option.some.inj (b1.symm.trans a1)
    obtain rfl : o' = .inr y := congrArg Prod.fst he
    obtain rfl : M1' = M1 := congrArg Prod.snd he
    have fN := fr_M_misclosureIfDropped b2
    have fT : Fr [(134, 147, 0), (148, 148, 0)] M1' N1 := ((fr_J _).up (by rfl)).tr (fN.up (by rfl))
    refine ⟨0, wrJ M1' 148 y.toInt64, v, N1, ?_, b2, b4.2, fun _ => ?_, b3.close fT (by rfl) (by rfl)⟩
    · unfold f_W_misclosureIfDropped
      rw [a1]; rfl
    · rw [rdJ_fr fN (by rfl), wrJ_s, b4.1]
  | inl e =>
    have hR : RI M M1 := h.opn fC (by rfl)
    obtain ⟨o', v, M1', N1, b1, b2, b3, b4⟩ := s_misclosureIfDropped hR l1
    have he := Option.some.inj (b1.symm.trans a1)
    obtain rfl : o' = .inl e := congrArg Prod.fst he
    obtain rfl : M1' = M1 := congrArg Prod.snd he
    have fN := fr_M_misclosureIfDropped b2
    rcases b4 with ⟨q, t⟩ | ⟨z, q, t⟩
    · subst q
      refine ⟨1, M1', v, N1, ?_, b2, t, fun q => absurd q (by decide), b3.close fN (by rfl) (by rfl)⟩
      unfold f_W_misclosureIfDropped
      rw [a1]; rfl
    · exact absurd rfl z
end LAW
