/-! the law, turn by turn -/
section LWC
variable {M : Mm} {L i : Nat} {xs : Nat → Int32} {r23 : Int32 → Mm → Option (Int32 × Mm)}
theorem ix_L (hL : i + 6 ≤ L) (hL2 : L < 2147483648) (j : Nat) (hj : j < 6) : iin (oN i + oN j) L := by
  rw [← oN_add]
  exact (iin_oN (by omega)).mpr (by omega)
theorem go_L (M : Mm) : f_W_law_2537 L xs r23 (oN i) M = r23 (oN (i + 6)) M := by
  unfold f_W_law_2537
  rw [oN_add]; rfl
/-- a turn -/
def Tn (o : Option (Int32 × Mm)) (r23 : Int32 → Mm → Option (Int32 × Mm)) (i : Nat) : Prop := ∃ M2, o = r23 (oN (i + 6)) M2 ∧ RI M2 M2
theorem k_0 (h : RI M M) : Tn (f_W_law_2537 L xs r23 (oN i) M) r23 i := ⟨M, go_L M, h⟩
theorem k_296 (h : RI M M) (hL : i + 6 ≤ L) (hL2 : L < 2147483648) : Tn (f_W_law_296 L xs r23 (oN i) M) r23 i := by
  unfold f_W_law_296
  obtain ⟨v0, M1, N0, a1, -, -⟩ := s_append h (xs (ix (oN i + (1 : Int32)))) (xs (ix (oN i + (2 : Int32)))) (xs (ix (oN i + (3 : Int32)))) (xs (ix (oN i + (4 : Int32)))) (xs (ix (oN i + (5 : Int32))))
  have fC := fr_C_append a1
  obtain ⟨v, M1', N1, b1, b2, b3⟩ := s_append (h.opn fC (by rfl)) (xs (ix (oN i + (1 : Int32)))) (xs (ix (oN i + (2 : Int32)))) (xs (ix (oN i + (3 : Int32)))) (xs (ix (oN i + (4 : Int32)))) (xs (ix (oN i + (5 : Int32))))
  have he := Option.some.inj (b1.symm.trans a1)
  obtain rfl : v = v0 := congrArg Prod.fst he
  obtain rfl : M1' = M1 := congrArg Prod.snd he
  have hc1 : iin (oN i + (1 : Int32)) L := ix_L hL hL2 1 (by decide)
  have hc2 : iin (oN i + (2 : Int32)) L := ix_L hL hL2 2 (by decide)
  have hc3 : iin (oN i + (3 : Int32)) L := ix_L hL hL2 3 (by decide)
  have hc4 : iin (oN i + (4 : Int32)) L := ix_L hL hL2 4 (by decide)
  have hc5 : iin (oN i + (5 : Int32)) L := ix_L hL hL2 5 (by decide)
  rw [chk_t hc1, chk_t hc2, chk_t hc3, chk_t hc4, chk_t hc5, a1, bn2_s, b2, bn2_s, if_pos (rfl), go_L]
  exact ⟨N1, rfl, b3.close (fr_M_append b2) (by rfl) (by rfl)⟩
theorem k_369 (h : RI M M) (hL : i + 6 ≤ L) (hL2 : L < 2147483648) : Tn (f_W_law_369 L xs r23 (oN i) M) r23 i := by
  unfold f_W_law_369 f_W_law_422
  obtain ⟨c, M1, v, M2, e1, e2, e3, e4, e5⟩ := W_truncateInput h (xs (ix (oN i + (1 : Int32))))
  have hc1 : iin (oN i + (1 : Int32)) L := ix_L hL hL2 1 (by decide)
  rw [chk_t hc1, e1, bn2_s, e2, bn2_s]
  unfold f_M_thrown
  rw [bn_s, if_pos e3, go_L]
  refine ⟨M2, ?_, e5⟩
  by_cases c0 : c = 0
  · rw [if_pos c0, e4 c0, if_pos (cmp_0 _)]
  · rw [if_neg c0]
theorem k_425 (h : RI M M) (hL : i + 6 ≤ L) (hL2 : L < 2147483648) : Tn (f_W_law_425 L xs r23 (oN i) M) r23 i := by
  unfold f_W_law_425
  obtain ⟨v0, M1, N0, a1, -, -⟩ := s_load h
  have fC := fr_C_load a1
  obtain ⟨v, M1', N1, b1, b2, b3⟩ := s_load (h.opn fC (by rfl))
  have he := Option.some.inj (b1.symm.trans a1)
  obtain rfl : v = v0 := congrArg Prod.fst he
  obtain rfl : M1' = M1 := congrArg Prod.snd he
  rw [a1, bn2_s, b2, bn2_s, if_pos (rfl), go_L]
  exact ⟨N1, rfl, b3.close (fr_M_load b2) (by rfl) (by rfl)⟩
theorem k_438 (h : RI M M) (hL : i + 6 ≤ L) (hL2 : L < 2147483648) : Tn (f_W_law_438 L xs r23 (oN i) M) r23 i := by
  unfold f_W_law_438
  obtain ⟨v0, M1, N0, a1, -, -⟩ := s_play h
  have fC := fr_C_play a1
  obtain ⟨v, M1', N1, b1, b2, b3⟩ := s_play (h.opn fC (by rfl))
  have he := Option.some.inj (b1.symm.trans a1)
  obtain rfl : v = v0 := congrArg Prod.fst he
  obtain rfl : M1' = M1 := congrArg Prod.snd he
  rw [a1, bn2_s, b2, bn2_s, if_pos (rfl), go_L]
  exact ⟨N1, rfl, b3.close (fr_M_play b2) (by rfl) (by rfl)⟩
theorem k_451 (h : RI M M) (hL : i + 6 ≤ L) (hL2 : L < 2147483648) : Tn (f_W_law_451 L xs r23 (oN i) M) r23 i := by
  unfold f_W_law_451
  obtain ⟨v, N1, b1, b2, b3⟩ := s_errorCode h
  rw [b1, bn_s, b2, bn2_s, if_pos rfl, go_L]
  exact ⟨N1, rfl, b3.close (fr_M_errorCode b2) (by rfl) (by rfl)⟩
theorem k_464 (h : RI M M) (hL : i + 6 ≤ L) (hL2 : L < 2147483648) : Tn (f_W_law_464 L xs r23 (oN i) M) r23 i := by
  unfold f_W_law_464
  obtain ⟨v, N1, b1, b2, b3⟩ := s_errorOffset h
  rw [b1, bn_s, b2, bn2_s, if_pos rfl, go_L]
  exact ⟨N1, rfl, b3.close (fr_M_errorOffset b2) (by rfl) (by rfl)⟩
theorem k_477 (h : RI M M) (hL : i + 6 ≤ L) (hL2 : L < 2147483648) : Tn (f_W_law_477 L xs r23 (oN i) M) r23 i := by
  unfold f_W_law_477 f_W_law_578
  obtain ⟨c, M1, v, M2, e1, e2, e3, e4, e5⟩ := W_addLeg h (xs (ix (oN i + (1 : Int32)))) (xs (ix (oN i + (2 : Int32)))) (xs (ix (oN i + (3 : Int32)))) (xs (ix (oN i + (4 : Int32)))) (xs (ix (oN i + (5 : Int32))))
  have hc1 : iin (oN i + (1 : Int32)) L := ix_L hL hL2 1 (by decide)
  have hc2 : iin (oN i + (2 : Int32)) L := ix_L hL hL2 2 (by decide)
  have hc3 : iin (oN i + (3 : Int32)) L := ix_L hL hL2 3 (by decide)
  have hc4 : iin (oN i + (4 : Int32)) L := ix_L hL hL2 4 (by decide)
  have hc5 : iin (oN i + (5 : Int32)) L := ix_L hL hL2 5 (by decide)
  rw [chk_t hc1, chk_t hc2, chk_t hc3, chk_t hc4, chk_t hc5, e1, bn2_s, e2, bn2_s]
  unfold f_M_thrown
  rw [bn_s, if_pos e3, go_L]
  refine ⟨M2, ?_, e5⟩
  by_cases c0 : c = 0
  · rw [if_pos c0, e4 c0, if_pos (cmp_0 _)]
  · rw [if_neg c0]
theorem k_581 (h : RI M M) (hL : i + 6 ≤ L) (hL2 : L < 2147483648) : Tn (f_W_law_581 L xs r23 (oN i) M) r23 i := by
  unfold f_W_law_581 f_W_law_646
  obtain ⟨c, M1, v, M2, e1, e2, e3, e4, e5⟩ := W_addBog h (xs (ix (oN i + (1 : Int32)))) (xs (ix (oN i + (2 : Int32))))
  have hc1 : iin (oN i + (1 : Int32)) L := ix_L hL hL2 1 (by decide)
  have hc2 : iin (oN i + (2 : Int32)) L := ix_L hL hL2 2 (by decide)
  rw [chk_t hc1, chk_t hc2, e1, bn2_s, e2, bn2_s]
  unfold f_M_thrown
  rw [bn_s, if_pos e3, go_L]
  refine ⟨M2, ?_, e5⟩
  by_cases c0 : c = 0
  · rw [if_pos c0, e4 c0, if_pos (cmp_0 _)]
  · rw [if_neg c0]
theorem k_649 (h : RI M M) (hL : i + 6 ≤ L) (hL2 : L < 2147483648) : Tn (f_W_law_649 L xs r23 (oN i) M) r23 i := by
  unfold f_W_law_649 f_W_law_702
  obtain ⟨c, M1, v, M2, e1, e2, e3, e4, e5⟩ := W_dropPin h (xs (ix (oN i + (1 : Int32))))
  have hc1 : iin (oN i + (1 : Int32)) L := ix_L hL hL2 1 (by decide)
  rw [chk_t hc1, e1, bn2_s, e2, bn2_s]
  unfold f_M_thrown
  rw [bn_s, if_pos e3, go_L]
  refine ⟨M2, ?_, e5⟩
  by_cases c0 : c = 0
  · rw [if_pos c0, e4 c0, if_pos (cmp_0 _)]
  · rw [if_neg c0]
theorem k_705 (h : RI M M) (hL : i + 6 ≤ L) (hL2 : L < 2147483648) : Tn (f_W_law_705 L xs r23 (oN i) M) r23 i := by
  unfold f_W_law_705 f_W_law_758
  obtain ⟨c, M1, v, M2, e1, e2, e3, e4, e5⟩ := W_findPin h (xs (ix (oN i + (1 : Int32))))
  have hc1 : iin (oN i + (1 : Int32)) L := ix_L hL hL2 1 (by decide)
  rw [chk_t hc1, e1, bn2_s, e2, bn2_s]
  unfold f_M_thrown
  rw [bn_s, if_pos e3, go_L]
  refine ⟨M2, ?_, e5⟩
  by_cases c0 : c = 0
  · rw [if_pos c0, e4 c0, if_pos (cmp_0 _)]
  · rw [if_neg c0]
theorem k_761 (h : RI M M) (hL : i + 6 ≤ L) (hL2 : L < 2147483648) : Tn (f_W_law_761 L xs r23 (oN i) M) r23 i := by
  unfold f_W_law_761 f_W_law_802
  obtain ⟨c, M1, v, M2, e1, e2, e3, e4, e5⟩ := W_removeLast h
  rw [e1, bn2_s, e2, bn2_s]
  unfold f_M_thrown
  rw [bn_s, if_pos e3, go_L]
  refine ⟨M2, ?_, e5⟩
  by_cases c0 : c = 0
  · rw [if_pos c0, e4 c0, if_pos (cmp_0 _)]
  · rw [if_neg c0]
theorem k_805 (h : RI M M) (hL : i + 6 ≤ L) (hL2 : L < 2147483648) : Tn (f_W_law_805 L xs r23 (oN i) M) r23 i := by
  unfold f_W_law_805 f_W_law_858
  obtain ⟨c, M1, v, M2, e1, e2, e3, e4, e5⟩ := W_setWear h (xs (ix (oN i + (1 : Int32))))
  have hc1 : iin (oN i + (1 : Int32)) L := ix_L hL hL2 1 (by decide)
  rw [chk_t hc1, e1, bn2_s, e2, bn2_s]
  unfold f_M_thrown
  rw [bn_s, if_pos e3, go_L]
  refine ⟨M2, ?_, e5⟩
  by_cases c0 : c = 0
  · rw [if_pos c0, e4 c0, if_pos (cmp_0 _)]
  · rw [if_neg c0]
theorem k_861 (h : RI M M) (hL : i + 6 ≤ L) (hL2 : L < 2147483648) : Tn (f_W_law_861 L xs r23 (oN i) M) r23 i := by
  unfold f_W_law_861 f_W_law_914
  obtain ⟨c, M1, v, M2, e1, e2, e3, e4, e5⟩ := W_setPace h (xs (ix (oN i + (1 : Int32))))
  have hc1 : iin (oN i + (1 : Int32)) L := ix_L hL hL2 1 (by decide)
  rw [chk_t hc1, e1, bn2_s, e2, bn2_s]
  unfold f_M_thrown
  rw [bn_s, if_pos e3, go_L]
  refine ⟨M2, ?_, e5⟩
  by_cases c0 : c = 0
  · rw [if_pos c0, e4 c0, if_pos (cmp_0 _)]
  · rw [if_neg c0]
theorem k_917 (h : RI M M) (hL : i + 6 ≤ L) (hL2 : L < 2147483648) : Tn (f_W_law_917 L xs r23 (oN i) M) r23 i := by
  unfold f_W_law_917 f_W_law_932 f_W_law_950
  have hc : iin (oN i + (1 : Int32)) L := ix_L hL hL2 1 (by decide)
  rw [chk_t hc]
  have key : ∀ t : Int32, isZ t → Tn (bn2 (f_C_setAdjusted t M) fun r932 M932 => bn2 (f_M_setAdjusted t M932) fun r950 M950 => if r932 = r950 then f_W_law_2537 L xs r23 (oN i) M950 else some ((0 : Int32), M950)) r23 i := by
    intro t ht
    obtain ⟨v0, M1, N0, a1, -, -⟩ := s_setAdjusted h t ht
    have fC := fr_C_setAdjusted a1
    obtain ⟨v, M1', N1, b1, b2, b3⟩ := s_setAdjusted (h.opn fC (by rfl)) t ht
    have he := Option.some.inj (b1.symm.trans a1)
    obtain rfl : v = v0 := congrArg Prod.fst he
    obtain rfl : M1' = M1 := congrArg Prod.snd he
    rw [a1, bn2_s, b2, bn2_s, if_pos rfl, go_L]
    exact ⟨N1, rfl, b3.close (fr_M_setAdjusted b2) (by rfl) (by rfl)⟩
  by_cases c : xs (ix (oN i + (1 : Int32))) = 0
  · rw [if_pos c]
    simp only [c, if_pos, chk_t hc]
    exact key 0 (Or.inl rfl)
  · rw [if_neg c]
    simp only [c, if_false, chk_t hc]
    exact key 1 (Or.inr rfl)
theorem k_958 (h : RI M M) (hL : i + 6 ≤ L) (hL2 : L < 2147483648) : Tn (f_W_law_958 L xs r23 (oN i) M) r23 i := by
  unfold f_W_law_958 f_W_law_999
  obtain ⟨c, M1, v, M2, e1, e2, e3, e4, e5⟩ := W_undo h
  rw [e1, bn2_s, e2, bn2_s]
  unfold f_M_thrown
  rw [bn_s, if_pos e3, go_L]
  refine ⟨M2, ?_, e5⟩
  by_cases c0 : c = 0
  · rw [if_pos c0, e4 c0, if_pos (cmp_0 _)]
  · rw [if_neg c0]
theorem k_1002 (h : RI M M) (hL : i + 6 ≤ L) (hL2 : L < 2147483648) : Tn (f_W_law_1002 L xs r23 (oN i) M) r23 i := by
  unfold f_W_law_1002 f_W_law_1055
  obtain ⟨c, M1, v, M2, e1, e2, e3, e4, e5⟩ := W_save h (xs (ix (oN i + (1 : Int32))))
  have hc1 : iin (oN i + (1 : Int32)) L := ix_L hL hL2 1 (by decide)
  rw [chk_t hc1, e1, bn2_s, e2, bn2_s]
  unfold f_M_thrown
  rw [bn_s, if_pos e3, go_L]
  refine ⟨M2, ?_, e5⟩
  by_cases c0 : c = 0
  · rw [if_pos c0, e4 c0, if_pos (cmp_0 _)]
  · rw [if_neg c0]
theorem k_1058 (h : RI M M) (hL : i + 6 ≤ L) (hL2 : L < 2147483648) : Tn (f_W_law_1058 L xs r23 (oN i) M) r23 i := by
  unfold f_W_law_1058 f_W_law_1111
  obtain ⟨c, M1, v, M2, e1, e2, e3, e4, e5⟩ := W_restore h (xs (ix (oN i + (1 : Int32))))
  have hc1 : iin (oN i + (1 : Int32)) L := ix_L hL hL2 1 (by decide)
  rw [chk_t hc1, e1, bn2_s, e2, bn2_s]
  unfold f_M_thrown
  rw [bn_s, if_pos e3, go_L]
  refine ⟨M2, ?_, e5⟩
  by_cases c0 : c = 0
  · rw [if_pos c0, e4 c0, if_pos (cmp_0 _)]
  · rw [if_neg c0]
theorem k_1114 (h : RI M M) (hL : i + 6 ≤ L) (hL2 : L < 2147483648) : Tn (f_W_law_1114 L xs r23 (oN i) M) r23 i := by
  unfold f_W_law_1114
  obtain ⟨v, N1, b1, b2, b3⟩ := s_legCount h
  rw [b1, bn_s, b2, bn2_s, if_pos rfl, go_L]
  exact ⟨N1, rfl, b3.close (fr_M_legCount b2) (by rfl) (by rfl)⟩
theorem k_1127 (h : RI M M) (hL : i + 6 ≤ L) (hL2 : L < 2147483648) : Tn (f_W_law_1127 L xs r23 (oN i) M) r23 i := by
  unfold f_W_law_1127
  obtain ⟨v, N1, b1, b2, b3⟩ := s_stationCount h
  rw [b1, bn_s, b2, bn2_s, if_pos rfl, go_L]
  exact ⟨N1, rfl, b3.close (fr_M_stationCount b2) (by rfl) (by rfl)⟩
theorem k_1140 (h : RI M M) (hL : i + 6 ≤ L) (hL2 : L < 2147483648) : Tn (f_W_law_1140 L xs r23 (oN i) M) r23 i := by
  unfold f_W_law_1140
  obtain ⟨v, N1, b1, b2, b3⟩ := s_wear h
  rw [b1, bn_s, b2, bn2_s, if_pos rfl, go_L]
  exact ⟨N1, rfl, b3.close (fr_M_wear b2) (by rfl) (by rfl)⟩
theorem k_1153 (h : RI M M) (hL : i + 6 ≤ L) (hL2 : L < 2147483648) : Tn (f_W_law_1153 L xs r23 (oN i) M) r23 i := by
  unfold f_W_law_1153
  obtain ⟨v, N1, b1, b2, b3⟩ := s_pace h
  rw [b1, bn_s, b2, bn2_s, if_pos rfl, go_L]
  exact ⟨N1, rfl, b3.close (fr_M_pace b2) (by rfl) (by rfl)⟩
theorem k_1166 (h : RI M M) (hL : i + 6 ≤ L) (hL2 : L < 2147483648) : Tn (f_W_law_1166 L xs r23 (oN i) M) r23 i := by
  unfold f_W_law_1166
  obtain ⟨v, N1, b1, b2, b3⟩ := s_undoableChanges h
  rw [b1, bn_s, b2, bn2_s, if_pos rfl, go_L]
  exact ⟨N1, rfl, b3.close (fr_M_undoableChanges b2) (by rfl) (by rfl)⟩
theorem k_1179 (h : RI M M) (hL : i + 6 ≤ L) (hL2 : L < 2147483648) : Tn (f_W_law_1179 L xs r23 (oN i) M) r23 i := by
  unfold f_W_law_1179
  obtain ⟨v, N1, b1, b2, b3⟩ := s_isAdjusted h
  rw [b1, bn_s, b2, bn2_s, if_pos rfl, go_L]
  exact ⟨N1, rfl, b3.close (fr_M_isAdjusted b2) (by rfl) (by rfl)⟩
theorem k_1192 (h : RI M M) (hL : i + 6 ≤ L) (hL2 : L < 2147483648) : Tn (f_W_law_1192 L xs r23 (oN i) M) r23 i := by
  unfold f_W_law_1192 f_W_law_1245
  obtain ⟨c, M1, v, M2, e1, e2, e3, e4, e5⟩ := W_bearing h (xs (ix (oN i + (1 : Int32))))
  have hc1 : iin (oN i + (1 : Int32)) L := ix_L hL hL2 1 (by decide)
  rw [chk_t hc1, e1, bn2_s, e2, bn2_s]
  unfold f_M_thrown
  rw [bn_s, if_pos e3, go_L]
  refine ⟨M2, ?_, e5⟩
  by_cases c0 : c = 0
  · rw [if_pos c0, e4 c0, if_pos (cmp_0 _)]
  · rw [if_neg c0]
theorem k_1248 (h : RI M M) (hL : i + 6 ≤ L) (hL2 : L < 2147483648) : Tn (f_W_law_1248 L xs r23 (oN i) M) r23 i := by
  unfold f_W_law_1248 f_W_law_1301
  obtain ⟨c, M1, v, M2, e1, e2, e3, e4, e5⟩ := W_pins h (xs (ix (oN i + (1 : Int32))))
  have hc1 : iin (oN i + (1 : Int32)) L := ix_L hL hL2 1 (by decide)
  rw [chk_t hc1, e1, bn2_s, e2, bn2_s]
  unfold f_M_thrown
  rw [bn_s, if_pos e3, go_L]
  refine ⟨M2, ?_, e5⟩
  by_cases c0 : c = 0
  · rw [if_pos c0, e4 c0, if_pos (cmp_0 _)]
  · rw [if_neg c0]
theorem k_1304 (h : RI M M) (hL : i + 6 ≤ L) (hL2 : L < 2147483648) : Tn (f_W_law_1304 L xs r23 (oN i) M) r23 i := by
  unfold f_W_law_1304 f_W_law_1357
  obtain ⟨c, M1, v, M2, e1, e2, e3, e4, e5⟩ := W_droppedPins h (xs (ix (oN i + (1 : Int32))))
  have hc1 : iin (oN i + (1 : Int32)) L := ix_L hL hL2 1 (by decide)
  rw [chk_t hc1, e1, bn2_s, e2, bn2_s]
  unfold f_M_thrown
  rw [bn_s, if_pos e3, go_L]
  refine ⟨M2, ?_, e5⟩
  by_cases c0 : c = 0
  · rw [if_pos c0, e4 c0, if_pos (cmp_0 _)]
  · rw [if_neg c0]
theorem k_1360 (h : RI M M) (hL : i + 6 ≤ L) (hL2 : L < 2147483648) : Tn (f_W_law_1360 L xs r23 (oN i) M) r23 i := by
  unfold f_W_law_1360 f_W_law_1413
  obtain ⟨c, M1, v, M2, e1, e2, e3, e4, e5⟩ := W_readLength h (xs (ix (oN i + (1 : Int32))))
  have hc1 : iin (oN i + (1 : Int32)) L := ix_L hL hL2 1 (by decide)
  rw [chk_t hc1, e1, bn2_s, e2, bn2_s]
  unfold f_M_thrown
  rw [bn_s, if_pos e3, go_L]
  refine ⟨M2, ?_, e5⟩
  by_cases c0 : c = 0
  · rw [if_pos c0, e4 c0, if_pos (cmp_0 _)]
  · rw [if_neg c0]
theorem k_1416 (h : RI M M) (hL : i + 6 ≤ L) (hL2 : L < 2147483648) : Tn (f_W_law_1416 L xs r23 (oN i) M) r23 i := by
  unfold f_W_law_1416 f_W_law_1469
  obtain ⟨c, M1, v, M2, e1, e2, e3, e4, e5⟩ := W_slopeLength h (xs (ix (oN i + (1 : Int32))))
  have hc1 : iin (oN i + (1 : Int32)) L := ix_L hL hL2 1 (by decide)
  rw [chk_t hc1, e1, bn2_s, e2, bn2_s]
  unfold f_M_thrown
  rw [bn_s, if_pos e3, go_L]
  refine ⟨M2, ?_, e5⟩
  by_cases c0 : c = 0
  · rw [if_pos c0, e4 c0, if_pos (cmp_0 _)]
  · rw [if_neg c0]
theorem k_1472 (h : RI M M) (hL : i + 6 ≤ L) (hL2 : L < 2147483648) : Tn (f_W_law_1472 L xs r23 (oN i) M) r23 i := by
  unfold f_W_law_1472 f_W_law_1525
  obtain ⟨c, M1, v, M2, e1, e2, e3, e4, e5⟩ := W_horizontalLength h (xs (ix (oN i + (1 : Int32))))
  have hc1 : iin (oN i + (1 : Int32)) L := ix_L hL hL2 1 (by decide)
  rw [chk_t hc1, e1, bn2_s, e2, bn2_s]
  unfold f_M_thrown
  rw [bn_s, if_pos e3, go_L]
  refine ⟨M2, ?_, e5⟩
  by_cases c0 : c = 0
  · rw [if_pos c0, e4 c0, if_pos (cmp_0 _)]
  · rw [if_neg c0]
theorem k_1528 (h : RI M M) (hL : i + 6 ≤ L) (hL2 : L < 2147483648) : Tn (f_W_law_1528 L xs r23 (oN i) M) r23 i := by
  unfold f_W_law_1528 f_W_law_1581
  obtain ⟨c, M1, v, M2, e1, e2, e3, e4, e5⟩ := W_eastStep h (xs (ix (oN i + (1 : Int32))))
  have hc1 : iin (oN i + (1 : Int32)) L := ix_L hL hL2 1 (by decide)
  rw [chk_t hc1, e1, bn2_s, e2, bn2_s]
  unfold f_M_thrown
  rw [bn_s, if_pos e3, go_L]
  refine ⟨M2, ?_, e5⟩
  by_cases c0 : c = 0
  · rw [if_pos c0, e4 c0, if_pos (cmp_0 _)]
  · rw [if_neg c0]
theorem k_1584 (h : RI M M) (hL : i + 6 ≤ L) (hL2 : L < 2147483648) : Tn (f_W_law_1584 L xs r23 (oN i) M) r23 i := by
  unfold f_W_law_1584 f_W_law_1637
  obtain ⟨c, M1, v, M2, e1, e2, e3, e4, e5⟩ := W_northStep h (xs (ix (oN i + (1 : Int32))))
  have hc1 : iin (oN i + (1 : Int32)) L := ix_L hL hL2 1 (by decide)
  rw [chk_t hc1, e1, bn2_s, e2, bn2_s]
  unfold f_M_thrown
  rw [bn_s, if_pos e3, go_L]
  refine ⟨M2, ?_, e5⟩
  by_cases c0 : c = 0
  · rw [if_pos c0, e4 c0, if_pos (cmp_0 _)]
  · rw [if_neg c0]
theorem k_1640 (h : RI M M) (hL : i + 6 ≤ L) (hL2 : L < 2147483648) : Tn (f_W_law_1640 L xs r23 (oN i) M) r23 i := by
  unfold f_W_law_1640 f_W_law_1693
  obtain ⟨c, M1, v, M2, e1, e2, e3, e4, e5⟩ := W_tallies h (xs (ix (oN i + (1 : Int32))))
  have hc1 : iin (oN i + (1 : Int32)) L := ix_L hL hL2 1 (by decide)
  rw [chk_t hc1, e1, bn2_s, e2, bn2_s]
  unfold f_M_thrown
  rw [bn_s, if_pos e3, go_L]
  refine ⟨M2, ?_, e5⟩
  by_cases c0 : c = 0
  · rw [if_pos c0, e4 c0, if_pos (cmp_0 _)]
  · rw [if_neg c0]
theorem k_1696 (h : RI M M) (hL : i + 6 ≤ L) (hL2 : L < 2147483648) : Tn (f_W_law_1696 L xs r23 (oN i) M) r23 i := by
  unfold f_W_law_1696 f_W_law_1750 f_W_law_1756
  obtain ⟨c, M1, v, M2, e1, e2, e3, e4, e5⟩ := W_isBog h (xs (ix (oN i + (1 : Int32))))
  have hc : iin (oN i + (1 : Int32)) L := ix_L hL hL2 1 (by decide)
  rw [chk_t hc, e1, bn2_s, e2, bn2_s]
  unfold f_M_thrown
  rw [bn_s, if_pos e3, go_L]
  refine ⟨M2, ?_, e5⟩
  by_cases c0 : c = 0
  · rw [if_pos c0, e4 c0]
    by_cases v0 : v = 0
    · rw [if_pos v0, if_pos v0, if_pos (cmp_0 _)]
    · rw [if_neg v0, if_neg v0, if_pos (cmp_0 _)]
  · rw [if_neg c0]
theorem k_1759 (h : RI M M) (hL : i + 6 ≤ L) (hL2 : L < 2147483648) : Tn (f_W_law_1759 L xs r23 (oN i) M) r23 i := by
  unfold f_W_law_1759 f_W_law_1824
  obtain ⟨c, M1, v, M2, e1, e2, e3, e4, e5⟩ := W_nameByte h (xs (ix (oN i + (1 : Int32)))) (xs (ix (oN i + (2 : Int32))))
  have hc1 : iin (oN i + (1 : Int32)) L := ix_L hL hL2 1 (by decide)
  have hc2 : iin (oN i + (2 : Int32)) L := ix_L hL hL2 2 (by decide)
  rw [chk_t hc1, chk_t hc2, e1, bn2_s, e2, bn2_s]
  unfold f_M_thrown
  rw [bn_s, if_pos e3, go_L]
  refine ⟨M2, ?_, e5⟩
  by_cases c0 : c = 0
  · rw [if_pos c0, e4 c0, if_pos (cmp_0 _)]
  · rw [if_neg c0]
theorem k_1827 (h : RI M M) (hL : i + 6 ≤ L) (hL2 : L < 2147483648) : Tn (f_W_law_1827 L xs r23 (oN i) M) r23 i := by
  unfold f_W_law_1827
  obtain ⟨v, N1, b1, b2, b3⟩ := s_findLeg h
  rw [b1, bn_s, b2, bn2_s, if_pos rfl, go_L]
  exact ⟨N1, rfl, b3.close (fr_M_findLeg b2) (by rfl) (by rfl)⟩
theorem k_1840 (h : RI M M) (hL : i + 6 ≤ L) (hL2 : L < 2147483648) : Tn (f_W_law_1840 L xs r23 (oN i) M) r23 i := by
  unfold f_W_law_1840 f_W_law_1893
  obtain ⟨c, M1, v, M2, e1, e2, e3, e4, e5⟩ := W_rawEast h (xs (ix (oN i + (1 : Int32))))
  have hc1 : iin (oN i + (1 : Int32)) L := ix_L hL hL2 1 (by decide)
  rw [chk_t hc1, e1, bn2_s, e2, bn2_s]
  unfold f_M_thrown
  rw [bn_s, if_pos e3, go_L]
  refine ⟨M2, ?_, e5⟩
  by_cases c0 : c = 0
  · rw [if_pos c0, e4 c0, if_pos (cmp_0 _)]
  · rw [if_neg c0]
theorem k_1896 (h : RI M M) (hL : i + 6 ≤ L) (hL2 : L < 2147483648) : Tn (f_W_law_1896 L xs r23 (oN i) M) r23 i := by
  unfold f_W_law_1896 f_W_law_1949
  obtain ⟨c, M1, v, M2, e1, e2, e3, e4, e5⟩ := W_rawNorth h (xs (ix (oN i + (1 : Int32))))
  have hc1 : iin (oN i + (1 : Int32)) L := ix_L hL hL2 1 (by decide)
  rw [chk_t hc1, e1, bn2_s, e2, bn2_s]
  unfold f_M_thrown
  rw [bn_s, if_pos e3, go_L]
  refine ⟨M2, ?_, e5⟩
  by_cases c0 : c = 0
  · rw [if_pos c0, e4 c0, if_pos (cmp_0 _)]
  · rw [if_neg c0]
theorem k_1952 (h : RI M M) (hL : i + 6 ≤ L) (hL2 : L < 2147483648) : Tn (f_W_law_1952 L xs r23 (oN i) M) r23 i := by
  unfold f_W_law_1952 f_W_law_2005
  obtain ⟨c, M1, v, M2, e1, e2, e3, e4, e5⟩ := W_east h (xs (ix (oN i + (1 : Int32))))
  have hc1 : iin (oN i + (1 : Int32)) L := ix_L hL hL2 1 (by decide)
  rw [chk_t hc1, e1, bn2_s, e2, bn2_s]
  unfold f_M_thrown
  rw [bn_s, if_pos e3, go_L]
  refine ⟨M2, ?_, e5⟩
  by_cases c0 : c = 0
  · rw [if_pos c0, e4 c0, if_pos (cmp_0 _)]
  · rw [if_neg c0]
theorem k_2008 (h : RI M M) (hL : i + 6 ≤ L) (hL2 : L < 2147483648) : Tn (f_W_law_2008 L xs r23 (oN i) M) r23 i := by
  unfold f_W_law_2008 f_W_law_2061
  obtain ⟨c, M1, v, M2, e1, e2, e3, e4, e5⟩ := W_north h (xs (ix (oN i + (1 : Int32))))
  have hc1 : iin (oN i + (1 : Int32)) L := ix_L hL hL2 1 (by decide)
  rw [chk_t hc1, e1, bn2_s, e2, bn2_s]
  unfold f_M_thrown
  rw [bn_s, if_pos e3, go_L]
  refine ⟨M2, ?_, e5⟩
  by_cases c0 : c = 0
  · rw [if_pos c0, e4 c0, if_pos (cmp_0 _)]
  · rw [if_neg c0]
theorem k_2064 (h : RI M M) (hL : i + 6 ≤ L) (hL2 : L < 2147483648) : Tn (f_W_law_2064 L xs r23 (oN i) M) r23 i := by
  unfold f_W_law_2064 f_W_law_2117
  obtain ⟨c, M1, v, M2, e1, e2, e3, e4, e5⟩ := W_run h (xs (ix (oN i + (1 : Int32))))
  have hc1 : iin (oN i + (1 : Int32)) L := ix_L hL hL2 1 (by decide)
  rw [chk_t hc1, e1, bn2_s, e2, bn2_s]
  unfold f_M_thrown
  rw [bn_s, if_pos e3, go_L]
  refine ⟨M2, ?_, e5⟩
  by_cases c0 : c = 0
  · rw [if_pos c0, e4 c0, if_pos (cmp_0 _)]
  · rw [if_neg c0]
theorem k_2120 (h : RI M M) (hL : i + 6 ≤ L) (hL2 : L < 2147483648) : Tn (f_W_law_2120 L xs r23 (oN i) M) r23 i := by
  unfold f_W_law_2120 f_W_law_2173
  obtain ⟨c, M1, v, M2, e1, e2, e3, e4, e5⟩ := W_distanceFromStart h (xs (ix (oN i + (1 : Int32))))
  have hc1 : iin (oN i + (1 : Int32)) L := ix_L hL hL2 1 (by decide)
  rw [chk_t hc1, e1, bn2_s, e2, bn2_s]
  unfold f_M_thrown
  rw [bn_s, if_pos e3, go_L]
  refine ⟨M2, ?_, e5⟩
  by_cases c0 : c = 0
  · rw [if_pos c0, e4 c0, if_pos (cmp_0 _)]
  · rw [if_neg c0]
theorem k_2176 (h : RI M M) (hL : i + 6 ≤ L) (hL2 : L < 2147483648) : Tn (f_W_law_2176 L xs r23 (oN i) M) r23 i := by
  unfold f_W_law_2176
  obtain ⟨v0, M1, N0, a1, -, -⟩ := s_perimeter h
  have fC := fr_C_perimeter a1
  obtain ⟨v, M1', N1, b1, b2, b3⟩ := s_perimeter (h.opn fC (by rfl))
  have he := Option.some.inj (b1.symm.trans a1)
  obtain rfl : v = v0 := congrArg Prod.fst he
  obtain rfl : M1' = M1 := congrArg Prod.snd he
  rw [a1, bn2_s, b2, bn2_s, if_pos (rfl), go_L]
  exact ⟨N1, rfl, b3.close (fr_M_perimeter b2) (by rfl) (by rfl)⟩
theorem k_2189 (h : RI M M) (hL : i + 6 ≤ L) (hL2 : L < 2147483648) : Tn (f_W_law_2189 L xs r23 (oN i) M) r23 i := by
  unfold f_W_law_2189
  obtain ⟨v0, M1, N0, a1, -, -⟩ := s_closingEast h
  have fC := fr_C_closingEast a1
  obtain ⟨v, M1', N1, b1, b2, b3⟩ := s_closingEast (h.opn fC (by rfl))
  have he := Option.some.inj (b1.symm.trans a1)
  obtain rfl : v = v0 := congrArg Prod.fst he
  obtain rfl : M1' = M1 := congrArg Prod.snd he
  rw [a1, bn2_s, b2, bn2_s, if_pos (rfl), go_L]
  exact ⟨N1, rfl, b3.close (fr_M_closingEast b2) (by rfl) (by rfl)⟩
theorem k_2202 (h : RI M M) (hL : i + 6 ≤ L) (hL2 : L < 2147483648) : Tn (f_W_law_2202 L xs r23 (oN i) M) r23 i := by
  unfold f_W_law_2202
  obtain ⟨v0, M1, N0, a1, -, -⟩ := s_closingNorth h
  have fC := fr_C_closingNorth a1
  obtain ⟨v, M1', N1, b1, b2, b3⟩ := s_closingNorth (h.opn fC (by rfl))
  have he := Option.some.inj (b1.symm.trans a1)
  obtain rfl : v = v0 := congrArg Prod.fst he
  obtain rfl : M1' = M1 := congrArg Prod.snd he
  rw [a1, bn2_s, b2, bn2_s, if_pos (rfl), go_L]
  exact ⟨N1, rfl, b3.close (fr_M_closingNorth b2) (by rfl) (by rfl)⟩
theorem k_2215 (h : RI M M) (hL : i + 6 ≤ L) (hL2 : L < 2147483648) : Tn (f_W_law_2215 L xs r23 (oN i) M) r23 i := by
  unfold f_W_law_2215
  obtain ⟨v0, M1, N0, a1, -, -⟩ := s_misclosure h
  have fC := fr_C_misclosure a1
  obtain ⟨v, M1', N1, b1, b2, b3⟩ := s_misclosure (h.opn fC (by rfl))
  have he := Option.some.inj (b1.symm.trans a1)
  obtain rfl : v = v0 := congrArg Prod.fst he
  obtain rfl : M1' = M1 := congrArg Prod.snd he
  rw [a1, bn2_s, b2, bn2_s, if_pos (rfl), go_L]
  exact ⟨N1, rfl, b3.close (fr_M_misclosure b2) (by rfl) (by rfl)⟩
theorem k_2228 (h : RI M M) (hL : i + 6 ≤ L) (hL2 : L < 2147483648) : Tn (f_W_law_2228 L xs r23 (oN i) M) r23 i := by
  unfold f_W_law_2228
  obtain ⟨v0, M1, N0, a1, -, -⟩ := s_precision h
  have fC := fr_C_precision a1
  obtain ⟨v, M1', N1, b1, b2, b3⟩ := s_precision (h.opn fC (by rfl))
  have he := Option.some.inj (b1.symm.trans a1)
  obtain rfl : v = v0 := congrArg Prod.fst he
  obtain rfl : M1' = M1 := congrArg Prod.snd he
  rw [a1, bn2_s, b2, bn2_s, if_pos (rfl), go_L]
  exact ⟨N1, rfl, b3.close (fr_M_precision b2) (by rfl) (by rfl)⟩
theorem k_2241 (h : RI M M) (hL : i + 6 ≤ L) (hL2 : L < 2147483648) : Tn (f_W_law_2241 L xs r23 (oN i) M) r23 i := by
  unfold f_W_law_2241
  obtain ⟨v0, M1, N0, a1, -, -⟩ := s_width h
  have fC := fr_C_width a1
  obtain ⟨v, M1', N1, b1, b2, b3⟩ := s_width (h.opn fC (by rfl))
  have he := Option.some.inj (b1.symm.trans a1)
  obtain rfl : v = v0 := congrArg Prod.fst he
  obtain rfl : M1' = M1 := congrArg Prod.snd he
  rw [a1, bn2_s, b2, bn2_s, if_pos (rfl), go_L]
  exact ⟨N1, rfl, b3.close (fr_M_width b2) (by rfl) (by rfl)⟩
theorem k_2254 (h : RI M M) (hL : i + 6 ≤ L) (hL2 : L < 2147483648) : Tn (f_W_law_2254 L xs r23 (oN i) M) r23 i := by
  unfold f_W_law_2254
  obtain ⟨v0, M1, N0, a1, -, -⟩ := s_height h
  have fC := fr_C_height a1
  obtain ⟨v, M1', N1, b1, b2, b3⟩ := s_height (h.opn fC (by rfl))
  have he := Option.some.inj (b1.symm.trans a1)
  obtain rfl : v = v0 := congrArg Prod.fst he
  obtain rfl : M1' = M1 := congrArg Prod.snd he
  rw [a1, bn2_s, b2, bn2_s, if_pos (rfl), go_L]
  exact ⟨N1, rfl, b3.close (fr_M_height b2) (by rfl) (by rfl)⟩
theorem k_2267 (h : RI M M) (hL : i + 6 ≤ L) (hL2 : L < 2147483648) : Tn (f_W_law_2267 L xs r23 (oN i) M) r23 i := by
  unfold f_W_law_2267
  obtain ⟨v0, M1, N0, a1, -, -⟩ := s_farthestStation h
  have fC := fr_C_farthestStation a1
  obtain ⟨v, M1', N1, b1, b2, b3⟩ := s_farthestStation (h.opn fC (by rfl))
  have he := Option.some.inj (b1.symm.trans a1)
  obtain rfl : v = v0 := congrArg Prod.fst he
  obtain rfl : M1' = M1 := congrArg Prod.snd he
  rw [a1, bn2_s, b2, bn2_s, if_pos (rfl), go_L]
  exact ⟨N1, rfl, b3.close (fr_M_farthestStation b2) (by rfl) (by rfl)⟩
theorem k_2280 (h : RI M M) (hL : i + 6 ≤ L) (hL2 : L < 2147483648) : Tn (f_W_law_2280 L xs r23 (oN i) M) r23 i := by
  unfold f_W_law_2280
  obtain ⟨v, N1, b1, b2, b3⟩ := s_longestLeg h
  rw [b1, bn_s, b2, bn2_s, if_pos rfl, go_L]
  exact ⟨N1, rfl, b3.close (fr_M_longestLeg b2) (by rfl) (by rfl)⟩
theorem k_2293 (h : RI M M) (hL : i + 6 ≤ L) (hL2 : L < 2147483648) : Tn (f_W_law_2293 L xs r23 (oN i) M) r23 i := by
  unfold f_W_law_2293
  obtain ⟨v, N1, b1, b2, b3⟩ := s_bogLength h
  rw [b1, bn_s, b2, bn2_s, if_pos rfl, go_L]
  exact ⟨N1, rfl, b3.close (fr_M_bogLength b2) (by rfl) (by rfl)⟩
theorem k_2306 (h : RI M M) (hL : i + 6 ≤ L) (hL2 : L < 2147483648) : Tn (f_W_law_2306 L xs r23 (oN i) M) r23 i := by
  unfold f_W_law_2306
  obtain ⟨v0, M1, N0, a1, -, -⟩ := s_area h
  have fC := fr_C_area a1
  obtain ⟨v, M1', N1, b1, b2, b3⟩ := s_area (h.opn fC (by rfl))
  have he := Option.some.inj (b1.symm.trans a1)
  obtain rfl : v = v0 := congrArg Prod.fst he
  obtain rfl : M1' = M1 := congrArg Prod.snd he
  rw [a1, bn2_s, b2, bn2_s, if_pos (cmp_0 _), go_L]
  exact ⟨N1, rfl, b3.close (fr_M_area b2) (by rfl) (by rfl)⟩
theorem k_2320 (h : RI M M) (hL : i + 6 ≤ L) (hL2 : L < 2147483648) : Tn (f_W_law_2320 L xs r23 (oN i) M) r23 i := by
  unfold f_W_law_2320 f_W_law_2373
  obtain ⟨c, M1, v, M2, e1, e2, e3, e4, e5⟩ := W_misclosureIfDropped h (xs (ix (oN i + (1 : Int32))))
  have hc1 : iin (oN i + (1 : Int32)) L := ix_L hL hL2 1 (by decide)
  rw [chk_t hc1, e1, bn2_s, e2, bn2_s]
  unfold f_M_thrown
  rw [bn_s, if_pos e3, go_L]
  refine ⟨M2, ?_, e5⟩
  by_cases c0 : c = 0
  · rw [if_pos c0, e4 c0, if_pos (cmp_0 _)]
  · rw [if_neg c0]
theorem k_2376 (h : RI M M) (hL : i + 6 ≤ L) (hL2 : L < 2147483648) : Tn (f_W_law_2376 L xs r23 (oN i) M) r23 i := by
  unfold f_W_law_2376
  obtain ⟨v0, M1, N0, a1, -, -⟩ := s_suspectLeg h
  have fC := fr_C_suspectLeg a1
  obtain ⟨v, M1', N1, b1, b2, b3⟩ := s_suspectLeg (h.opn fC (by rfl))
  have he := Option.some.inj (b1.symm.trans a1)
  obtain rfl : v = v0 := congrArg Prod.fst he
  obtain rfl : M1' = M1 := congrArg Prod.snd he
  rw [a1, bn2_s, b2, bn2_s, if_pos (rfl), go_L]
  exact ⟨N1, rfl, b3.close (fr_M_suspectLeg b2) (by rfl) (by rfl)⟩
theorem k_2389 (h : RI M M) (hL : i + 6 ≤ L) (hL2 : L < 2147483648) : Tn (f_W_law_2389 L xs r23 (oN i) M) r23 i := by
  unfold f_W_law_2389
  obtain ⟨v, N1, b1, b2, b3⟩ := s_bestPace h
  rw [b1, bn_s, b2, bn2_s, if_pos rfl, go_L]
  exact ⟨N1, rfl, b3.close (fr_M_bestPace b2) (by rfl) (by rfl)⟩
theorem k_2402 (h : RI M M) (hL : i + 6 ≤ L) (hL2 : L < 2147483648) : Tn (f_W_law_2402 L xs r23 (oN i) M) r23 i := by
  unfold f_W_law_2402
  obtain ⟨v0, M1, N0, a1, -, -⟩ := s_inconsistencies h
  have fC := fr_C_inconsistencies a1
  obtain ⟨v, M1', N1, b1, b2, b3⟩ := s_inconsistencies (h.opn fC (by rfl))
  have he := Option.some.inj (b1.symm.trans a1)
  obtain rfl : v = v0 := congrArg Prod.fst he
  obtain rfl : M1' = M1 := congrArg Prod.snd he
  rw [a1, bn2_s, b2, bn2_s, if_pos (rfl), go_L]
  exact ⟨N1, rfl, b3.close (fr_M_inconsistencies b2) (by rfl) (by rfl)⟩
theorem k_2415 (h : RI M M) (hL : i + 6 ≤ L) (hL2 : L < 2147483648) : Tn (f_W_law_2415 L xs r23 (oN i) M) r23 i := by
  unfold f_W_law_2415 f_W_law_2451 f_W_law_2453
  obtain ⟨v0, M1, N0, a1, -, -⟩ := s_meanLeg h
  have fC := fr_C_meanLeg a1
  obtain ⟨v, M1', N1, b1, b2, b3⟩ := s_meanLeg (h.opn fC (by rfl))
  have he := Option.some.inj (b1.symm.trans a1)
  obtain rfl : v = v0 := congrArg Prod.fst he
  obtain rfl : M1' = M1 := congrArg Prod.snd he
  rw [a1, bn2_s, b2, bn2_s, go_L]
  refine ⟨N1, ?_, b3.close (fr_M_meanLeg b2) (by rfl) (by rfl)⟩
  split
  · rfl
  · rfl
theorem k_2456 (h : RI M M) (hL : i + 6 ≤ L) (hL2 : L < 2147483648) : Tn (f_W_law_2456 L xs r23 (oN i) M) r23 i := by
  unfold f_W_law_2456 f_W_law_2494 f_W_law_2496
  obtain ⟨v0, M1, N0, a1, -, -, -⟩ := s_bogShare h
  have fC := fr_C_bogShare a1
  obtain ⟨v, M1', N1, b1, b2, b3, c9⟩ := s_bogShare (h.opn fC (by rfl))
  have he := Option.some.inj (b1.symm.trans a1)
  obtain rfl : v = v0 := congrArg Prod.fst he
  obtain rfl : M1' = M1 := congrArg Prod.snd he
  rw [a1, bn2_s, chkC_p c9, b2, bn2_s, chkC_p c9, go_L]
  refine ⟨N1, ?_, b3.close (fr_M_bogShare b2) (by rfl) (by rfl)⟩
  split
  · rfl
  · rfl
theorem k_2499 (h : RI M M) (hL : i + 6 ≤ L) (hL2 : L < 2147483648) : Tn (f_W_law_2499 L xs r23 (oN i) M) r23 i := by
  unfold f_W_law_2499
  obtain ⟨v0, M1, N0, a1, -, -⟩ := s_writeStations h
  have fC := fr_C_writeStations a1
  obtain ⟨v, M1', N1, b1, b2, b3⟩ := s_writeStations (h.opn fC (by rfl))
  have he := Option.some.inj (b1.symm.trans a1)
  obtain rfl : v = v0 := congrArg Prod.fst he
  obtain rfl : M1' = M1 := congrArg Prod.snd he
  rw [a1, bn2_s, b2, bn2_s, if_pos (rfl), go_L]
  exact ⟨N1, rfl, b3.close (fr_M_writeStations b2) (by rfl) (by rfl)⟩
theorem k_2512 (h : RI M M) (hL : i + 6 ≤ L) (hL2 : L < 2147483648) : Tn (f_W_law_2512 L xs r23 (oN i) M) r23 i := by
  unfold f_W_law_2512
  obtain ⟨v, N1, b1, b2, b3⟩ := s_outputByte h (xs (ix (oN i + (1 : Int32))))
  have hc1 : iin (oN i + (1 : Int32)) L := ix_L hL hL2 1 (by decide)
  rw [chk_t hc1, b1, bn_s, b2, bn2_s, if_pos rfl, go_L]
  exact ⟨N1, rfl, b3.close (fr_M_outputByte b2) (by rfl) (by rfl)⟩
theorem an_63 (z : Int32) : ∃ k, k < 64 ∧ z &&& 63 = oN k := by
  refine ⟨z.toBitVec.toNat % 64, by omega, ?_⟩
  apply Int32.toBitVec_inj.mp
  show z.toBitVec &&& BitVec.ofNat 32 63 = BitVec.ofNat 32 (z.toBitVec.toNat % 64)
  apply BitVec.eq_of_toNat_eq
  rw [BitVec.toNat_and, BitVec.toNat_ofNat, BitVec.toNat_ofNat, show 63 % 2 ^ 32 = 2 ^ 6 - 1 from rfl, Nat.and_two_pow_sub_one_eq_mod]
  omega
end LWC
theorem law_turns (L : Nat) (xs : Nat → Int32) (hL3 : L < 2147483000) : ∀ (n i : Nat) (M : Mm), RI M M → i ≤ L + 6 → (L + 6 - i) / 6 < n → ∃ M9, f_W_law_23 L xs n (oN i) M = some (1, M9) := by
  have hL2 : L < 2147483648 := by omega
  intro n
  induction n with
  | zero => intro i M h hi hn; omega
  | succ n ih =>
    intro i M h hi6 hn
    rw [f_W_law_23]
    by_cases hi : i + 6 ≤ L
    case neg =>
      have hc : oN L - 6 < oN i := by
        rw [Int32.lt_iff_toInt_lt, i_sub (by rw [oN_int hL2, show (6 : Int32).toInt = 6 from rfl]; omega), oN_int hL2, oN_int (by omega), show (6 : Int32).toInt = 6 from rfl]
        omega
      have hc : Int32.ofNat L - 6 < oN i := hc
      rw [if_pos hc]
      exact ⟨M, rfl⟩
    have hc : ¬ oN L - 6 < oN i := by
      rw [Int32.lt_iff_toInt_lt, i_sub (by rw [oN_int hL2, show (6 : Int32).toInt = 6 from rfl]; omega), oN_int hL2, oN_int (by omega), show (6 : Int32).toInt = 6 from rfl]
      omega
    have hc : ¬ Int32.ofNat L - 6 < oN i := hc
    rw [if_neg hc, chk_t ((iin_oN (by omega)).mpr (by omega))]
    have fin : ∀ {o : Option (Int32 × Mm)}, Tn o (f_W_law_23 L xs n) i → ∃ M9, o = some (1, M9) := by
      rintro o ⟨M2, e, h2⟩
      obtain ⟨M9, e9⟩ := ih (i + 6) M2 h2 (by omega) (by omega)
      exact ⟨M9, e.trans e9⟩
    obtain ⟨q, hq64, hq⟩ := an_63 (xs (ix (oN i)))
    by_cases c : (xs (ix (oN i)) &&& (63 : Int32)).toInt < 0 ∨ 59 < (xs (ix (oN i)) &&& (63 : Int32)).toInt
    · rw [if_pos c]; exact fin (k_0 h)
    rw [if_neg c]
    by_cases c0 : xs (ix (oN i)) &&& (63 : Int32) = 0
    · rw [if_pos c0]; exact fin (k_296 h hi hL2)
    rw [if_neg c0]
    by_cases c1 : xs (ix (oN i)) &&& (63 : Int32) = 1
    · rw [if_pos c1]; exact fin (k_369 h hi hL2)
    rw [if_neg c1]
    by_cases c2 : xs (ix (oN i)) &&& (63 : Int32) = 2
    · rw [if_pos c2]; exact fin (k_425 h hi hL2)
    rw [if_neg c2]
    by_cases c3 : xs (ix (oN i)) &&& (63 : Int32) = 3
    · rw [if_pos c3]; exact fin (k_438 h hi hL2)
    rw [if_neg c3]
    by_cases c4 : xs (ix (oN i)) &&& (63 : Int32) = 4
    · rw [if_pos c4]; exact fin (k_451 h hi hL2)
    rw [if_neg c4]
    by_cases c5 : xs (ix (oN i)) &&& (63 : Int32) = 5
    · rw [if_pos c5]; exact fin (k_464 h hi hL2)
    rw [if_neg c5]
    by_cases c6 : xs (ix (oN i)) &&& (63 : Int32) = 6
    · rw [if_pos c6]; exact fin (k_477 h hi hL2)
    rw [if_neg c6]
    by_cases c7 : xs (ix (oN i)) &&& (63 : Int32) = 7
    · rw [if_pos c7]; exact fin (k_581 h hi hL2)
    rw [if_neg c7]
    by_cases c8 : xs (ix (oN i)) &&& (63 : Int32) = 8
    · rw [if_pos c8]; exact fin (k_649 h hi hL2)
    rw [if_neg c8]
    by_cases c9 : xs (ix (oN i)) &&& (63 : Int32) = 9
    · rw [if_pos c9]; exact fin (k_705 h hi hL2)
    rw [if_neg c9]
    by_cases c10 : xs (ix (oN i)) &&& (63 : Int32) = 10
    · rw [if_pos c10]; exact fin (k_761 h hi hL2)
    rw [if_neg c10]
    by_cases c11 : xs (ix (oN i)) &&& (63 : Int32) = 11
    · rw [if_pos c11]; exact fin (k_805 h hi hL2)
    rw [if_neg c11]
    by_cases c12 : xs (ix (oN i)) &&& (63 : Int32) = 12
    · rw [if_pos c12]; exact fin (k_861 h hi hL2)
    rw [if_neg c12]
    by_cases c13 : xs (ix (oN i)) &&& (63 : Int32) = 13
    · rw [if_pos c13]; exact fin (k_917 h hi hL2)
    rw [if_neg c13]
    by_cases c14 : xs (ix (oN i)) &&& (63 : Int32) = 14
    · rw [if_pos c14]; exact fin (k_958 h hi hL2)
    rw [if_neg c14]
    by_cases c15 : xs (ix (oN i)) &&& (63 : Int32) = 15
    · rw [if_pos c15]; exact fin (k_1002 h hi hL2)
    rw [if_neg c15]
    by_cases c16 : xs (ix (oN i)) &&& (63 : Int32) = 16
    · rw [if_pos c16]; exact fin (k_1058 h hi hL2)
    rw [if_neg c16]
    by_cases c17 : xs (ix (oN i)) &&& (63 : Int32) = 17
    · rw [if_pos c17]; exact fin (k_1114 h hi hL2)
    rw [if_neg c17]
    by_cases c18 : xs (ix (oN i)) &&& (63 : Int32) = 18
    · rw [if_pos c18]; exact fin (k_1127 h hi hL2)
    rw [if_neg c18]
    by_cases c19 : xs (ix (oN i)) &&& (63 : Int32) = 19
    · rw [if_pos c19]; exact fin (k_1140 h hi hL2)
    rw [if_neg c19]
    by_cases c20 : xs (ix (oN i)) &&& (63 : Int32) = 20
    · rw [if_pos c20]; exact fin (k_1153 h hi hL2)
    rw [if_neg c20]
    by_cases c21 : xs (ix (oN i)) &&& (63 : Int32) = 21
    · rw [if_pos c21]; exact fin (k_1166 h hi hL2)
    rw [if_neg c21]
    by_cases c22 : xs (ix (oN i)) &&& (63 : Int32) = 22
    · rw [if_pos c22]; exact fin (k_1179 h hi hL2)
    rw [if_neg c22]
    by_cases c23 : xs (ix (oN i)) &&& (63 : Int32) = 23
    · rw [if_pos c23]; exact fin (k_1192 h hi hL2)
    rw [if_neg c23]
    by_cases c24 : xs (ix (oN i)) &&& (63 : Int32) = 24
    · rw [if_pos c24]; exact fin (k_1248 h hi hL2)
    rw [if_neg c24]
    by_cases c25 : xs (ix (oN i)) &&& (63 : Int32) = 25
    · rw [if_pos c25]; exact fin (k_1304 h hi hL2)
    rw [if_neg c25]
    by_cases c26 : xs (ix (oN i)) &&& (63 : Int32) = 26
    · rw [if_pos c26]; exact fin (k_1360 h hi hL2)
    rw [if_neg c26]
    by_cases c27 : xs (ix (oN i)) &&& (63 : Int32) = 27
    · rw [if_pos c27]; exact fin (k_1416 h hi hL2)
    rw [if_neg c27]
    by_cases c28 : xs (ix (oN i)) &&& (63 : Int32) = 28
    · rw [if_pos c28]; exact fin (k_1472 h hi hL2)
    rw [if_neg c28]
    by_cases c29 : xs (ix (oN i)) &&& (63 : Int32) = 29
    · rw [if_pos c29]; exact fin (k_1528 h hi hL2)
    rw [if_neg c29]
    by_cases c30 : xs (ix (oN i)) &&& (63 : Int32) = 30
    · rw [if_pos c30]; exact fin (k_1584 h hi hL2)
    rw [if_neg c30]
    by_cases c31 : xs (ix (oN i)) &&& (63 : Int32) = 31
    · rw [if_pos c31]; exact fin (k_1640 h hi hL2)
    rw [if_neg c31]
    by_cases c32 : xs (ix (oN i)) &&& (63 : Int32) = 32
    · rw [if_pos c32]; exact fin (k_1696 h hi hL2)
    rw [if_neg c32]
    by_cases c33 : xs (ix (oN i)) &&& (63 : Int32) = 33
    · rw [if_pos c33]; exact fin (k_1759 h hi hL2)
    rw [if_neg c33]
    by_cases c34 : xs (ix (oN i)) &&& (63 : Int32) = 34
    · rw [if_pos c34]; exact fin (k_1827 h hi hL2)
    rw [if_neg c34]
    by_cases c35 : xs (ix (oN i)) &&& (63 : Int32) = 35
    · rw [if_pos c35]; exact fin (k_1840 h hi hL2)
    rw [if_neg c35]
    by_cases c36 : xs (ix (oN i)) &&& (63 : Int32) = 36
    · rw [if_pos c36]; exact fin (k_1896 h hi hL2)
    rw [if_neg c36]
    by_cases c37 : xs (ix (oN i)) &&& (63 : Int32) = 37
    · rw [if_pos c37]; exact fin (k_1952 h hi hL2)
    rw [if_neg c37]
    by_cases c38 : xs (ix (oN i)) &&& (63 : Int32) = 38
    · rw [if_pos c38]; exact fin (k_2008 h hi hL2)
    rw [if_neg c38]
    by_cases c39 : xs (ix (oN i)) &&& (63 : Int32) = 39
    · rw [if_pos c39]; exact fin (k_2064 h hi hL2)
    rw [if_neg c39]
    by_cases c40 : xs (ix (oN i)) &&& (63 : Int32) = 40
    · rw [if_pos c40]; exact fin (k_2120 h hi hL2)
    rw [if_neg c40]
    by_cases c41 : xs (ix (oN i)) &&& (63 : Int32) = 41
    · rw [if_pos c41]; exact fin (k_2176 h hi hL2)
    rw [if_neg c41]
    by_cases c42 : xs (ix (oN i)) &&& (63 : Int32) = 42
    · rw [if_pos c42]; exact fin (k_2189 h hi hL2)
    rw [if_neg c42]
    by_cases c43 : xs (ix (oN i)) &&& (63 : Int32) = 43
    · rw [if_pos c43]; exact fin (k_2202 h hi hL2)
    rw [if_neg c43]
    by_cases c44 : xs (ix (oN i)) &&& (63 : Int32) = 44
    · rw [if_pos c44]; exact fin (k_2215 h hi hL2)
    rw [if_neg c44]
    by_cases c45 : xs (ix (oN i)) &&& (63 : Int32) = 45
    · rw [if_pos c45]; exact fin (k_2228 h hi hL2)
    rw [if_neg c45]
    by_cases c46 : xs (ix (oN i)) &&& (63 : Int32) = 46
    · rw [if_pos c46]; exact fin (k_2241 h hi hL2)
    rw [if_neg c46]
    by_cases c47 : xs (ix (oN i)) &&& (63 : Int32) = 47
    · rw [if_pos c47]; exact fin (k_2254 h hi hL2)
    rw [if_neg c47]
    by_cases c48 : xs (ix (oN i)) &&& (63 : Int32) = 48
    · rw [if_pos c48]; exact fin (k_2267 h hi hL2)
    rw [if_neg c48]
    by_cases c49 : xs (ix (oN i)) &&& (63 : Int32) = 49
    · rw [if_pos c49]; exact fin (k_2280 h hi hL2)
    rw [if_neg c49]
    by_cases c50 : xs (ix (oN i)) &&& (63 : Int32) = 50
    · rw [if_pos c50]; exact fin (k_2293 h hi hL2)
    rw [if_neg c50]
    by_cases c51 : xs (ix (oN i)) &&& (63 : Int32) = 51
    · rw [if_pos c51]; exact fin (k_2306 h hi hL2)
    rw [if_neg c51]
    by_cases c52 : xs (ix (oN i)) &&& (63 : Int32) = 52
    · rw [if_pos c52]; exact fin (k_2320 h hi hL2)
    rw [if_neg c52]
    by_cases c53 : xs (ix (oN i)) &&& (63 : Int32) = 53
    · rw [if_pos c53]; exact fin (k_2376 h hi hL2)
    rw [if_neg c53]
    by_cases c54 : xs (ix (oN i)) &&& (63 : Int32) = 54
    · rw [if_pos c54]; exact fin (k_2389 h hi hL2)
    rw [if_neg c54]
    by_cases c55 : xs (ix (oN i)) &&& (63 : Int32) = 55
    · rw [if_pos c55]; exact fin (k_2402 h hi hL2)
    rw [if_neg c55]
    by_cases c56 : xs (ix (oN i)) &&& (63 : Int32) = 56
    · rw [if_pos c56]; exact fin (k_2415 h hi hL2)
    rw [if_neg c56]
    by_cases c57 : xs (ix (oN i)) &&& (63 : Int32) = 57
    · rw [if_pos c57]; exact fin (k_2456 h hi hL2)
    rw [if_neg c57]
    by_cases c58 : xs (ix (oN i)) &&& (63 : Int32) = 58
    · rw [if_pos c58]; exact fin (k_2499 h hi hL2)
    rw [if_neg c58]
    by_cases c59 : xs (ix (oN i)) &&& (63 : Int32) = 59
    · rw [if_pos c59]; exact fin (k_2512 h hi hL2)
    rw [if_neg c59]
    exfalso
    apply c
    rw [hq, oN_int (by omega)]
    have d0 : q ≠ 0 := fun z => c0 (by rw [hq, z]; rfl)
    have d1 : q ≠ 1 := fun z => c1 (by rw [hq, z]; rfl)
    have d2 : q ≠ 2 := fun z => c2 (by rw [hq, z]; rfl)
    have d3 : q ≠ 3 := fun z => c3 (by rw [hq, z]; rfl)
    have d4 : q ≠ 4 := fun z => c4 (by rw [hq, z]; rfl)
    have d5 : q ≠ 5 := fun z => c5 (by rw [hq, z]; rfl)
    have d6 : q ≠ 6 := fun z => c6 (by rw [hq, z]; rfl)
    have d7 : q ≠ 7 := fun z => c7 (by rw [hq, z]; rfl)
    have d8 : q ≠ 8 := fun z => c8 (by rw [hq, z]; rfl)
    have d9 : q ≠ 9 := fun z => c9 (by rw [hq, z]; rfl)
    have d10 : q ≠ 10 := fun z => c10 (by rw [hq, z]; rfl)
    have d11 : q ≠ 11 := fun z => c11 (by rw [hq, z]; rfl)
    have d12 : q ≠ 12 := fun z => c12 (by rw [hq, z]; rfl)
    have d13 : q ≠ 13 := fun z => c13 (by rw [hq, z]; rfl)
    have d14 : q ≠ 14 := fun z => c14 (by rw [hq, z]; rfl)
    have d15 : q ≠ 15 := fun z => c15 (by rw [hq, z]; rfl)
    have d16 : q ≠ 16 := fun z => c16 (by rw [hq, z]; rfl)
    have d17 : q ≠ 17 := fun z => c17 (by rw [hq, z]; rfl)
    have d18 : q ≠ 18 := fun z => c18 (by rw [hq, z]; rfl)
    have d19 : q ≠ 19 := fun z => c19 (by rw [hq, z]; rfl)
    have d20 : q ≠ 20 := fun z => c20 (by rw [hq, z]; rfl)
    have d21 : q ≠ 21 := fun z => c21 (by rw [hq, z]; rfl)
    have d22 : q ≠ 22 := fun z => c22 (by rw [hq, z]; rfl)
    have d23 : q ≠ 23 := fun z => c23 (by rw [hq, z]; rfl)
    have d24 : q ≠ 24 := fun z => c24 (by rw [hq, z]; rfl)
    have d25 : q ≠ 25 := fun z => c25 (by rw [hq, z]; rfl)
    have d26 : q ≠ 26 := fun z => c26 (by rw [hq, z]; rfl)
    have d27 : q ≠ 27 := fun z => c27 (by rw [hq, z]; rfl)
    have d28 : q ≠ 28 := fun z => c28 (by rw [hq, z]; rfl)
    have d29 : q ≠ 29 := fun z => c29 (by rw [hq, z]; rfl)
    have d30 : q ≠ 30 := fun z => c30 (by rw [hq, z]; rfl)
    have d31 : q ≠ 31 := fun z => c31 (by rw [hq, z]; rfl)
    have d32 : q ≠ 32 := fun z => c32 (by rw [hq, z]; rfl)
    have d33 : q ≠ 33 := fun z => c33 (by rw [hq, z]; rfl)
    have d34 : q ≠ 34 := fun z => c34 (by rw [hq, z]; rfl)
    have d35 : q ≠ 35 := fun z => c35 (by rw [hq, z]; rfl)
    have d36 : q ≠ 36 := fun z => c36 (by rw [hq, z]; rfl)
    have d37 : q ≠ 37 := fun z => c37 (by rw [hq, z]; rfl)
    have d38 : q ≠ 38 := fun z => c38 (by rw [hq, z]; rfl)
    have d39 : q ≠ 39 := fun z => c39 (by rw [hq, z]; rfl)
    have d40 : q ≠ 40 := fun z => c40 (by rw [hq, z]; rfl)
    have d41 : q ≠ 41 := fun z => c41 (by rw [hq, z]; rfl)
    have d42 : q ≠ 42 := fun z => c42 (by rw [hq, z]; rfl)
    have d43 : q ≠ 43 := fun z => c43 (by rw [hq, z]; rfl)
    have d44 : q ≠ 44 := fun z => c44 (by rw [hq, z]; rfl)
    have d45 : q ≠ 45 := fun z => c45 (by rw [hq, z]; rfl)
    have d46 : q ≠ 46 := fun z => c46 (by rw [hq, z]; rfl)
    have d47 : q ≠ 47 := fun z => c47 (by rw [hq, z]; rfl)
    have d48 : q ≠ 48 := fun z => c48 (by rw [hq, z]; rfl)
    have d49 : q ≠ 49 := fun z => c49 (by rw [hq, z]; rfl)
    have d50 : q ≠ 50 := fun z => c50 (by rw [hq, z]; rfl)
    have d51 : q ≠ 51 := fun z => c51 (by rw [hq, z]; rfl)
    have d52 : q ≠ 52 := fun z => c52 (by rw [hq, z]; rfl)
    have d53 : q ≠ 53 := fun z => c53 (by rw [hq, z]; rfl)
    have d54 : q ≠ 54 := fun z => c54 (by rw [hq, z]; rfl)
    have d55 : q ≠ 55 := fun z => c55 (by rw [hq, z]; rfl)
    have d56 : q ≠ 56 := fun z => c56 (by rw [hq, z]; rfl)
    have d57 : q ≠ 57 := fun z => c57 (by rw [hq, z]; rfl)
    have d58 : q ≠ 58 := fun z => c58 (by rw [hq, z]; rfl)
    have d59 : q ≠ 59 := fun z => c59 (by rw [hq, z]; rfl)
    omega
theorem law_ok (L : Nat) (xs : Nat → Int32) (hL : L ≤ 3072) : ∃ M9, f_W_law L xs (fun _ _ => 0) = some (1, M9) := by
  have z0 : zr (fun _ _ => 0) 0 = (fun _ _ => 0) := by
    funext b k
    unfold zr
    split <;> rfl
  obtain ⟨M4, e4, hm⟩ := s_init
  obtain ⟨M12, e12, hR⟩ := hm (zr M4 134) (fun k => by unfold zr; rw [if_pos rfl])
  have f12 : Fr [(134, 147, 0)] M4 M12 := (fr_zr rfl (by intro _; rfl)).tr ((fr_M_init e12).up (by rfl))
  have h12 := hR.close f12 (by rfl) (by rfl)
  have f17 : Fr [(148, 148, 0)] M12 (zr M12 148) := fr_zr rfl (by intro _; rfl)
  have h17 : RI (zr M12 148) (zr M12 148) := (h12.opn f17 (by rfl)).close f17 (by rfl) (by rfl)
  obtain ⟨M9, e9⟩ := law_turns L xs (by omega) fl 0 (zr M12 148) h17 (by omega) (by unfold fl; omega)
  refine ⟨M9, ?_⟩
  unfold f_W_law
  rw [bm_s, z0, e4, bn_s, bm_s, e12, bn_s, bm_s]
  exact e9
