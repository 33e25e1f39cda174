/-! their proofs -/
set_option maxRecDepth 100000 in
theorem t_S_init {G : Gt} {B : Bag} (hB : BF G I_S_init B) {L : List (Nat × Nat)} {a : Nat} (hs_a : isSv a) (hL : ∀ q ∈ L, q.1 ≠ a)  {M9 : Mm}  {M : Mm} (h : f_S_init a M = some M9) : AW G I_S_init B (QM G I_S_init B (.inl none) M9 (ph L (a + 10))) 0 0 0 [(0, .ref a)] [] M (ph ((a, 0) :: L) (a + 1)) := by
  unfold f_S_init at h
  refine a_aload_n (j := 0) hB e_S_init_0 rfl rfl ?_
  refine a_objInit hB ol_S_3 oi_i oi_c e_S_init_1 (by decide) (Nat.le_of_ble_eq_true rfl) ?_
  refine a_aload_n (j := 0) hB e_S_init_4 rfl rfl ?_
  refine a_bipush (v := 20) hB e_S_init_5 bp_20 ?_
  obtain ⟨M7, hM7, h⟩ := bm_i h
  refine a_newa (a := a + 1 + 0) (t := 10) (t0 := 0) (atype := .int) hB e_S_init_7 rfl ac_int rfl (by decide) (by decide) rfl rfl (by have := (isSv_k a hs_a).2.2.2.2; omega) (sv_ki hs_a 0 (by decide) (by decide)) (by decide) (by rw [sv_ln hs_a 0 (by decide)]; decide) (by rw [sv_ln hs_a 0 (by decide)]; decide) rfl (by rw [sv_ln hs_a 0 (by decide)]) (by decide) (by decide) ?_
  refine a_ph (φ' := (ph ((a, 0) :: L) (a + 1 + 1))) (ph_nA0 (no_sv hs_a 0 (by decide))) rfl ?_
  refine a_mem hM7 ?_
  refine a_putR (r := a + 1 + 0) (k := 0) hB rfl e_S_init_9 ff_S_9 rfl (ph_lt (by omega)) (sv_kd hs_a) (sv_t hs_a 0 (by decide)) ?_
  refine a_ph (φ' := (ph ((a, 1) :: L) (a + 1 + 1))) (ph_nS hL (gap_sv hs_a (by decide)) (by decide)) rfl ?_
  refine a_aload_n (j := 0) hB e_S_init_12 rfl rfl ?_
  refine a_bipush (v := 20) hB e_S_init_13 bp_20 ?_
  obtain ⟨M15, hM15, h⟩ := bm_i h
  refine a_newa (a := a + 1 + 1) (t := 10) (t0 := 0) (atype := .int) hB e_S_init_15 rfl ac_int rfl (by decide) (by decide) rfl rfl (by have := (isSv_k a hs_a).2.2.2.2; omega) (sv_ki hs_a 1 (by decide) (by decide)) (by decide) (by rw [sv_ln hs_a 1 (by decide)]; decide) (by rw [sv_ln hs_a 1 (by decide)]; decide) rfl (by rw [sv_ln hs_a 1 (by decide)]) (by decide) (by decide) ?_
  refine a_ph (φ' := (ph ((a, 1) :: L) (a + 1 + 2))) (ph_nA0 (no_sv hs_a 1 (by decide))) rfl ?_
  refine a_mem hM15 ?_
  refine a_putR (r := a + 1 + 1) (k := 1) hB rfl e_S_init_17 ff_S_15 rfl (ph_lt (by omega)) (sv_kd hs_a) (sv_t hs_a 1 (by decide)) ?_
  refine a_ph (φ' := (ph ((a, 2) :: L) (a + 1 + 2))) (ph_nS hL (gap_sv hs_a (by decide)) (by decide)) rfl ?_
  refine a_aload_n (j := 0) hB e_S_init_20 rfl rfl ?_
  refine a_bipush (v := 20) hB e_S_init_21 bp_20 ?_
  obtain ⟨M23, hM23, h⟩ := bm_i h
  refine a_newa (a := a + 1 + 2) (t := 12) (t0 := 2) (atype := .boolean) hB e_S_init_23 rfl ac_boolean rfl (by decide) (by decide) rfl rfl (by have := (isSv_k a hs_a).2.2.2.2; omega) (sv_kz hs_a) (by decide) (by rw [sv_ln hs_a 2 (by decide)]; decide) (by rw [sv_ln hs_a 2 (by decide)]; decide) rfl (by rw [sv_ln hs_a 2 (by decide)]) (by decide) (by decide) ?_
  refine a_ph (φ' := (ph ((a, 2) :: L) (a + 1 + 3))) (ph_nA0 (no_sv hs_a 2 (by decide))) rfl ?_
  refine a_mem hM23 ?_
  refine a_putR (r := a + 1 + 2) (k := 2) hB rfl e_S_init_25 ff_S_18 rfl (ph_lt (by omega)) (sv_kd hs_a) (sv_t hs_a 2 (by decide)) ?_
  refine a_ph (φ' := (ph ((a, 3) :: L) (a + 1 + 3))) (ph_nS hL (gap_sv hs_a (by decide)) (by decide)) rfl ?_
  refine a_aload_n (j := 0) hB e_S_init_28 rfl rfl ?_
  refine a_bipush (v := 20) hB e_S_init_29 bp_20 ?_
  obtain ⟨M31, hM31, h⟩ := bm_i h
  refine a_newa (a := a + 1 + 3) (t := 10) (t0 := 0) (atype := .int) hB e_S_init_31 rfl ac_int rfl (by decide) (by decide) rfl rfl (by have := (isSv_k a hs_a).2.2.2.2; omega) (sv_ki hs_a 3 (by decide) (by decide)) (by decide) (by rw [sv_ln hs_a 3 (by decide)]; decide) (by rw [sv_ln hs_a 3 (by decide)]; decide) rfl (by rw [sv_ln hs_a 3 (by decide)]) (by decide) (by decide) ?_
  refine a_ph (φ' := (ph ((a, 3) :: L) (a + 1 + 4))) (ph_nA0 (no_sv hs_a 3 (by decide))) rfl ?_
  refine a_mem hM31 ?_
  refine a_putR (r := a + 1 + 3) (k := 3) hB rfl e_S_init_33 ff_S_22 rfl (ph_lt (by omega)) (sv_kd hs_a) (sv_t hs_a 3 (by decide)) ?_
  refine a_ph (φ' := (ph ((a, 4) :: L) (a + 1 + 4))) (ph_nS hL (gap_sv hs_a (by decide)) (by decide)) rfl ?_
  refine a_aload_n (j := 0) hB e_S_init_36 rfl rfl ?_
  refine a_bipush (v := 20) hB e_S_init_37 bp_20 ?_
  obtain ⟨M39, hM39, h⟩ := bm_i h
  refine a_newa (a := a + 1 + 4) (t := 10) (t0 := 0) (atype := .int) hB e_S_init_39 rfl ac_int rfl (by decide) (by decide) rfl rfl (by have := (isSv_k a hs_a).2.2.2.2; omega) (sv_ki hs_a 4 (by decide) (by decide)) (by decide) (by rw [sv_ln hs_a 4 (by decide)]; decide) (by rw [sv_ln hs_a 4 (by decide)]; decide) rfl (by rw [sv_ln hs_a 4 (by decide)]) (by decide) (by decide) ?_
  refine a_ph (φ' := (ph ((a, 4) :: L) (a + 1 + 5))) (ph_nA0 (no_sv hs_a 4 (by decide))) rfl ?_
  refine a_mem hM39 ?_
  refine a_putR (r := a + 1 + 4) (k := 4) hB rfl e_S_init_41 ff_S_25 rfl (ph_lt (by omega)) (sv_kd hs_a) (sv_t hs_a 4 (by decide)) ?_
  refine a_ph (φ' := (ph ((a, 5) :: L) (a + 1 + 5))) (ph_nS hL (gap_sv hs_a (by decide)) (by decide)) rfl ?_
  refine a_aload_n (j := 0) hB e_S_init_44 rfl rfl ?_
  refine a_bipush (v := 20) hB e_S_init_45 bp_20 ?_
  obtain ⟨M47, hM47, h⟩ := bm_i h
  refine a_newa (a := a + 1 + 5) (t := 10) (t0 := 0) (atype := .int) hB e_S_init_47 rfl ac_int rfl (by decide) (by decide) rfl rfl (by have := (isSv_k a hs_a).2.2.2.2; omega) (sv_ki hs_a 5 (by decide) (by decide)) (by decide) (by rw [sv_ln hs_a 5 (by decide)]; decide) (by rw [sv_ln hs_a 5 (by decide)]; decide) rfl (by rw [sv_ln hs_a 5 (by decide)]) (by decide) (by decide) ?_
  refine a_ph (φ' := (ph ((a, 5) :: L) (a + 1 + 6))) (ph_nA0 (no_sv hs_a 5 (by decide))) rfl ?_
  refine a_mem hM47 ?_
  refine a_putR (r := a + 1 + 5) (k := 5) hB rfl e_S_init_49 ff_S_28 rfl (ph_lt (by omega)) (sv_kd hs_a) (sv_t hs_a 5 (by decide)) ?_
  refine a_ph (φ' := (ph ((a, 6) :: L) (a + 1 + 6))) (ph_nS hL (gap_sv hs_a (by decide)) (by decide)) rfl ?_
  refine a_aload_n (j := 0) hB e_S_init_52 rfl rfl ?_
  refine a_bipush (v := 20) hB e_S_init_53 bp_20 ?_
  obtain ⟨M55, hM55, h⟩ := bm_i h
  refine a_newa (a := a + 1 + 6) (t := 10) (t0 := 0) (atype := .int) hB e_S_init_55 rfl ac_int rfl (by decide) (by decide) rfl rfl (by have := (isSv_k a hs_a).2.2.2.2; omega) (sv_ki hs_a 6 (by decide) (by decide)) (by decide) (by rw [sv_ln hs_a 6 (by decide)]; decide) (by rw [sv_ln hs_a 6 (by decide)]; decide) rfl (by rw [sv_ln hs_a 6 (by decide)]) (by decide) (by decide) ?_
  refine a_ph (φ' := (ph ((a, 6) :: L) (a + 1 + 7))) (ph_nA0 (no_sv hs_a 6 (by decide))) rfl ?_
  refine a_mem hM55 ?_
  refine a_putR (r := a + 1 + 6) (k := 6) hB rfl e_S_init_57 ff_S_31 rfl (ph_lt (by omega)) (sv_kd hs_a) (sv_t hs_a 6 (by decide)) ?_
  refine a_ph (φ' := (ph ((a, 7) :: L) (a + 1 + 7))) (ph_nS hL (gap_sv hs_a (by decide)) (by decide)) rfl ?_
  refine a_aload_n (j := 0) hB e_S_init_60 rfl rfl ?_
  refine a_bipush (v := 20) hB e_S_init_61 bp_20 ?_
  obtain ⟨M63, hM63, h⟩ := bm_i h
  refine a_newa (a := a + 1 + 7) (t := 10) (t0 := 0) (atype := .int) hB e_S_init_63 rfl ac_int rfl (by decide) (by decide) rfl rfl (by have := (isSv_k a hs_a).2.2.2.2; omega) (sv_ki hs_a 7 (by decide) (by decide)) (by decide) (by rw [sv_ln hs_a 7 (by decide)]; decide) (by rw [sv_ln hs_a 7 (by decide)]; decide) rfl (by rw [sv_ln hs_a 7 (by decide)]) (by decide) (by decide) ?_
  refine a_ph (φ' := (ph ((a, 7) :: L) (a + 1 + 8))) (ph_nA0 (no_sv hs_a 7 (by decide))) rfl ?_
  refine a_mem hM63 ?_
  refine a_putR (r := a + 1 + 7) (k := 7) hB rfl e_S_init_65 ff_S_34 rfl (ph_lt (by omega)) (sv_kd hs_a) (sv_t hs_a 7 (by decide)) ?_
  refine a_ph (φ' := (ph ((a, 8) :: L) (a + 1 + 8))) (ph_nS hL (gap_sv hs_a (by decide)) (by decide)) rfl ?_
  refine a_aload_n (j := 0) hB e_S_init_68 rfl rfl ?_
  refine a_bipush (v := 20) hB e_S_init_69 bp_20 ?_
  obtain ⟨M71, hM71, h⟩ := bm_i h
  refine a_newa (a := a + 1 + 8) (t := 10) (t0 := 0) (atype := .int) hB e_S_init_71 rfl ac_int rfl (by decide) (by decide) rfl rfl (by have := (isSv_k a hs_a).2.2.2.2; omega) (sv_ki hs_a 8 (by decide) (by decide)) (by decide) (by rw [sv_ln hs_a 8 (by decide)]; decide) (by rw [sv_ln hs_a 8 (by decide)]; decide) rfl (by rw [sv_ln hs_a 8 (by decide)]) (by decide) (by decide) ?_
  refine a_ph (φ' := (ph ((a, 8) :: L) (a + 1 + 9))) (ph_nA0 (no_sv hs_a 8 (by decide))) rfl ?_
  refine a_mem hM71 ?_
  refine a_putR (r := a + 1 + 8) (k := 8) hB rfl e_S_init_73 ff_S_37 rfl (ph_lt (by omega)) (sv_kd hs_a) (sv_t hs_a 8 (by decide)) ?_
  refine a_ph (φ' := (ph ((a, 9) :: L) (a + 1 + 9))) (ph_nS hL (gap_sv hs_a (by decide)) (by decide)) rfl ?_
  refine a_ph (φ' := (ph L (a + 1 + 9))) (ph_done (dn_sv hs_a (by decide))) rfl ?_
  refine a_aload_n (j := 0) hB e_S_init_76 rfl rfl ?_
  refine a_bipush (v := 100) hB e_S_init_77 bp_100 ?_
  obtain ⟨M79, hM79, h⟩ := bm_i h
  refine a_putI (k := 11) hB e_S_init_79 fw_S_40 (ph_lt (by omega)) (sv_kd hs_a) (sv_t0 hs_a 2 (by decide)) ?_
  refine a_mem hM79 ?_
  cases h
  exact a_vret hB rfl e_S_init_82 (by decide) (by decide)
set_option maxRecDepth 100000 in
theorem c_S_init {G : Gt} (hG : GOK G) {L : List (Nat × Nat)} {a : Nat} (hs_a : isSv a) (hL : ∀ q ∈ L, q.1 ≠ a) {M : Mm}  {M9 : Mm} (h : f_S_init a M = some M9) : CT G I_S_init [.ref a] M (ph ((a, 0) :: L) (a + 1)) (.inl none) M9 (ph L (a + 10)) :=
  ct_of hG (by decide) (Nat.le_of_ble_eq_true rfl) (fun B hB => t_S_init hB  hs_a hL h)
set_option maxRecDepth 100000 in
theorem t_L_init {G : Gt} {B : Bag} (hB : BF G I_L_init B)     {M9 : Mm}  {M : Mm} (h : f_L_init M = some M9) : AW G I_L_init B (QM G I_L_init B (.inl none) M9 (ph [(1, 0), (0, 0)] (4))) 0 0 0 [(0, .ref 2)] [] M (ph [(2, 0), (1, 0), (0, 0)] (3)) := by
  unfold f_L_init at h
  refine a_aload_n (j := 0) hB e_L_init_0 rfl rfl ?_
  refine a_objInit hB ol_L_3 oi_i oi_c e_L_init_1 (by decide) (Nat.le_of_ble_eq_true rfl) ?_
  refine a_aload_n (j := 0) hB e_L_init_4 rfl rfl ?_
  refine a_sipush (v := 900) hB e_L_init_5 sp_900 ?_
  obtain ⟨M8, hM8, h⟩ := bm_i h
  refine a_newa (a := 3) (t := 11) (t0 := 1) (atype := .byte) hB e_L_init_8 rfl ac_byte rfl (by decide) (by decide) rfl rfl (by decide) kk_3 (by decide) (by decide) (by rw [ll_3]; decide) rfl (by rw [ll_3]) (by decide) (by decide) ?_
  refine a_ph (φ' := (ph [(2, 0), (1, 0), (0, 0)] (4))) (ph_nA0 (no_t 3 (by decide))) rfl ?_
  refine a_mem hM8 ?_
  refine a_putR (r := 3) (k := 0) hB rfl e_L_init_10 ff_L_9 rfl (ph_lt (by decide)) kk_2 tt_2_0 ?_
  refine a_ph (φ' := (ph [(2, 1), (1, 0), (0, 0)] (4))) (ph_nS (by decide) (by decide) (by decide)) rfl ?_
  refine a_ph (φ' := (ph [(1, 0), (0, 0)] (4))) (ph_done (tg_ge (by decide))) rfl ?_
  cases h
  exact a_vret hB rfl e_L_init_13 (by decide) (by decide)
set_option maxRecDepth 100000 in
theorem c_L_init {G : Gt} (hG : GOK G)    {M : Mm}  {M9 : Mm} (h : f_L_init M = some M9) : CT G I_L_init [.ref 2] M (ph [(2, 0), (1, 0), (0, 0)] (3)) (.inl none) M9 (ph [(1, 0), (0, 0)] (4)) :=
  ct_of hG (by decide) (Nat.le_of_ble_eq_true rfl) (fun B hB => t_L_init hB   h)
set_option maxRecDepth 100000 in
theorem t_T_init {G : Gt} {B : Bag} (hB : BF G I_T_init B)     {M9 : Mm}  {M : Mm} (h : f_T_init M = some M9) : AW G I_T_init B (QM G I_T_init B (.inl none) M9 (ph [(0, 9)] (31))) 0 0 0 [(0, .ref 25)] [] M (ph [(25, 0), (0, 9)] (26)) := by
  unfold f_T_init at h
  refine a_aload_n (j := 0) hB e_T_init_0 rfl rfl ?_
  refine a_objInit hB ol_T_3 oi_i oi_c e_T_init_1 (by decide) (Nat.le_of_ble_eq_true rfl) ?_
  refine a_aload_n (j := 0) hB e_T_init_4 rfl rfl ?_
  refine a_bipush (v := 21) hB e_T_init_5 bp_21 ?_
  obtain ⟨M7, hM7, h⟩ := bm_i h
  refine a_newa (a := 26) (t := 10) (t0 := 0) (atype := .int) hB e_T_init_7 rfl ac_int rfl (by decide) (by decide) rfl rfl (by decide) kk_26 (by decide) (by decide) (by rw [ll_26]; decide) rfl (by rw [ll_26]) (by decide) (by decide) ?_
  refine a_ph (φ' := (ph [(25, 0), (0, 9)] (27))) (ph_nA0 (no_t 26 (by decide))) rfl ?_
  refine a_mem hM7 ?_
  refine a_putR (r := 26) (k := 0) hB rfl e_T_init_9 ff_T_9 rfl (ph_lt (by decide)) kk_25 tt_25_0 ?_
  refine a_ph (φ' := (ph [(25, 1), (0, 9)] (27))) (ph_nS (by decide) (by decide) (by decide)) rfl ?_
  refine a_aload_n (j := 0) hB e_T_init_12 rfl rfl ?_
  refine a_bipush (v := 21) hB e_T_init_13 bp_21 ?_
  obtain ⟨M15, hM15, h⟩ := bm_i h
  refine a_newa (a := 27) (t := 10) (t0 := 0) (atype := .int) hB e_T_init_15 rfl ac_int rfl (by decide) (by decide) rfl rfl (by decide) kk_27 (by decide) (by decide) (by rw [ll_27]; decide) rfl (by rw [ll_27]) (by decide) (by decide) ?_
  refine a_ph (φ' := (ph [(25, 1), (0, 9)] (28))) (ph_nA0 (no_t 27 (by decide))) rfl ?_
  refine a_mem hM15 ?_
  refine a_putR (r := 27) (k := 1) hB rfl e_T_init_17 ff_T_15 rfl (ph_lt (by decide)) kk_25 tt_25_1 ?_
  refine a_ph (φ' := (ph [(25, 2), (0, 9)] (28))) (ph_nS (by decide) (by decide) (by decide)) rfl ?_
  refine a_aload_n (j := 0) hB e_T_init_20 rfl rfl ?_
  refine a_bipush (v := 21) hB e_T_init_21 bp_21 ?_
  obtain ⟨M23, hM23, h⟩ := bm_i h
  refine a_newa (a := 28) (t := 10) (t0 := 0) (atype := .int) hB e_T_init_23 rfl ac_int rfl (by decide) (by decide) rfl rfl (by decide) kk_28 (by decide) (by decide) (by rw [ll_28]; decide) rfl (by rw [ll_28]) (by decide) (by decide) ?_
  refine a_ph (φ' := (ph [(25, 2), (0, 9)] (29))) (ph_nA0 (no_t 28 (by decide))) rfl ?_
  refine a_mem hM23 ?_
  refine a_putR (r := 28) (k := 2) hB rfl e_T_init_25 ff_T_18 rfl (ph_lt (by decide)) kk_25 tt_25_2 ?_
  refine a_ph (φ' := (ph [(25, 3), (0, 9)] (29))) (ph_nS (by decide) (by decide) (by decide)) rfl ?_
  refine a_aload_n (j := 0) hB e_T_init_28 rfl rfl ?_
  refine a_bipush (v := 21) hB e_T_init_29 bp_21 ?_
  obtain ⟨M31, hM31, h⟩ := bm_i h
  refine a_newa (a := 29) (t := 10) (t0 := 0) (atype := .int) hB e_T_init_31 rfl ac_int rfl (by decide) (by decide) rfl rfl (by decide) kk_29 (by decide) (by decide) (by rw [ll_29]; decide) rfl (by rw [ll_29]) (by decide) (by decide) ?_
  refine a_ph (φ' := (ph [(25, 3), (0, 9)] (30))) (ph_nA0 (no_t 29 (by decide))) rfl ?_
  refine a_mem hM31 ?_
  refine a_putR (r := 29) (k := 3) hB rfl e_T_init_33 ff_T_21 rfl (ph_lt (by decide)) kk_25 tt_25_3 ?_
  refine a_ph (φ' := (ph [(25, 4), (0, 9)] (30))) (ph_nS (by decide) (by decide) (by decide)) rfl ?_
  refine a_aload_n (j := 0) hB e_T_init_36 rfl rfl ?_
  refine a_bipush (v := 21) hB e_T_init_37 bp_21 ?_
  obtain ⟨M39, hM39, h⟩ := bm_i h
  refine a_newa (a := 30) (t := 10) (t0 := 0) (atype := .int) hB e_T_init_39 rfl ac_int rfl (by decide) (by decide) rfl rfl (by decide) kk_30 (by decide) (by decide) (by rw [ll_30]; decide) rfl (by rw [ll_30]) (by decide) (by decide) ?_
  refine a_ph (φ' := (ph [(25, 4), (0, 9)] (31))) (ph_nA0 (no_t 30 (by decide))) rfl ?_
  refine a_mem hM39 ?_
  refine a_putR (r := 30) (k := 4) hB rfl e_T_init_41 ff_T_24 rfl (ph_lt (by decide)) kk_25 tt_25_4 ?_
  refine a_ph (φ' := (ph [(25, 5), (0, 9)] (31))) (ph_nS (by decide) (by decide) (by decide)) rfl ?_
  refine a_ph (φ' := (ph [(0, 9)] (31))) (ph_done (tg_ge (by decide))) rfl ?_
  cases h
  exact a_vret hB rfl e_T_init_44 (by decide) (by decide)
set_option maxRecDepth 100000 in
theorem c_T_init {G : Gt} (hG : GOK G)    {M : Mm}  {M9 : Mm} (h : f_T_init M = some M9) : CT G I_T_init [.ref 25] M (ph [(25, 0), (0, 9)] (26)) (.inl none) M9 (ph [(0, 9)] (31)) :=
  ct_of hG (by decide) (Nat.le_of_ble_eq_true rfl) (fun B hB => t_T_init hB   h)
set_option maxRecDepth 100000 in
theorem t_I_init {G : Gt} {B : Bag} (hB : BF G I_I_init B)     {M9 : Mm}  {M : Mm} (h : f_I_init M = some M9) : AW G I_I_init B (QM G I_I_init B (.inl none) M9 (ph [(0, 0)] (14))) 0 0 0 [(0, .ref 1)] [] M (ph [(1, 0), (0, 0)] (2)) := by
  unfold f_I_init at h
  refine a_aload_n (j := 0) hB e_I_init_0 rfl rfl ?_
  refine a_objInit hB ol_I_3 oi_i oi_c e_I_init_1 (by decide) (Nat.le_of_ble_eq_true rfl) ?_
  refine a_aload_n (j := 0) hB e_I_init_4 rfl rfl ?_
  obtain ⟨M5, hM5, h⟩ := bm_i h
  refine a_new (a := 2) hB e_I_init_5 ck_1 cl_I_9 is_1 ic_X1 rfl rfl (by decide) kk_2 hd_1_2 rfl rfl (by decide) (by decide) ?_
  refine a_ph (φ' := (ph [(2, 0), (1, 0), (0, 0)] (3))) ph_nA rfl ?_
  refine a_mem hM5 ?_
  refine a_dup hB e_I_init_8 rfl ?_
  obtain ⟨M9, hr9, h⟩ := bn_i h
  refine a_ret (v := none) (M1 := M9) (φ1 := (ph [(1, 0), (0, 0)] (4))) (st1 := [.ref 2, .ref 1]) (j1 := 2) (j2 := 906) (ar_IN (As := []) (rest := [.ref 2, .ref 1]) hB (c_L_init (bf_G hB) hr9) mn_I_11 md_L_init rfl rfl (Nat.le_of_ble_eq_true rfl) rm_I_init_L_init_1_6 e_I_init_9) rfl rfl rfl ?_
  refine a_putR (r := 2) (k := 0) hB rfl e_I_init_12 ff_I_12 rfl (ph_lt (by decide)) kk_1 tt_1_0 ?_
  refine a_ph (φ' := (ph [(1, 1), (0, 0)] (4))) (ph_nS (by decide) (by decide) (by decide)) rfl ?_
  refine a_aload_n (j := 0) hB e_I_init_15 rfl rfl ?_
  obtain ⟨M16, hM16, h⟩ := bm_i h
  refine a_new (a := 4) hB e_I_init_16 ck_2 cl_I_18 is_2 ic_X2 rfl rfl (by decide) kk_4 hd_2_4 rfl rfl (by decide) (by decide) ?_
  refine a_ph (φ' := (ph [(4, 0), (1, 1), (0, 0)] (5))) ph_nA rfl ?_
  refine a_mem hM16 ?_
  refine a_dup hB e_I_init_19 rfl ?_
  obtain ⟨M20, hr20, h⟩ := bn_i h
  refine a_ret (v := none) (M1 := M20) (φ1 := (ph [(1, 1), (0, 0)] (14))) (st1 := [.ref 4, .ref 1]) (j1 := 12) (j2 := 1099) (ar_IN (As := []) (rest := [.ref 4, .ref 1]) hB ((c_S_init (a := 4) (bf_G hB) sv_4 (L := [(1, 1), (0, 0)]) (by decide) hr20)) mn_I_20 md_S_init rfl rfl (Nat.le_of_ble_eq_true rfl) rm_I_init_S_init_3_919 e_I_init_20) rfl rfl rfl ?_
  refine a_putR (r := 4) (k := 1) hB rfl e_I_init_23 ff_I_21 rfl (ph_lt (by decide)) kk_1 tt_1_1 ?_
  refine a_ph (φ' := (ph [(1, 2), (0, 0)] (14))) (ph_nS (by decide) (by decide) (by decide)) rfl ?_
  refine a_ph (φ' := (ph [(0, 0)] (14))) (ph_done (tg_ge (by decide))) rfl ?_
  refine a_aload_n (j := 0) hB e_I_init_26 rfl rfl ?_
  refine a_iconst (v := -1) hB e_I_init_27 ic_m1 ?_
  obtain ⟨M28, hM28, h⟩ := bm_i h
  refine a_putI (k := 4) hB e_I_init_28 fw_I_25 (ph_lt (by decide)) kk_1 tt_1_4 ?_
  refine a_mem hM28 ?_
  cases h
  exact a_vret hB rfl e_I_init_31 (by decide) (by decide)
set_option maxRecDepth 100000 in
theorem c_I_init {G : Gt} (hG : GOK G)    {M : Mm}  {M9 : Mm} (h : f_I_init M = some M9) : CT G I_I_init [.ref 1] M (ph [(1, 0), (0, 0)] (2)) (.inl none) M9 (ph [(0, 0)] (14)) :=
  ct_of hG (by decide) (Nat.le_of_ble_eq_true rfl) (fun B hB => t_I_init hB   h)
set_option maxRecDepth 100000 in
theorem t_C_init_233 {G : Gt} {B : Bag} (hB : BF G I_C_init B)     {M9 : Mm}  {M : Mm} (h : f_C_init_233 M = some M9) : AW G I_C_init B (QM G I_C_init B (.inl none) M9 (ph [] (134))) 133 3862 233 [] [] M (ph [] (134)) := by
  unfold f_C_init_233 at h
  cases h
  exact a_vret hB rfl e_C_init_233 (by decide) (by decide)
set_option maxRecDepth 100000 in
theorem t_C_init_190 {G : Gt} {B : Bag} (hB : BF G I_C_init B)     {M9 : Mm}  {M : Mm} (h : f_C_init_190 M = some M9) : AW G I_C_init B (QM G I_C_init B (.inl none) M9 (ph [] (134))) 133 3862 190 [(0, .ref 0)] [] M (ph [] (134)) := by
  unfold f_C_init_190 at h
  refine a_aload_n (j := 0) hB e_C_init_190 rfl rfl ?_
  refine a_getR (r := 1) (k := 0) hB e_C_init_191 fl_C_10 (ph_lt (by decide)) kk_0 tt_0_0 (by decide) ?_
  refine a_ldcS (i := 0) hB rfl e_C_init_194 ?_
  obtain ⟨r196, hr196, h⟩ := bn_i h
  refine a_ret (v := (some (.int r196))) (M1 := M) (φ1 := (ph [] (134))) (st1 := [.int r196, .ref 1]) (j1 := 133) (j2 := 3862) (ar_VS (As := []) (rest := [.ref 1]) hB (by decide) rfl (c_U_length (bf_G hB) (by decide) hr196) ml_C_69 md_U_length rfl rfl (Nat.le_of_ble_eq_true rfl) rm_C_init_U_length_133_3862 e_C_init_196) rfl rfl rfl ?_
  obtain ⟨M199, hr199, h⟩ := bn_i h
  refine a_ret (v := none) (M1 := M199) (φ1 := (ph [] (134))) (st1 := []) (j1 := 133) (j2 := 3862) (ar_V (As := [.int r196]) (rest := []) hB (c_I_begin (bf_G hB) (ph_sf (by decide)) hr199) ml_C_79 md_I_begin rc_I_begin (ph_lt (by decide)) kk_1 rfl rfl (Nat.le_of_ble_eq_true rfl) rm_C_init_I_begin_133_3862 e_C_init_199) rfl rfl rfl ?_
  refine a_aload_n (j := 0) hB e_C_init_202 rfl rfl ?_
  refine a_getR (r := 1) (k := 0) hB e_C_init_203 fl_C_10 (ph_lt (by decide)) kk_0 tt_0_0 (by decide) ?_
  obtain ⟨r206, M206, hr206, h⟩ := bn2_i h
  refine a_ret (v := (some (.int r206))) (M1 := M206) (φ1 := (ph [] (134))) (st1 := [.int r206]) (j1 := 133) (j2 := 3862) (ar_V (As := []) (rest := []) hB (c_I_readsHead (bf_G hB) (ph_sf (by decide)) hr206) ml_C_83 md_I_readsHead rc_I_readsHead (ph_lt (by decide)) kk_1 rfl rfl (Nat.le_of_ble_eq_true rfl) rm_C_init_I_readsHead_133_3862 e_C_init_206) rfl rfl rfl ?_
  refine a_if_eq (tgt := 233) hB e_C_init_209 (by decide) (fun c => ?_) (fun c => ?_)
  · have h := ip c h
    refine a_ls [] (ls' := []) rfl ?_
    exact t_C_init_233 hB h
  · have h := iq c h
    refine a_aload_n (j := 0) hB e_C_init_212 rfl rfl ?_
    refine a_getR (r := 1) (k := 0) hB e_C_init_213 fl_C_10 (ph_lt (by decide)) kk_0 tt_0_0 (by decide) ?_
    obtain ⟨r216, M216, hr216, h⟩ := bn2_i h
    refine a_ret (v := (some (.int r216))) (M1 := M216) (φ1 := (ph [] (134))) (st1 := [.int r216]) (j1 := 133) (j2 := 3862) (ar_V (As := []) (rest := []) hB (c_I_readsCommands (bf_G hB) (ph_sf (by decide)) hr216) ml_C_87 md_I_readsCommands rc_I_readsCommands (ph_lt (by decide)) kk_1 rfl rfl (Nat.le_of_ble_eq_true rfl) rm_C_init_I_readsCommands_133_3862 e_C_init_216) rfl rfl rfl ?_
    refine a_if_eq (tgt := 233) hB e_C_init_219 (by decide) (fun c => ?_) (fun c => ?_)
    · have h := ip c h
      refine a_ls [] (ls' := []) rfl ?_
      exact t_C_init_233 hB h
    · have h := iq c h
      refine a_aload_n (j := 0) hB e_C_init_222 rfl rfl ?_
      refine a_getR (r := 15) (k := 7) hB e_C_init_223 fl_C_39 (ph_lt (by decide)) kk_0 tt_0_7 (by decide) ?_
      refine a_aload_n (j := 0) hB e_C_init_226 rfl rfl ?_
      refine a_getR (r := 4) (k := 8) hB e_C_init_227 fl_C_46 (ph_lt (by decide)) kk_0 tt_0_8 (by decide) ?_
      obtain ⟨M230, hr230, h⟩ := bn_i h
      refine a_ret (v := none) (M1 := M230) (φ1 := (ph [] (134))) (st1 := []) (j1 := 133) (j2 := 3862) (ar_V (As := [.ref 4]) (rest := []) hB (c_S_copyFrom (bf_G hB) (ph_sf (by decide)) sv_15 sv_4 hr230) ml_C_90 md_S_copyFrom rc_S_copyFrom (ph_lt (by decide)) kk_15 rfl rfl (Nat.le_of_ble_eq_true rfl) rm_C_init_S_copyFrom_133_3862 e_C_init_230) rfl rfl rfl ?_
      refine a_ls [] (ls' := []) rfl ?_
      exact t_C_init_233 hB h
set_option maxRecDepth 100000 in
theorem t_C_init_155 {G : Gt} {B : Bag} (hB : BF G I_C_init B)     {M9 : Mm} : ∀ (n : Nat) (l1 : Int32) (M : Mm), f_C_init_155 n l1 M = some M9 → AW G I_C_init B (QM G I_C_init B (.inl none) M9 (ph [] (134))) 133 3862 155 [(0, .ref 0), (1, .int l1)] [] M (ph [] (134)) := by
  intro n
  induction n with
  | zero => intro l1 M h; cases h
  | succ n hr155 =>
    intro l1 M h
    rw [f_C_init_155] at h
    refine a_iload_n (j := 1) hB e_C_init_155 rfl rfl ?_
    refine a_ldcS (i := 0) hB rfl e_C_init_156 ?_
    obtain ⟨r158, hr158, h⟩ := bn_i h
    refine a_ret (v := (some (.int r158))) (M1 := M) (φ1 := (ph [] (134))) (st1 := [.int r158, .int l1]) (j1 := 133) (j2 := 3862) (ar_VS (As := []) (rest := [.int l1]) hB (by decide) rfl (c_U_length (bf_G hB) (by decide) hr158) ml_C_69 md_U_length rfl rfl (Nat.le_of_ble_eq_true rfl) rm_C_init_U_length_133_3862 e_C_init_158) rfl rfl rfl ?_
    refine a_icmp_ge (tgt := 190) hB e_C_init_161 (by decide) (fun c => ?_) (fun c => ?_)
    · have h := ip c h
      refine a_ls [0] (ls' := [(0, .ref 0)]) rfl ?_
      exact t_C_init_190 hB h
    · have h := iq c h
      refine a_iload_n (j := 1) hB e_C_init_164 rfl rfl ?_
      refine a_sipush (v := 900) hB e_C_init_165 sp_900 ?_
      refine a_icmp_ge (tgt := 190) hB e_C_init_168 (by decide) (fun c => ?_) (fun c => ?_)
      · have h := ip c h
        refine a_ls [0] (ls' := [(0, .ref 0)]) rfl ?_
        exact t_C_init_190 hB h
      · have h := iq c h
        refine a_aload_n (j := 0) hB e_C_init_171 rfl rfl ?_
        refine a_getR (r := 3) (k := 1) hB e_C_init_172 fl_C_26 (ph_lt (by decide)) kk_0 tt_0_1 (by decide) ?_
        refine a_iload_n (j := 1) hB e_C_init_175 rfl rfl ?_
        refine a_ldcS (i := 0) hB rfl e_C_init_176 ?_
        refine a_iload_n (j := 1) hB e_C_init_178 rfl rfl ?_
        obtain ⟨r179, hr179, h⟩ := bn_i h
        refine a_ret (v := (some (.int r179))) (M1 := M) (φ1 := (ph [] (134))) (st1 := [.int r179, .int l1, .ref 3]) (j1 := 133) (j2 := 3862) (ar_VS (As := [.int l1]) (rest := [.int l1, .ref 3]) hB (by decide) rfl (c_U_charAt (bf_G hB) (by decide) hr179) ml_C_75 md_U_charAt rfl rfl (Nat.le_of_ble_eq_true rfl) rm_C_init_U_charAt_133_3862 e_C_init_179) rfl rfl rfl ?_
        refine a_i2b hB e_C_init_182 ?_
        obtain ⟨c183, h⟩ := chk_i h
        obtain ⟨M183, hM183, h⟩ := bm_i h
        refine a_bast' hB e_C_init_183 (ph_lt (by decide)) kk_3 ll_3 c183 ?_
        refine a_mem hM183 ?_
        refine a_iinc (j := 1) (v := l1 + 1) (ls' := [(1, .int (l1 + 1)), (0, .ref 0)]) hB e_C_init_184 rfl (inc_1 _) (Nat.le_of_ble_eq_true rfl) rfl ?_
        refine a_goto (tgt := 155) hB e_C_init_187 (by decide) ?_
        refine a_ls [1, 0] (ls' := [(0, .ref 0), (1, .int (l1 + 1))]) rfl ?_
        exact hr155 _ _ h
set_option maxRecDepth 100000 in
theorem t_C_init {G : Gt} {B : Bag} (hB : BF G I_C_init B)     {M9 : Mm}  {M : Mm} (h : f_C_init M = some M9) : AW G I_C_init B (QM G I_C_init B (.inl none) M9 (ph [] (134))) 0 0 0 [(0, .ref 0)] [] M (ph [(0, 0)] (1)) := by
  unfold f_C_init at h
  refine a_aload_n (j := 0) hB e_C_init_0 rfl rfl ?_
  refine a_objInit hB ol_C_1 oi_i oi_c e_C_init_1 (by decide) (Nat.le_of_ble_eq_true rfl) ?_
  refine a_aload_n (j := 0) hB e_C_init_4 rfl rfl ?_
  obtain ⟨M5, hM5, h⟩ := bm_i h
  refine a_new (a := 1) hB e_C_init_5 ck_0 cl_C_7 is_0 ic_X0 rfl rfl (by decide) kk_1 hd_0_1 rfl rfl (by decide) (by decide) ?_
  refine a_ph (φ' := (ph [(1, 0), (0, 0)] (2))) ph_nA rfl ?_
  refine a_mem hM5 ?_
  refine a_dup hB e_C_init_8 rfl ?_
  obtain ⟨M9, hr9, h⟩ := bn_i h
  refine a_ret (v := none) (M1 := M9) (φ1 := (ph [(0, 0)] (14))) (st1 := [.ref 1, .ref 0]) (j1 := 13) (j2 := 1104) (ar_IN (As := []) (rest := [.ref 1, .ref 0]) hB (c_I_init (bf_G hB) hr9) mn_C_9 md_I_init rfl rfl (Nat.le_of_ble_eq_true rfl) rm_C_init_I_init_1_5 e_C_init_9) rfl rfl rfl ?_
  refine a_putR (r := 1) (k := 0) hB rfl e_C_init_12 ff_C_10 rfl (ph_lt (by decide)) kk_0 tt_0_0 ?_
  refine a_ph (φ' := (ph [(0, 1)] (14))) (ph_nS (by decide) (by decide) (by decide)) rfl ?_
  refine a_aload_n (j := 0) hB e_C_init_15 rfl rfl ?_
  refine a_aload_n (j := 0) hB e_C_init_16 rfl rfl ?_
  refine a_getR (r := 1) (k := 0) hB e_C_init_17 fl_C_10 (ph_lt (by decide)) kk_0 tt_0_0 (by decide) ?_
  refine a_getR (r := 2) (k := 0) hB e_C_init_20 fl_C_16 (ph_lt (by decide)) kk_1 tt_1_0 (by decide) ?_
  refine a_getR (r := 3) (k := 0) hB e_C_init_23 fl_C_20 (ph_lt (by decide)) kk_2 tt_2_0 (by decide) ?_
  refine a_putR (r := 3) (k := 1) hB rfl e_C_init_26 ff_C_26 rfl (ph_lt (by decide)) kk_0 tt_0_1 ?_
  refine a_ph (φ' := (ph [(0, 2)] (14))) (ph_nS (by decide) (by decide) (by decide)) rfl ?_
  refine a_aload_n (j := 0) hB e_C_init_29 rfl rfl ?_
  refine a_iconst (v := -1) hB e_C_init_30 ic_m1 ?_
  obtain ⟨M31, hM31, h⟩ := bm_i h
  refine a_putI (k := 4) hB e_C_init_31 fw_C_29 (ph_lt (by decide)) kk_0 tt_0_4 ?_
  refine a_mem hM31 ?_
  refine a_aload_n (j := 0) hB e_C_init_34 rfl rfl ?_
  refine a_sipush (v := 512) hB e_C_init_35 sp_512 ?_
  obtain ⟨M38, hM38, h⟩ := bm_i h
  refine a_newa (a := 14) (t := 11) (t0 := 1) (atype := .byte) hB e_C_init_38 rfl ac_byte rfl (by decide) (by decide) rfl rfl (by decide) kk_14 (by decide) (by decide) (by rw [ll_14]; decide) rfl (by rw [ll_14]) (by decide) (by decide) ?_
  refine a_ph (φ' := (ph [(0, 2)] (15))) (ph_nA0 (no_t 14 (by decide))) rfl ?_
  refine a_mem hM38 ?_
  refine a_putR (r := 14) (k := 5) hB rfl e_C_init_40 ff_C_33 rfl (ph_lt (by decide)) kk_0 tt_0_5 ?_
  refine a_ph (φ' := (ph [(0, 6)] (15))) (ph_nS (by decide) (by decide) (by decide)) rfl ?_
  refine a_aload_n (j := 0) hB e_C_init_43 rfl rfl ?_
  obtain ⟨M44, hM44, h⟩ := bm_i h
  refine a_new (a := 15) hB e_C_init_44 ck_2 cl_C_36 is_2 ic_X2 rfl rfl (by decide) kk_15 hd_2_15 rfl rfl (by decide) (by decide) ?_
  refine a_ph (φ' := (ph [(15, 0), (0, 6)] (16))) ph_nA rfl ?_
  refine a_mem hM44 ?_
  refine a_dup hB e_C_init_47 rfl ?_
  obtain ⟨M48, hr48, h⟩ := bn_i h
  refine a_ret (v := none) (M1 := M48) (φ1 := (ph [(0, 6)] (25))) (st1 := [.ref 15, .ref 0]) (j1 := 24) (j2 := 1809) (ar_IN (As := []) (rest := [.ref 15, .ref 0]) hB ((c_S_init (a := 15) (bf_G hB) sv_15 (L := [(0, 6)]) (by decide) hr48)) mn_C_38 md_S_init rfl rfl (Nat.le_of_ble_eq_true rfl) rm_C_init_S_init_15_1629 e_C_init_48) rfl rfl rfl ?_
  refine a_putR (r := 15) (k := 7) hB rfl e_C_init_51 ff_C_39 rfl (ph_lt (by decide)) kk_0 tt_0_7 ?_
  refine a_ph (φ' := (ph [(0, 8)] (25))) (ph_nS (by decide) (by decide) (by decide)) rfl ?_
  refine a_aload_n (j := 0) hB e_C_init_54 rfl rfl ?_
  refine a_aload_n (j := 0) hB e_C_init_55 rfl rfl ?_
  refine a_getR (r := 1) (k := 0) hB e_C_init_56 fl_C_10 (ph_lt (by decide)) kk_0 tt_0_0 (by decide) ?_
  refine a_getR (r := 4) (k := 1) hB e_C_init_59 fl_C_43 (ph_lt (by decide)) kk_1 tt_1_1 (by decide) ?_
  refine a_putR (r := 4) (k := 8) hB rfl e_C_init_62 ff_C_46 rfl (ph_lt (by decide)) kk_0 tt_0_8 ?_
  refine a_ph (φ' := (ph [(0, 9)] (25))) (ph_nS (by decide) (by decide) (by decide)) rfl ?_
  refine a_aload_n (j := 0) hB e_C_init_65 rfl rfl ?_
  obtain ⟨M66, hM66, h⟩ := bm_i h
  refine a_new (a := 25) hB e_C_init_66 ck_3 cl_C_49 is_3 ic_X3 rfl rfl (by decide) kk_25 hd_3_25 rfl rfl (by decide) (by decide) ?_
  refine a_ph (φ' := (ph [(25, 0), (0, 9)] (26))) ph_nA rfl ?_
  refine a_mem hM66 ?_
  refine a_dup hB e_C_init_69 rfl ?_
  obtain ⟨M70, hr70, h⟩ := bn_i h
  refine a_ret (v := none) (M1 := M70) (φ1 := (ph [(0, 9)] (31))) (st1 := [.ref 25, .ref 0]) (j1 := 30) (j2 := 1920) (ar_IN (As := []) (rest := [.ref 25, .ref 0]) hB (c_T_init (bf_G hB) hr70) mn_C_51 md_T_init rfl rfl (Nat.le_of_ble_eq_true rfl) rm_C_init_T_init_25_1815 e_C_init_70) rfl rfl rfl ?_
  refine a_putR (r := 25) (k := 9) hB rfl e_C_init_73 ff_C_52 rfl (ph_lt (by decide)) kk_0 tt_0_9 ?_
  refine a_ph (φ' := (ph [(0, 10)] (31))) (ph_nS (by decide) (by decide) (by decide)) rfl ?_
  refine a_aload_n (j := 0) hB e_C_init_76 rfl rfl ?_
  refine a_bipush (v := 8) hB e_C_init_77 bp_8 ?_
  obtain ⟨M79, hM79, h⟩ := bm_i h
  refine a_newq (a := 31) hB e_C_init_79 cl_C_36 rfl rfl (by decide) kk_31 (by decide) (by decide) (by rw [ll_31]; decide) rfl (by rw [ll_31]) (by decide) (by decide) ?_
  refine a_ph (φ' := (ph [(31, 0), (0, 10)] (32))) ph_nA rfl ?_
  refine a_ph (φ' := (ph [(0, 10), (31, 0)] (32))) (fun b j _ => by simp [ph, Bool.and_comm, Bool.and_left_comm, Bool.and_assoc]) rfl ?_
  refine a_mem hM79 ?_
  refine a_putR (r := 31) (k := 10) hB rfl e_C_init_82 ff_C_56 rfl (ph_lt (by decide)) kk_0 tt_0_10 ?_
  refine a_ph (φ' := (ph [(0, 11), (31, 0)] (32))) (ph_nS (by decide) (by decide) (by decide)) rfl ?_
  refine a_aload_n (j := 0) hB e_C_init_85 rfl rfl ?_
  refine a_iconst (v := 2) hB e_C_init_86 ic_2 ?_
  obtain ⟨M87, hM87, h⟩ := bm_i h
  refine a_newq (a := 32) hB e_C_init_87 cl_C_36 rfl rfl (by decide) kk_32 (by decide) (by decide) (by rw [ll_32]; decide) rfl (by rw [ll_32]) (by decide) (by decide) ?_
  refine a_ph (φ' := (ph [(32, 0), (0, 11), (31, 0)] (33))) ph_nA rfl ?_
  refine a_ph (φ' := (ph [(0, 11), (32, 0), (31, 0)] (33))) (fun b j _ => by simp [ph, Bool.and_comm, Bool.and_left_comm, Bool.and_assoc]) rfl ?_
  refine a_mem hM87 ?_
  refine a_putR (r := 32) (k := 13) hB rfl e_C_init_90 ff_C_60 rfl (ph_lt (by decide)) kk_0 tt_0_13 ?_
  refine a_ph (φ' := (ph [(0, 14), (32, 0), (31, 0)] (33))) (ph_nS (by decide) (by decide) (by decide)) rfl ?_
  refine a_aload_n (j := 0) hB e_C_init_93 rfl rfl ?_
  refine a_iconst (v := 2) hB e_C_init_94 ic_2 ?_
  obtain ⟨M95, hM95, h⟩ := bm_i h
  refine a_newa (a := 33) (t := 12) (t0 := 2) (atype := .boolean) hB e_C_init_95 rfl ac_boolean rfl (by decide) (by decide) rfl rfl (by decide) kk_33 (by decide) (by decide) (by rw [ll_33]; decide) rfl (by rw [ll_33]) (by decide) (by decide) ?_
  refine a_ph (φ' := (ph [(0, 14), (32, 0), (31, 0)] (34))) (ph_nA0 (no_t 33 (by decide))) rfl ?_
  refine a_mem hM95 ?_
  refine a_putR (r := 33) (k := 14) hB rfl e_C_init_97 ff_C_63 rfl (ph_lt (by decide)) kk_0 tt_0_14 ?_
  refine a_ph (φ' := (ph [(0, 15), (32, 0), (31, 0)] (34))) (ph_nS (by decide) (by decide) (by decide)) rfl ?_
  refine a_ph (φ' := (ph [(32, 0), (31, 0)] (34))) (ph_done (tg_ge (by decide))) rfl ?_
  refine a_iconst (v := 0) hB e_C_init_100 ic_0 ?_
  refine a_istore_n (ls' := [(1, .int (0 : Int32)), (0, .ref 0)]) hB e_C_init_101 rfl (Nat.le_of_ble_eq_true rfl) rfl ?_
  refine a_iload_n (j := 0) hB e_C_init_102 rfl rfl ?_
  refine a_bipush (v := 8) hB e_C_init_103 bp_8 ?_
  refine a_icmp_ge (tgt := 127) hB e_C_init_105 (by decide) (fun c => absurd c (by decide)) (fun c => ?_)
  refine a_aload_n (j := 1) hB e_C_init_108 rfl rfl ?_
  refine a_getR (r := 31) (k := 10) hB e_C_init_109 fl_C_56 (ph_lt (by decide)) kk_0 tt_0_10 (by decide) ?_
  refine a_iload_n (j := 0) hB e_C_init_112 rfl rfl ?_
  obtain ⟨M113, hM113, h⟩ := bm_i h
  refine a_new (a := 34) hB e_C_init_113 ck_2 cl_C_36 is_2 ic_X2 rfl rfl (by decide) kk_34 hd_2_34 rfl rfl (by decide) (by decide) ?_
  refine a_ph (φ' := (ph [(34, 0), (32, 0), (31, 0)] (35))) ph_nA rfl ?_
  refine a_mem hM113 ?_
  refine a_dup hB e_C_init_116 rfl ?_
  obtain ⟨M117, hr117, h⟩ := bn_i h
  refine a_ret (v := none) (M1 := M117) (φ1 := (ph [(32, 0), (31, 0)] (44))) (st1 := [.ref 34, .int (0 : Int32), .ref 31]) (j1 := 43) (j2 := 2125) (ar_IN (As := []) (rest := [.ref 34, .int (0 : Int32), .ref 31]) hB ((c_S_init (a := 34) (bf_G hB) sv_34 (L := [(32, 0), (31, 0)]) (by decide) hr117)) mn_C_38 md_S_init rfl rfl (Nat.le_of_ble_eq_true rfl) rm_C_init_S_init_34_1945 e_C_init_117) rfl rfl rfl ?_
  refine a_aast (r := 34) hB e_C_init_120 (ph_lt (by decide)) kk_31 (ph_lt (by decide)) kk_34 (by rw [ll_31]; decide) (by decide) ?_
  show AW G I_C_init B _ _ _ _ _ _ _ (nS _ 31 0)
  refine a_ph (φ' := nS (ph [(31, 0), (32, 0)] (44)) 31 0) (fun b j _ => by simp [ph, nS, Bool.and_comm, Bool.and_left_comm, Bool.and_assoc]) rfl ?_
  refine a_ph (φ' := (ph [(31, 1), (32, 0)] (44))) (ph_nS (by decide) (by decide) (by decide)) rfl ?_
  refine a_iinc (j := 0) (v := (1 : Int32)) (ls' := [(1, .int (1 : Int32)), (0, .ref 0)]) hB e_C_init_121 rfl (by decide) (Nat.le_of_ble_eq_true rfl) rfl ?_
  refine a_goto (tgt := 102) hB e_C_init_124 (by decide) ?_
  refine a_iload_n (j := 0) hB e_C_init_102 rfl rfl ?_
  refine a_bipush (v := 8) hB e_C_init_103 bp_8 ?_
  refine a_icmp_ge (tgt := 127) hB e_C_init_105 (by decide) (fun c => absurd c (by decide)) (fun c => ?_)
  refine a_aload_n (j := 1) hB e_C_init_108 rfl rfl ?_
  refine a_getR (r := 31) (k := 10) hB e_C_init_109 fl_C_56 (ph_lt (by decide)) kk_0 tt_0_10 (by decide) ?_
  refine a_iload_n (j := 0) hB e_C_init_112 rfl rfl ?_
  obtain ⟨M113, hM113, h⟩ := bm_i h
  refine a_new (a := 44) hB e_C_init_113 ck_2 cl_C_36 is_2 ic_X2 rfl rfl (by decide) kk_44 hd_2_44 rfl rfl (by decide) (by decide) ?_
  refine a_ph (φ' := (ph [(44, 0), (31, 1), (32, 0)] (45))) ph_nA rfl ?_
  refine a_mem hM113 ?_
  refine a_dup hB e_C_init_116 rfl ?_
  obtain ⟨M117, hr117, h⟩ := bn_i h
  refine a_ret (v := none) (M1 := M117) (φ1 := (ph [(31, 1), (32, 0)] (54))) (st1 := [.ref 44, .int (1 : Int32), .ref 31]) (j1 := 53) (j2 := 2318) (ar_IN (As := []) (rest := [.ref 44, .int (1 : Int32), .ref 31]) hB ((c_S_init (a := 44) (bf_G hB) sv_44 (L := [(31, 1), (32, 0)]) (by decide) hr117)) mn_C_38 md_S_init rfl rfl (Nat.le_of_ble_eq_true rfl) rm_C_init_S_init_44_2138 e_C_init_117) rfl rfl rfl ?_
  refine a_aast (r := 44) hB e_C_init_120 (ph_lt (by decide)) kk_31 (ph_lt (by decide)) kk_44 (by rw [ll_31]; decide) (by decide) ?_
  show AW G I_C_init B _ _ _ _ _ _ _ (nS _ 31 1)
  refine a_ph (φ' := (ph [(31, 2), (32, 0)] (54))) (ph_nS (by decide) (by decide) (by decide)) rfl ?_
  refine a_iinc (j := 0) (v := (2 : Int32)) (ls' := [(1, .int (2 : Int32)), (0, .ref 0)]) hB e_C_init_121 rfl (by decide) (Nat.le_of_ble_eq_true rfl) rfl ?_
  refine a_goto (tgt := 102) hB e_C_init_124 (by decide) ?_
  refine a_iload_n (j := 0) hB e_C_init_102 rfl rfl ?_
  refine a_bipush (v := 8) hB e_C_init_103 bp_8 ?_
  refine a_icmp_ge (tgt := 127) hB e_C_init_105 (by decide) (fun c => absurd c (by decide)) (fun c => ?_)
  refine a_aload_n (j := 1) hB e_C_init_108 rfl rfl ?_
  refine a_getR (r := 31) (k := 10) hB e_C_init_109 fl_C_56 (ph_lt (by decide)) kk_0 tt_0_10 (by decide) ?_
  refine a_iload_n (j := 0) hB e_C_init_112 rfl rfl ?_
  obtain ⟨M113, hM113, h⟩ := bm_i h
  refine a_new (a := 54) hB e_C_init_113 ck_2 cl_C_36 is_2 ic_X2 rfl rfl (by decide) kk_54 hd_2_54 rfl rfl (by decide) (by decide) ?_
  refine a_ph (φ' := (ph [(54, 0), (31, 2), (32, 0)] (55))) ph_nA rfl ?_
  refine a_mem hM113 ?_
  refine a_dup hB e_C_init_116 rfl ?_
  obtain ⟨M117, hr117, h⟩ := bn_i h
  refine a_ret (v := none) (M1 := M117) (φ1 := (ph [(31, 2), (32, 0)] (64))) (st1 := [.ref 54, .int (2 : Int32), .ref 31]) (j1 := 63) (j2 := 2511) (ar_IN (As := []) (rest := [.ref 54, .int (2 : Int32), .ref 31]) hB ((c_S_init (a := 54) (bf_G hB) sv_54 (L := [(31, 2), (32, 0)]) (by decide) hr117)) mn_C_38 md_S_init rfl rfl (Nat.le_of_ble_eq_true rfl) rm_C_init_S_init_54_2331 e_C_init_117) rfl rfl rfl ?_
  refine a_aast (r := 54) hB e_C_init_120 (ph_lt (by decide)) kk_31 (ph_lt (by decide)) kk_54 (by rw [ll_31]; decide) (by decide) ?_
  show AW G I_C_init B _ _ _ _ _ _ _ (nS _ 31 2)
  refine a_ph (φ' := (ph [(31, 3), (32, 0)] (64))) (ph_nS (by decide) (by decide) (by decide)) rfl ?_
  refine a_iinc (j := 0) (v := (3 : Int32)) (ls' := [(1, .int (3 : Int32)), (0, .ref 0)]) hB e_C_init_121 rfl (by decide) (Nat.le_of_ble_eq_true rfl) rfl ?_
  refine a_goto (tgt := 102) hB e_C_init_124 (by decide) ?_
  refine a_iload_n (j := 0) hB e_C_init_102 rfl rfl ?_
  refine a_bipush (v := 8) hB e_C_init_103 bp_8 ?_
  refine a_icmp_ge (tgt := 127) hB e_C_init_105 (by decide) (fun c => absurd c (by decide)) (fun c => ?_)
  refine a_aload_n (j := 1) hB e_C_init_108 rfl rfl ?_
  refine a_getR (r := 31) (k := 10) hB e_C_init_109 fl_C_56 (ph_lt (by decide)) kk_0 tt_0_10 (by decide) ?_
  refine a_iload_n (j := 0) hB e_C_init_112 rfl rfl ?_
  obtain ⟨M113, hM113, h⟩ := bm_i h
  refine a_new (a := 64) hB e_C_init_113 ck_2 cl_C_36 is_2 ic_X2 rfl rfl (by decide) kk_64 hd_2_64 rfl rfl (by decide) (by decide) ?_
  refine a_ph (φ' := (ph [(64, 0), (31, 3), (32, 0)] (65))) ph_nA rfl ?_
  refine a_mem hM113 ?_
  refine a_dup hB e_C_init_116 rfl ?_
  obtain ⟨M117, hr117, h⟩ := bn_i h
  refine a_ret (v := none) (M1 := M117) (φ1 := (ph [(31, 3), (32, 0)] (74))) (st1 := [.ref 64, .int (3 : Int32), .ref 31]) (j1 := 73) (j2 := 2704) (ar_IN (As := []) (rest := [.ref 64, .int (3 : Int32), .ref 31]) hB ((c_S_init (a := 64) (bf_G hB) sv_64 (L := [(31, 3), (32, 0)]) (by decide) hr117)) mn_C_38 md_S_init rfl rfl (Nat.le_of_ble_eq_true rfl) rm_C_init_S_init_64_2524 e_C_init_117) rfl rfl rfl ?_
  refine a_aast (r := 64) hB e_C_init_120 (ph_lt (by decide)) kk_31 (ph_lt (by decide)) kk_64 (by rw [ll_31]; decide) (by decide) ?_
  show AW G I_C_init B _ _ _ _ _ _ _ (nS _ 31 3)
  refine a_ph (φ' := (ph [(31, 4), (32, 0)] (74))) (ph_nS (by decide) (by decide) (by decide)) rfl ?_
  refine a_iinc (j := 0) (v := (4 : Int32)) (ls' := [(1, .int (4 : Int32)), (0, .ref 0)]) hB e_C_init_121 rfl (by decide) (Nat.le_of_ble_eq_true rfl) rfl ?_
  refine a_goto (tgt := 102) hB e_C_init_124 (by decide) ?_
  refine a_iload_n (j := 0) hB e_C_init_102 rfl rfl ?_
  refine a_bipush (v := 8) hB e_C_init_103 bp_8 ?_
  refine a_icmp_ge (tgt := 127) hB e_C_init_105 (by decide) (fun c => absurd c (by decide)) (fun c => ?_)
  refine a_aload_n (j := 1) hB e_C_init_108 rfl rfl ?_
  refine a_getR (r := 31) (k := 10) hB e_C_init_109 fl_C_56 (ph_lt (by decide)) kk_0 tt_0_10 (by decide) ?_
  refine a_iload_n (j := 0) hB e_C_init_112 rfl rfl ?_
  obtain ⟨M113, hM113, h⟩ := bm_i h
  refine a_new (a := 74) hB e_C_init_113 ck_2 cl_C_36 is_2 ic_X2 rfl rfl (by decide) kk_74 hd_2_74 rfl rfl (by decide) (by decide) ?_
  refine a_ph (φ' := (ph [(74, 0), (31, 4), (32, 0)] (75))) ph_nA rfl ?_
  refine a_mem hM113 ?_
  refine a_dup hB e_C_init_116 rfl ?_
  obtain ⟨M117, hr117, h⟩ := bn_i h
  refine a_ret (v := none) (M1 := M117) (φ1 := (ph [(31, 4), (32, 0)] (84))) (st1 := [.ref 74, .int (4 : Int32), .ref 31]) (j1 := 83) (j2 := 2897) (ar_IN (As := []) (rest := [.ref 74, .int (4 : Int32), .ref 31]) hB ((c_S_init (a := 74) (bf_G hB) sv_74 (L := [(31, 4), (32, 0)]) (by decide) hr117)) mn_C_38 md_S_init rfl rfl (Nat.le_of_ble_eq_true rfl) rm_C_init_S_init_74_2717 e_C_init_117) rfl rfl rfl ?_
  refine a_aast (r := 74) hB e_C_init_120 (ph_lt (by decide)) kk_31 (ph_lt (by decide)) kk_74 (by rw [ll_31]; decide) (by decide) ?_
  show AW G I_C_init B _ _ _ _ _ _ _ (nS _ 31 4)
  refine a_ph (φ' := (ph [(31, 5), (32, 0)] (84))) (ph_nS (by decide) (by decide) (by decide)) rfl ?_
  refine a_iinc (j := 0) (v := (5 : Int32)) (ls' := [(1, .int (5 : Int32)), (0, .ref 0)]) hB e_C_init_121 rfl (by decide) (Nat.le_of_ble_eq_true rfl) rfl ?_
  refine a_goto (tgt := 102) hB e_C_init_124 (by decide) ?_
  refine a_iload_n (j := 0) hB e_C_init_102 rfl rfl ?_
  refine a_bipush (v := 8) hB e_C_init_103 bp_8 ?_
  refine a_icmp_ge (tgt := 127) hB e_C_init_105 (by decide) (fun c => absurd c (by decide)) (fun c => ?_)
  refine a_aload_n (j := 1) hB e_C_init_108 rfl rfl ?_
  refine a_getR (r := 31) (k := 10) hB e_C_init_109 fl_C_56 (ph_lt (by decide)) kk_0 tt_0_10 (by decide) ?_
  refine a_iload_n (j := 0) hB e_C_init_112 rfl rfl ?_
  obtain ⟨M113, hM113, h⟩ := bm_i h
  refine a_new (a := 84) hB e_C_init_113 ck_2 cl_C_36 is_2 ic_X2 rfl rfl (by decide) kk_84 hd_2_84 rfl rfl (by decide) (by decide) ?_
  refine a_ph (φ' := (ph [(84, 0), (31, 5), (32, 0)] (85))) ph_nA rfl ?_
  refine a_mem hM113 ?_
  refine a_dup hB e_C_init_116 rfl ?_
  obtain ⟨M117, hr117, h⟩ := bn_i h
  refine a_ret (v := none) (M1 := M117) (φ1 := (ph [(31, 5), (32, 0)] (94))) (st1 := [.ref 84, .int (5 : Int32), .ref 31]) (j1 := 93) (j2 := 3090) (ar_IN (As := []) (rest := [.ref 84, .int (5 : Int32), .ref 31]) hB ((c_S_init (a := 84) (bf_G hB) sv_84 (L := [(31, 5), (32, 0)]) (by decide) hr117)) mn_C_38 md_S_init rfl rfl (Nat.le_of_ble_eq_true rfl) rm_C_init_S_init_84_2910 e_C_init_117) rfl rfl rfl ?_
  refine a_aast (r := 84) hB e_C_init_120 (ph_lt (by decide)) kk_31 (ph_lt (by decide)) kk_84 (by rw [ll_31]; decide) (by decide) ?_
  show AW G I_C_init B _ _ _ _ _ _ _ (nS _ 31 5)
  refine a_ph (φ' := (ph [(31, 6), (32, 0)] (94))) (ph_nS (by decide) (by decide) (by decide)) rfl ?_
  refine a_iinc (j := 0) (v := (6 : Int32)) (ls' := [(1, .int (6 : Int32)), (0, .ref 0)]) hB e_C_init_121 rfl (by decide) (Nat.le_of_ble_eq_true rfl) rfl ?_
  refine a_goto (tgt := 102) hB e_C_init_124 (by decide) ?_
  refine a_iload_n (j := 0) hB e_C_init_102 rfl rfl ?_
  refine a_bipush (v := 8) hB e_C_init_103 bp_8 ?_
  refine a_icmp_ge (tgt := 127) hB e_C_init_105 (by decide) (fun c => absurd c (by decide)) (fun c => ?_)
  refine a_aload_n (j := 1) hB e_C_init_108 rfl rfl ?_
  refine a_getR (r := 31) (k := 10) hB e_C_init_109 fl_C_56 (ph_lt (by decide)) kk_0 tt_0_10 (by decide) ?_
  refine a_iload_n (j := 0) hB e_C_init_112 rfl rfl ?_
  obtain ⟨M113, hM113, h⟩ := bm_i h
  refine a_new (a := 94) hB e_C_init_113 ck_2 cl_C_36 is_2 ic_X2 rfl rfl (by decide) kk_94 hd_2_94 rfl rfl (by decide) (by decide) ?_
  refine a_ph (φ' := (ph [(94, 0), (31, 6), (32, 0)] (95))) ph_nA rfl ?_
  refine a_mem hM113 ?_
  refine a_dup hB e_C_init_116 rfl ?_
  obtain ⟨M117, hr117, h⟩ := bn_i h
  refine a_ret (v := none) (M1 := M117) (φ1 := (ph [(31, 6), (32, 0)] (104))) (st1 := [.ref 94, .int (6 : Int32), .ref 31]) (j1 := 103) (j2 := 3283) (ar_IN (As := []) (rest := [.ref 94, .int (6 : Int32), .ref 31]) hB ((c_S_init (a := 94) (bf_G hB) sv_94 (L := [(31, 6), (32, 0)]) (by decide) hr117)) mn_C_38 md_S_init rfl rfl (Nat.le_of_ble_eq_true rfl) rm_C_init_S_init_94_3103 e_C_init_117) rfl rfl rfl ?_
  refine a_aast (r := 94) hB e_C_init_120 (ph_lt (by decide)) kk_31 (ph_lt (by decide)) kk_94 (by rw [ll_31]; decide) (by decide) ?_
  show AW G I_C_init B _ _ _ _ _ _ _ (nS _ 31 6)
  refine a_ph (φ' := (ph [(31, 7), (32, 0)] (104))) (ph_nS (by decide) (by decide) (by decide)) rfl ?_
  refine a_iinc (j := 0) (v := (7 : Int32)) (ls' := [(1, .int (7 : Int32)), (0, .ref 0)]) hB e_C_init_121 rfl (by decide) (Nat.le_of_ble_eq_true rfl) rfl ?_
  refine a_goto (tgt := 102) hB e_C_init_124 (by decide) ?_
  refine a_iload_n (j := 0) hB e_C_init_102 rfl rfl ?_
  refine a_bipush (v := 8) hB e_C_init_103 bp_8 ?_
  refine a_icmp_ge (tgt := 127) hB e_C_init_105 (by decide) (fun c => absurd c (by decide)) (fun c => ?_)
  refine a_aload_n (j := 1) hB e_C_init_108 rfl rfl ?_
  refine a_getR (r := 31) (k := 10) hB e_C_init_109 fl_C_56 (ph_lt (by decide)) kk_0 tt_0_10 (by decide) ?_
  refine a_iload_n (j := 0) hB e_C_init_112 rfl rfl ?_
  obtain ⟨M113, hM113, h⟩ := bm_i h
  refine a_new (a := 104) hB e_C_init_113 ck_2 cl_C_36 is_2 ic_X2 rfl rfl (by decide) kk_104 hd_2_104 rfl rfl (by decide) (by decide) ?_
  refine a_ph (φ' := (ph [(104, 0), (31, 7), (32, 0)] (105))) ph_nA rfl ?_
  refine a_mem hM113 ?_
  refine a_dup hB e_C_init_116 rfl ?_
  obtain ⟨M117, hr117, h⟩ := bn_i h
  refine a_ret (v := none) (M1 := M117) (φ1 := (ph [(31, 7), (32, 0)] (114))) (st1 := [.ref 104, .int (7 : Int32), .ref 31]) (j1 := 113) (j2 := 3476) (ar_IN (As := []) (rest := [.ref 104, .int (7 : Int32), .ref 31]) hB ((c_S_init (a := 104) (bf_G hB) sv_104 (L := [(31, 7), (32, 0)]) (by decide) hr117)) mn_C_38 md_S_init rfl rfl (Nat.le_of_ble_eq_true rfl) rm_C_init_S_init_104_3296 e_C_init_117) rfl rfl rfl ?_
  refine a_aast (r := 104) hB e_C_init_120 (ph_lt (by decide)) kk_31 (ph_lt (by decide)) kk_104 (by rw [ll_31]; decide) (by decide) ?_
  show AW G I_C_init B _ _ _ _ _ _ _ (nS _ 31 7)
  refine a_ph (φ' := (ph [(31, 8), (32, 0)] (114))) (ph_nS (by decide) (by decide) (by decide)) rfl ?_
  refine a_ph (φ' := (ph [(32, 0)] (114))) (ph_done (tg_ge (by decide))) rfl ?_
  refine a_iinc (j := 0) (v := (8 : Int32)) (ls' := [(1, .int (8 : Int32)), (0, .ref 0)]) hB e_C_init_121 rfl (by decide) (Nat.le_of_ble_eq_true rfl) rfl ?_
  refine a_goto (tgt := 102) hB e_C_init_124 (by decide) ?_
  refine a_iload_n (j := 0) hB e_C_init_102 rfl rfl ?_
  refine a_bipush (v := 8) hB e_C_init_103 bp_8 ?_
  refine a_icmp_ge (tgt := 127) hB e_C_init_105 (by decide) (fun c => ?_) (fun c => absurd c (by decide))
  refine a_iconst (v := 0) hB e_C_init_127 ic_0 ?_
  refine a_istore_n (ls' := [(1, .int (0 : Int32)), (0, .ref 0)]) hB e_C_init_128 rfl (Nat.le_of_ble_eq_true rfl) rfl ?_
  refine a_iload_n (j := 0) hB e_C_init_129 rfl rfl ?_
  refine a_iconst (v := 2) hB e_C_init_130 ic_2 ?_
  refine a_icmp_ge (tgt := 153) hB e_C_init_131 (by decide) (fun c => absurd c (by decide)) (fun c => ?_)
  refine a_aload_n (j := 1) hB e_C_init_134 rfl rfl ?_
  refine a_getR (r := 32) (k := 13) hB e_C_init_135 fl_C_60 (ph_lt (by decide)) kk_0 tt_0_13 (by decide) ?_
  refine a_iload_n (j := 0) hB e_C_init_138 rfl rfl ?_
  obtain ⟨M139, hM139, h⟩ := bm_i h
  refine a_new (a := 114) hB e_C_init_139 ck_2 cl_C_36 is_2 ic_X2 rfl rfl (by decide) kk_114 hd_2_114 rfl rfl (by decide) (by decide) ?_
  refine a_ph (φ' := (ph [(114, 0), (32, 0)] (115))) ph_nA rfl ?_
  refine a_mem hM139 ?_
  refine a_dup hB e_C_init_142 rfl ?_
  obtain ⟨M143, hr143, h⟩ := bn_i h
  refine a_ret (v := none) (M1 := M143) (φ1 := (ph [(32, 0)] (124))) (st1 := [.ref 114, .int (0 : Int32), .ref 32]) (j1 := 123) (j2 := 3669) (ar_IN (As := []) (rest := [.ref 114, .int (0 : Int32), .ref 32]) hB ((c_S_init (a := 114) (bf_G hB) sv_114 (L := [(32, 0)]) (by decide) hr143)) mn_C_38 md_S_init rfl rfl (Nat.le_of_ble_eq_true rfl) rm_C_init_S_init_114_3489 e_C_init_143) rfl rfl rfl ?_
  refine a_aast (r := 114) hB e_C_init_146 (ph_lt (by decide)) kk_32 (ph_lt (by decide)) kk_114 (by rw [ll_32]; decide) (by decide) ?_
  show AW G I_C_init B _ _ _ _ _ _ _ (nS _ 32 0)
  refine a_ph (φ' := (ph [(32, 1)] (124))) (ph_nS (by decide) (by decide) (by decide)) rfl ?_
  refine a_iinc (j := 0) (v := (1 : Int32)) (ls' := [(1, .int (1 : Int32)), (0, .ref 0)]) hB e_C_init_147 rfl (by decide) (Nat.le_of_ble_eq_true rfl) rfl ?_
  refine a_goto (tgt := 129) hB e_C_init_150 (by decide) ?_
  refine a_iload_n (j := 0) hB e_C_init_129 rfl rfl ?_
  refine a_iconst (v := 2) hB e_C_init_130 ic_2 ?_
  refine a_icmp_ge (tgt := 153) hB e_C_init_131 (by decide) (fun c => absurd c (by decide)) (fun c => ?_)
  refine a_aload_n (j := 1) hB e_C_init_134 rfl rfl ?_
  refine a_getR (r := 32) (k := 13) hB e_C_init_135 fl_C_60 (ph_lt (by decide)) kk_0 tt_0_13 (by decide) ?_
  refine a_iload_n (j := 0) hB e_C_init_138 rfl rfl ?_
  obtain ⟨M139, hM139, h⟩ := bm_i h
  refine a_new (a := 124) hB e_C_init_139 ck_2 cl_C_36 is_2 ic_X2 rfl rfl (by decide) kk_124 hd_2_124 rfl rfl (by decide) (by decide) ?_
  refine a_ph (φ' := (ph [(124, 0), (32, 1)] (125))) ph_nA rfl ?_
  refine a_mem hM139 ?_
  refine a_dup hB e_C_init_142 rfl ?_
  obtain ⟨M143, hr143, h⟩ := bn_i h
  refine a_ret (v := none) (M1 := M143) (φ1 := (ph [(32, 1)] (134))) (st1 := [.ref 124, .int (1 : Int32), .ref 32]) (j1 := 133) (j2 := 3862) (ar_IN (As := []) (rest := [.ref 124, .int (1 : Int32), .ref 32]) hB ((c_S_init (a := 124) (bf_G hB) sv_124 (L := [(32, 1)]) (by decide) hr143)) mn_C_38 md_S_init rfl rfl (Nat.le_of_ble_eq_true rfl) rm_C_init_S_init_124_3682 e_C_init_143) rfl rfl rfl ?_
  refine a_aast (r := 124) hB e_C_init_146 (ph_lt (by decide)) kk_32 (ph_lt (by decide)) kk_124 (by rw [ll_32]; decide) (by decide) ?_
  show AW G I_C_init B _ _ _ _ _ _ _ (nS _ 32 1)
  refine a_ph (φ' := (ph [(32, 2)] (134))) (ph_nS (by decide) (by decide) (by decide)) rfl ?_
  refine a_ph (φ' := (ph [] (134))) (ph_done (tg_ge (by decide))) rfl ?_
  refine a_iinc (j := 0) (v := (2 : Int32)) (ls' := [(1, .int (2 : Int32)), (0, .ref 0)]) hB e_C_init_147 rfl (by decide) (Nat.le_of_ble_eq_true rfl) rfl ?_
  refine a_goto (tgt := 129) hB e_C_init_150 (by decide) ?_
  refine a_iload_n (j := 0) hB e_C_init_129 rfl rfl ?_
  refine a_iconst (v := 2) hB e_C_init_130 ic_2 ?_
  refine a_icmp_ge (tgt := 153) hB e_C_init_131 (by decide) (fun c => ?_) (fun c => absurd c (by decide))
  refine a_iconst (v := 0) hB e_C_init_153 ic_0 ?_
  refine a_istore_n (ls' := [(1, .int (0 : Int32)), (0, .ref 0)]) hB e_C_init_154 rfl (Nat.le_of_ble_eq_true rfl) rfl ?_
  refine a_ls [1, 0] (ls' := [(0, .ref 0), (1, .int (0 : Int32))]) rfl ?_
  exact t_C_init_155 hB _ _ _ h
