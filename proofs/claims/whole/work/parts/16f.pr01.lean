/-! their proofs -/
set_option maxRecDepth 100000 in
theorem t_M_init {G : Gt} {B : Bag} (hB : BF G I_M_init B)     {M9 : Mm}  {M : Mm} (h : f_M_init M = some M9) : AW G I_M_init B (QM G I_M_init B (.inl none) M9 (ph [] (148))) 0 0 0 [(0, .ref 134)] [] M (ph [(134, 0)] (135)) := by
  unfold f_M_init at h
  refine a_aload_n (j := 0) hB e_M_init_0 rfl rfl ?_
  refine a_objInit hB ol_M_3 oi_i oi_c e_M_init_1 (by decide) (Nat.le_of_ble_eq_true rfl) ?_
  refine a_aload_n (j := 0) hB e_M_init_4 rfl rfl ?_
  refine a_sipush (v := 284) hB e_M_init_5 sp_284 ?_
  obtain ⟨M8, hM8, h⟩ := bm_i h
  refine a_newa (a := 135) (t := 10) (t0 := 0) (atype := .int) hB e_M_init_8 rfl ac_int rfl (by decide) (by decide) rfl rfl (by decide) kk_135 (by decide) (by decide) (by rw [ll_135]; decide) rfl (by rw [ll_135]) (by decide) (by decide) ?_
  refine a_ph (φ' := (ph [(134, 0)] (136))) (ph_nA0 (no_t 135 (by decide))) rfl ?_
  refine a_mem hM8 ?_
  refine a_putR (r := 135) (k := 0) hB rfl e_M_init_10 ff_M_9 rfl (ph_lt (by decide)) kk_134 tt_134_0 ?_
  refine a_ph (φ' := (ph [(134, 1)] (136))) (ph_nS (by decide) (by decide) (by decide)) rfl ?_
  refine a_aload_n (j := 0) hB e_M_init_13 rfl rfl ?_
  refine a_sipush (v := 284) hB e_M_init_14 sp_284 ?_
  obtain ⟨M17, hM17, h⟩ := bm_i h
  refine a_newa (a := 136) (t := 10) (t0 := 0) (atype := .int) hB e_M_init_17 rfl ac_int rfl (by decide) (by decide) rfl rfl (by decide) kk_136 (by decide) (by decide) (by rw [ll_136]; decide) rfl (by rw [ll_136]) (by decide) (by decide) ?_
  refine a_ph (φ' := (ph [(134, 1)] (137))) (ph_nA0 (no_t 136 (by decide))) rfl ?_
  refine a_mem hM17 ?_
  refine a_putR (r := 136) (k := 1) hB rfl e_M_init_19 ff_M_13 rfl (ph_lt (by decide)) kk_134 tt_134_1 ?_
  refine a_ph (φ' := (ph [(134, 2)] (137))) (ph_nS (by decide) (by decide) (by decide)) rfl ?_
  refine a_aload_n (j := 0) hB e_M_init_22 rfl rfl ?_
  refine a_sipush (v := 2272) hB e_M_init_23 sp_2272 ?_
  obtain ⟨M26, hM26, h⟩ := bm_i h
  refine a_newa (a := 137) (t := 10) (t0 := 0) (atype := .int) hB e_M_init_26 rfl ac_int rfl (by decide) (by decide) rfl rfl (by decide) kk_137 (by decide) (by decide) (by rw [ll_137]; decide) rfl (by rw [ll_137]) (by decide) (by decide) ?_
  refine a_ph (φ' := (ph [(134, 2)] (138))) (ph_nA0 (no_t 137 (by decide))) rfl ?_
  refine a_mem hM26 ?_
  refine a_putR (r := 137) (k := 2) hB rfl e_M_init_28 ff_M_16 rfl (ph_lt (by decide)) kk_134 tt_134_2 ?_
  refine a_ph (φ' := (ph [(134, 3)] (138))) (ph_nS (by decide) (by decide) (by decide)) rfl ?_
  refine a_aload_n (j := 0) hB e_M_init_31 rfl rfl ?_
  refine a_sipush (v := 568) hB e_M_init_32 sp_568 ?_
  obtain ⟨M35, hM35, h⟩ := bm_i h
  refine a_newa (a := 138) (t := 10) (t0 := 0) (atype := .int) hB e_M_init_35 rfl ac_int rfl (by decide) (by decide) rfl rfl (by decide) kk_138 (by decide) (by decide) (by rw [ll_138]; decide) rfl (by rw [ll_138]) (by decide) (by decide) ?_
  refine a_ph (φ' := (ph [(134, 3)] (139))) (ph_nA0 (no_t 138 (by decide))) rfl ?_
  refine a_mem hM35 ?_
  refine a_putR (r := 138) (k := 3) hB rfl e_M_init_37 ff_M_19 rfl (ph_lt (by decide)) kk_134 tt_134_3 ?_
  refine a_ph (φ' := (ph [(134, 4)] (139))) (ph_nS (by decide) (by decide) (by decide)) rfl ?_
  refine a_aload_n (j := 0) hB e_M_init_40 rfl rfl ?_
  refine a_sipush (v := 284) hB e_M_init_41 sp_284 ?_
  obtain ⟨M44, hM44, h⟩ := bm_i h
  refine a_newa (a := 139) (t := 10) (t0 := 0) (atype := .int) hB e_M_init_44 rfl ac_int rfl (by decide) (by decide) rfl rfl (by decide) kk_139 (by decide) (by decide) (by rw [ll_139]; decide) rfl (by rw [ll_139]) (by decide) (by decide) ?_
  refine a_ph (φ' := (ph [(134, 4)] (140))) (ph_nA0 (no_t 139 (by decide))) rfl ?_
  refine a_mem hM44 ?_
  refine a_putR (r := 139) (k := 4) hB rfl e_M_init_46 ff_M_22 rfl (ph_lt (by decide)) kk_134 tt_134_4 ?_
  refine a_ph (φ' := (ph [(134, 5)] (140))) (ph_nS (by decide) (by decide) (by decide)) rfl ?_
  refine a_aload_n (j := 0) hB e_M_init_49 rfl rfl ?_
  refine a_iconst (v := 2) hB e_M_init_50 ic_2 ?_
  obtain ⟨M51, hM51, h⟩ := bm_i h
  refine a_newa (a := 140) (t := 12) (t0 := 2) (atype := .boolean) hB e_M_init_51 rfl ac_boolean rfl (by decide) (by decide) rfl rfl (by decide) kk_140 (by decide) (by decide) (by rw [ll_140]; decide) rfl (by rw [ll_140]) (by decide) (by decide) ?_
  refine a_ph (φ' := (ph [(134, 5)] (141))) (ph_nA0 (no_t 140 (by decide))) rfl ?_
  refine a_mem hM51 ?_
  refine a_putR (r := 140) (k := 5) hB rfl e_M_init_53 ff_M_25 rfl (ph_lt (by decide)) kk_134 tt_134_5 ?_
  refine a_ph (φ' := (ph [(134, 6)] (141))) (ph_nS (by decide) (by decide) (by decide)) rfl ?_
  refine a_aload_n (j := 0) hB e_M_init_56 rfl rfl ?_
  refine a_sipush (v := 900) hB e_M_init_57 sp_900 ?_
  obtain ⟨M60, hM60, h⟩ := bm_i h
  refine a_newa (a := 141) (t := 10) (t0 := 0) (atype := .int) hB e_M_init_60 rfl ac_int rfl (by decide) (by decide) rfl rfl (by decide) kk_141 (by decide) (by decide) (by rw [ll_141]; decide) rfl (by rw [ll_141]) (by decide) (by decide) ?_
  refine a_ph (φ' := (ph [(134, 6)] (142))) (ph_nA0 (no_t 141 (by decide))) rfl ?_
  refine a_mem hM60 ?_
  refine a_putR (r := 141) (k := 8) hB rfl e_M_init_62 ff_M_29 rfl (ph_lt (by decide)) kk_134 tt_134_8 ?_
  refine a_ph (φ' := (ph [(134, 9)] (142))) (ph_nS (by decide) (by decide) (by decide)) rfl ?_
  refine a_aload_n (j := 0) hB e_M_init_65 rfl rfl ?_
  refine a_sipush (v := 600) hB e_M_init_66 sp_600 ?_
  obtain ⟨M69, hM69, h⟩ := bm_i h
  refine a_newa (a := 142) (t := 10) (t0 := 0) (atype := .int) hB e_M_init_69 rfl ac_int rfl (by decide) (by decide) rfl rfl (by decide) kk_142 (by decide) (by decide) (by rw [ll_142]; decide) rfl (by rw [ll_142]) (by decide) (by decide) ?_
  refine a_ph (φ' := (ph [(134, 9)] (143))) (ph_nA0 (no_t 142 (by decide))) rfl ?_
  refine a_mem hM69 ?_
  refine a_putR (r := 142) (k := 9) hB rfl e_M_init_71 ff_M_32 rfl (ph_lt (by decide)) kk_134 tt_134_9 ?_
  refine a_ph (φ' := (ph [(134, 10)] (143))) (ph_nS (by decide) (by decide) (by decide)) rfl ?_
  refine a_aload_n (j := 0) hB e_M_init_74 rfl rfl ?_
  refine a_bipush (v := 21) hB e_M_init_75 bp_21 ?_
  obtain ⟨M77, hM77, h⟩ := bm_i h
  refine a_newa (a := 143) (t := 10) (t0 := 0) (atype := .int) hB e_M_init_77 rfl ac_int rfl (by decide) (by decide) rfl rfl (by decide) kk_143 (by decide) (by decide) (by rw [ll_143]; decide) rfl (by rw [ll_143]) (by decide) (by decide) ?_
  refine a_ph (φ' := (ph [(134, 10)] (144))) (ph_nA0 (no_t 143 (by decide))) rfl ?_
  refine a_mem hM77 ?_
  refine a_putR (r := 143) (k := 10) hB rfl e_M_init_79 ff_M_35 rfl (ph_lt (by decide)) kk_134 tt_134_10 ?_
  refine a_ph (φ' := (ph [(134, 11)] (144))) (ph_nS (by decide) (by decide) (by decide)) rfl ?_
  refine a_aload_n (j := 0) hB e_M_init_82 rfl rfl ?_
  refine a_bipush (v := 21) hB e_M_init_83 bp_21 ?_
  obtain ⟨M85, hM85, h⟩ := bm_i h
  refine a_newa (a := 144) (t := 10) (t0 := 0) (atype := .int) hB e_M_init_85 rfl ac_int rfl (by decide) (by decide) rfl rfl (by decide) kk_144 (by decide) (by decide) (by rw [ll_144]; decide) rfl (by rw [ll_144]) (by decide) (by decide) ?_
  refine a_ph (φ' := (ph [(134, 11)] (145))) (ph_nA0 (no_t 144 (by decide))) rfl ?_
  refine a_mem hM85 ?_
  refine a_putR (r := 144) (k := 11) hB rfl e_M_init_87 ff_M_38 rfl (ph_lt (by decide)) kk_134 tt_134_11 ?_
  refine a_ph (φ' := (ph [(134, 12)] (145))) (ph_nS (by decide) (by decide) (by decide)) rfl ?_
  refine a_aload_n (j := 0) hB e_M_init_90 rfl rfl ?_
  refine a_bipush (v := 21) hB e_M_init_91 bp_21 ?_
  obtain ⟨M93, hM93, h⟩ := bm_i h
  refine a_newa (a := 145) (t := 10) (t0 := 0) (atype := .int) hB e_M_init_93 rfl ac_int rfl (by decide) (by decide) rfl rfl (by decide) kk_145 (by decide) (by decide) (by rw [ll_145]; decide) rfl (by rw [ll_145]) (by decide) (by decide) ?_
  refine a_ph (φ' := (ph [(134, 12)] (146))) (ph_nA0 (no_t 145 (by decide))) rfl ?_
  refine a_mem hM93 ?_
  refine a_putR (r := 145) (k := 12) hB rfl e_M_init_95 ff_M_41 rfl (ph_lt (by decide)) kk_134 tt_134_12 ?_
  refine a_ph (φ' := (ph [(134, 13)] (146))) (ph_nS (by decide) (by decide) (by decide)) rfl ?_
  refine a_aload_n (j := 0) hB e_M_init_98 rfl rfl ?_
  refine a_bipush (v := 7) hB e_M_init_99 bp_7 ?_
  obtain ⟨M101, hM101, h⟩ := bm_i h
  refine a_newa (a := 146) (t := 10) (t0 := 0) (atype := .int) hB e_M_init_101 rfl ac_int rfl (by decide) (by decide) rfl rfl (by decide) kk_146 (by decide) (by decide) (by rw [ll_146]; decide) rfl (by rw [ll_146]) (by decide) (by decide) ?_
  refine a_ph (φ' := (ph [(134, 13)] (147))) (ph_nA0 (no_t 146 (by decide))) rfl ?_
  refine a_mem hM101 ?_
  refine a_dup hB e_M_init_103 rfl ?_
  refine a_iconst (v := 0) hB e_M_init_104 ic_0 ?_
  refine a_sipush (v := 10000) hB e_M_init_105 sp_10000 ?_
  obtain ⟨M108, hM108, h⟩ := bm_i h
  refine a_iast' hB e_M_init_108 (ph_lt (by decide)) kk_146 ll_146 (by decide) ?_
  refine a_mem hM108 ?_
  refine a_dup hB e_M_init_109 rfl ?_
  refine a_iconst (v := 1) hB e_M_init_110 ic_1 ?_
  refine a_sipush (v := 9659) hB e_M_init_111 sp_9659 ?_
  obtain ⟨M114, hM114, h⟩ := bm_i h
  refine a_iast' hB e_M_init_114 (ph_lt (by decide)) kk_146 ll_146 (by decide) ?_
  refine a_mem hM114 ?_
  refine a_dup hB e_M_init_115 rfl ?_
  refine a_iconst (v := 2) hB e_M_init_116 ic_2 ?_
  refine a_sipush (v := 8660) hB e_M_init_117 sp_8660 ?_
  obtain ⟨M120, hM120, h⟩ := bm_i h
  refine a_iast' hB e_M_init_120 (ph_lt (by decide)) kk_146 ll_146 (by decide) ?_
  refine a_mem hM120 ?_
  refine a_dup hB e_M_init_121 rfl ?_
  refine a_iconst (v := 3) hB e_M_init_122 ic_3 ?_
  refine a_sipush (v := 7071) hB e_M_init_123 sp_7071 ?_
  obtain ⟨M126, hM126, h⟩ := bm_i h
  refine a_iast' hB e_M_init_126 (ph_lt (by decide)) kk_146 ll_146 (by decide) ?_
  refine a_mem hM126 ?_
  refine a_dup hB e_M_init_127 rfl ?_
  refine a_iconst (v := 4) hB e_M_init_128 ic_4 ?_
  refine a_sipush (v := 5000) hB e_M_init_129 sp_5000 ?_
  obtain ⟨M132, hM132, h⟩ := bm_i h
  refine a_iast' hB e_M_init_132 (ph_lt (by decide)) kk_146 ll_146 (by decide) ?_
  refine a_mem hM132 ?_
  refine a_dup hB e_M_init_133 rfl ?_
  refine a_iconst (v := 5) hB e_M_init_134 ic_5 ?_
  refine a_sipush (v := 2588) hB e_M_init_135 sp_2588 ?_
  obtain ⟨M138, hM138, h⟩ := bm_i h
  refine a_iast' hB e_M_init_138 (ph_lt (by decide)) kk_146 ll_146 (by decide) ?_
  refine a_mem hM138 ?_
  refine a_dup hB e_M_init_139 rfl ?_
  refine a_bipush (v := 6) hB e_M_init_140 bp_6 ?_
  refine a_iconst (v := 0) hB e_M_init_142 ic_0 ?_
  obtain ⟨M143, hM143, h⟩ := bm_i h
  refine a_iast' hB e_M_init_143 (ph_lt (by decide)) kk_146 ll_146 (by decide) ?_
  refine a_mem hM143 ?_
  refine a_putR (r := 146) (k := 13) hB rfl e_M_init_144 ff_M_44 rfl (ph_lt (by decide)) kk_134 tt_134_13 ?_
  refine a_ph (φ' := (ph [(134, 14)] (147))) (ph_nS (by decide) (by decide) (by decide)) rfl ?_
  refine a_aload_n (j := 0) hB e_M_init_147 rfl rfl ?_
  refine a_iconst (v := -1) hB e_M_init_148 ic_m1 ?_
  obtain ⟨M149, hM149, h⟩ := bm_i h
  refine a_putI (k := 17) hB e_M_init_149 fw_M_47 (ph_lt (by decide)) kk_134 tt_134_17 ?_
  refine a_mem hM149 ?_
  refine a_aload_n (j := 0) hB e_M_init_152 rfl rfl ?_
  refine a_bipush (v := 6) hB e_M_init_153 bp_6 ?_
  obtain ⟨M155, hM155, h⟩ := bm_i h
  refine a_newa (a := 147) (t := 10) (t0 := 0) (atype := .int) hB e_M_init_155 rfl ac_int rfl (by decide) (by decide) rfl rfl (by decide) kk_147 (by decide) (by decide) (by rw [ll_147]; decide) rfl (by rw [ll_147]) (by decide) (by decide) ?_
  refine a_ph (φ' := (ph [(134, 14)] (148))) (ph_nA0 (no_t 147 (by decide))) rfl ?_
  refine a_mem hM155 ?_
  refine a_putR (r := 147) (k := 18) hB rfl e_M_init_157 ff_M_51 rfl (ph_lt (by decide)) kk_134 tt_134_18 ?_
  refine a_ph (φ' := (ph [(134, 19)] (148))) (ph_nS (by decide) (by decide) (by decide)) rfl ?_
  refine a_ph (φ' := (ph [] (148))) (ph_done (tg_tl (by decide) (by decide))) rfl ?_
  refine a_aload_n (j := 0) hB e_M_init_160 rfl rfl ?_
  refine a_ldcS (i := 29) hB rfl e_M_init_161 ?_
  obtain ⟨M163, hr163, h⟩ := bn_i h
  refine a_ret (v := none) (M1 := M163) (φ1 := (ph [] (148))) (st1 := []) (j1 := 13) (j2 := 5270) (ar_V (As := [.ref (1000 + 29)]) (rest := []) hB (c_M_lays (bf_G hB) (ph_sf (by decide)) (by decide) hr163) ml_M_56 md_M_lays rc_M_lays (ph_lt (by decide)) kk_134 rfl rfl (Nat.le_of_ble_eq_true rfl) rm_M_init_M_lays_13_5270 e_M_init_163) rfl rfl rfl ?_
  cases h
  exact a_vret hB rfl e_M_init_166 (by decide) (by decide)
set_option maxRecDepth 100000 in
theorem c_M_init {G : Gt} (hG : GOK G)    {M : Mm}  {M9 : Mm} (h : f_M_init M = some M9) : CT G I_M_init [.ref 134] M (ph [(134, 0)] (135)) (.inl none) M9 (ph [] (148)) :=
  ct_of hG (by decide) (Nat.le_of_ble_eq_true rfl) (fun B hB => t_M_init hB   h)
set_option maxRecDepth 100000 in
theorem t_W_truncateInput {G : Gt} {φ : Ph} {B : Bag} (hB : BF G I_W_truncateInput B) (hF : SF 149 φ)    {o : Int32} {M9 : Mm} {ψ : Ph} (hψ : pK o φ = ψ) {l1 : Int32} {M : Mm} (h : f_W_truncateInput l1 M = some (o, M9)) : AW G I_W_truncateInput B (QM G I_W_truncateInput B (.inl (some (.int o))) M9 ψ) 0 0 0 [(0, .ref 0), (1, .int l1), (2, .ref 148)] [] M φ := by
  unfold f_W_truncateInput at h
  refine a_aload_n (j := 2) hB e_W_truncateInput_0 rfl rfl ?_
  refine a_iconst (v := 0) hB e_W_truncateInput_1 ic_0 ?_
  refine a_aload_n (j := 0) hB e_W_truncateInput_2 rfl rfl ?_
  refine a_iload_n (j := 1) hB e_W_truncateInput_3 rfl rfl ?_
  rcases bc2_i h with ⟨e4, M4, hr4, h⟩ | ⟨r4, M4, hr4, h⟩
  · rcases Decidable.em (e4 = 1) with q | q
    · have h := ip q h
      subst q
      refine a_catN (E := "java/lang/IllegalArgumentException") (M1 := M4) (φ1 := dirt φ) (j1 := 1) (j2 := 6) (pc1 := 13) hB (ar_V (As := [.int l1]) (rest := [.int (0 : Int32), .ref 148]) hB (c_C_truncateInput (bf_G hB) (sf_m hF (by decide)) hr4) ml_W_7 md_C_truncateInput rc_C_truncateInput (sf_lt hF (by decide)) kk_0 rfl rfl (Nat.le_of_ble_eq_true rfl) rm_W_truncateInput_C_truncateInput e_W_truncateInput_4) rfl rfl [] ⟨0, 9, 12, 13⟩ [] rfl (fun z hz => nomatch hz) (by decide) (by decide) cl_W_13 ca_1 e_W_truncateInput_12 (by decide) rfl ?_
      refine a_iconst (v := 1) hB e_W_truncateInput_13 ic_1 ?_
      cases h
      have hψ := (pK_1 φ).symm.trans hψ
      subst hψ
      exact a_iret hB rfl e_W_truncateInput_14 (by decide) (by decide)
    · have h := iq q h
      cases h
  · refine a_ret (v := (some (.int r4))) (M1 := M4) (φ1 := φ) (st1 := [.int r4, .int (0 : Int32), .ref 148]) (j1 := 1) (j2 := 6) (ar_V (As := [.int l1]) (rest := [.int (0 : Int32), .ref 148]) hB (c_C_truncateInput (bf_G hB) (sf_m hF (by decide)) hr4) ml_W_7 md_C_truncateInput rc_C_truncateInput (sf_lt hF (by decide)) kk_0 rfl rfl (Nat.le_of_ble_eq_true rfl) rm_W_truncateInput_C_truncateInput e_W_truncateInput_4) rfl rfl rfl ?_
    refine a_i2l hB e_W_truncateInput_7 ?_
    obtain ⟨M8, hM8, h⟩ := bm_i h
    refine a_last hB e_W_truncateInput_8 (sf_lt hF (by decide)) kk_148 ll_148 (by decide) ?_
    refine a_mem hM8 ?_
    refine a_goto (tgt := 15) hB e_W_truncateInput_9 (by decide) ?_
    refine a_iconst (v := 0) hB e_W_truncateInput_15 ic_0 ?_
    cases h
    have hψ := (pK_0 φ).symm.trans hψ
    subst hψ
    exact a_iret hB rfl e_W_truncateInput_16 (by decide) (by decide)
set_option maxRecDepth 100000 in
theorem c_W_truncateInput {G : Gt} (hG : GOK G) {φ : Ph} (hF : SF 149 φ)   {M : Mm} {l1 : Int32} {o : Int32} {M9 : Mm} {ψ : Ph} (hψ : pK o φ = ψ) (h : f_W_truncateInput l1 M = some (o, M9)) : CT G I_W_truncateInput [.ref 0, .int l1, .ref 148] M φ (.inl (some (.int o))) M9 ψ :=
  ct_of hG (by decide) (Nat.le_of_ble_eq_true rfl) (fun B hB => t_W_truncateInput hB hF  hψ h)
set_option maxRecDepth 100000 in
theorem t_W_addLeg {G : Gt} {φ : Ph} {B : Bag} (hB : BF G I_W_addLeg B) (hF : SF 149 φ)    {o : Int32} {M9 : Mm} {ψ : Ph} (hψ : pK o φ = ψ) {l1 : Int32} {l2 : Int32} {l3 : Int32} {l4 : Int32} {l5 : Int32} {M : Mm} (h : f_W_addLeg l1 l2 l3 l4 l5 M = some (o, M9)) : AW G I_W_addLeg B (QM G I_W_addLeg B (.inl (some (.int o))) M9 ψ) 0 0 0 [(0, .ref 0), (1, .int l1), (2, .int l2), (3, .int l3), (4, .int l4), (5, .int l5), (6, .ref 148)] [] M φ := by
  unfold f_W_addLeg at h
  refine a_aload (j := 6) hB e_W_addLeg_0 rfl ?_
  refine a_iconst (v := 0) hB e_W_addLeg_2 ic_0 ?_
  refine a_aload_n (j := 0) hB e_W_addLeg_3 rfl rfl ?_
  refine a_iload_n (j := 1) hB e_W_addLeg_4 rfl rfl ?_
  refine a_iload_n (j := 2) hB e_W_addLeg_5 rfl rfl ?_
  refine a_iload_n (j := 3) hB e_W_addLeg_6 rfl rfl ?_
  refine a_iload (j := 4) hB e_W_addLeg_7 rfl ?_
  refine a_iload (j := 5) hB e_W_addLeg_9 rfl ?_
  rcases bc2_i h with ⟨e11, M11, hr11, h⟩ | ⟨r11, M11, hr11, h⟩
  · rcases Decidable.em (e11 = 1) with q | q
    · have h := ip q h
      subst q
      refine a_cat (E := "java/lang/IllegalArgumentException") (M1 := M11) (φ1 := dirt φ) (j1 := 1) (j2 := 6) (pc1 := 21) hB (ar_V (As := [.int l1, .int l2, .int l3, .int l4, .int l5]) (rest := [.int (0 : Int32), .ref 148]) hB (c_C_addLeg (bf_G hB) (sf_m hF (by decide)) hr11) ml_W_15 md_C_addLeg rc_C_addLeg (sf_lt hF (by decide)) kk_0 rfl rfl (Nat.le_of_ble_eq_true rfl) rm_W_addLeg_C_addLeg e_W_addLeg_11) rfl rfl [] ⟨0, 16, 19, 13⟩ [⟨0, 16, 23, 19⟩] rfl (fun z hz => nomatch hz) (by decide) (by decide) cl_W_13 ca_1 e_W_addLeg_19 (by decide) rfl ?_
      refine a_iconst (v := 1) hB e_W_addLeg_21 ic_1 ?_
      cases h
      have hψ := (pK_1 φ).symm.trans hψ
      subst hψ
      exact a_iret hB rfl e_W_addLeg_22 (by decide) (by decide)
    · have h := iq q h
      rcases Decidable.em (e11 = 2) with q | q
      · have h := ip q h
        subst q
        refine a_cat (E := "java/lang/IllegalStateException") (M1 := M11) (φ1 := dirt φ) (j1 := 1) (j2 := 6) (pc1 := 25) hB (ar_V (As := [.int l1, .int l2, .int l3, .int l4, .int l5]) (rest := [.int (0 : Int32), .ref 148]) hB (c_C_addLeg (bf_G hB) (sf_m hF (by decide)) hr11) ml_W_15 md_C_addLeg rc_C_addLeg (sf_lt hF (by decide)) kk_0 rfl rfl (Nat.le_of_ble_eq_true rfl) rm_W_addLeg_C_addLeg e_W_addLeg_11) rfl rfl [⟨0, 16, 19, 13⟩] ⟨0, 16, 23, 19⟩ [] rfl (fun z hz => by rcases List.mem_singleton.mp hz with rfl; exact Or.inr ⟨by decide, _, cl_W_13, (bf_G hB).2.2.2.2.2.2.2.2.1 _ (by decide) _ (by decide) (by decide)⟩) (by decide) (by decide) cl_W_19 ca_2 e_W_addLeg_23 (by decide) rfl ?_
        refine a_iconst (v := 2) hB e_W_addLeg_25 ic_2 ?_
        cases h
        have hψ := (pK_2 φ).symm.trans hψ
        subst hψ
        exact a_iret hB rfl e_W_addLeg_26 (by decide) (by decide)
      · have h := iq q h
        cases h
  · refine a_ret (v := (some (.int r11))) (M1 := M11) (φ1 := φ) (st1 := [.int r11, .int (0 : Int32), .ref 148]) (j1 := 1) (j2 := 6) (ar_V (As := [.int l1, .int l2, .int l3, .int l4, .int l5]) (rest := [.int (0 : Int32), .ref 148]) hB (c_C_addLeg (bf_G hB) (sf_m hF (by decide)) hr11) ml_W_15 md_C_addLeg rc_C_addLeg (sf_lt hF (by decide)) kk_0 rfl rfl (Nat.le_of_ble_eq_true rfl) rm_W_addLeg_C_addLeg e_W_addLeg_11) rfl rfl rfl ?_
    refine a_i2l hB e_W_addLeg_14 ?_
    obtain ⟨M15, hM15, h⟩ := bm_i h
    refine a_last hB e_W_addLeg_15 (sf_lt hF (by decide)) kk_148 ll_148 (by decide) ?_
    refine a_mem hM15 ?_
    refine a_goto (tgt := 27) hB e_W_addLeg_16 (by decide) ?_
    refine a_iconst (v := 0) hB e_W_addLeg_27 ic_0 ?_
    cases h
    have hψ := (pK_0 φ).symm.trans hψ
    subst hψ
    exact a_iret hB rfl e_W_addLeg_28 (by decide) (by decide)
set_option maxRecDepth 100000 in
theorem c_W_addLeg {G : Gt} (hG : GOK G) {φ : Ph} (hF : SF 149 φ)   {M : Mm} {l1 : Int32} {l2 : Int32} {l3 : Int32} {l4 : Int32} {l5 : Int32} {o : Int32} {M9 : Mm} {ψ : Ph} (hψ : pK o φ = ψ) (h : f_W_addLeg l1 l2 l3 l4 l5 M = some (o, M9)) : CT G I_W_addLeg [.ref 0, .int l1, .int l2, .int l3, .int l4, .int l5, .ref 148] M φ (.inl (some (.int o))) M9 ψ :=
  ct_of hG (by decide) (Nat.le_of_ble_eq_true rfl) (fun B hB => t_W_addLeg hB hF  hψ h)
set_option maxRecDepth 100000 in
theorem t_W_addBog {G : Gt} {φ : Ph} {B : Bag} (hB : BF G I_W_addBog B) (hF : SF 149 φ)    {o : Int32} {M9 : Mm} {ψ : Ph} (hψ : pK o φ = ψ) {l1 : Int32} {l2 : Int32} {M : Mm} (h : f_W_addBog l1 l2 M = some (o, M9)) : AW G I_W_addBog B (QM G I_W_addBog B (.inl (some (.int o))) M9 ψ) 0 0 0 [(0, .ref 0), (1, .int l1), (2, .int l2), (3, .ref 148)] [] M φ := by
  unfold f_W_addBog at h
  refine a_aload_n (j := 3) hB e_W_addBog_0 rfl rfl ?_
  refine a_iconst (v := 0) hB e_W_addBog_1 ic_0 ?_
  refine a_aload_n (j := 0) hB e_W_addBog_2 rfl rfl ?_
  refine a_iload_n (j := 1) hB e_W_addBog_3 rfl rfl ?_
  refine a_iload_n (j := 2) hB e_W_addBog_4 rfl rfl ?_
  rcases bc2_i h with ⟨e5, M5, hr5, h⟩ | ⟨r5, M5, hr5, h⟩
  · rcases Decidable.em (e5 = 1) with q | q
    · have h := ip q h
      subst q
      refine a_cat (E := "java/lang/IllegalArgumentException") (M1 := M5) (φ1 := dirt φ) (j1 := 1) (j2 := 6) (pc1 := 15) hB (ar_V (As := [.int l1, .int l2]) (rest := [.int (0 : Int32), .ref 148]) hB (c_C_addBog (bf_G hB) (sf_m hF (by decide)) hr5) ml_W_21 md_C_addBog rc_C_addBog (sf_lt hF (by decide)) kk_0 rfl rfl (Nat.le_of_ble_eq_true rfl) rm_W_addBog_C_addBog e_W_addBog_5) rfl rfl [] ⟨0, 10, 13, 13⟩ [⟨0, 10, 17, 19⟩] rfl (fun z hz => nomatch hz) (by decide) (by decide) cl_W_13 ca_1 e_W_addBog_13 (by decide) rfl ?_
      refine a_iconst (v := 1) hB e_W_addBog_15 ic_1 ?_
      cases h
      have hψ := (pK_1 φ).symm.trans hψ
      subst hψ
      exact a_iret hB rfl e_W_addBog_16 (by decide) (by decide)
    · have h := iq q h
      rcases Decidable.em (e5 = 2) with q | q
      · have h := ip q h
        subst q
        refine a_cat (E := "java/lang/IllegalStateException") (M1 := M5) (φ1 := dirt φ) (j1 := 1) (j2 := 6) (pc1 := 19) hB (ar_V (As := [.int l1, .int l2]) (rest := [.int (0 : Int32), .ref 148]) hB (c_C_addBog (bf_G hB) (sf_m hF (by decide)) hr5) ml_W_21 md_C_addBog rc_C_addBog (sf_lt hF (by decide)) kk_0 rfl rfl (Nat.le_of_ble_eq_true rfl) rm_W_addBog_C_addBog e_W_addBog_5) rfl rfl [⟨0, 10, 13, 13⟩] ⟨0, 10, 17, 19⟩ [] rfl (fun z hz => by rcases List.mem_singleton.mp hz with rfl; exact Or.inr ⟨by decide, _, cl_W_13, (bf_G hB).2.2.2.2.2.2.2.2.1 _ (by decide) _ (by decide) (by decide)⟩) (by decide) (by decide) cl_W_19 ca_2 e_W_addBog_17 (by decide) rfl ?_
        refine a_iconst (v := 2) hB e_W_addBog_19 ic_2 ?_
        cases h
        have hψ := (pK_2 φ).symm.trans hψ
        subst hψ
        exact a_iret hB rfl e_W_addBog_20 (by decide) (by decide)
      · have h := iq q h
        cases h
  · refine a_ret (v := (some (.int r5))) (M1 := M5) (φ1 := φ) (st1 := [.int r5, .int (0 : Int32), .ref 148]) (j1 := 1) (j2 := 6) (ar_V (As := [.int l1, .int l2]) (rest := [.int (0 : Int32), .ref 148]) hB (c_C_addBog (bf_G hB) (sf_m hF (by decide)) hr5) ml_W_21 md_C_addBog rc_C_addBog (sf_lt hF (by decide)) kk_0 rfl rfl (Nat.le_of_ble_eq_true rfl) rm_W_addBog_C_addBog e_W_addBog_5) rfl rfl rfl ?_
    refine a_i2l hB e_W_addBog_8 ?_
    obtain ⟨M9, hM9, h⟩ := bm_i h
    refine a_last hB e_W_addBog_9 (sf_lt hF (by decide)) kk_148 ll_148 (by decide) ?_
    refine a_mem hM9 ?_
    refine a_goto (tgt := 21) hB e_W_addBog_10 (by decide) ?_
    refine a_iconst (v := 0) hB e_W_addBog_21 ic_0 ?_
    cases h
    have hψ := (pK_0 φ).symm.trans hψ
    subst hψ
    exact a_iret hB rfl e_W_addBog_22 (by decide) (by decide)
set_option maxRecDepth 100000 in
theorem c_W_addBog {G : Gt} (hG : GOK G) {φ : Ph} (hF : SF 149 φ)   {M : Mm} {l1 : Int32} {l2 : Int32} {o : Int32} {M9 : Mm} {ψ : Ph} (hψ : pK o φ = ψ) (h : f_W_addBog l1 l2 M = some (o, M9)) : CT G I_W_addBog [.ref 0, .int l1, .int l2, .ref 148] M φ (.inl (some (.int o))) M9 ψ :=
  ct_of hG (by decide) (Nat.le_of_ble_eq_true rfl) (fun B hB => t_W_addBog hB hF  hψ h)
set_option maxRecDepth 100000 in
theorem t_W_dropPin {G : Gt} {φ : Ph} {B : Bag} (hB : BF G I_W_dropPin B) (hF : SF 149 φ)    {o : Int32} {M9 : Mm} {ψ : Ph} (hψ : pK o φ = ψ) {l1 : Int32} {M : Mm} (h : f_W_dropPin l1 M = some (o, M9)) : AW G I_W_dropPin B (QM G I_W_dropPin B (.inl (some (.int o))) M9 ψ) 0 0 0 [(0, .ref 0), (1, .int l1), (2, .ref 148)] [] M φ := by
  unfold f_W_dropPin at h
  refine a_aload_n (j := 2) hB e_W_dropPin_0 rfl rfl ?_
  refine a_iconst (v := 0) hB e_W_dropPin_1 ic_0 ?_
  refine a_aload_n (j := 0) hB e_W_dropPin_2 rfl rfl ?_
  refine a_iload_n (j := 1) hB e_W_dropPin_3 rfl rfl ?_
  rcases bc2_i h with ⟨e4, M4, hr4, h⟩ | ⟨r4, M4, hr4, h⟩
  · rcases Decidable.em (e4 = 3) with q | q
    · have h := ip q h
      subst q
      refine a_catN (E := "java/lang/IndexOutOfBoundsException") (M1 := M4) (φ1 := dirt φ) (j1 := 2) (j2 := 12) (pc1 := 13) hB (ar_V (As := [.int l1]) (rest := [.int (0 : Int32), .ref 148]) hB (c_C_dropPin (bf_G hB) (sf_m hF (by decide)) hr4) ml_W_25 md_C_dropPin rc_C_dropPin (sf_lt hF (by decide)) kk_0 rfl rfl (Nat.le_of_ble_eq_true rfl) rm_W_dropPin_C_dropPin e_W_dropPin_4) rfl rfl [] ⟨0, 9, 12, 28⟩ [⟨0, 9, 15, 19⟩] rfl (fun z hz => nomatch hz) (by decide) (by decide) cl_W_28 ca_3 e_W_dropPin_12 (by decide) rfl ?_
      refine a_iconst (v := 1) hB e_W_dropPin_13 ic_1 ?_
      cases h
      have hψ := (pK_1 φ).symm.trans hψ
      subst hψ
      exact a_iret hB rfl e_W_dropPin_14 (by decide) (by decide)
    · have h := iq q h
      rcases Decidable.em (e4 = 2) with q | q
      · have h := ip q h
        subst q
        refine a_catN (E := "java/lang/IllegalStateException") (M1 := M4) (φ1 := dirt φ) (j1 := 2) (j2 := 12) (pc1 := 16) hB (ar_V (As := [.int l1]) (rest := [.int (0 : Int32), .ref 148]) hB (c_C_dropPin (bf_G hB) (sf_m hF (by decide)) hr4) ml_W_25 md_C_dropPin rc_C_dropPin (sf_lt hF (by decide)) kk_0 rfl rfl (Nat.le_of_ble_eq_true rfl) rm_W_dropPin_C_dropPin e_W_dropPin_4) rfl rfl [⟨0, 9, 12, 28⟩] ⟨0, 9, 15, 19⟩ [] rfl (fun z hz => by rcases List.mem_singleton.mp hz with rfl; exact Or.inr ⟨by decide, _, cl_W_28, (bf_G hB).2.2.2.2.2.2.2.2.1 _ (by decide) _ (by decide) (by decide)⟩) (by decide) (by decide) cl_W_19 ca_2 e_W_dropPin_15 (by decide) rfl ?_
        refine a_iconst (v := 2) hB e_W_dropPin_16 ic_2 ?_
        cases h
        have hψ := (pK_2 φ).symm.trans hψ
        subst hψ
        exact a_iret hB rfl e_W_dropPin_17 (by decide) (by decide)
      · have h := iq q h
        cases h
  · refine a_ret (v := (some (.int r4))) (M1 := M4) (φ1 := φ) (st1 := [.int r4, .int (0 : Int32), .ref 148]) (j1 := 2) (j2 := 12) (ar_V (As := [.int l1]) (rest := [.int (0 : Int32), .ref 148]) hB (c_C_dropPin (bf_G hB) (sf_m hF (by decide)) hr4) ml_W_25 md_C_dropPin rc_C_dropPin (sf_lt hF (by decide)) kk_0 rfl rfl (Nat.le_of_ble_eq_true rfl) rm_W_dropPin_C_dropPin e_W_dropPin_4) rfl rfl rfl ?_
    refine a_i2l hB e_W_dropPin_7 ?_
    obtain ⟨M8, hM8, h⟩ := bm_i h
    refine a_last hB e_W_dropPin_8 (sf_lt hF (by decide)) kk_148 ll_148 (by decide) ?_
    refine a_mem hM8 ?_
    refine a_goto (tgt := 18) hB e_W_dropPin_9 (by decide) ?_
    refine a_iconst (v := 0) hB e_W_dropPin_18 ic_0 ?_
    cases h
    have hψ := (pK_0 φ).symm.trans hψ
    subst hψ
    exact a_iret hB rfl e_W_dropPin_19 (by decide) (by decide)
set_option maxRecDepth 100000 in
theorem c_W_dropPin {G : Gt} (hG : GOK G) {φ : Ph} (hF : SF 149 φ)   {M : Mm} {l1 : Int32} {o : Int32} {M9 : Mm} {ψ : Ph} (hψ : pK o φ = ψ) (h : f_W_dropPin l1 M = some (o, M9)) : CT G I_W_dropPin [.ref 0, .int l1, .ref 148] M φ (.inl (some (.int o))) M9 ψ :=
  ct_of hG (by decide) (Nat.le_of_ble_eq_true rfl) (fun B hB => t_W_dropPin hB hF  hψ h)
set_option maxRecDepth 100000 in
theorem t_W_findPin {G : Gt} {φ : Ph} {B : Bag} (hB : BF G I_W_findPin B) (hF : SF 149 φ)    {o : Int32} {M9 : Mm} {ψ : Ph} (hψ : pK o φ = ψ) {l1 : Int32} {M : Mm} (h : f_W_findPin l1 M = some (o, M9)) : AW G I_W_findPin B (QM G I_W_findPin B (.inl (some (.int o))) M9 ψ) 0 0 0 [(0, .ref 0), (1, .int l1), (2, .ref 148)] [] M φ := by
  unfold f_W_findPin at h
  refine a_aload_n (j := 2) hB e_W_findPin_0 rfl rfl ?_
  refine a_iconst (v := 0) hB e_W_findPin_1 ic_0 ?_
  refine a_aload_n (j := 0) hB e_W_findPin_2 rfl rfl ?_
  refine a_iload_n (j := 1) hB e_W_findPin_3 rfl rfl ?_
  rcases bc2_i h with ⟨e4, M4, hr4, h⟩ | ⟨r4, M4, hr4, h⟩
  · rcases Decidable.em (e4 = 3) with q | q
    · have h := ip q h
      subst q
      refine a_catN (E := "java/lang/IndexOutOfBoundsException") (M1 := M4) (φ1 := dirt φ) (j1 := 2) (j2 := 12) (pc1 := 13) hB (ar_V (As := [.int l1]) (rest := [.int (0 : Int32), .ref 148]) hB (c_C_findPin (bf_G hB) (sf_m hF (by decide)) hr4) ml_W_30 md_C_findPin rc_C_findPin (sf_lt hF (by decide)) kk_0 rfl rfl (Nat.le_of_ble_eq_true rfl) rm_W_findPin_C_findPin e_W_findPin_4) rfl rfl [] ⟨0, 9, 12, 28⟩ [⟨0, 9, 15, 19⟩] rfl (fun z hz => nomatch hz) (by decide) (by decide) cl_W_28 ca_3 e_W_findPin_12 (by decide) rfl ?_
      refine a_iconst (v := 1) hB e_W_findPin_13 ic_1 ?_
      cases h
      have hψ := (pK_1 φ).symm.trans hψ
      subst hψ
      exact a_iret hB rfl e_W_findPin_14 (by decide) (by decide)
    · have h := iq q h
      rcases Decidable.em (e4 = 2) with q | q
      · have h := ip q h
        subst q
        refine a_catN (E := "java/lang/IllegalStateException") (M1 := M4) (φ1 := dirt φ) (j1 := 2) (j2 := 12) (pc1 := 16) hB (ar_V (As := [.int l1]) (rest := [.int (0 : Int32), .ref 148]) hB (c_C_findPin (bf_G hB) (sf_m hF (by decide)) hr4) ml_W_30 md_C_findPin rc_C_findPin (sf_lt hF (by decide)) kk_0 rfl rfl (Nat.le_of_ble_eq_true rfl) rm_W_findPin_C_findPin e_W_findPin_4) rfl rfl [⟨0, 9, 12, 28⟩] ⟨0, 9, 15, 19⟩ [] rfl (fun z hz => by rcases List.mem_singleton.mp hz with rfl; exact Or.inr ⟨by decide, _, cl_W_28, (bf_G hB).2.2.2.2.2.2.2.2.1 _ (by decide) _ (by decide) (by decide)⟩) (by decide) (by decide) cl_W_19 ca_2 e_W_findPin_15 (by decide) rfl ?_
        refine a_iconst (v := 2) hB e_W_findPin_16 ic_2 ?_
        cases h
        have hψ := (pK_2 φ).symm.trans hψ
        subst hψ
        exact a_iret hB rfl e_W_findPin_17 (by decide) (by decide)
      · have h := iq q h
        cases h
  · refine a_ret (v := (some (.int r4))) (M1 := M4) (φ1 := φ) (st1 := [.int r4, .int (0 : Int32), .ref 148]) (j1 := 2) (j2 := 12) (ar_V (As := [.int l1]) (rest := [.int (0 : Int32), .ref 148]) hB (c_C_findPin (bf_G hB) (sf_m hF (by decide)) hr4) ml_W_30 md_C_findPin rc_C_findPin (sf_lt hF (by decide)) kk_0 rfl rfl (Nat.le_of_ble_eq_true rfl) rm_W_findPin_C_findPin e_W_findPin_4) rfl rfl rfl ?_
    refine a_i2l hB e_W_findPin_7 ?_
    obtain ⟨M8, hM8, h⟩ := bm_i h
    refine a_last hB e_W_findPin_8 (sf_lt hF (by decide)) kk_148 ll_148 (by decide) ?_
    refine a_mem hM8 ?_
    refine a_goto (tgt := 18) hB e_W_findPin_9 (by decide) ?_
    refine a_iconst (v := 0) hB e_W_findPin_18 ic_0 ?_
    cases h
    have hψ := (pK_0 φ).symm.trans hψ
    subst hψ
    exact a_iret hB rfl e_W_findPin_19 (by decide) (by decide)
set_option maxRecDepth 100000 in
theorem c_W_findPin {G : Gt} (hG : GOK G) {φ : Ph} (hF : SF 149 φ)   {M : Mm} {l1 : Int32} {o : Int32} {M9 : Mm} {ψ : Ph} (hψ : pK o φ = ψ) (h : f_W_findPin l1 M = some (o, M9)) : CT G I_W_findPin [.ref 0, .int l1, .ref 148] M φ (.inl (some (.int o))) M9 ψ :=
  ct_of hG (by decide) (Nat.le_of_ble_eq_true rfl) (fun B hB => t_W_findPin hB hF  hψ h)
set_option maxRecDepth 100000 in
theorem t_W_removeLast {G : Gt} {φ : Ph} {B : Bag} (hB : BF G I_W_removeLast B) (hF : SF 149 φ)    {o : Int32} {M9 : Mm} {ψ : Ph} (hψ : pK o φ = ψ)  {M : Mm} (h : f_W_removeLast M = some (o, M9)) : AW G I_W_removeLast B (QM G I_W_removeLast B (.inl (some (.int o))) M9 ψ) 0 0 0 [(0, .ref 0), (1, .ref 148)] [] M φ := by
  unfold f_W_removeLast at h
  refine a_aload_n (j := 1) hB e_W_removeLast_0 rfl rfl ?_
  refine a_iconst (v := 0) hB e_W_removeLast_1 ic_0 ?_
  refine a_aload_n (j := 0) hB e_W_removeLast_2 rfl rfl ?_
  rcases bc2_i h with ⟨e3, M3, hr3, h⟩ | ⟨r3, M3, hr3, h⟩
  · rcases Decidable.em (e3 = 2) with q | q
    · have h := ip q h
      subst q
      refine a_catN (E := "java/lang/IllegalStateException") (M1 := M3) (φ1 := dirt φ) (j1 := 1) (j2 := 6) (pc1 := 12) hB (ar_V (As := []) (rest := [.int (0 : Int32), .ref 148]) hB (c_C_removeLast (bf_G hB) (sf_m hF (by decide)) hr3) ml_W_33 md_C_removeLast rc_C_removeLast (sf_lt hF (by decide)) kk_0 rfl rfl (Nat.le_of_ble_eq_true rfl) rm_W_removeLast_C_removeLast e_W_removeLast_3) rfl rfl [] ⟨0, 8, 11, 19⟩ [] rfl (fun z hz => nomatch hz) (by decide) (by decide) cl_W_19 ca_2 e_W_removeLast_11 (by decide) rfl ?_
      refine a_iconst (v := 1) hB e_W_removeLast_12 ic_1 ?_
      cases h
      have hψ := (pK_1 φ).symm.trans hψ
      subst hψ
      exact a_iret hB rfl e_W_removeLast_13 (by decide) (by decide)
    · have h := iq q h
      cases h
  · refine a_ret (v := (some (.int r3))) (M1 := M3) (φ1 := φ) (st1 := [.int r3, .int (0 : Int32), .ref 148]) (j1 := 1) (j2 := 6) (ar_V (As := []) (rest := [.int (0 : Int32), .ref 148]) hB (c_C_removeLast (bf_G hB) (sf_m hF (by decide)) hr3) ml_W_33 md_C_removeLast rc_C_removeLast (sf_lt hF (by decide)) kk_0 rfl rfl (Nat.le_of_ble_eq_true rfl) rm_W_removeLast_C_removeLast e_W_removeLast_3) rfl rfl rfl ?_
    refine a_i2l hB e_W_removeLast_6 ?_
    obtain ⟨M7, hM7, h⟩ := bm_i h
    refine a_last hB e_W_removeLast_7 (sf_lt hF (by decide)) kk_148 ll_148 (by decide) ?_
    refine a_mem hM7 ?_
    refine a_goto (tgt := 14) hB e_W_removeLast_8 (by decide) ?_
    refine a_iconst (v := 0) hB e_W_removeLast_14 ic_0 ?_
    cases h
    have hψ := (pK_0 φ).symm.trans hψ
    subst hψ
    exact a_iret hB rfl e_W_removeLast_15 (by decide) (by decide)
set_option maxRecDepth 100000 in
theorem c_W_removeLast {G : Gt} (hG : GOK G) {φ : Ph} (hF : SF 149 φ)   {M : Mm}  {o : Int32} {M9 : Mm} {ψ : Ph} (hψ : pK o φ = ψ) (h : f_W_removeLast M = some (o, M9)) : CT G I_W_removeLast [.ref 0, .ref 148] M φ (.inl (some (.int o))) M9 ψ :=
  ct_of hG (by decide) (Nat.le_of_ble_eq_true rfl) (fun B hB => t_W_removeLast hB hF  hψ h)
set_option maxRecDepth 100000 in
theorem t_W_setWear {G : Gt} {φ : Ph} {B : Bag} (hB : BF G I_W_setWear B) (hF : SF 149 φ)    {o : Int32} {M9 : Mm} {ψ : Ph} (hψ : pK o φ = ψ) {l1 : Int32} {M : Mm} (h : f_W_setWear l1 M = some (o, M9)) : AW G I_W_setWear B (QM G I_W_setWear B (.inl (some (.int o))) M9 ψ) 0 0 0 [(0, .ref 0), (1, .int l1), (2, .ref 148)] [] M φ := by
  unfold f_W_setWear at h
  refine a_aload_n (j := 2) hB e_W_setWear_0 rfl rfl ?_
  refine a_iconst (v := 0) hB e_W_setWear_1 ic_0 ?_
  refine a_aload_n (j := 0) hB e_W_setWear_2 rfl rfl ?_
  refine a_iload_n (j := 1) hB e_W_setWear_3 rfl rfl ?_
  rcases bc2_i h with ⟨e4, M4, hr4, h⟩ | ⟨r4, M4, hr4, h⟩
  · rcases Decidable.em (e4 = 1) with q | q
    · have h := ip q h
      subst q
      refine a_catN (E := "java/lang/IllegalArgumentException") (M1 := M4) (φ1 := dirt φ) (j1 := 1) (j2 := 6) (pc1 := 13) hB (ar_V (As := [.int l1]) (rest := [.int (0 : Int32), .ref 148]) hB (c_C_setWear (bf_G hB) (sf_m hF (by decide)) hr4) ml_W_37 md_C_setWear rc_C_setWear (sf_lt hF (by decide)) kk_0 rfl rfl (Nat.le_of_ble_eq_true rfl) rm_W_setWear_C_setWear e_W_setWear_4) rfl rfl [] ⟨0, 9, 12, 13⟩ [] rfl (fun z hz => nomatch hz) (by decide) (by decide) cl_W_13 ca_1 e_W_setWear_12 (by decide) rfl ?_
      refine a_iconst (v := 1) hB e_W_setWear_13 ic_1 ?_
      cases h
      have hψ := (pK_1 φ).symm.trans hψ
      subst hψ
      exact a_iret hB rfl e_W_setWear_14 (by decide) (by decide)
    · have h := iq q h
      cases h
  · refine a_ret (v := (some (.int r4))) (M1 := M4) (φ1 := φ) (st1 := [.int r4, .int (0 : Int32), .ref 148]) (j1 := 1) (j2 := 6) (ar_V (As := [.int l1]) (rest := [.int (0 : Int32), .ref 148]) hB (c_C_setWear (bf_G hB) (sf_m hF (by decide)) hr4) ml_W_37 md_C_setWear rc_C_setWear (sf_lt hF (by decide)) kk_0 rfl rfl (Nat.le_of_ble_eq_true rfl) rm_W_setWear_C_setWear e_W_setWear_4) rfl rfl rfl ?_
    refine a_i2l hB e_W_setWear_7 ?_
    obtain ⟨M8, hM8, h⟩ := bm_i h
    refine a_last hB e_W_setWear_8 (sf_lt hF (by decide)) kk_148 ll_148 (by decide) ?_
    refine a_mem hM8 ?_
    refine a_goto (tgt := 15) hB e_W_setWear_9 (by decide) ?_
    refine a_iconst (v := 0) hB e_W_setWear_15 ic_0 ?_
    cases h
    have hψ := (pK_0 φ).symm.trans hψ
    subst hψ
    exact a_iret hB rfl e_W_setWear_16 (by decide) (by decide)
set_option maxRecDepth 100000 in
theorem c_W_setWear {G : Gt} (hG : GOK G) {φ : Ph} (hF : SF 149 φ)   {M : Mm} {l1 : Int32} {o : Int32} {M9 : Mm} {ψ : Ph} (hψ : pK o φ = ψ) (h : f_W_setWear l1 M = some (o, M9)) : CT G I_W_setWear [.ref 0, .int l1, .ref 148] M φ (.inl (some (.int o))) M9 ψ :=
  ct_of hG (by decide) (Nat.le_of_ble_eq_true rfl) (fun B hB => t_W_setWear hB hF  hψ h)
set_option maxRecDepth 100000 in
theorem t_W_setPace {G : Gt} {φ : Ph} {B : Bag} (hB : BF G I_W_setPace B) (hF : SF 149 φ)    {o : Int32} {M9 : Mm} {ψ : Ph} (hψ : pK o φ = ψ) {l1 : Int32} {M : Mm} (h : f_W_setPace l1 M = some (o, M9)) : AW G I_W_setPace B (QM G I_W_setPace B (.inl (some (.int o))) M9 ψ) 0 0 0 [(0, .ref 0), (1, .int l1), (2, .ref 148)] [] M φ := by
  unfold f_W_setPace at h
  refine a_aload_n (j := 2) hB e_W_setPace_0 rfl rfl ?_
  refine a_iconst (v := 0) hB e_W_setPace_1 ic_0 ?_
  refine a_aload_n (j := 0) hB e_W_setPace_2 rfl rfl ?_
  refine a_iload_n (j := 1) hB e_W_setPace_3 rfl rfl ?_
  rcases bc2_i h with ⟨e4, M4, hr4, h⟩ | ⟨r4, M4, hr4, h⟩
  · rcases Decidable.em (e4 = 1) with q | q
    · have h := ip q h
      subst q
      refine a_catN (E := "java/lang/IllegalArgumentException") (M1 := M4) (φ1 := dirt φ) (j1 := 1) (j2 := 6) (pc1 := 13) hB (ar_V (As := [.int l1]) (rest := [.int (0 : Int32), .ref 148]) hB (c_C_setPace (bf_G hB) (sf_m hF (by decide)) hr4) ml_W_40 md_C_setPace rc_C_setPace (sf_lt hF (by decide)) kk_0 rfl rfl (Nat.le_of_ble_eq_true rfl) rm_W_setPace_C_setPace e_W_setPace_4) rfl rfl [] ⟨0, 9, 12, 13⟩ [] rfl (fun z hz => nomatch hz) (by decide) (by decide) cl_W_13 ca_1 e_W_setPace_12 (by decide) rfl ?_
      refine a_iconst (v := 1) hB e_W_setPace_13 ic_1 ?_
      cases h
      have hψ := (pK_1 φ).symm.trans hψ
      subst hψ
      exact a_iret hB rfl e_W_setPace_14 (by decide) (by decide)
    · have h := iq q h
      cases h
  · refine a_ret (v := (some (.int r4))) (M1 := M4) (φ1 := φ) (st1 := [.int r4, .int (0 : Int32), .ref 148]) (j1 := 1) (j2 := 6) (ar_V (As := [.int l1]) (rest := [.int (0 : Int32), .ref 148]) hB (c_C_setPace (bf_G hB) (sf_m hF (by decide)) hr4) ml_W_40 md_C_setPace rc_C_setPace (sf_lt hF (by decide)) kk_0 rfl rfl (Nat.le_of_ble_eq_true rfl) rm_W_setPace_C_setPace e_W_setPace_4) rfl rfl rfl ?_
    refine a_i2l hB e_W_setPace_7 ?_
    obtain ⟨M8, hM8, h⟩ := bm_i h
    refine a_last hB e_W_setPace_8 (sf_lt hF (by decide)) kk_148 ll_148 (by decide) ?_
    refine a_mem hM8 ?_
    refine a_goto (tgt := 15) hB e_W_setPace_9 (by decide) ?_
    refine a_iconst (v := 0) hB e_W_setPace_15 ic_0 ?_
    cases h
    have hψ := (pK_0 φ).symm.trans hψ
    subst hψ
    exact a_iret hB rfl e_W_setPace_16 (by decide) (by decide)
set_option maxRecDepth 100000 in
theorem c_W_setPace {G : Gt} (hG : GOK G) {φ : Ph} (hF : SF 149 φ)   {M : Mm} {l1 : Int32} {o : Int32} {M9 : Mm} {ψ : Ph} (hψ : pK o φ = ψ) (h : f_W_setPace l1 M = some (o, M9)) : CT G I_W_setPace [.ref 0, .int l1, .ref 148] M φ (.inl (some (.int o))) M9 ψ :=
  ct_of hG (by decide) (Nat.le_of_ble_eq_true rfl) (fun B hB => t_W_setPace hB hF  hψ h)
set_option maxRecDepth 100000 in
theorem t_W_undo {G : Gt} {φ : Ph} {B : Bag} (hB : BF G I_W_undo B) (hF : SF 149 φ)    {o : Int32} {M9 : Mm} {ψ : Ph} (hψ : pK o φ = ψ)  {M : Mm} (h : f_W_undo M = some (o, M9)) : AW G I_W_undo B (QM G I_W_undo B (.inl (some (.int o))) M9 ψ) 0 0 0 [(0, .ref 0), (1, .ref 148)] [] M φ := by
  unfold f_W_undo at h
  refine a_aload_n (j := 1) hB e_W_undo_0 rfl rfl ?_
  refine a_iconst (v := 0) hB e_W_undo_1 ic_0 ?_
  refine a_aload_n (j := 0) hB e_W_undo_2 rfl rfl ?_
  rcases bc2_i h with ⟨e3, M3, hr3, h⟩ | ⟨r3, M3, hr3, h⟩
  · rcases Decidable.em (e3 = 2) with q | q
    · have h := ip q h
      subst q
      refine a_catN (E := "java/lang/IllegalStateException") (M1 := M3) (φ1 := dirt φ) (j1 := 1) (j2 := 6) (pc1 := 12) hB (ar_V (As := []) (rest := [.int (0 : Int32), .ref 148]) hB (c_C_undo (bf_G hB) (sf_m hF (by decide)) hr3) ml_W_43 md_C_undo rc_C_undo (sf_lt hF (by decide)) kk_0 rfl rfl (Nat.le_of_ble_eq_true rfl) rm_W_undo_C_undo e_W_undo_3) rfl rfl [] ⟨0, 8, 11, 19⟩ [] rfl (fun z hz => nomatch hz) (by decide) (by decide) cl_W_19 ca_2 e_W_undo_11 (by decide) rfl ?_
      refine a_iconst (v := 1) hB e_W_undo_12 ic_1 ?_
      cases h
      have hψ := (pK_1 φ).symm.trans hψ
      subst hψ
      exact a_iret hB rfl e_W_undo_13 (by decide) (by decide)
    · have h := iq q h
      cases h
  · refine a_ret (v := (some (.int r3))) (M1 := M3) (φ1 := φ) (st1 := [.int r3, .int (0 : Int32), .ref 148]) (j1 := 1) (j2 := 6) (ar_V (As := []) (rest := [.int (0 : Int32), .ref 148]) hB (c_C_undo (bf_G hB) (sf_m hF (by decide)) hr3) ml_W_43 md_C_undo rc_C_undo (sf_lt hF (by decide)) kk_0 rfl rfl (Nat.le_of_ble_eq_true rfl) rm_W_undo_C_undo e_W_undo_3) rfl rfl rfl ?_
    refine a_i2l hB e_W_undo_6 ?_
    obtain ⟨M7, hM7, h⟩ := bm_i h
    refine a_last hB e_W_undo_7 (sf_lt hF (by decide)) kk_148 ll_148 (by decide) ?_
    refine a_mem hM7 ?_
    refine a_goto (tgt := 14) hB e_W_undo_8 (by decide) ?_
    refine a_iconst (v := 0) hB e_W_undo_14 ic_0 ?_
    cases h
    have hψ := (pK_0 φ).symm.trans hψ
    subst hψ
    exact a_iret hB rfl e_W_undo_15 (by decide) (by decide)
set_option maxRecDepth 100000 in
theorem c_W_undo {G : Gt} (hG : GOK G) {φ : Ph} (hF : SF 149 φ)   {M : Mm}  {o : Int32} {M9 : Mm} {ψ : Ph} (hψ : pK o φ = ψ) (h : f_W_undo M = some (o, M9)) : CT G I_W_undo [.ref 0, .ref 148] M φ (.inl (some (.int o))) M9 ψ :=
  ct_of hG (by decide) (Nat.le_of_ble_eq_true rfl) (fun B hB => t_W_undo hB hF  hψ h)
