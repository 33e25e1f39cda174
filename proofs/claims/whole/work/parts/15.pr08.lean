/-! the functions are what the machine does -/
set_option maxRecDepth 100000 in
theorem t_M_read {G : Gt} {φ : Ph} {B : Bag} (hB : BF G I_M_read B) (hF : SF 148 φ)   {M : Mm} {o : Int32} {l1 : Int32}  (h : f_M_read M l1 = some o) : AW G I_M_read B (QM G I_M_read B (.inl (some (.int o))) M φ) 0 0 0 [(0, .ref 134), (1, .int l1)] [] M φ := by
  unfold f_M_read at h
  refine a_aload_n (j := 0) hB e_M_read_0 rfl rfl ?_
  refine a_iload_n (j := 1) hB e_M_read_1 rfl rfl ?_
  obtain ⟨r2, hr2, h⟩ := bn_i h
  refine a_ret (v := (some (.int r2))) (M1 := M) (φ1 := φ) (st1 := [.int r2]) (j1 := 0) (j2 := 0) (ar_V (As := [.int l1]) (rest := []) hB (c_M_bog (bf_G hB) hF hr2) ml_M_102 md_M_bog rc_M_bog (sf_lt hF (by decide)) kk_134 rfl rfl (Nat.le_of_ble_eq_true rfl) rm_M_read_M_bog e_M_read_2) rfl rfl rfl ?_
  refine a_if_eq (tgt := 23) hB e_M_read_5 (by decide) (fun c => ?_) (fun c => ?_)
  · have h := ip c h
    refine a_sipush (v := 10000) hB e_M_read_23 sp_10000 ?_
    refine a_aload_n (j := 0) hB e_M_read_26 rfl rfl ?_
    refine a_iload_n (j := 1) hB e_M_read_27 rfl rfl ?_
    refine a_iconst (v := 1) hB e_M_read_28 ic_1 ?_
    obtain ⟨r29, hr29, h⟩ := bn_i h
    refine a_ret (v := (some (.int r29))) (M1 := M) (φ1 := φ) (st1 := [.int r29, .int (10000 : Int32)]) (j1 := 0) (j2 := 0) (ar_V (As := [.int l1, .int (1 : Int32)]) (rest := [.int (10000 : Int32)]) hB (c_M_of (bf_G hB) hF hr29) ml_M_96 md_M_of rc_M_of (sf_lt hF (by decide)) kk_134 rfl rfl (Nat.le_of_ble_eq_true rfl) rm_M_read_M_of e_M_read_29) rfl rfl rfl ?_
    refine a_aload_n (j := 0) hB e_M_read_32 rfl rfl ?_
    refine a_iload_n (j := 1) hB e_M_read_33 rfl rfl ?_
    refine a_iconst (v := 3) hB e_M_read_34 ic_3 ?_
    obtain ⟨r35, hr35, h⟩ := bn_i h
    refine a_ret (v := (some (.int r35))) (M1 := M) (φ1 := φ) (st1 := [.int r35, .int r29, .int (10000 : Int32)]) (j1 := 0) (j2 := 0) (ar_V (As := [.int l1, .int (3 : Int32)]) (rest := [.int r29, .int (10000 : Int32)]) hB (c_M_of (bf_G hB) hF hr35) ml_M_96 md_M_of rc_M_of (sf_lt hF (by decide)) kk_134 rfl rfl (Nat.le_of_ble_eq_true rfl) rm_M_read_M_of e_M_read_35) rfl rfl rfl ?_
    refine a_iadd hB e_M_read_38 ?_
    refine a_imul hB e_M_read_39 ?_
    refine a_bipush (v := 100) hB e_M_read_40 bp_100 ?_
    refine a_aload_n (j := 0) hB e_M_read_42 rfl rfl ?_
    refine a_iload_n (j := 1) hB e_M_read_43 rfl rfl ?_
    refine a_iconst (v := 2) hB e_M_read_44 ic_2 ?_
    obtain ⟨r45, hr45, h⟩ := bn_i h
    refine a_ret (v := (some (.int r45))) (M1 := M) (φ1 := φ) (st1 := [.int r45, .int (100 : Int32), .int ((10000 : Int32) * (r29 + r35))]) (j1 := 0) (j2 := 0) (ar_V (As := [.int l1, .int (2 : Int32)]) (rest := [.int (100 : Int32), .int ((10000 : Int32) * (r29 + r35))]) hB (c_M_of (bf_G hB) hF hr45) ml_M_96 md_M_of rc_M_of (sf_lt hF (by decide)) kk_134 rfl rfl (Nat.le_of_ble_eq_true rfl) rm_M_read_M_of e_M_read_45) rfl rfl rfl ?_
    refine a_imul hB e_M_read_48 ?_
    refine a_iadd hB e_M_read_49 ?_
    cases h
    exact a_iret hB rfl e_M_read_50 (by decide) (by decide)
  · have h := iq c h
    refine a_aload_n (j := 0) hB e_M_read_8 rfl rfl ?_
    refine a_iload_n (j := 1) hB e_M_read_9 rfl rfl ?_
    refine a_bipush (v := 6) hB e_M_read_10 bp_6 ?_
    obtain ⟨r12, hr12, h⟩ := bn_i h
    refine a_ret (v := (some (.int r12))) (M1 := M) (φ1 := φ) (st1 := [.int r12]) (j1 := 0) (j2 := 0) (ar_V (As := [.int l1, .int (6 : Int32)]) (rest := []) hB (c_M_of (bf_G hB) hF hr12) ml_M_96 md_M_of rc_M_of (sf_lt hF (by decide)) kk_134 rfl rfl (Nat.le_of_ble_eq_true rfl) rm_M_read_M_of e_M_read_12) rfl rfl rfl ?_
    refine a_aload_n (j := 0) hB e_M_read_15 rfl rfl ?_
    refine a_getR (r := 135) (k := 0) hB e_M_read_16 fl_M_9 (sf_lt hF (by decide)) kk_134 tt_134_0 (hF.1 _ _) ?_
    refine a_iconst (v := 2) hB e_M_read_19 ic_2 ?_
    refine a_iald' hB e_M_read_20 (sf_lt hF (by decide)) kk_135 ll_135 (by decide) ?_
    refine a_imul hB e_M_read_21 ?_
    cases h
    exact a_iret hB rfl e_M_read_22 (by decide) (by decide)
set_option maxRecDepth 100000 in
theorem c_M_read {G : Gt} (hG : GOK G) {φ : Ph} (hF : SF 148 φ)   {M : Mm} {l1 : Int32} {o : Int32} (h : f_M_read M l1 = some o) : CT G I_M_read [.ref 134, .int l1] M φ (.inl (some (.int o))) M φ :=
  ct_of hG (by decide) (Nat.le_of_ble_eq_true rfl) (fun B hB => t_M_read hB hF  h)
set_option maxRecDepth 100000 in
theorem t_M_slope {G : Gt} {φ : Ph} {B : Bag} (hB : BF G I_M_slope B) (hF : SF 148 φ)   {M : Mm} {o : Int32} {l1 : Int32}  (h : f_M_slope M l1 = some o) : AW G I_M_slope B (QM G I_M_slope B (.inl (some (.int o))) M φ) 0 0 0 [(0, .ref 134), (1, .int l1)] [] M φ := by
  unfold f_M_slope at h
  refine a_aload_n (j := 0) hB e_M_slope_0 rfl rfl ?_
  refine a_iload_n (j := 1) hB e_M_slope_1 rfl rfl ?_
  obtain ⟨r2, hr2, h⟩ := bn_i h
  refine a_ret (v := (some (.int r2))) (M1 := M) (φ1 := φ) (st1 := [.int r2]) (j1 := 0) (j2 := 0) (ar_V (As := [.int l1]) (rest := []) hB (c_M_read (bf_G hB) hF hr2) ml_M_106 md_M_read rc_M_read (sf_lt hF (by decide)) kk_134 rfl rfl (Nat.le_of_ble_eq_true rfl) rm_M_slope_M_read e_M_slope_2) rfl rfl rfl ?_
  refine a_i2l hB e_M_slope_5 ?_
  refine a_lstore_n (ls' := [(2, .long r2.toInt64), (0, .ref 134), (1, .int l1)]) hB e_M_slope_6 rfl (Nat.le_of_ble_eq_true rfl) rfl ?_
  refine a_aload_n (j := 1) hB e_M_slope_7 rfl rfl ?_
  refine a_iload_n (j := 2) hB e_M_slope_8 rfl rfl ?_
  obtain ⟨r9, hr9, h⟩ := bn_i h
  refine a_ret (v := (some (.int r9))) (M1 := M) (φ1 := φ) (st1 := [.int r9]) (j1 := 0) (j2 := 0) (ar_V (As := [.int l1]) (rest := []) hB (c_M_bog (bf_G hB) hF hr9) ml_M_102 md_M_bog rc_M_bog (sf_lt hF (by decide)) kk_134 rfl rfl (Nat.le_of_ble_eq_true rfl) rm_M_slope_M_bog e_M_slope_9) rfl rfl rfl ?_
  refine a_if_eq (tgt := 18) hB e_M_slope_12 (by decide) (fun c => ?_) (fun c => ?_)
  · have h := ip c h
    refine a_lload_n (j := 0) hB e_M_slope_18 rfl rfl ?_
    refine a_lload_n (j := 0) hB e_M_slope_19 rfl rfl ?_
    refine a_aload_n (j := 1) hB e_M_slope_20 rfl rfl ?_
    refine a_getR (r := 135) (k := 0) hB e_M_slope_21 fl_M_9 (sf_lt hF (by decide)) kk_134 tt_134_0 (hF.1 _ _) ?_
    refine a_iconst (v := 1) hB e_M_slope_24 ic_1 ?_
    refine a_iald' hB e_M_slope_25 (sf_lt hF (by decide)) kk_135 ll_135 (by decide) ?_
    refine a_i2l hB e_M_slope_26 ?_
    refine a_lmul hB e_M_slope_27 ?_
    refine a_ldc2 (v := 10000) hB cj_M_110 e_M_slope_28 ?_
    refine a_ldiv hB e_M_slope_31 (by decide) ?_
    refine a_ladd hB e_M_slope_32 ?_
    refine a_lstore (ls' := [(4, .long (r2.toInt64 + ((r2.toInt64 * ((M 135 (ix (1 : Int32))).toInt64)) / (10000 : Int64)))), (2, .long r2.toInt64), (0, .ref 134), (1, .int l1)]) hB e_M_slope_33 (Nat.le_of_ble_eq_true rfl) rfl ?_
    refine a_lload (j := 0) hB e_M_slope_35 rfl ?_
    refine a_lload (j := 0) hB e_M_slope_37 rfl ?_
    refine a_aload_n (j := 2) hB e_M_slope_39 rfl rfl ?_
    refine a_iload_n (j := 3) hB e_M_slope_40 rfl rfl ?_
    refine a_iconst (v := 5) hB e_M_slope_41 ic_5 ?_
    obtain ⟨r42, hr42, h⟩ := bn_i h
    refine a_ret (v := (some (.int r42))) (M1 := M) (φ1 := φ) (st1 := [.int r42, .long (r2.toInt64 + ((r2.toInt64 * ((M 135 (ix (1 : Int32))).toInt64)) / (10000 : Int64))), .long (r2.toInt64 + ((r2.toInt64 * ((M 135 (ix (1 : Int32))).toInt64)) / (10000 : Int64)))]) (j1 := 0) (j2 := 0) (ar_V (As := [.int l1, .int (5 : Int32)]) (rest := [.long (r2.toInt64 + ((r2.toInt64 * ((M 135 (ix (1 : Int32))).toInt64)) / (10000 : Int64))), .long (r2.toInt64 + ((r2.toInt64 * ((M 135 (ix (1 : Int32))).toInt64)) / (10000 : Int64)))]) hB (c_M_of (bf_G hB) hF hr42) ml_M_96 md_M_of rc_M_of (sf_lt hF (by decide)) kk_134 rfl rfl (Nat.le_of_ble_eq_true rfl) rm_M_slope_M_of e_M_slope_42) rfl rfl rfl ?_
    refine a_bipush (v := 15) hB e_M_slope_45 bp_15 ?_
    refine a_isub hB e_M_slope_47 ?_
    refine a_i2l hB e_M_slope_48 ?_
    refine a_lmul hB e_M_slope_49 ?_
    refine a_ldc2 (v := 12) hB cj_M_112 e_M_slope_50 ?_
    refine a_lmul hB e_M_slope_53 ?_
    refine a_ldc2 (v := 1000000) hB cj_M_114 e_M_slope_54 ?_
    refine a_ldiv hB e_M_slope_57 (by decide) ?_
    refine a_ladd hB e_M_slope_58 ?_
    refine a_l2i hB e_M_slope_59 ?_
    cases h
    exact a_iret hB rfl e_M_slope_60 (by decide) (by decide)
  · have h := iq c h
    refine a_lload_n (j := 0) hB e_M_slope_15 rfl rfl ?_
    refine a_l2i hB e_M_slope_16 ?_
    cases h
    exact a_iret hB rfl e_M_slope_17 (by decide) (by decide)
set_option maxRecDepth 100000 in
theorem c_M_slope {G : Gt} (hG : GOK G) {φ : Ph} (hF : SF 148 φ)   {M : Mm} {l1 : Int32} {o : Int32} (h : f_M_slope M l1 = some o) : CT G I_M_slope [.ref 134, .int l1] M φ (.inl (some (.int o))) M φ :=
  ct_of hG (by decide) (Nat.le_of_ble_eq_true rfl) (fun B hB => t_M_slope hB hF  h)
set_option maxRecDepth 100000 in
theorem t_M_flat_55 {G : Gt} {φ : Ph} {B : Bag} (hB : BF G I_M_flat B) (hF : SF 148 φ)   {M : Mm} {o : Int32} {t0 : Int32}  (h : f_M_flat_55 M t0 = some o) : AW G I_M_flat B (QM G I_M_flat B (.inl (some (.int o))) M φ) 0 0 55 [] [.int t0] M φ := by
  unfold f_M_flat_55 at h
  cases h
  exact a_iret hB rfl e_M_flat_55 (by decide) (by decide)
set_option maxRecDepth 100000 in
theorem t_M_flat {G : Gt} {φ : Ph} {B : Bag} (hB : BF G I_M_flat B) (hF : SF 148 φ)   {M : Mm} {o : Int32} {l1 : Int32}  (h : f_M_flat M l1 = some o) : AW G I_M_flat B (QM G I_M_flat B (.inl (some (.int o))) M φ) 0 0 0 [(0, .ref 134), (1, .int l1)] [] M φ := by
  unfold f_M_flat at h
  refine a_aload_n (j := 0) hB e_M_flat_0 rfl rfl ?_
  refine a_iload_n (j := 1) hB e_M_flat_1 rfl rfl ?_
  obtain ⟨r2, hr2, h⟩ := bn_i h
  refine a_ret (v := (some (.int r2))) (M1 := M) (φ1 := φ) (st1 := [.int r2]) (j1 := 0) (j2 := 0) (ar_V (As := [.int l1]) (rest := []) hB (c_M_slope (bf_G hB) hF hr2) ml_M_116 md_M_slope rc_M_slope (sf_lt hF (by decide)) kk_134 rfl rfl (Nat.le_of_ble_eq_true rfl) rm_M_flat_M_slope e_M_flat_2) rfl rfl rfl ?_
  refine a_i2l hB e_M_flat_5 ?_
  refine a_lstore_n (ls' := [(2, .long r2.toInt64), (0, .ref 134), (1, .int l1)]) hB e_M_flat_6 rfl (Nat.le_of_ble_eq_true rfl) rfl ?_
  refine a_aload_n (j := 1) hB e_M_flat_7 rfl rfl ?_
  refine a_iload_n (j := 2) hB e_M_flat_8 rfl rfl ?_
  obtain ⟨r9, hr9, h⟩ := bn_i h
  refine a_ret (v := (some (.int r9))) (M1 := M) (φ1 := φ) (st1 := [.int r9]) (j1 := 0) (j2 := 0) (ar_V (As := [.int l1]) (rest := []) hB (c_M_bog (bf_G hB) hF hr9) ml_M_102 md_M_bog rc_M_bog (sf_lt hF (by decide)) kk_134 rfl rfl (Nat.le_of_ble_eq_true rfl) rm_M_flat_M_bog e_M_flat_9) rfl rfl rfl ?_
  refine a_if_eq (tgt := 18) hB e_M_flat_12 (by decide) (fun c => ?_) (fun c => ?_)
  · have h := ip c h
    refine a_ldc2 (v := 100) hB cj_M_119 e_M_flat_18 ?_
    refine a_aload_n (j := 1) hB e_M_flat_21 rfl rfl ?_
    refine a_iload_n (j := 2) hB e_M_flat_22 rfl rfl ?_
    refine a_iconst (v := 4) hB e_M_flat_23 ic_4 ?_
    obtain ⟨r24, hr24, h⟩ := bn_i h
    refine a_ret (v := (some (.int r24))) (M1 := M) (φ1 := φ) (st1 := [.int r24, .long (100 : Int64)]) (j1 := 0) (j2 := 0) (ar_V (As := [.int l1, .int (4 : Int32)]) (rest := [.long (100 : Int64)]) hB (c_M_of (bf_G hB) hF hr24) ml_M_96 md_M_of rc_M_of (sf_lt hF (by decide)) kk_134 rfl rfl (Nat.le_of_ble_eq_true rfl) rm_M_flat_M_of e_M_flat_24) rfl rfl rfl ?_
    refine a_i2l hB e_M_flat_27 ?_
    refine a_lmul hB e_M_flat_28 ?_
    refine a_lstore (ls' := [(4, .long ((100 : Int64) * r24.toInt64)), (2, .long r2.toInt64), (0, .ref 134), (1, .int l1)]) hB e_M_flat_29 (Nat.le_of_ble_eq_true rfl) rfl ?_
    refine a_lload (j := 0) hB e_M_flat_31 rfl ?_
    refine a_lload_n (j := 1) hB e_M_flat_33 rfl rfl ?_
    refine a_lcmp hB e_M_flat_34 ?_
    refine a_if_le (tgt := 42) hB e_M_flat_35 (by decide) (fun c => ?_) (fun c => ?_)
    · have h := ip c h
      refine a_lload_n (j := 1) hB e_M_flat_42 rfl rfl ?_
      refine a_lload_n (j := 1) hB e_M_flat_43 rfl rfl ?_
      refine a_lmul hB e_M_flat_44 ?_
      refine a_lload (j := 0) hB e_M_flat_45 rfl ?_
      refine a_lload (j := 0) hB e_M_flat_47 rfl ?_
      refine a_lmul hB e_M_flat_49 ?_
      refine a_lsub hB e_M_flat_50 ?_
      obtain ⟨r51, hr51, h⟩ := bn_i h
      refine a_ret (v := (some (.long r51))) (M1 := M) (φ1 := φ) (st1 := [.long r51]) (j1 := 0) (j2 := 0) (ar_S (As := [.long ((r2.toInt64 * r2.toInt64) - (((100 : Int64) * r24.toInt64) * ((100 : Int64) * r24.toInt64)))]) (rest := []) hB (c_M_root (bf_G hB) hF hr51) ml_M_121 md_M_root rfl rfl (Nat.le_of_ble_eq_true rfl) rm_M_flat_M_root e_M_flat_51) rfl rfl rfl ?_
      refine a_l2i hB e_M_flat_54 ?_
      refine a_ls [] (ls' := []) rfl ?_
      exact t_M_flat_55 hB hF h
    · have h := iq c h
      refine a_iconst (v := 0) hB e_M_flat_38 ic_0 ?_
      refine a_goto (tgt := 55) hB e_M_flat_39 (by decide) ?_
      refine a_ls [] (ls' := []) rfl ?_
      exact t_M_flat_55 hB hF h
  · have h := iq c h
    refine a_lload_n (j := 0) hB e_M_flat_15 rfl rfl ?_
    refine a_l2i hB e_M_flat_16 ?_
    cases h
    exact a_iret hB rfl e_M_flat_17 (by decide) (by decide)
set_option maxRecDepth 100000 in
theorem c_M_flat {G : Gt} (hG : GOK G) {φ : Ph} (hF : SF 148 φ)   {M : Mm} {l1 : Int32} {o : Int32} (h : f_M_flat M l1 = some o) : CT G I_M_flat [.ref 134, .int l1] M φ (.inl (some (.int o))) M φ :=
  ct_of hG (by decide) (Nat.le_of_ble_eq_true rfl) (fun B hB => t_M_flat hB hF  h)
set_option maxRecDepth 100000 in
theorem t_M_cosine_41 {G : Gt} {φ : Ph} {B : Bag} (hB : BF G I_M_cosine B) (hF : SF 148 φ)   {M : Mm} {o : Int32} {t0 : Int32}  (h : f_M_cosine_41 M t0 = some o) : AW G I_M_cosine B (QM G I_M_cosine B (.inl (some (.int o))) M φ) 0 0 41 [] [.int t0] M φ := by
  unfold f_M_cosine_41 at h
  cases h
  exact a_iret hB rfl e_M_cosine_41 (by decide) (by decide)
set_option maxRecDepth 100000 in
theorem t_M_cosine_16 {G : Gt} {φ : Ph} {B : Bag} (hB : BF G I_M_cosine B) (hF : SF 148 φ)   {M : Mm} {o : Int32} {l2 : Int32}  (h : f_M_cosine_16 M l2 = some o) : AW G I_M_cosine B (QM G I_M_cosine B (.inl (some (.int o))) M φ) 0 0 16 [(0, .ref 134), (2, .int l2)] [] M φ := by
  unfold f_M_cosine_16 at h
  refine a_iload_n (j := 1) hB e_M_cosine_16 rfl rfl ?_
  refine a_bipush (v := 6) hB e_M_cosine_17 bp_6 ?_
  refine a_icmp_gt (tgt := 31) hB e_M_cosine_19 (by decide) (fun c => ?_) (fun c => ?_)
  · have h := ip c h
    refine a_aload_n (j := 0) hB e_M_cosine_31 rfl rfl ?_
    refine a_getR (r := 146) (k := 13) hB e_M_cosine_32 fl_M_44 (sf_lt hF (by decide)) kk_134 tt_134_13 (hF.1 _ _) ?_
    refine a_bipush (v := 12) hB e_M_cosine_35 bp_12 ?_
    refine a_iload_n (j := 1) hB e_M_cosine_37 rfl rfl ?_
    refine a_isub hB e_M_cosine_38 ?_
    obtain ⟨c39, h⟩ := chk_i h
    refine a_iald' hB e_M_cosine_39 (sf_lt hF (by decide)) kk_146 ll_146 c39 ?_
    refine a_ineg hB e_M_cosine_40 ?_
    refine a_ls [] (ls' := []) rfl ?_
    exact t_M_cosine_41 hB hF h
  · have h := iq c h
    refine a_aload_n (j := 0) hB e_M_cosine_22 rfl rfl ?_
    refine a_getR (r := 146) (k := 13) hB e_M_cosine_23 fl_M_44 (sf_lt hF (by decide)) kk_134 tt_134_13 (hF.1 _ _) ?_
    refine a_iload_n (j := 1) hB e_M_cosine_26 rfl rfl ?_
    obtain ⟨c27, h⟩ := chk_i h
    refine a_iald' hB e_M_cosine_27 (sf_lt hF (by decide)) kk_146 ll_146 c27 ?_
    refine a_goto (tgt := 41) hB e_M_cosine_28 (by decide) ?_
    refine a_ls [] (ls' := []) rfl ?_
    exact t_M_cosine_41 hB hF h
set_option maxRecDepth 100000 in
theorem t_M_cosine {G : Gt} {φ : Ph} {B : Bag} (hB : BF G I_M_cosine B) (hF : SF 148 φ)   {M : Mm} {o : Int32} {l1 : Int32}  (h : f_M_cosine M l1 = some o) : AW G I_M_cosine B (QM G I_M_cosine B (.inl (some (.int o))) M φ) 0 0 0 [(0, .ref 134), (1, .int l1)] [] M φ := by
  unfold f_M_cosine at h
  refine a_iload_n (j := 1) hB e_M_cosine_0 rfl rfl ?_
  refine a_bipush (v := 24) hB e_M_cosine_1 bp_24 ?_
  refine a_irem hB e_M_cosine_3 (by decide) ?_
  refine a_istore_n (ls' := [(2, .int (l1 - l1 / (24 : Int32) * (24 : Int32))), (0, .ref 134), (1, .int l1)]) hB e_M_cosine_4 rfl (Nat.le_of_ble_eq_true rfl) rfl ?_
  refine a_iload_n (j := 0) hB e_M_cosine_5 rfl rfl ?_
  refine a_bipush (v := 12) hB e_M_cosine_6 bp_12 ?_
  refine a_icmp_le (tgt := 16) hB e_M_cosine_8 (by decide) (fun c => ?_) (fun c => ?_)
  · have h := ip c h
    refine a_ls [1, 0] (ls' := [(0, .ref 134), (2, .int (l1 - l1 / (24 : Int32) * (24 : Int32)))]) rfl ?_
    exact t_M_cosine_16 hB hF h
  · have h := iq c h
    refine a_bipush (v := 24) hB e_M_cosine_11 bp_24 ?_
    refine a_iload_n (j := 0) hB e_M_cosine_13 rfl rfl ?_
    refine a_isub hB e_M_cosine_14 ?_
    refine a_istore_n (ls' := [(2, .int ((24 : Int32) - (l1 - l1 / (24 : Int32) * (24 : Int32)))), (0, .ref 134), (1, .int l1)]) hB e_M_cosine_15 rfl (Nat.le_of_ble_eq_true rfl) rfl ?_
    refine a_ls [1, 0] (ls' := [(0, .ref 134), (2, .int ((24 : Int32) - (l1 - l1 / (24 : Int32) * (24 : Int32))))]) rfl ?_
    exact t_M_cosine_16 hB hF h
set_option maxRecDepth 100000 in
theorem c_M_cosine {G : Gt} (hG : GOK G) {φ : Ph} (hF : SF 148 φ)   {M : Mm} {l1 : Int32} {o : Int32} (h : f_M_cosine M l1 = some o) : CT G I_M_cosine [.ref 134, .int l1] M φ (.inl (some (.int o))) M φ :=
  ct_of hG (by decide) (Nat.le_of_ble_eq_true rfl) (fun B hB => t_M_cosine hB hF  h)
set_option maxRecDepth 100000 in
theorem t_M_step_29 {G : Gt} {φ : Ph} {B : Bag} (hB : BF G I_M_step B) (hF : SF 148 φ)   {M : Mm} {o : Int32} {t0 : Int64} {t2 : Int32}  (h : f_M_step_29 M t0 t2 = some o) : AW G I_M_step B (QM G I_M_step B (.inl (some (.int o))) M φ) 0 0 29 [] [.int t2, .ref 134, .long t0] M φ := by
  unfold f_M_step_29 at h
  obtain ⟨r29, hr29, h⟩ := bn_i h
  refine a_ret (v := (some (.int r29))) (M1 := M) (φ1 := φ) (st1 := [.int r29, .long t0]) (j1 := 0) (j2 := 0) (ar_V (As := [.int t2]) (rest := [.long t0]) hB (c_M_cosine (bf_G hB) hF hr29) ml_M_128 md_M_cosine rc_M_cosine (sf_lt hF (by decide)) kk_134 rfl rfl (Nat.le_of_ble_eq_true rfl) rm_M_step_M_cosine e_M_step_29) rfl rfl rfl ?_
  refine a_i2l hB e_M_step_32 ?_
  refine a_lmul hB e_M_step_33 ?_
  refine a_lstore (ls' := [(4, .long (t0 * r29.toInt64))]) hB e_M_step_34 (Nat.le_of_ble_eq_true rfl) rfl ?_
  refine a_lload (j := 0) hB e_M_step_36 rfl ?_
  refine a_ldc2 (v := 10000) hB cj_M_110 e_M_step_38 ?_
  refine a_ldiv hB e_M_step_41 (by decide) ?_
  refine a_l2i hB e_M_step_42 ?_
  cases h
  exact a_iret hB rfl e_M_step_43 (by decide) (by decide)
set_option maxRecDepth 100000 in
theorem t_M_step {G : Gt} {φ : Ph} {B : Bag} (hB : BF G I_M_step B) (hF : SF 148 φ)   {M : Mm} {o : Int32} {l1 : Int32} {l2 : Int32}  (h : f_M_step M l1 l2 = some o) : AW G I_M_step B (QM G I_M_step B (.inl (some (.int o))) M φ) 0 0 0 [(0, .ref 134), (1, .int l1), (2, .int l2)] [] M φ := by
  unfold f_M_step at h
  refine a_aload_n (j := 0) hB e_M_step_0 rfl rfl ?_
  refine a_iload_n (j := 1) hB e_M_step_1 rfl rfl ?_
  refine a_iconst (v := 0) hB e_M_step_2 ic_0 ?_
  obtain ⟨r3, hr3, h⟩ := bn_i h
  refine a_ret (v := (some (.int r3))) (M1 := M) (φ1 := φ) (st1 := [.int r3]) (j1 := 0) (j2 := 0) (ar_V (As := [.int l1, .int (0 : Int32)]) (rest := []) hB (c_M_of (bf_G hB) hF hr3) ml_M_96 md_M_of rc_M_of (sf_lt hF (by decide)) kk_134 rfl rfl (Nat.le_of_ble_eq_true rfl) rm_M_step_M_of e_M_step_3) rfl rfl rfl ?_
  refine a_bipush (v := 15) hB e_M_step_6 bp_15 ?_
  refine a_idiv hB e_M_step_8 (by decide) ?_
  refine a_istore_n (ls' := [(3, .int (r3 / (15 : Int32))), (0, .ref 134), (1, .int l1), (2, .int l2)]) hB e_M_step_9 rfl (Nat.le_of_ble_eq_true rfl) rfl ?_
  refine a_aload_n (j := 1) hB e_M_step_10 rfl rfl ?_
  refine a_iload_n (j := 2) hB e_M_step_11 rfl rfl ?_
  obtain ⟨r12, hr12, h⟩ := bn_i h
  refine a_ret (v := (some (.int r12))) (M1 := M) (φ1 := φ) (st1 := [.int r12]) (j1 := 0) (j2 := 0) (ar_V (As := [.int l1]) (rest := []) hB (c_M_flat (bf_G hB) hF hr12) ml_M_125 md_M_flat rc_M_flat (sf_lt hF (by decide)) kk_134 rfl rfl (Nat.le_of_ble_eq_true rfl) rm_M_step_M_flat e_M_step_12) rfl rfl rfl ?_
  refine a_i2l hB e_M_step_15 ?_
  refine a_aload_n (j := 1) hB e_M_step_16 rfl rfl ?_
  refine a_iload_n (j := 3) hB e_M_step_17 rfl rfl ?_
  refine a_if_eq (tgt := 28) hB e_M_step_18 (by decide) (fun c => ?_) (fun c => ?_)
  · have h := ip c h
    refine a_iload_n (j := 0) hB e_M_step_28 rfl rfl ?_
    refine a_ls [] (ls' := []) rfl ?_
    exact t_M_step_29 hB hF h
  · have h := iq c h
    refine a_iload_n (j := 0) hB e_M_step_21 rfl rfl ?_
    refine a_bipush (v := 18) hB e_M_step_22 bp_18 ?_
    refine a_iadd hB e_M_step_24 ?_
    refine a_goto (tgt := 29) hB e_M_step_25 (by decide) ?_
    refine a_ls [] (ls' := []) rfl ?_
    exact t_M_step_29 hB hF h
set_option maxRecDepth 100000 in
theorem c_M_step {G : Gt} (hG : GOK G) {φ : Ph} (hF : SF 148 φ)   {M : Mm} {l1 : Int32} {l2 : Int32} {o : Int32} (h : f_M_step M l1 l2 = some o) : CT G I_M_step [.ref 134, .int l1, .int l2] M φ (.inl (some (.int o))) M φ :=
  ct_of hG (by decide) (Nat.le_of_ble_eq_true rfl) (fun B hB => t_M_step hB hF  h)
set_option maxRecDepth 100000 in
theorem t_M_findRaw_23 {G : Gt} {φ : Ph} {B : Bag} (hB : BF G I_M_findRaw B) (hF : SF 148 φ)    {M9 : Mm} : ∀ (n : Nat) (l1 : Int32) (M : Mm), f_M_findRaw_23 n l1 M = some M9 → AW G I_M_findRaw B (QM G I_M_findRaw B (.inl none) M9 φ) 0 0 23 [(0, .ref 134), (1, .int l1)] [] M φ := by
  intro n
  induction n with
  | zero => intro l1 M h; cases h
  | succ n hr23 =>
    intro l1 M h
    rw [f_M_findRaw_23] at h
    refine a_iload_n (j := 1) hB e_M_findRaw_23 rfl rfl ?_
    refine a_aload_n (j := 0) hB e_M_findRaw_24 rfl rfl ?_
    refine a_getR (r := 135) (k := 0) hB e_M_findRaw_25 fl_M_9 (sf_lt hF (by decide)) kk_134 tt_134_0 (hF.1 _ _) ?_
    refine a_iconst (v := 0) hB e_M_findRaw_28 ic_0 ?_
    refine a_iald' hB e_M_findRaw_29 (sf_lt hF (by decide)) kk_135 ll_135 (by decide) ?_
    refine a_icmp_ge (tgt := 101) hB e_M_findRaw_30 (by decide) (fun c => ?_) (fun c => ?_)
    · have h := ip c h
      cases h
      exact a_vret hB rfl e_M_findRaw_101 (by decide) (by decide)
    · have h := iq c h
      refine a_aload_n (j := 0) hB e_M_findRaw_33 rfl rfl ?_
      refine a_getR (r := 143) (k := 10) hB e_M_findRaw_34 fl_M_35 (sf_lt hF (by decide)) kk_134 tt_134_10 (hF.1 _ _) ?_
      refine a_iload_n (j := 1) hB e_M_findRaw_37 rfl rfl ?_
      refine a_iconst (v := 1) hB e_M_findRaw_38 ic_1 ?_
      refine a_iadd hB e_M_findRaw_39 ?_
      refine a_aload_n (j := 0) hB e_M_findRaw_40 rfl rfl ?_
      refine a_getR (r := 143) (k := 10) hB e_M_findRaw_41 fl_M_35 (sf_lt hF (by decide)) kk_134 tt_134_10 (hF.1 _ _) ?_
      refine a_iload_n (j := 1) hB e_M_findRaw_44 rfl rfl ?_
      obtain ⟨c45, h⟩ := chk_i h
      refine a_iald' hB e_M_findRaw_45 (sf_lt hF (by decide)) kk_143 ll_143 c45 ?_
      refine a_aload_n (j := 0) hB e_M_findRaw_46 rfl rfl ?_
      refine a_iload_n (j := 1) hB e_M_findRaw_47 rfl rfl ?_
      refine a_iconst (v := 1) hB e_M_findRaw_48 ic_1 ?_
      obtain ⟨r49, hr49, h⟩ := bn_i h
      refine a_ret (v := (some (.int r49))) (M1 := M) (φ1 := φ) (st1 := [.int r49, .int (M 143 (ix l1)), .int (l1 + (1 : Int32)), .ref 143]) (j1 := 0) (j2 := 0) (ar_V (As := [.int l1, .int (1 : Int32)]) (rest := [.int (M 143 (ix l1)), .int (l1 + (1 : Int32)), .ref 143]) hB (c_M_step (bf_G hB) hF hr49) ml_M_131 md_M_step rc_M_step (sf_lt hF (by decide)) kk_134 rfl rfl (Nat.le_of_ble_eq_true rfl) rm_M_findRaw_M_step e_M_findRaw_49) rfl rfl rfl ?_
      refine a_iadd hB e_M_findRaw_52 ?_
      obtain ⟨c53, h⟩ := chk_i h
      obtain ⟨M53, hM53, h⟩ := bm_i h
      refine a_iast' hB e_M_findRaw_53 (sf_lt hF (by decide)) kk_143 ll_143 c53 ?_
      refine a_mem hM53 ?_
      refine a_aload_n (j := 0) hB e_M_findRaw_54 rfl rfl ?_
      refine a_getR (r := 144) (k := 11) hB e_M_findRaw_55 fl_M_38 (sf_lt hF (by decide)) kk_134 tt_134_11 (hF.1 _ _) ?_
      refine a_iload_n (j := 1) hB e_M_findRaw_58 rfl rfl ?_
      refine a_iconst (v := 1) hB e_M_findRaw_59 ic_1 ?_
      refine a_iadd hB e_M_findRaw_60 ?_
      refine a_aload_n (j := 0) hB e_M_findRaw_61 rfl rfl ?_
      refine a_getR (r := 144) (k := 11) hB e_M_findRaw_62 fl_M_38 (sf_lt hF (by decide)) kk_134 tt_134_11 (hF.1 _ _) ?_
      refine a_iload_n (j := 1) hB e_M_findRaw_65 rfl rfl ?_
      refine a_iald' hB e_M_findRaw_66 (sf_lt hF (by decide)) kk_144 ll_144 c45 ?_
      refine a_aload_n (j := 0) hB e_M_findRaw_67 rfl rfl ?_
      refine a_iload_n (j := 1) hB e_M_findRaw_68 rfl rfl ?_
      refine a_iconst (v := 0) hB e_M_findRaw_69 ic_0 ?_
      obtain ⟨r70, hr70, h⟩ := bn_i h
      refine a_ret (v := (some (.int r70))) (M1 := M53) (φ1 := φ) (st1 := [.int r70, .int (M53 144 (ix l1)), .int (l1 + (1 : Int32)), .ref 144]) (j1 := 0) (j2 := 0) (ar_V (As := [.int l1, .int (0 : Int32)]) (rest := [.int (M53 144 (ix l1)), .int (l1 + (1 : Int32)), .ref 144]) hB (c_M_step (bf_G hB) hF hr70) ml_M_131 md_M_step rc_M_step (sf_lt hF (by decide)) kk_134 rfl rfl (Nat.le_of_ble_eq_true rfl) rm_M_findRaw_M_step e_M_findRaw_70) rfl rfl rfl ?_
      refine a_iadd hB e_M_findRaw_73 ?_
      obtain ⟨M74, hM74, h⟩ := bm_i h
      refine a_iast' hB e_M_findRaw_74 (sf_lt hF (by decide)) kk_144 ll_144 c53 ?_
      refine a_mem hM74 ?_
      refine a_aload_n (j := 0) hB e_M_findRaw_75 rfl rfl ?_
      refine a_getR (r := 145) (k := 12) hB e_M_findRaw_76 fl_M_41 (sf_lt hF (by decide)) kk_134 tt_134_12 (hF.1 _ _) ?_
      refine a_iload_n (j := 1) hB e_M_findRaw_79 rfl rfl ?_
      refine a_iconst (v := 1) hB e_M_findRaw_80 ic_1 ?_
      refine a_iadd hB e_M_findRaw_81 ?_
      refine a_aload_n (j := 0) hB e_M_findRaw_82 rfl rfl ?_
      refine a_getR (r := 145) (k := 12) hB e_M_findRaw_83 fl_M_41 (sf_lt hF (by decide)) kk_134 tt_134_12 (hF.1 _ _) ?_
      refine a_iload_n (j := 1) hB e_M_findRaw_86 rfl rfl ?_
      refine a_iald' hB e_M_findRaw_87 (sf_lt hF (by decide)) kk_145 ll_145 c45 ?_
      refine a_aload_n (j := 0) hB e_M_findRaw_88 rfl rfl ?_
      refine a_iload_n (j := 1) hB e_M_findRaw_89 rfl rfl ?_
      obtain ⟨r90, hr90, h⟩ := bn_i h
      refine a_ret (v := (some (.int r90))) (M1 := M74) (φ1 := φ) (st1 := [.int r90, .int (M74 145 (ix l1)), .int (l1 + (1 : Int32)), .ref 145]) (j1 := 0) (j2 := 0) (ar_V (As := [.int l1]) (rest := [.int (M74 145 (ix l1)), .int (l1 + (1 : Int32)), .ref 145]) hB (c_M_flat (bf_G hB) hF hr90) ml_M_125 md_M_flat rc_M_flat (sf_lt hF (by decide)) kk_134 rfl rfl (Nat.le_of_ble_eq_true rfl) rm_M_findRaw_M_flat e_M_findRaw_90) rfl rfl rfl ?_
      refine a_iadd hB e_M_findRaw_93 ?_
      obtain ⟨M94, hM94, h⟩ := bm_i h
      refine a_iast' hB e_M_findRaw_94 (sf_lt hF (by decide)) kk_145 ll_145 c53 ?_
      refine a_mem hM94 ?_
      refine a_iinc (j := 1) (v := l1 + 1) (ls' := [(1, .int (l1 + 1)), (0, .ref 134)]) hB e_M_findRaw_95 rfl (inc_1 _) (Nat.le_of_ble_eq_true rfl) rfl ?_
      refine a_goto (tgt := 23) hB e_M_findRaw_98 (by decide) ?_
      refine a_ls [1, 0] (ls' := [(0, .ref 134), (1, .int (l1 + 1))]) rfl ?_
      exact hr23 _ _ h
set_option maxRecDepth 100000 in
theorem t_M_findRaw {G : Gt} {φ : Ph} {B : Bag} (hB : BF G I_M_findRaw B) (hF : SF 148 φ)    {M9 : Mm}  {M : Mm} (h : f_M_findRaw M = some M9) : AW G I_M_findRaw B (QM G I_M_findRaw B (.inl none) M9 φ) 0 0 0 [(0, .ref 134)] [] M φ := by
  unfold f_M_findRaw at h
  refine a_aload_n (j := 0) hB e_M_findRaw_0 rfl rfl ?_
  refine a_getR (r := 143) (k := 10) hB e_M_findRaw_1 fl_M_35 (sf_lt hF (by decide)) kk_134 tt_134_10 (hF.1 _ _) ?_
  refine a_iconst (v := 0) hB e_M_findRaw_4 ic_0 ?_
  refine a_iconst (v := 0) hB e_M_findRaw_5 ic_0 ?_
  obtain ⟨M6, hM6, h⟩ := bm_i h
  refine a_iast' hB e_M_findRaw_6 (sf_lt hF (by decide)) kk_143 ll_143 (by decide) ?_
  refine a_mem hM6 ?_
  refine a_aload_n (j := 0) hB e_M_findRaw_7 rfl rfl ?_
  refine a_getR (r := 144) (k := 11) hB e_M_findRaw_8 fl_M_38 (sf_lt hF (by decide)) kk_134 tt_134_11 (hF.1 _ _) ?_
  refine a_iconst (v := 0) hB e_M_findRaw_11 ic_0 ?_
  refine a_iconst (v := 0) hB e_M_findRaw_12 ic_0 ?_
  obtain ⟨M13, hM13, h⟩ := bm_i h
  refine a_iast' hB e_M_findRaw_13 (sf_lt hF (by decide)) kk_144 ll_144 (by decide) ?_
  refine a_mem hM13 ?_
  refine a_aload_n (j := 0) hB e_M_findRaw_14 rfl rfl ?_
  refine a_getR (r := 145) (k := 12) hB e_M_findRaw_15 fl_M_41 (sf_lt hF (by decide)) kk_134 tt_134_12 (hF.1 _ _) ?_
  refine a_iconst (v := 0) hB e_M_findRaw_18 ic_0 ?_
  refine a_iconst (v := 0) hB e_M_findRaw_19 ic_0 ?_
  obtain ⟨M20, hM20, h⟩ := bm_i h
  refine a_iast' hB e_M_findRaw_20 (sf_lt hF (by decide)) kk_145 ll_145 (by decide) ?_
  refine a_mem hM20 ?_
  refine a_iconst (v := 0) hB e_M_findRaw_21 ic_0 ?_
  refine a_istore_n (ls' := [(1, .int (0 : Int32)), (0, .ref 134)]) hB e_M_findRaw_22 rfl (Nat.le_of_ble_eq_true rfl) rfl ?_
  refine a_ls [1, 0] (ls' := [(0, .ref 134), (1, .int (0 : Int32))]) rfl ?_
  exact t_M_findRaw_23 hB hF _ _ _ h
set_option maxRecDepth 100000 in
theorem c_M_findRaw {G : Gt} (hG : GOK G) {φ : Ph} (hF : SF 148 φ)   {M : Mm}  {M9 : Mm} (h : f_M_findRaw M = some M9) : CT G I_M_findRaw [.ref 134] M φ (.inl none) M9 φ :=
  ct_of hG (by decide) (Nat.le_of_ble_eq_true rfl) (fun B hB => t_M_findRaw hB hF  h)
set_option maxRecDepth 100000 in
theorem t_M_around {G : Gt} {φ : Ph} {B : Bag} (hB : BF G I_M_around B) (hF : SF 148 φ)   {M : Mm} {o : Int32}   (h : f_M_around M = some o) : AW G I_M_around B (QM G I_M_around B (.inl (some (.int o))) M φ) 0 0 0 [(0, .ref 134)] [] M φ := by
  unfold f_M_around at h
  refine a_aload_n (j := 0) hB e_M_around_0 rfl rfl ?_
  refine a_getR (r := 145) (k := 12) hB e_M_around_1 fl_M_41 (sf_lt hF (by decide)) kk_134 tt_134_12 (hF.1 _ _) ?_
  refine a_aload_n (j := 0) hB e_M_around_4 rfl rfl ?_
  refine a_getR (r := 135) (k := 0) hB e_M_around_5 fl_M_9 (sf_lt hF (by decide)) kk_134 tt_134_0 (hF.1 _ _) ?_
  refine a_iconst (v := 0) hB e_M_around_8 ic_0 ?_
  refine a_iald' hB e_M_around_9 (sf_lt hF (by decide)) kk_135 ll_135 (by decide) ?_
  obtain ⟨c10, h⟩ := chk_i h
  refine a_iald' hB e_M_around_10 (sf_lt hF (by decide)) kk_145 ll_145 c10 ?_
  cases h
  exact a_iret hB rfl e_M_around_11 (by decide) (by decide)
set_option maxRecDepth 100000 in
theorem c_M_around {G : Gt} (hG : GOK G) {φ : Ph} (hF : SF 148 φ)   {M : Mm}  {o : Int32} (h : f_M_around M = some o) : CT G I_M_around [.ref 134] M φ (.inl (some (.int o))) M φ :=
  ct_of hG (by decide) (Nat.le_of_ble_eq_true rfl) (fun B hB => t_M_around hB hF  h)
set_option maxRecDepth 100000 in
theorem t_M_part_17 {G : Gt} {φ : Ph} {B : Bag} (hB : BF G I_M_part B) (hF : SF 148 φ)   {M : Mm} {o : Int32} {t0 : Int32}  (h : f_M_part_17 t0 = some o) : AW G I_M_part B (QM G I_M_part B (.inl (some (.int o))) M φ) 0 0 17 [] [.int t0] M φ := by
  unfold f_M_part_17 at h
  cases h
  exact a_iret hB rfl e_M_part_17 (by decide) (by decide)
set_option maxRecDepth 100000 in
theorem t_M_part {G : Gt} {φ : Ph} {B : Bag} (hB : BF G I_M_part B) (hF : SF 148 φ)   {M : Mm} {o : Int32} {l0 : Int32} {l1 : Int32} {l2 : Int32}  (h : f_M_part l0 l1 l2 = some o) : AW G I_M_part B (QM G I_M_part B (.inl (some (.int o))) M φ) 0 0 0 [(0, .int l0), (1, .int l1), (2, .int l2)] [] M φ := by
  unfold f_M_part at h
  refine a_iload_n (j := 2) hB e_M_part_0 rfl rfl ?_
  refine a_if_ne (tgt := 8) hB e_M_part_1 (by decide) (fun c => ?_) (fun c => ?_)
  · have h := iq c h
    refine a_iload_n (j := 0) hB e_M_part_8 rfl rfl ?_
    refine a_i2l hB e_M_part_9 ?_
    refine a_iload_n (j := 1) hB e_M_part_10 rfl rfl ?_
    refine a_i2l hB e_M_part_11 ?_
    refine a_lmul hB e_M_part_12 ?_
    refine a_iload_n (j := 2) hB e_M_part_13 rfl rfl ?_
    refine a_i2l hB e_M_part_14 ?_
    obtain ⟨c15, h⟩ := chk_i h
    refine a_ldiv hB e_M_part_15 c15 ?_
    refine a_l2i hB e_M_part_16 ?_
    refine a_ls [] (ls' := []) rfl ?_
    exact t_M_part_17 hB hF h
  · have h := ip c h
    refine a_iconst (v := 0) hB e_M_part_4 ic_0 ?_
    refine a_goto (tgt := 17) hB e_M_part_5 (by decide) ?_
    refine a_ls [] (ls' := []) rfl ?_
    exact t_M_part_17 hB hF h
set_option maxRecDepth 100000 in
theorem c_M_part {G : Gt} (hG : GOK G) {φ : Ph} (hF : SF 148 φ)   {M : Mm} {l0 : Int32} {l1 : Int32} {l2 : Int32} {o : Int32} (h : f_M_part l0 l1 l2 = some o) : CT G I_M_part [.int l0, .int l1, .int l2] M φ (.inl (some (.int o))) M φ :=
  ct_of hG (by decide) (Nat.le_of_ble_eq_true rfl) (fun B hB => t_M_part hB hF  h)
set_option maxRecDepth 100000 in
theorem t_M_findStations_40 {G : Gt} {φ : Ph} {B : Bag} (hB : BF G I_M_findStations B) (hF : SF 148 φ)    {M9 : Mm} : ∀ (n : Nat) (l1 : Int32) (l2 : Int32) (l3 : Int32) (M : Mm), f_M_findStations_40 n l1 l2 l3 M = some M9 → AW G I_M_findStations B (QM G I_M_findStations B (.inl none) M9 φ) 0 0 40 [(0, .ref 134), (1, .int l1), (2, .int l2), (3, .int l3)] [] M φ := by
  intro n
  induction n with
  | zero => intro l1 l2 l3 M h; cases h
  | succ n hr40 =>
    intro l1 l2 l3 M h
    rw [f_M_findStations_40] at h
    refine a_iload_n (j := 3) hB e_M_findStations_40 rfl rfl ?_
    refine a_aload_n (j := 0) hB e_M_findStations_41 rfl rfl ?_
    refine a_getR (r := 135) (k := 0) hB e_M_findStations_42 fl_M_9 (sf_lt hF (by decide)) kk_134 tt_134_0 (hF.1 _ _) ?_
    refine a_iconst (v := 0) hB e_M_findStations_45 ic_0 ?_
    refine a_iald' hB e_M_findStations_46 (sf_lt hF (by decide)) kk_135 ll_135 (by decide) ?_
    refine a_icmp_gt (tgt := 102) hB e_M_findStations_47 (by decide) (fun c => ?_) (fun c => ?_)
    · have h := ip c h
      cases h
      exact a_vret hB rfl e_M_findStations_102 (by decide) (by decide)
    · have h := iq c h
      refine a_aload_n (j := 0) hB e_M_findStations_50 rfl rfl ?_
      refine a_getR (r := 143) (k := 10) hB e_M_findStations_51 fl_M_35 (sf_lt hF (by decide)) kk_134 tt_134_10 (hF.1 _ _) ?_
      refine a_iload_n (j := 3) hB e_M_findStations_54 rfl rfl ?_
      refine a_dup2 hB e_M_findStations_55 rfl rfl ?_
      obtain ⟨c56, h⟩ := chk_i h
      refine a_iald' hB e_M_findStations_56 (sf_lt hF (by decide)) kk_143 ll_143 c56 ?_
      refine a_iload_n (j := 1) hB e_M_findStations_57 rfl rfl ?_
      refine a_aload_n (j := 0) hB e_M_findStations_58 rfl rfl ?_
      refine a_getR (r := 145) (k := 12) hB e_M_findStations_59 fl_M_41 (sf_lt hF (by decide)) kk_134 tt_134_12 (hF.1 _ _) ?_
      refine a_iload_n (j := 3) hB e_M_findStations_62 rfl rfl ?_
      refine a_iald' hB e_M_findStations_63 (sf_lt hF (by decide)) kk_145 ll_145 c56 ?_
      refine a_aload_n (j := 0) hB e_M_findStations_64 rfl rfl ?_
      obtain ⟨r65, hr65, h⟩ := bn_i h
      refine a_ret (v := (some (.int r65))) (M1 := M) (φ1 := φ) (st1 := [.int r65, .int (M 145 (ix l3)), .int l1, .int (M 143 (ix l3)), .int l3, .ref 143]) (j1 := 0) (j2 := 0) (ar_V (As := []) (rest := [.int (M 145 (ix l3)), .int l1, .int (M 143 (ix l3)), .int l3, .ref 143]) hB (c_M_around (bf_G hB) hF hr65) ml_M_138 md_M_around rc_M_around (sf_lt hF (by decide)) kk_134 rfl rfl (Nat.le_of_ble_eq_true rfl) rm_M_findStations_M_around e_M_findStations_65) rfl rfl rfl ?_
      obtain ⟨r68, hr68, h⟩ := bn_i h
      refine a_ret (v := (some (.int r68))) (M1 := M) (φ1 := φ) (st1 := [.int r68, .int (M 143 (ix l3)), .int l3, .ref 143]) (j1 := 0) (j2 := 0) (ar_S (As := [.int l1, .int (M 145 (ix l3)), .int r65]) (rest := [.int (M 143 (ix l3)), .int l3, .ref 143]) hB (c_M_part (bf_G hB) hF hr68) ml_M_141 md_M_part rfl rfl (Nat.le_of_ble_eq_true rfl) rm_M_findStations_M_part e_M_findStations_68) rfl rfl rfl ?_
      refine a_isub hB e_M_findStations_71 ?_
      obtain ⟨M72, hM72, h⟩ := bm_i h
      refine a_iast' hB e_M_findStations_72 (sf_lt hF (by decide)) kk_143 ll_143 c56 ?_
      refine a_mem hM72 ?_
      refine a_aload_n (j := 0) hB e_M_findStations_73 rfl rfl ?_
      refine a_getR (r := 144) (k := 11) hB e_M_findStations_74 fl_M_38 (sf_lt hF (by decide)) kk_134 tt_134_11 (hF.1 _ _) ?_
      refine a_iload_n (j := 3) hB e_M_findStations_77 rfl rfl ?_
      refine a_dup2 hB e_M_findStations_78 rfl rfl ?_
      refine a_iald' hB e_M_findStations_79 (sf_lt hF (by decide)) kk_144 ll_144 c56 ?_
      refine a_iload_n (j := 2) hB e_M_findStations_80 rfl rfl ?_
      refine a_aload_n (j := 0) hB e_M_findStations_81 rfl rfl ?_
      refine a_getR (r := 145) (k := 12) hB e_M_findStations_82 fl_M_41 (sf_lt hF (by decide)) kk_134 tt_134_12 (hF.1 _ _) ?_
      refine a_iload_n (j := 3) hB e_M_findStations_85 rfl rfl ?_
      refine a_iald' hB e_M_findStations_86 (sf_lt hF (by decide)) kk_145 ll_145 c56 ?_
      refine a_aload_n (j := 0) hB e_M_findStations_87 rfl rfl ?_
      obtain ⟨r88, hr88, h⟩ := bn_i h
      refine a_ret (v := (some (.int r88))) (M1 := M72) (φ1 := φ) (st1 := [.int r88, .int (M72 145 (ix l3)), .int l2, .int (M72 144 (ix l3)), .int l3, .ref 144]) (j1 := 0) (j2 := 0) (ar_V (As := []) (rest := [.int (M72 145 (ix l3)), .int l2, .int (M72 144 (ix l3)), .int l3, .ref 144]) hB (c_M_around (bf_G hB) hF hr88) ml_M_138 md_M_around rc_M_around (sf_lt hF (by decide)) kk_134 rfl rfl (Nat.le_of_ble_eq_true rfl) rm_M_findStations_M_around e_M_findStations_88) rfl rfl rfl ?_
      obtain ⟨r91, hr91, h⟩ := bn_i h
      refine a_ret (v := (some (.int r91))) (M1 := M72) (φ1 := φ) (st1 := [.int r91, .int (M72 144 (ix l3)), .int l3, .ref 144]) (j1 := 0) (j2 := 0) (ar_S (As := [.int l2, .int (M72 145 (ix l3)), .int r88]) (rest := [.int (M72 144 (ix l3)), .int l3, .ref 144]) hB (c_M_part (bf_G hB) hF hr91) ml_M_141 md_M_part rfl rfl (Nat.le_of_ble_eq_true rfl) rm_M_findStations_M_part e_M_findStations_91) rfl rfl rfl ?_
      refine a_isub hB e_M_findStations_94 ?_
      obtain ⟨M95, hM95, h⟩ := bm_i h
      refine a_iast' hB e_M_findStations_95 (sf_lt hF (by decide)) kk_144 ll_144 c56 ?_
      refine a_mem hM95 ?_
      refine a_iinc (j := 3) (v := l3 + 1) (ls' := [(3, .int (l3 + 1)), (0, .ref 134), (1, .int l1), (2, .int l2)]) hB e_M_findStations_96 rfl (inc_1 _) (Nat.le_of_ble_eq_true rfl) rfl ?_
      refine a_goto (tgt := 40) hB e_M_findStations_99 (by decide) ?_
      refine a_ls [1, 2, 3, 0] (ls' := [(0, .ref 134), (1, .int l1), (2, .int l2), (3, .int (l3 + 1))]) rfl ?_
      exact hr40 _ _ _ _ h
set_option maxRecDepth 100000 in
theorem t_M_findStations {G : Gt} {φ : Ph} {B : Bag} (hB : BF G I_M_findStations B) (hF : SF 148 φ)    {M9 : Mm}  {M : Mm} (h : f_M_findStations M = some M9) : AW G I_M_findStations B (QM G I_M_findStations B (.inl none) M9 φ) 0 0 0 [(0, .ref 134)] [] M φ := by
  unfold f_M_findStations at h
  refine a_aload_n (j := 0) hB e_M_findStations_0 rfl rfl ?_
  obtain ⟨M1, hr1, h⟩ := bn_i h
  refine a_ret (v := none) (M1 := M1) (φ1 := φ) (st1 := []) (j1 := 0) (j2 := 0) (ar_V (As := []) (rest := []) hB (c_M_findRaw (bf_G hB) hF hr1) ml_M_135 md_M_findRaw rc_M_findRaw (sf_lt hF (by decide)) kk_134 rfl rfl (Nat.le_of_ble_eq_true rfl) rm_M_findStations_M_findRaw e_M_findStations_1) rfl rfl rfl ?_
  refine a_aload_n (j := 0) hB e_M_findStations_4 rfl rfl ?_
  refine a_getR (r := 135) (k := 0) hB e_M_findStations_5 fl_M_9 (sf_lt hF (by decide)) kk_134 tt_134_0 (hF.1 _ _) ?_
  refine a_iconst (v := 3) hB e_M_findStations_8 ic_3 ?_
  refine a_iald' hB e_M_findStations_9 (sf_lt hF (by decide)) kk_135 ll_135 (by decide) ?_
  refine a_if_ne (tgt := 14) hB e_M_findStations_10 (by decide) (fun c => ?_) (fun c => ?_)
  · have h := iq c h
    refine a_aload_n (j := 0) hB e_M_findStations_14 rfl rfl ?_
    refine a_getR (r := 143) (k := 10) hB e_M_findStations_15 fl_M_35 (sf_lt hF (by decide)) kk_134 tt_134_10 (hF.1 _ _) ?_
    refine a_aload_n (j := 0) hB e_M_findStations_18 rfl rfl ?_
    refine a_getR (r := 135) (k := 0) hB e_M_findStations_19 fl_M_9 (sf_lt hF (by decide)) kk_134 tt_134_0 (hF.1 _ _) ?_
    refine a_iconst (v := 0) hB e_M_findStations_22 ic_0 ?_
    refine a_iald' hB e_M_findStations_23 (sf_lt hF (by decide)) kk_135 ll_135 (by decide) ?_
    obtain ⟨c24, h⟩ := chk_i h
    refine a_iald' hB e_M_findStations_24 (sf_lt hF (by decide)) kk_143 ll_143 c24 ?_
    refine a_istore_n (ls' := [(1, .int (M1 143 (ix (M1 135 (ix (0 : Int32)))))), (0, .ref 134)]) hB e_M_findStations_25 rfl (Nat.le_of_ble_eq_true rfl) rfl ?_
    refine a_aload_n (j := 1) hB e_M_findStations_26 rfl rfl ?_
    refine a_getR (r := 144) (k := 11) hB e_M_findStations_27 fl_M_38 (sf_lt hF (by decide)) kk_134 tt_134_11 (hF.1 _ _) ?_
    refine a_aload_n (j := 1) hB e_M_findStations_30 rfl rfl ?_
    refine a_getR (r := 135) (k := 0) hB e_M_findStations_31 fl_M_9 (sf_lt hF (by decide)) kk_134 tt_134_0 (hF.1 _ _) ?_
    refine a_iconst (v := 0) hB e_M_findStations_34 ic_0 ?_
    refine a_iald' hB e_M_findStations_35 (sf_lt hF (by decide)) kk_135 ll_135 (by decide) ?_
    refine a_iald' hB e_M_findStations_36 (sf_lt hF (by decide)) kk_144 ll_144 c24 ?_
    refine a_istore_n (ls' := [(2, .int (M1 144 (ix (M1 135 (ix (0 : Int32)))))), (1, .int (M1 143 (ix (M1 135 (ix (0 : Int32)))))), (0, .ref 134)]) hB e_M_findStations_37 rfl (Nat.le_of_ble_eq_true rfl) rfl ?_
    refine a_iconst (v := 0) hB e_M_findStations_38 ic_0 ?_
    refine a_istore_n (ls' := [(3, .int (0 : Int32)), (2, .int (M1 144 (ix (M1 135 (ix (0 : Int32)))))), (1, .int (M1 143 (ix (M1 135 (ix (0 : Int32)))))), (0, .ref 134)]) hB e_M_findStations_39 rfl (Nat.le_of_ble_eq_true rfl) rfl ?_
    refine a_ls [3, 2, 1, 0] (ls' := [(0, .ref 134), (1, .int (M1 143 (ix (M1 135 (ix (0 : Int32)))))), (2, .int (M1 144 (ix (M1 135 (ix (0 : Int32)))))), (3, .int (0 : Int32))]) rfl ?_
    exact t_M_findStations_40 hB hF _ _ _ _ _ h
  · have h := ip c h
    cases h
    exact a_vret hB rfl e_M_findStations_13 (by decide) (by decide)
set_option maxRecDepth 100000 in
theorem c_M_findStations {G : Gt} (hG : GOK G) {φ : Ph} (hF : SF 148 φ)   {M : Mm}  {M9 : Mm} (h : f_M_findStations M = some M9) : CT G I_M_findStations [.ref 134] M φ (.inl none) M9 φ :=
  ct_of hG (by decide) (Nat.le_of_ble_eq_true rfl) (fun B hB => t_M_findStations hB hF  h)
set_option maxRecDepth 100000 in
theorem t_M_far {G : Gt} {φ : Ph} {B : Bag} (hB : BF G I_M_far B) (hF : SF 148 φ)   {M : Mm} {o : Int32} {l0 : Int64} {l2 : Int64}  (h : f_M_far l0 l2 = some o) : AW G I_M_far B (QM G I_M_far B (.inl (some (.int o))) M φ) 0 0 0 [(0, .long l0), (2, .long l2)] [] M φ := by
  unfold f_M_far at h
  refine a_lload_n (j := 0) hB e_M_far_0 rfl rfl ?_
  refine a_lload_n (j := 0) hB e_M_far_1 rfl rfl ?_
  refine a_lmul hB e_M_far_2 ?_
  refine a_lload_n (j := 1) hB e_M_far_3 rfl rfl ?_
  refine a_lload_n (j := 1) hB e_M_far_4 rfl rfl ?_
  refine a_lmul hB e_M_far_5 ?_
  refine a_ladd hB e_M_far_6 ?_
  obtain ⟨r7, hr7, h⟩ := bn_i h
  refine a_ret (v := (some (.long r7))) (M1 := M) (φ1 := φ) (st1 := [.long r7]) (j1 := 0) (j2 := 0) (ar_S (As := [.long ((l0 * l0) + (l2 * l2))]) (rest := []) hB (c_M_root (bf_G hB) hF hr7) ml_M_121 md_M_root rfl rfl (Nat.le_of_ble_eq_true rfl) rm_M_far_M_root e_M_far_7) rfl rfl rfl ?_
  refine a_l2i hB e_M_far_10 ?_
  cases h
  exact a_iret hB rfl e_M_far_11 (by decide) (by decide)
set_option maxRecDepth 100000 in
theorem c_M_far {G : Gt} (hG : GOK G) {φ : Ph} (hF : SF 148 φ)   {M : Mm} {l0 : Int64} {l2 : Int64} {o : Int32} (h : f_M_far l0 l2 = some o) : CT G I_M_far [.long l0, .long l2] M φ (.inl (some (.int o))) M φ :=
  ct_of hG (by decide) (Nat.le_of_ble_eq_true rfl) (fun B hB => t_M_far hB hF  h)
set_option maxRecDepth 100000 in
theorem t_M_miss {G : Gt} {φ : Ph} {B : Bag} (hB : BF G I_M_miss B) (hF : SF 148 φ)    {o : Int32} {M9 : Mm}  {M : Mm} (h : f_M_miss M = some (o, M9)) : AW G I_M_miss B (QM G I_M_miss B (.inl (some (.int o))) M9 φ) 0 0 0 [(0, .ref 134)] [] M φ := by
  unfold f_M_miss at h
  refine a_aload_n (j := 0) hB e_M_miss_0 rfl rfl ?_
  obtain ⟨M1, hr1, h⟩ := bn_i h
  refine a_ret (v := none) (M1 := M1) (φ1 := φ) (st1 := []) (j1 := 0) (j2 := 0) (ar_V (As := []) (rest := []) hB (c_M_findRaw (bf_G hB) hF hr1) ml_M_135 md_M_findRaw rc_M_findRaw (sf_lt hF (by decide)) kk_134 rfl rfl (Nat.le_of_ble_eq_true rfl) rm_M_miss_M_findRaw e_M_miss_1) rfl rfl rfl ?_
  refine a_aload_n (j := 0) hB e_M_miss_4 rfl rfl ?_
  refine a_getR (r := 143) (k := 10) hB e_M_miss_5 fl_M_35 (sf_lt hF (by decide)) kk_134 tt_134_10 (hF.1 _ _) ?_
  refine a_aload_n (j := 0) hB e_M_miss_8 rfl rfl ?_
  refine a_getR (r := 135) (k := 0) hB e_M_miss_9 fl_M_9 (sf_lt hF (by decide)) kk_134 tt_134_0 (hF.1 _ _) ?_
  refine a_iconst (v := 0) hB e_M_miss_12 ic_0 ?_
  refine a_iald' hB e_M_miss_13 (sf_lt hF (by decide)) kk_135 ll_135 (by decide) ?_
  obtain ⟨c14, h⟩ := chk_i h
  refine a_iald' hB e_M_miss_14 (sf_lt hF (by decide)) kk_143 ll_143 c14 ?_
  refine a_i2l hB e_M_miss_15 ?_
  refine a_aload_n (j := 0) hB e_M_miss_16 rfl rfl ?_
  refine a_getR (r := 144) (k := 11) hB e_M_miss_17 fl_M_38 (sf_lt hF (by decide)) kk_134 tt_134_11 (hF.1 _ _) ?_
  refine a_aload_n (j := 0) hB e_M_miss_20 rfl rfl ?_
  refine a_getR (r := 135) (k := 0) hB e_M_miss_21 fl_M_9 (sf_lt hF (by decide)) kk_134 tt_134_0 (hF.1 _ _) ?_
  refine a_iconst (v := 0) hB e_M_miss_24 ic_0 ?_
  refine a_iald' hB e_M_miss_25 (sf_lt hF (by decide)) kk_135 ll_135 (by decide) ?_
  refine a_iald' hB e_M_miss_26 (sf_lt hF (by decide)) kk_144 ll_144 c14 ?_
  refine a_i2l hB e_M_miss_27 ?_
  obtain ⟨r28, hr28, h⟩ := bn_i h
  refine a_ret (v := (some (.int r28))) (M1 := M1) (φ1 := φ) (st1 := [.int r28]) (j1 := 0) (j2 := 0) (ar_S (As := [.long ((M1 143 (ix (M1 135 (ix (0 : Int32))))).toInt64), .long ((M1 144 (ix (M1 135 (ix (0 : Int32))))).toInt64)]) (rest := []) hB (c_M_far (bf_G hB) hF hr28) ml_M_145 md_M_far rfl rfl (Nat.le_of_ble_eq_true rfl) rm_M_miss_M_far e_M_miss_28) rfl rfl rfl ?_
  cases h
  exact a_iret hB rfl e_M_miss_31 (by decide) (by decide)
set_option maxRecDepth 100000 in
theorem c_M_miss {G : Gt} (hG : GOK G) {φ : Ph} (hF : SF 148 φ)   {M : Mm}  {o : Int32} {M9 : Mm} (h : f_M_miss M = some (o, M9)) : CT G I_M_miss [.ref 134] M φ (.inl (some (.int o))) M9 φ :=
  ct_of hG (by decide) (Nat.le_of_ble_eq_true rfl) (fun B hB => t_M_miss hB hF  h)
set_option maxRecDepth 100000 in
theorem t_M_mayDrop_24 {G : Gt} {φ : Ph} {B : Bag} (hB : BF G I_M_mayDrop B) (hF : SF 148 φ)   {M : Mm} {o : Int32} {t0 : Int32}  (h : f_M_mayDrop_24 M t0 = some o) : AW G I_M_mayDrop B (QM G I_M_mayDrop B (.inl (some (.int o))) M φ) 0 0 24 [] [.int t0] M φ := by
  unfold f_M_mayDrop_24 at h
  obtain ⟨z24, h⟩ := chk_i h
  cases h
  exact a_zret hB rfl z24 e_M_mayDrop_24 (by decide) (by decide)
set_option maxRecDepth 100000 in
theorem t_M_mayDrop_23 {G : Gt} {φ : Ph} {B : Bag} (hB : BF G I_M_mayDrop B) (hF : SF 148 φ)   {M : Mm} {o : Int32}   (h : f_M_mayDrop_23 M = some o) : AW G I_M_mayDrop B (QM G I_M_mayDrop B (.inl (some (.int o))) M φ) 0 0 23 [] [] M φ := by
  unfold f_M_mayDrop_23 at h
  refine a_iconst (v := 0) hB e_M_mayDrop_23 ic_0 ?_
  exact t_M_mayDrop_24 hB hF h
set_option maxRecDepth 100000 in
theorem t_M_mayDrop {G : Gt} {φ : Ph} {B : Bag} (hB : BF G I_M_mayDrop B) (hF : SF 148 φ)   {M : Mm} {o : Int32} {l1 : Int32}  (h : f_M_mayDrop M l1 = some o) : AW G I_M_mayDrop B (QM G I_M_mayDrop B (.inl (some (.int o))) M φ) 0 0 0 [(0, .ref 134), (1, .int l1)] [] M φ := by
  unfold f_M_mayDrop at h
  refine a_aload_n (j := 0) hB e_M_mayDrop_0 rfl rfl ?_
  refine a_iload_n (j := 1) hB e_M_mayDrop_1 rfl rfl ?_
  obtain ⟨r2, hr2, h⟩ := bn_i h
  refine a_ret (v := (some (.int r2))) (M1 := M) (φ1 := φ) (st1 := [.int r2]) (j1 := 0) (j2 := 0) (ar_V (As := [.int l1]) (rest := []) hB (c_M_bog (bf_G hB) hF hr2) ml_M_102 md_M_bog rc_M_bog (sf_lt hF (by decide)) kk_134 rfl rfl (Nat.le_of_ble_eq_true rfl) rm_M_mayDrop_M_bog e_M_mayDrop_2) rfl rfl rfl ?_
  refine a_if_ne (tgt := 23) hB e_M_mayDrop_5 (by decide) (fun c => ?_) (fun c => ?_)
  · have h := iq c h
    refine a_ls [] (ls' := []) rfl ?_
    exact t_M_mayDrop_23 hB hF h
  · have h := ip c h
    refine a_aload_n (j := 0) hB e_M_mayDrop_8 rfl rfl ?_
    refine a_iload_n (j := 1) hB e_M_mayDrop_9 rfl rfl ?_
    refine a_iconst (v := 3) hB e_M_mayDrop_10 ic_3 ?_
    obtain ⟨r11, hr11, h⟩ := bn_i h
    refine a_ret (v := (some (.int r11))) (M1 := M) (φ1 := φ) (st1 := [.int r11]) (j1 := 0) (j2 := 0) (ar_V (As := [.int l1, .int (3 : Int32)]) (rest := []) hB (c_M_of (bf_G hB) hF hr11) ml_M_96 md_M_of rc_M_of (sf_lt hF (by decide)) kk_134 rfl rfl (Nat.le_of_ble_eq_true rfl) rm_M_mayDrop_M_of e_M_mayDrop_11) rfl rfl rfl ?_
    refine a_bipush (v := 9) hB e_M_mayDrop_14 bp_9 ?_
    refine a_icmp_ge (tgt := 23) hB e_M_mayDrop_16 (by decide) (fun c => ?_) (fun c => ?_)
    · have h := ip c h
      refine a_ls [] (ls' := []) rfl ?_
      exact t_M_mayDrop_23 hB hF h
    · have h := iq c h
      refine a_iconst (v := 1) hB e_M_mayDrop_19 ic_1 ?_
      refine a_goto (tgt := 24) hB e_M_mayDrop_20 (by decide) ?_
      refine a_ls [] (ls' := []) rfl ?_
      exact t_M_mayDrop_24 hB hF h
set_option maxRecDepth 100000 in
theorem c_M_mayDrop {G : Gt} (hG : GOK G) {φ : Ph} (hF : SF 148 φ)   {M : Mm} {l1 : Int32} {o : Int32} (h : f_M_mayDrop M l1 = some o) : CT G I_M_mayDrop [.ref 134, .int l1] M φ (.inl (some (.int o))) M φ :=
  ct_of hG (by decide) (Nat.le_of_ble_eq_true rfl) (fun B hB => t_M_mayDrop hB hF  h)
set_option maxRecDepth 100000 in
theorem t_M_drops {G : Gt} {φ : Ph} {B : Bag} (hB : BF G I_M_drops B) (hF : SF 148 φ)    {o : Int32} {M9 : Mm} {l1 : Int32} {l2 : Int32} {M : Mm} (h : f_M_drops l1 l2 M = some (o, M9)) : AW G I_M_drops B (QM G I_M_drops B (.inl (some (.int o))) M9 φ) 0 0 0 [(0, .ref 134), (1, .int l1), (2, .int l2)] [] M φ := by
  unfold f_M_drops at h
  refine a_aload_n (j := 0) hB e_M_drops_0 rfl rfl ?_
  refine a_iload_n (j := 1) hB e_M_drops_1 rfl rfl ?_
  refine a_iconst (v := 3) hB e_M_drops_2 ic_3 ?_
  refine a_aload_n (j := 0) hB e_M_drops_3 rfl rfl ?_
  refine a_iload_n (j := 1) hB e_M_drops_4 rfl rfl ?_
  refine a_iconst (v := 3) hB e_M_drops_5 ic_3 ?_
  obtain ⟨r6, hr6, h⟩ := bn_i h
  refine a_ret (v := (some (.int r6))) (M1 := M) (φ1 := φ) (st1 := [.int r6, .int (3 : Int32), .int l1, .ref 134]) (j1 := 0) (j2 := 0) (ar_V (As := [.int l1, .int (3 : Int32)]) (rest := [.int (3 : Int32), .int l1, .ref 134]) hB (c_M_of (bf_G hB) hF hr6) ml_M_96 md_M_of rc_M_of (sf_lt hF (by decide)) kk_134 rfl rfl (Nat.le_of_ble_eq_true rfl) rm_M_drops_M_of e_M_drops_6) rfl rfl rfl ?_
  refine a_iload_n (j := 2) hB e_M_drops_9 rfl rfl ?_
  refine a_iadd hB e_M_drops_10 ?_
  obtain ⟨M11, hr11, h⟩ := bn_i h
  refine a_ret (v := none) (M1 := M11) (φ1 := φ) (st1 := []) (j1 := 0) (j2 := 0) (ar_V (As := [.int l1, .int (3 : Int32), .int (r6 + l2)]) (rest := []) hB (c_M_put (bf_G hB) hF hr11) ml_M_149 md_M_put rc_M_put (sf_lt hF (by decide)) kk_134 rfl rfl (Nat.le_of_ble_eq_true rfl) rm_M_drops_M_put e_M_drops_11) rfl rfl rfl ?_
  refine a_aload_n (j := 0) hB e_M_drops_14 rfl rfl ?_
  refine a_iload_n (j := 1) hB e_M_drops_15 rfl rfl ?_
  refine a_iconst (v := 3) hB e_M_drops_16 ic_3 ?_
  obtain ⟨r17, hr17, h⟩ := bn_i h
  refine a_ret (v := (some (.int r17))) (M1 := M11) (φ1 := φ) (st1 := [.int r17]) (j1 := 0) (j2 := 0) (ar_V (As := [.int l1, .int (3 : Int32)]) (rest := []) hB (c_M_of (bf_G hB) hF hr17) ml_M_96 md_M_of rc_M_of (sf_lt hF (by decide)) kk_134 rfl rfl (Nat.le_of_ble_eq_true rfl) rm_M_drops_M_of e_M_drops_17) rfl rfl rfl ?_
  cases h
  exact a_iret hB rfl e_M_drops_20 (by decide) (by decide)
set_option maxRecDepth 100000 in
theorem c_M_drops {G : Gt} (hG : GOK G) {φ : Ph} (hF : SF 148 φ)   {M : Mm} {l1 : Int32} {l2 : Int32} {o : Int32} {M9 : Mm} (h : f_M_drops l1 l2 M = some (o, M9)) : CT G I_M_drops [.ref 134, .int l1, .int l2] M φ (.inl (some (.int o))) M9 φ :=
  ct_of hG (by decide) (Nat.le_of_ble_eq_true rfl) (fun B hB => t_M_drops hB hF  h)
set_option maxRecDepth 100000 in
theorem t_M_removes_12 {G : Gt} {φ : Ph} {B : Bag} (hB : BF G I_M_removes B) (hF : SF 148 φ)    {o : Int32} {M9 : Mm} : ∀ (n : Nat) (l1 : Int32) (M : Mm), f_M_removes_12 n l1 M = some (o, M9) → AW G I_M_removes B (QM G I_M_removes B (.inl (some (.int o))) M9 φ) 0 0 12 [(0, .ref 134), (1, .int l1)] [] M φ := by
  intro n
  induction n with
  | zero => intro l1 M h; cases h
  | succ n hr12 =>
    intro l1 M h
    rw [f_M_removes_12] at h
    refine a_iload_n (j := 1) hB e_M_removes_12 rfl rfl ?_
    refine a_bipush (v := 14) hB e_M_removes_13 bp_14 ?_
    refine a_icmp_ge (tgt := 36) hB e_M_removes_15 (by decide) (fun c => ?_) (fun c => ?_)
    · have h := ip c h
      refine a_aload_n (j := 0) hB e_M_removes_36 rfl rfl ?_
      refine a_getR (r := 135) (k := 0) hB e_M_removes_37 fl_M_9 (sf_lt hF (by decide)) kk_134 tt_134_0 (hF.1 _ _) ?_
      refine a_iconst (v := 0) hB e_M_removes_40 ic_0 ?_
      refine a_iald' hB e_M_removes_41 (sf_lt hF (by decide)) kk_135 ll_135 (by decide) ?_
      cases h
      exact a_iret hB rfl e_M_removes_42 (by decide) (by decide)
    · have h := iq c h
      refine a_aload_n (j := 0) hB e_M_removes_18 rfl rfl ?_
      refine a_aload_n (j := 0) hB e_M_removes_19 rfl rfl ?_
      refine a_getR (r := 135) (k := 0) hB e_M_removes_20 fl_M_9 (sf_lt hF (by decide)) kk_134 tt_134_0 (hF.1 _ _) ?_
      refine a_iconst (v := 0) hB e_M_removes_23 ic_0 ?_
      refine a_iald' hB e_M_removes_24 (sf_lt hF (by decide)) kk_135 ll_135 (by decide) ?_
      refine a_iload_n (j := 1) hB e_M_removes_25 rfl rfl ?_
      refine a_iconst (v := 0) hB e_M_removes_26 ic_0 ?_
      obtain ⟨M27, hr27, h⟩ := bn_i h
      refine a_ret (v := none) (M1 := M27) (φ1 := φ) (st1 := []) (j1 := 0) (j2 := 0) (ar_V (As := [.int (M 135 (ix (0 : Int32))), .int l1, .int (0 : Int32)]) (rest := []) hB (c_M_put (bf_G hB) hF hr27) ml_M_149 md_M_put rc_M_put (sf_lt hF (by decide)) kk_134 rfl rfl (Nat.le_of_ble_eq_true rfl) rm_M_removes_M_put e_M_removes_27) rfl rfl rfl ?_
      refine a_iinc (j := 1) (v := l1 + 1) (ls' := [(1, .int (l1 + 1)), (0, .ref 134)]) hB e_M_removes_30 rfl (inc_1 _) (Nat.le_of_ble_eq_true rfl) rfl ?_
      refine a_goto (tgt := 12) hB e_M_removes_33 (by decide) ?_
      refine a_ls [1, 0] (ls' := [(0, .ref 134), (1, .int (l1 + 1))]) rfl ?_
      exact hr12 _ _ h
set_option maxRecDepth 100000 in
theorem t_M_removes {G : Gt} {φ : Ph} {B : Bag} (hB : BF G I_M_removes B) (hF : SF 148 φ)    {o : Int32} {M9 : Mm}  {M : Mm} (h : f_M_removes M = some (o, M9)) : AW G I_M_removes B (QM G I_M_removes B (.inl (some (.int o))) M9 φ) 0 0 0 [(0, .ref 134)] [] M φ := by
  unfold f_M_removes at h
  refine a_aload_n (j := 0) hB e_M_removes_0 rfl rfl ?_
  refine a_getR (r := 135) (k := 0) hB e_M_removes_1 fl_M_9 (sf_lt hF (by decide)) kk_134 tt_134_0 (hF.1 _ _) ?_
  refine a_iconst (v := 0) hB e_M_removes_4 ic_0 ?_
  refine a_dup2 hB e_M_removes_5 rfl rfl ?_
  refine a_iald' hB e_M_removes_6 (sf_lt hF (by decide)) kk_135 ll_135 (by decide) ?_
  refine a_iconst (v := 1) hB e_M_removes_7 ic_1 ?_
  refine a_isub hB e_M_removes_8 ?_
  obtain ⟨M9, hM9, h⟩ := bm_i h
  refine a_iast' hB e_M_removes_9 (sf_lt hF (by decide)) kk_135 ll_135 (by decide) ?_
  refine a_mem hM9 ?_
  refine a_iconst (v := 0) hB e_M_removes_10 ic_0 ?_
  refine a_istore_n (ls' := [(1, .int (0 : Int32)), (0, .ref 134)]) hB e_M_removes_11 rfl (Nat.le_of_ble_eq_true rfl) rfl ?_
  refine a_ls [1, 0] (ls' := [(0, .ref 134), (1, .int (0 : Int32))]) rfl ?_
  exact t_M_removes_12 hB hF _ _ _ h
set_option maxRecDepth 100000 in
theorem c_M_removes {G : Gt} (hG : GOK G) {φ : Ph} (hF : SF 148 φ)   {M : Mm}  {o : Int32} {M9 : Mm} (h : f_M_removes M = some (o, M9)) : CT G I_M_removes [.ref 134] M φ (.inl (some (.int o))) M9 φ :=
  ct_of hG (by decide) (Nat.le_of_ble_eq_true rfl) (fun B hB => t_M_removes hB hF  h)
set_option maxRecDepth 100000 in
theorem t_M_sets {G : Gt} {φ : Ph} {B : Bag} (hB : BF G I_M_sets B) (hF : SF 148 φ)    {o : Int32} {M9 : Mm} {l1 : Int32} {l2 : Int32} {M : Mm} (h : f_M_sets l1 l2 M = some (o, M9)) : AW G I_M_sets B (QM G I_M_sets B (.inl (some (.int o))) M9 φ) 0 0 0 [(0, .ref 134), (1, .int l1), (2, .int l2)] [] M φ := by
  unfold f_M_sets at h
  refine a_aload_n (j := 0) hB e_M_sets_0 rfl rfl ?_
  refine a_getR (r := 135) (k := 0) hB e_M_sets_1 fl_M_9 (sf_lt hF (by decide)) kk_134 tt_134_0 (hF.1 _ _) ?_
  refine a_iload_n (j := 1) hB e_M_sets_4 rfl rfl ?_
  obtain ⟨c5, h⟩ := chk_i h
  refine a_iald' hB e_M_sets_5 (sf_lt hF (by decide)) kk_135 ll_135 c5 ?_
  refine a_istore_n (ls' := [(3, .int (M 135 (ix l1))), (0, .ref 134), (1, .int l1), (2, .int l2)]) hB e_M_sets_6 rfl (Nat.le_of_ble_eq_true rfl) rfl ?_
  refine a_aload_n (j := 1) hB e_M_sets_7 rfl rfl ?_
  refine a_getR (r := 135) (k := 0) hB e_M_sets_8 fl_M_9 (sf_lt hF (by decide)) kk_134 tt_134_0 (hF.1 _ _) ?_
  refine a_iload_n (j := 2) hB e_M_sets_11 rfl rfl ?_
  refine a_iload_n (j := 3) hB e_M_sets_12 rfl rfl ?_
  obtain ⟨M13, hM13, h⟩ := bm_i h
  refine a_iast' hB e_M_sets_13 (sf_lt hF (by decide)) kk_135 ll_135 c5 ?_
  refine a_mem hM13 ?_
  refine a_iload_n (j := 0) hB e_M_sets_14 rfl rfl ?_
  cases h
  exact a_iret hB rfl e_M_sets_15 (by decide) (by decide)
set_option maxRecDepth 100000 in
theorem c_M_sets {G : Gt} (hG : GOK G) {φ : Ph} (hF : SF 148 φ)   {M : Mm} {l1 : Int32} {l2 : Int32} {o : Int32} {M9 : Mm} (h : f_M_sets l1 l2 M = some (o, M9)) : CT G I_M_sets [.ref 134, .int l1, .int l2] M φ (.inl (some (.int o))) M9 φ :=
  ct_of hG (by decide) (Nat.le_of_ble_eq_true rfl) (fun B hB => t_M_sets hB hF  h)
