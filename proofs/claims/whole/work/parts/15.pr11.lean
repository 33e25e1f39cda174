/-! the functions are what the machine does -/
set_option maxRecDepth 100000 in
theorem t_M_starts {G : Gt} {φ : Ph} {B : Bag} (hB : BF G I_M_starts B) (hF : SF 148 φ)    {M9 : Mm}  {M : Mm} (h : f_M_starts M = some M9) : AW G I_M_starts B (QM G I_M_starts B (.inl none) M9 φ) 0 0 0 [(0, .ref 134)] [] M φ := by
  unfold f_M_starts at h
  refine a_aload_n (j := 0) hB e_M_starts_0 rfl rfl ?_
  refine a_iconst (v := 0) hB e_M_starts_1 ic_0 ?_
  obtain ⟨M2, hM2, h⟩ := bm_i h
  refine a_putI (k := 7) hB e_M_starts_2 fw_M_79 (sf_lt hF (by decide)) kk_134 tt_134_7 ?_
  refine a_mem hM2 ?_
  refine a_aload_n (j := 0) hB e_M_starts_5 rfl rfl ?_
  refine a_iconst (v := 0) hB e_M_starts_6 ic_0 ?_
  obtain ⟨M7, hM7, h⟩ := bm_i h
  refine a_putI (k := 22) hB e_M_starts_7 fw_M_164 (sf_lt hF (by decide)) kk_134 tt_134_22 ?_
  refine a_mem hM7 ?_
  refine a_aload_n (j := 0) hB e_M_starts_10 rfl rfl ?_
  refine a_iconst (v := 0) hB e_M_starts_11 ic_0 ?_
  obtain ⟨M12, hM12, h⟩ := bm_i h
  refine a_putZ (k := 24) hB e_M_starts_12 fw_M_188 (sf_lt hF (by decide)) kk_134 tt_134_24 (Or.inl rfl) ?_
  refine a_mem hM12 ?_
  refine a_aload_n (j := 0) hB e_M_starts_15 rfl rfl ?_
  refine a_iconst (v := 0) hB e_M_starts_16 ic_0 ?_
  obtain ⟨M17, hM17, h⟩ := bm_i h
  refine a_putI (k := 16) hB e_M_starts_17 fw_M_192 (sf_lt hF (by decide)) kk_134 tt_134_16 ?_
  refine a_mem hM17 ?_
  refine a_aload_n (j := 0) hB e_M_starts_20 rfl rfl ?_
  refine a_iconst (v := -1) hB e_M_starts_21 ic_m1 ?_
  obtain ⟨M22, hM22, h⟩ := bm_i h
  refine a_putI (k := 17) hB e_M_starts_22 fw_M_47 (sf_lt hF (by decide)) kk_134 tt_134_17 ?_
  refine a_mem hM22 ?_
  refine a_aload_n (j := 0) hB e_M_starts_25 rfl rfl ?_
  refine a_getR (r := 135) (k := 0) hB e_M_starts_26 fl_M_9 (sf_lt hF (by decide)) kk_134 tt_134_0 (hF.1 _ _) ?_
  refine a_iconst (v := 0) hB e_M_starts_29 ic_0 ?_
  refine a_aload_n (j := 0) hB e_M_starts_30 rfl rfl ?_
  refine a_getR (r := 139) (k := 4) hB e_M_starts_31 fl_M_22 (sf_lt hF (by decide)) kk_134 tt_134_4 (hF.1 _ _) ?_
  refine a_iconst (v := 0) hB e_M_starts_34 ic_0 ?_
  obtain ⟨M35, hr35, h⟩ := bn_i h
  refine a_ret (v := none) (M1 := M35) (φ1 := φ) (st1 := []) (j1 := 0) (j2 := 0) (ar_S (As := [.ref 135, .int (0 : Int32), .ref 139, .int (0 : Int32)]) (rest := []) hB (c_M_copy (bf_G hB) hF kk_135 (by decide) kk_139 (by decide) hr35) ml_M_88 md_M_copy rfl rfl (Nat.le_of_ble_eq_true rfl) rm_M_starts_M_copy e_M_starts_35) rfl rfl rfl ?_
  refine a_aload_n (j := 0) hB e_M_starts_38 rfl rfl ?_
  obtain ⟨M39, hr39, h⟩ := bn_i h
  refine a_ret (v := none) (M1 := M39) (φ1 := φ) (st1 := []) (j1 := 0) (j2 := 0) (ar_V (As := []) (rest := []) hB (c_M_next (bf_G hB) hF hr39) ml_M_195 md_M_next rc_M_next (sf_lt hF (by decide)) kk_134 rfl rfl (Nat.le_of_ble_eq_true rfl) rm_M_starts_M_next e_M_starts_39) rfl rfl rfl ?_
  cases h
  exact a_vret hB rfl e_M_starts_42 (by decide) (by decide)
set_option maxRecDepth 100000 in
theorem c_M_starts {G : Gt} (hG : GOK G) {φ : Ph} (hF : SF 148 φ)   {M : Mm}  {M9 : Mm} (h : f_M_starts M = some M9) : CT G I_M_starts [.ref 134] M φ (.inl none) M9 φ :=
  ct_of hG (by decide) (Nat.le_of_ble_eq_true rfl) (fun B hB => t_M_starts hB hF  h)
set_option maxRecDepth 100000 in
theorem t_M_commands_74 {G : Gt} {φ : Ph} {B : Bag} (hB : BF G I_M_commands B) (hF : SF 148 φ)    {o : Int32} {M9 : Mm} {t0 : Int32} {M : Mm} (h : f_M_commands_74 t0 M = some (o, M9)) : AW G I_M_commands B (QM G I_M_commands B (.inl (some (.int o))) M9 φ) 0 0 74 [] [.int t0] M φ := by
  unfold f_M_commands_74 at h
  cases h
  exact a_iret hB rfl e_M_commands_74 (by decide) (by decide)
set_option maxRecDepth 100000 in
theorem t_M_commands_62 {G : Gt} {φ : Ph} {B : Bag} (hB : BF G I_M_commands B) (hF : SF 148 φ)    {o : Int32} {M9 : Mm} {l1 : Int32} {M : Mm} (h : f_M_commands_62 l1 M = some (o, M9)) : AW G I_M_commands B (QM G I_M_commands B (.inl (some (.int o))) M9 φ) 0 0 62 [(0, .ref 134), (1, .int l1)] [] M φ := by
  unfold f_M_commands_62 at h
  refine a_aload_n (j := 0) hB e_M_commands_62 rfl rfl ?_
  refine a_getI (k := 24) hB e_M_commands_63 fl_M_188 (sf_lt hF (by decide)) kk_134 tt_134_24 ?_
  refine a_if_eq (tgt := 73) hB e_M_commands_66 (by decide) (fun c => ?_) (fun c => ?_)
  · have h := ip c h
    refine a_iload_n (j := 1) hB e_M_commands_73 rfl rfl ?_
    refine a_ls [] (ls' := []) rfl ?_
    exact t_M_commands_74 hB hF h
  · have h := iq c h
    refine a_iconst (v := -1) hB e_M_commands_69 ic_m1 ?_
    refine a_goto (tgt := 74) hB e_M_commands_70 (by decide) ?_
    refine a_ls [] (ls' := []) rfl ?_
    exact t_M_commands_74 hB hF h
set_option maxRecDepth 100000 in
theorem t_M_commands_26 {G : Gt} {φ : Ph} {B : Bag} (hB : BF G I_M_commands B) (hF : SF 148 φ)    {o : Int32} {M9 : Mm} {l1 : Int32} {M : Mm} (h : f_M_commands_26 l1 M = some (o, M9)) : AW G I_M_commands B (QM G I_M_commands B (.inl (some (.int o))) M9 φ) 0 0 26 [(0, .ref 134), (1, .int l1)] [] M φ := by
  unfold f_M_commands_26 at h
  refine a_aload_n (j := 0) hB e_M_commands_26 rfl rfl ?_
  refine a_iconst (v := 0) hB e_M_commands_27 ic_0 ?_
  obtain ⟨M28, hM28, h⟩ := bm_i h
  refine a_putI (k := 14) hB e_M_commands_28 fw_M_66 (sf_lt hF (by decide)) kk_134 tt_134_14 ?_
  refine a_mem hM28 ?_
  refine a_aload_n (j := 0) hB e_M_commands_31 rfl rfl ?_
  refine a_getI (k := 24) hB e_M_commands_32 fl_M_188 (sf_lt hF (by decide)) kk_134 tt_134_24 ?_
  refine a_if_eq (tgt := 54) hB e_M_commands_35 (by decide) (fun c => ?_) (fun c => ?_)
  · have h := ip c h
    refine a_aload_n (j := 0) hB e_M_commands_54 rfl rfl ?_
    refine a_aload_n (j := 0) hB e_M_commands_55 rfl rfl ?_
    refine a_getR (r := 139) (k := 4) hB e_M_commands_56 fl_M_22 (sf_lt hF (by decide)) kk_134 tt_134_4 (hF.1 _ _) ?_
    obtain ⟨M59, hr59, h⟩ := bn_i h
    refine a_ret (v := none) (M1 := M59) (φ1 := φ) (st1 := []) (j1 := 0) (j2 := 0) (ar_V (As := [.ref 139]) (rest := []) hB (c_M_remember (bf_G hB) hF kk_139 (by decide) ll_139 hr59) ml_M_280 md_M_remember rc_M_remember (sf_lt hF (by decide)) kk_134 rfl rfl (Nat.le_of_ble_eq_true rfl) rm_M_commands_M_remember e_M_commands_59) rfl rfl rfl ?_
    exact t_M_commands_62 hB hF h
  · have h := iq c h
    refine a_aload_n (j := 0) hB e_M_commands_38 rfl rfl ?_
    refine a_getR (r := 139) (k := 4) hB e_M_commands_39 fl_M_22 (sf_lt hF (by decide)) kk_134 tt_134_4 (hF.1 _ _) ?_
    refine a_iconst (v := 0) hB e_M_commands_42 ic_0 ?_
    refine a_aload_n (j := 0) hB e_M_commands_43 rfl rfl ?_
    refine a_getR (r := 135) (k := 0) hB e_M_commands_44 fl_M_9 (sf_lt hF (by decide)) kk_134 tt_134_0 (hF.1 _ _) ?_
    refine a_iconst (v := 0) hB e_M_commands_47 ic_0 ?_
    obtain ⟨M48, hr48, h⟩ := bn_i h
    refine a_ret (v := none) (M1 := M48) (φ1 := φ) (st1 := []) (j1 := 0) (j2 := 0) (ar_S (As := [.ref 139, .int (0 : Int32), .ref 135, .int (0 : Int32)]) (rest := []) hB (c_M_copy (bf_G hB) hF kk_139 (by decide) kk_135 (by decide) hr48) ml_M_88 md_M_copy rfl rfl (Nat.le_of_ble_eq_true rfl) rm_M_commands_M_copy e_M_commands_48) rfl rfl rfl ?_
    refine a_goto (tgt := 62) hB e_M_commands_51 (by decide) ?_
    exact t_M_commands_62 hB hF h
set_option maxRecDepth 100000 in
theorem t_M_commands_2 {G : Gt} {φ : Ph} {B : Bag} (hB : BF G I_M_commands B) (hF : SF 148 φ)    {o : Int32} {M9 : Mm} : ∀ (n : Nat) (l1 : Int32) (M : Mm), f_M_commands_2 n l1 M = some (o, M9) → AW G I_M_commands B (QM G I_M_commands B (.inl (some (.int o))) M9 φ) 0 0 2 [(0, .ref 134), (1, .int l1)] [] M φ := by
  intro n
  induction n with
  | zero => intro l1 M h; cases h
  | succ n hr2 =>
    intro l1 M h
    rw [f_M_commands_2] at h
    refine a_aload_n (j := 0) hB e_M_commands_2 rfl rfl ?_
    refine a_getI (k := 24) hB e_M_commands_3 fl_M_188 (sf_lt hF (by decide)) kk_134 tt_134_24 ?_
    refine a_if_ne (tgt := 26) hB e_M_commands_6 (by decide) (fun c => ?_) (fun c => ?_)
    · have h := iq c h
      exact t_M_commands_26 hB hF h
    · have h := ip c h
      refine a_aload_n (j := 0) hB e_M_commands_9 rfl rfl ?_
      refine a_getI (k := 20) hB e_M_commands_10 fl_M_170 (sf_lt hF (by decide)) kk_134 tt_134_20 ?_
      refine a_if_eq (tgt := 26) hB e_M_commands_13 (by decide) (fun c => ?_) (fun c => ?_)
      · have h := ip c h
        exact t_M_commands_26 hB hF h
      · have h := iq c h
        refine a_aload_n (j := 0) hB e_M_commands_16 rfl rfl ?_
        obtain ⟨M17, hr17, h⟩ := bn_i h
        refine a_ret (v := none) (M1 := M17) (φ1 := φ) (st1 := []) (j1 := 0) (j2 := 0) (ar_V (As := []) (rest := []) hB (c_M_command (bf_G hB) hF hr17) ml_M_277 md_M_command rc_M_command (sf_lt hF (by decide)) kk_134 rfl rfl (Nat.le_of_ble_eq_true rfl) rm_M_commands_M_command e_M_commands_17) rfl rfl rfl ?_
        refine a_iinc (j := 1) (v := l1 + 1) (ls' := [(1, .int (l1 + 1)), (0, .ref 134)]) hB e_M_commands_20 rfl (inc_1 _) (Nat.le_of_ble_eq_true rfl) rfl ?_
        refine a_goto (tgt := 2) hB e_M_commands_23 (by decide) ?_
        refine a_ls [1, 0] (ls' := [(0, .ref 134), (1, .int (l1 + 1))]) rfl ?_
        exact hr2 _ _ h
set_option maxRecDepth 100000 in
theorem t_M_commands {G : Gt} {φ : Ph} {B : Bag} (hB : BF G I_M_commands B) (hF : SF 148 φ)    {o : Int32} {M9 : Mm}  {M : Mm} (h : f_M_commands M = some (o, M9)) : AW G I_M_commands B (QM G I_M_commands B (.inl (some (.int o))) M9 φ) 0 0 0 [(0, .ref 134)] [] M φ := by
  unfold f_M_commands at h
  refine a_iconst (v := 0) hB e_M_commands_0 ic_0 ?_
  refine a_istore_n (ls' := [(1, .int (0 : Int32)), (0, .ref 134)]) hB e_M_commands_1 rfl (Nat.le_of_ble_eq_true rfl) rfl ?_
  refine a_ls [1, 0] (ls' := [(0, .ref 134), (1, .int (0 : Int32))]) rfl ?_
  exact t_M_commands_2 hB hF _ _ _ h
set_option maxRecDepth 100000 in
theorem c_M_commands {G : Gt} (hG : GOK G) {φ : Ph} (hF : SF 148 φ)   {M : Mm}  {o : Int32} {M9 : Mm} (h : f_M_commands M = some (o, M9)) : CT G I_M_commands [.ref 134] M φ (.inl (some (.int o))) M9 φ :=
  ct_of hG (by decide) (Nat.le_of_ble_eq_true rfl) (fun B hB => t_M_commands hB hF  h)
set_option maxRecDepth 100000 in
theorem t_M_load_119 {G : Gt} {φ : Ph} {B : Bag} (hB : BF G I_M_load B) (hF : SF 148 φ)    {o : Int32} {M9 : Mm} {t0 : Int32} {M : Mm} (h : f_M_load_119 t0 M = some (o, M9)) : AW G I_M_load B (QM G I_M_load B (.inl (some (.int o))) M9 φ) 0 0 119 [] [.int t0] M φ := by
  unfold f_M_load_119 at h
  cases h
  exact a_iret hB rfl e_M_load_119 (by decide) (by decide)
set_option maxRecDepth 100000 in
theorem t_M_load_93 {G : Gt} {φ : Ph} {B : Bag} (hB : BF G I_M_load B) (hF : SF 148 φ)    {o : Int32} {M9 : Mm} {t1 : Int32} {M : Mm} (h : f_M_load_93 t1 M = some (o, M9)) : AW G I_M_load B (QM G I_M_load B (.inl (some (.int o))) M9 φ) 0 0 93 [(0, .ref 134)] [.int t1, .ref 134] M φ := by
  unfold f_M_load_93 at h
  refine a_iconst (v := 1) hB e_M_load_93 ic_1 ?_
  obtain ⟨M94, hr94, h⟩ := bn_i h
  refine a_ret (v := none) (M1 := M94) (φ1 := φ) (st1 := []) (j1 := 0) (j2 := 0) (ar_V (As := [.int t1, .int (1 : Int32)]) (rest := []) hB (c_M_wrong (bf_G hB) hF hr94) ml_M_198 md_M_wrong rc_M_wrong (sf_lt hF (by decide)) kk_134 rfl rfl (Nat.le_of_ble_eq_true rfl) rm_M_load_M_wrong e_M_load_94) rfl rfl rfl ?_
  refine a_aload_n (j := 0) hB e_M_load_97 rfl rfl ?_
  obtain ⟨M98, hr98, h⟩ := bn_i h
  refine a_ret (v := none) (M1 := M98) (φ1 := φ) (st1 := []) (j1 := 0) (j2 := 0) (ar_V (As := []) (rest := []) hB (c_M_go (bf_G hB) hF hr98) ml_M_202 md_M_go rc_M_go (sf_lt hF (by decide)) kk_134 rfl rfl (Nat.le_of_ble_eq_true rfl) rm_M_load_M_go e_M_load_98) rfl rfl rfl ?_
  refine a_aload_n (j := 0) hB e_M_load_101 rfl rfl ?_
  obtain ⟨r102, M102, hr102, h⟩ := bn2_i h
  refine a_ret (v := (some (.int r102))) (M1 := M102) (φ1 := φ) (st1 := [.int r102]) (j1 := 0) (j2 := 0) (ar_V (As := []) (rest := []) hB (c_M_commands (bf_G hB) hF hr102) ml_M_289 md_M_commands rc_M_commands (sf_lt hF (by decide)) kk_134 rfl rfl (Nat.le_of_ble_eq_true rfl) rm_M_load_M_commands e_M_load_102) rfl rfl rfl ?_
  refine a_iconst (v := -1) hB e_M_load_105 ic_m1 ?_
  refine a_icmp_ne (tgt := 113) hB e_M_load_106 (by decide) (fun c => ?_) (fun c => ?_)
  · have h := iq c h
    refine a_aload_n (j := 0) hB e_M_load_113 rfl rfl ?_
    refine a_getR (r := 135) (k := 0) hB e_M_load_114 fl_M_9 (sf_lt hF (by decide)) kk_134 tt_134_0 (hF.1 _ _) ?_
    refine a_iconst (v := 0) hB e_M_load_117 ic_0 ?_
    refine a_iald' hB e_M_load_118 (sf_lt hF (by decide)) kk_135 ll_135 (by decide) ?_
    refine a_ls [] (ls' := []) rfl ?_
    exact t_M_load_119 hB hF h
  · have h := ip c h
    refine a_iconst (v := -1) hB e_M_load_109 ic_m1 ?_
    refine a_goto (tgt := 119) hB e_M_load_110 (by decide) ?_
    refine a_ls [] (ls' := []) rfl ?_
    exact t_M_load_119 hB hF h
set_option maxRecDepth 100000 in
theorem t_M_load_42 {G : Gt} {φ : Ph} {B : Bag} (hB : BF G I_M_load B) (hF : SF 148 φ)    {o : Int32} {M9 : Mm} {t1 : Int32} {M : Mm} (h : f_M_load_42 t1 M = some (o, M9)) : AW G I_M_load B (QM G I_M_load B (.inl (some (.int o))) M9 φ) 0 0 42 [(0, .ref 134)] [.int t1, .ref 134] M φ := by
  unfold f_M_load_42 at h
  refine a_iconst (v := 1) hB e_M_load_42 ic_1 ?_
  obtain ⟨M43, hr43, h⟩ := bn_i h
  refine a_ret (v := none) (M1 := M43) (φ1 := φ) (st1 := []) (j1 := 0) (j2 := 0) (ar_V (As := [.int t1, .int (1 : Int32)]) (rest := []) hB (c_M_wrong (bf_G hB) hF hr43) ml_M_198 md_M_wrong rc_M_wrong (sf_lt hF (by decide)) kk_134 rfl rfl (Nat.le_of_ble_eq_true rfl) rm_M_load_M_wrong e_M_load_43) rfl rfl rfl ?_
  refine a_aload_n (j := 0) hB e_M_load_46 rfl rfl ?_
  obtain ⟨M47, hr47, h⟩ := bn_i h
  refine a_ret (v := none) (M1 := M47) (φ1 := φ) (st1 := []) (j1 := 0) (j2 := 0) (ar_V (As := []) (rest := []) hB (c_M_go (bf_G hB) hF hr47) ml_M_202 md_M_go rc_M_go (sf_lt hF (by decide)) kk_134 rfl rfl (Nat.le_of_ble_eq_true rfl) rm_M_load_M_go e_M_load_47) rfl rfl rfl ?_
  refine a_aload_n (j := 0) hB e_M_load_50 rfl rfl ?_
  refine a_getR (r := 135) (k := 0) hB e_M_load_51 fl_M_9 (sf_lt hF (by decide)) kk_134 tt_134_0 (hF.1 _ _) ?_
  refine a_iconst (v := 1) hB e_M_load_54 ic_1 ?_
  refine a_aload_n (j := 0) hB e_M_load_55 rfl rfl ?_
  refine a_iconst (v := 0) hB e_M_load_56 ic_0 ?_
  refine a_sipush (v := 999) hB e_M_load_57 sp_999 ?_
  obtain ⟨r60, M60, hr60, h⟩ := bn2_i h
  refine a_ret (v := (some (.int r60))) (M1 := M60) (φ1 := φ) (st1 := [.int r60, .int (1 : Int32), .ref 135]) (j1 := 0) (j2 := 0) (ar_V (As := [.int (0 : Int32), .int (999 : Int32)]) (rest := [.int (1 : Int32), .ref 135]) hB (c_M_number (bf_G hB) hF hr60) ml_M_205 md_M_number rc_M_number (sf_lt hF (by decide)) kk_134 rfl rfl (Nat.le_of_ble_eq_true rfl) rm_M_load_M_number e_M_load_60) rfl rfl rfl ?_
  obtain ⟨M63, hM63, h⟩ := bm_i h
  refine a_iast' hB e_M_load_63 (sf_lt hF (by decide)) kk_135 ll_135 (by decide) ?_
  refine a_mem hM63 ?_
  refine a_aload_n (j := 0) hB e_M_load_64 rfl rfl ?_
  refine a_getR (r := 135) (k := 0) hB e_M_load_65 fl_M_9 (sf_lt hF (by decide)) kk_134 tt_134_0 (hF.1 _ _) ?_
  refine a_iconst (v := 2) hB e_M_load_68 ic_2 ?_
  refine a_aload_n (j := 0) hB e_M_load_69 rfl rfl ?_
  refine a_bipush (v := 100) hB e_M_load_70 bp_100 ?_
  refine a_sipush (v := 999) hB e_M_load_72 sp_999 ?_
  obtain ⟨r75, M75, hr75, h⟩ := bn2_i h
  refine a_ret (v := (some (.int r75))) (M1 := M75) (φ1 := φ) (st1 := [.int r75, .int (2 : Int32), .ref 135]) (j1 := 0) (j2 := 0) (ar_V (As := [.int (100 : Int32), .int (999 : Int32)]) (rest := [.int (2 : Int32), .ref 135]) hB (c_M_number (bf_G hB) hF hr75) ml_M_205 md_M_number rc_M_number (sf_lt hF (by decide)) kk_134 rfl rfl (Nat.le_of_ble_eq_true rfl) rm_M_load_M_number e_M_load_75) rfl rfl rfl ?_
  obtain ⟨M78, hM78, h⟩ := bm_i h
  refine a_iast' hB e_M_load_78 (sf_lt hF (by decide)) kk_135 ll_135 (by decide) ?_
  refine a_mem hM78 ?_
  refine a_aload_n (j := 0) hB e_M_load_79 rfl rfl ?_
  refine a_aload_n (j := 0) hB e_M_load_80 rfl rfl ?_
  refine a_getI (k := 20) hB e_M_load_81 fl_M_170 (sf_lt hF (by decide)) kk_134 tt_134_20 ?_
  refine a_iconst (v := 3) hB e_M_load_84 ic_3 ?_
  refine a_icmp_eq (tgt := 92) hB e_M_load_85 (by decide) (fun c => ?_) (fun c => ?_)
  · have h := ip c h
    refine a_iconst (v := 0) hB e_M_load_92 ic_0 ?_
    exact t_M_load_93 hB hF h
  · have h := iq c h
    refine a_iconst (v := 1) hB e_M_load_88 ic_1 ?_
    refine a_goto (tgt := 93) hB e_M_load_89 (by decide) ?_
    exact t_M_load_93 hB hF h
set_option maxRecDepth 100000 in
theorem t_M_load_6 {G : Gt} {φ : Ph} {B : Bag} (hB : BF G I_M_load B) (hF : SF 148 φ)    {o : Int32} {M9 : Mm} : ∀ (n : Nat) (l1 : Int32) (M : Mm), f_M_load_6 n l1 M = some (o, M9) → AW G I_M_load B (QM G I_M_load B (.inl (some (.int o))) M9 φ) 0 0 6 [(0, .ref 134), (1, .int l1)] [] M φ := by
  intro n
  induction n with
  | zero => intro l1 M h; cases h
  | succ n hr6 =>
    intro l1 M h
    rw [f_M_load_6] at h
    refine a_iload_n (j := 1) hB e_M_load_6 rfl rfl ?_
    refine a_sipush (v := 284) hB e_M_load_7 sp_284 ?_
    refine a_icmp_ge (tgt := 26) hB e_M_load_10 (by decide) (fun c => ?_) (fun c => ?_)
    · have h := ip c h
      refine a_aload_n (j := 0) hB e_M_load_26 rfl rfl ?_
      refine a_aload_n (j := 0) hB e_M_load_27 rfl rfl ?_
      refine a_ldcSW (i := 30) hB rfl e_M_load_28 ?_
      obtain ⟨r31, hr31, h⟩ := bn_i h
      refine a_ret (v := (some (.int r31))) (M1 := M) (φ1 := φ) (st1 := [.int r31, .ref 134]) (j1 := 0) (j2 := 0) (ar_V (As := [.ref (1000 + 30)]) (rest := [.ref 134]) hB (c_M_is (bf_G hB) hF (by decide) hr31) ml_M_214 md_M_is rc_M_is (sf_lt hF (by decide)) kk_134 rfl rfl (Nat.le_of_ble_eq_true rfl) rm_M_load_M_is e_M_load_31) rfl rfl rfl ?_
      refine a_if_ne (tgt := 41) hB e_M_load_34 (by decide) (fun c => ?_) (fun c => ?_)
      · have h := iq c h
        refine a_iconst (v := 0) hB e_M_load_41 ic_0 ?_
        refine a_ls [0] (ls' := [(0, .ref 134)]) rfl ?_
        exact t_M_load_42 hB hF h
      · have h := ip c h
        refine a_iconst (v := 1) hB e_M_load_37 ic_1 ?_
        refine a_goto (tgt := 42) hB e_M_load_38 (by decide) ?_
        refine a_ls [0] (ls' := [(0, .ref 134)]) rfl ?_
        exact t_M_load_42 hB hF h
    · have h := iq c h
      refine a_aload_n (j := 0) hB e_M_load_13 rfl rfl ?_
      refine a_getR (r := 135) (k := 0) hB e_M_load_14 fl_M_9 (sf_lt hF (by decide)) kk_134 tt_134_0 (hF.1 _ _) ?_
      refine a_iload_n (j := 1) hB e_M_load_17 rfl rfl ?_
      refine a_iconst (v := 0) hB e_M_load_18 ic_0 ?_
      obtain ⟨c19, h⟩ := chk_i h
      obtain ⟨M19, hM19, h⟩ := bm_i h
      refine a_iast' hB e_M_load_19 (sf_lt hF (by decide)) kk_135 ll_135 c19 ?_
      refine a_mem hM19 ?_
      refine a_iinc (j := 1) (v := l1 + 1) (ls' := [(1, .int (l1 + 1)), (0, .ref 134)]) hB e_M_load_20 rfl (inc_1 _) (Nat.le_of_ble_eq_true rfl) rfl ?_
      refine a_goto (tgt := 6) hB e_M_load_23 (by decide) ?_
      refine a_ls [1, 0] (ls' := [(0, .ref 134), (1, .int (l1 + 1))]) rfl ?_
      exact hr6 _ _ h
set_option maxRecDepth 100000 in
theorem t_M_load {G : Gt} {φ : Ph} {B : Bag} (hB : BF G I_M_load B) (hF : SF 148 φ)    {o : Int32} {M9 : Mm}  {M : Mm} (h : f_M_load M = some (o, M9)) : AW G I_M_load B (QM G I_M_load B (.inl (some (.int o))) M9 φ) 0 0 0 [(0, .ref 134)] [] M φ := by
  unfold f_M_load at h
  refine a_aload_n (j := 0) hB e_M_load_0 rfl rfl ?_
  obtain ⟨M1, hr1, h⟩ := bn_i h
  refine a_ret (v := none) (M1 := M1) (φ1 := φ) (st1 := []) (j1 := 0) (j2 := 0) (ar_V (As := []) (rest := []) hB (c_M_starts (bf_G hB) hF hr1) ml_M_284 md_M_starts rc_M_starts (sf_lt hF (by decide)) kk_134 rfl rfl (Nat.le_of_ble_eq_true rfl) rm_M_load_M_starts e_M_load_1) rfl rfl rfl ?_
  refine a_iconst (v := 0) hB e_M_load_4 ic_0 ?_
  refine a_istore_n (ls' := [(1, .int (0 : Int32)), (0, .ref 134)]) hB e_M_load_5 rfl (Nat.le_of_ble_eq_true rfl) rfl ?_
  refine a_ls [1, 0] (ls' := [(0, .ref 134), (1, .int (0 : Int32))]) rfl ?_
  exact t_M_load_6 hB hF _ _ _ h
set_option maxRecDepth 100000 in
theorem c_M_load {G : Gt} (hG : GOK G) {φ : Ph} (hF : SF 148 φ)   {M : Mm}  {o : Int32} {M9 : Mm} (h : f_M_load M = some (o, M9)) : CT G I_M_load [.ref 134] M φ (.inl (some (.int o))) M9 φ :=
  ct_of hG (by decide) (Nat.le_of_ble_eq_true rfl) (fun B hB => t_M_load hB hF  h)
set_option maxRecDepth 100000 in
theorem t_M_play {G : Gt} {φ : Ph} {B : Bag} (hB : BF G I_M_play B) (hF : SF 148 φ)    {o : Int32} {M9 : Mm}  {M : Mm} (h : f_M_play M = some (o, M9)) : AW G I_M_play B (QM G I_M_play B (.inl (some (.int o))) M9 φ) 0 0 0 [(0, .ref 134)] [] M φ := by
  unfold f_M_play at h
  refine a_aload_n (j := 0) hB e_M_play_0 rfl rfl ?_
  obtain ⟨M1, hr1, h⟩ := bn_i h
  refine a_ret (v := none) (M1 := M1) (φ1 := φ) (st1 := []) (j1 := 0) (j2 := 0) (ar_V (As := []) (rest := []) hB (c_M_starts (bf_G hB) hF hr1) ml_M_284 md_M_starts rc_M_starts (sf_lt hF (by decide)) kk_134 rfl rfl (Nat.le_of_ble_eq_true rfl) rm_M_play_M_starts e_M_play_1) rfl rfl rfl ?_
  refine a_aload_n (j := 0) hB e_M_play_4 rfl rfl ?_
  obtain ⟨r5, M5, hr5, h⟩ := bn2_i h
  refine a_ret (v := (some (.int r5))) (M1 := M5) (φ1 := φ) (st1 := [.int r5]) (j1 := 0) (j2 := 0) (ar_V (As := []) (rest := []) hB (c_M_commands (bf_G hB) hF hr5) ml_M_289 md_M_commands rc_M_commands (sf_lt hF (by decide)) kk_134 rfl rfl (Nat.le_of_ble_eq_true rfl) rm_M_play_M_commands e_M_play_5) rfl rfl rfl ?_
  cases h
  exact a_iret hB rfl e_M_play_8 (by decide) (by decide)
set_option maxRecDepth 100000 in
theorem c_M_play {G : Gt} (hG : GOK G) {φ : Ph} (hF : SF 148 φ)   {M : Mm}  {o : Int32} {M9 : Mm} (h : f_M_play M = some (o, M9)) : CT G I_M_play [.ref 134] M φ (.inl (some (.int o))) M9 φ :=
  ct_of hG (by decide) (Nat.le_of_ble_eq_true rfl) (fun B hB => t_M_play hB hF  h)
set_option maxRecDepth 100000 in
theorem t_M_errorCode {G : Gt} {φ : Ph} {B : Bag} (hB : BF G I_M_errorCode B) (hF : SF 148 φ)    {o : Int32} {M9 : Mm}  {M : Mm} (h : f_M_errorCode M = some (o, M9)) : AW G I_M_errorCode B (QM G I_M_errorCode B (.inl (some (.int o))) M9 φ) 0 0 0 [(0, .ref 134)] [] M φ := by
  unfold f_M_errorCode at h
  refine a_aload_n (j := 0) hB e_M_errorCode_0 rfl rfl ?_
  refine a_aload_n (j := 0) hB e_M_errorCode_1 rfl rfl ?_
  refine a_getI (k := 16) hB e_M_errorCode_2 fl_M_192 (sf_lt hF (by decide)) kk_134 tt_134_16 ?_
  obtain ⟨r5, M5, hr5, h⟩ := bn2_i h
  refine a_ret (v := (some (.int r5))) (M1 := M5) (φ1 := φ) (st1 := [.int r5]) (j1 := 0) (j2 := 0) (ar_V (As := [.int (M 134 16)]) (rest := []) hB (c_M_told (bf_G hB) hF hr5) ml_M_292 md_M_told rc_M_told (sf_lt hF (by decide)) kk_134 rfl rfl (Nat.le_of_ble_eq_true rfl) rm_M_errorCode_M_told e_M_errorCode_5) rfl rfl rfl ?_
  cases h
  exact a_iret hB rfl e_M_errorCode_8 (by decide) (by decide)
set_option maxRecDepth 100000 in
theorem c_M_errorCode {G : Gt} (hG : GOK G) {φ : Ph} (hF : SF 148 φ)   {M : Mm}  {o : Int32} {M9 : Mm} (h : f_M_errorCode M = some (o, M9)) : CT G I_M_errorCode [.ref 134] M φ (.inl (some (.int o))) M9 φ :=
  ct_of hG (by decide) (Nat.le_of_ble_eq_true rfl) (fun B hB => t_M_errorCode hB hF  h)
set_option maxRecDepth 100000 in
theorem t_M_errorOffset {G : Gt} {φ : Ph} {B : Bag} (hB : BF G I_M_errorOffset B) (hF : SF 148 φ)    {o : Int32} {M9 : Mm}  {M : Mm} (h : f_M_errorOffset M = some (o, M9)) : AW G I_M_errorOffset B (QM G I_M_errorOffset B (.inl (some (.int o))) M9 φ) 0 0 0 [(0, .ref 134)] [] M φ := by
  unfold f_M_errorOffset at h
  refine a_aload_n (j := 0) hB e_M_errorOffset_0 rfl rfl ?_
  refine a_aload_n (j := 0) hB e_M_errorOffset_1 rfl rfl ?_
  refine a_getI (k := 17) hB e_M_errorOffset_2 fl_M_47 (sf_lt hF (by decide)) kk_134 tt_134_17 ?_
  obtain ⟨r5, M5, hr5, h⟩ := bn2_i h
  refine a_ret (v := (some (.int r5))) (M1 := M5) (φ1 := φ) (st1 := [.int r5]) (j1 := 0) (j2 := 0) (ar_V (As := [.int (M 134 17)]) (rest := []) hB (c_M_told (bf_G hB) hF hr5) ml_M_292 md_M_told rc_M_told (sf_lt hF (by decide)) kk_134 rfl rfl (Nat.le_of_ble_eq_true rfl) rm_M_errorOffset_M_told e_M_errorOffset_5) rfl rfl rfl ?_
  cases h
  exact a_iret hB rfl e_M_errorOffset_8 (by decide) (by decide)
set_option maxRecDepth 100000 in
theorem c_M_errorOffset {G : Gt} (hG : GOK G) {φ : Ph} (hF : SF 148 φ)   {M : Mm}  {o : Int32} {M9 : Mm} (h : f_M_errorOffset M = some (o, M9)) : CT G I_M_errorOffset [.ref 134] M φ (.inl (some (.int o))) M9 φ :=
  ct_of hG (by decide) (Nat.le_of_ble_eq_true rfl) (fun B hB => t_M_errorOffset hB hF  h)
set_option maxRecDepth 100000 in
theorem t_M_isBearing_23 {G : Gt} {φ : Ph} {B : Bag} (hB : BF G I_M_isBearing B) (hF : SF 148 φ)   {M : Mm} {o : Int32} {t0 : Int32}  (h : f_M_isBearing_23 t0 = some o) : AW G I_M_isBearing B (QM G I_M_isBearing B (.inl (some (.int o))) M φ) 0 0 23 [] [.int t0] M φ := by
  unfold f_M_isBearing_23 at h
  obtain ⟨z23, h⟩ := chk_i h
  cases h
  exact a_zret hB rfl z23 e_M_isBearing_23 (by decide) (by decide)
set_option maxRecDepth 100000 in
theorem t_M_isBearing_22 {G : Gt} {φ : Ph} {B : Bag} (hB : BF G I_M_isBearing B) (hF : SF 148 φ)   {M : Mm} {o : Int32}   (h : f_M_isBearing_22 = some o) : AW G I_M_isBearing B (QM G I_M_isBearing B (.inl (some (.int o))) M φ) 0 0 22 [] [] M φ := by
  unfold f_M_isBearing_22 at h
  refine a_iconst (v := 0) hB e_M_isBearing_22 ic_0 ?_
  exact t_M_isBearing_23 hB hF h
set_option maxRecDepth 100000 in
theorem t_M_isBearing {G : Gt} {φ : Ph} {B : Bag} (hB : BF G I_M_isBearing B) (hF : SF 148 φ)   {M : Mm} {o : Int32} {l0 : Int32}  (h : f_M_isBearing l0 = some o) : AW G I_M_isBearing B (QM G I_M_isBearing B (.inl (some (.int o))) M φ) 0 0 0 [(0, .int l0)] [] M φ := by
  unfold f_M_isBearing at h
  refine a_iload_n (j := 0) hB e_M_isBearing_0 rfl rfl ?_
  refine a_iconst (v := 0) hB e_M_isBearing_1 ic_0 ?_
  refine a_sipush (v := 345) hB e_M_isBearing_2 sp_345 ?_
  obtain ⟨r5, hr5, h⟩ := bn_i h
  refine a_ret (v := (some (.int r5))) (M1 := M) (φ1 := φ) (st1 := [.int r5]) (j1 := 0) (j2 := 0) (ar_S (As := [.int l0, .int (0 : Int32), .int (345 : Int32)]) (rest := []) hB (c_M_isIn (bf_G hB) hF hr5) ml_M_92 md_M_isIn rfl rfl (Nat.le_of_ble_eq_true rfl) rm_M_isBearing_M_isIn e_M_isBearing_5) rfl rfl rfl ?_
  refine a_if_eq (tgt := 22) hB e_M_isBearing_8 (by decide) (fun c => ?_) (fun c => ?_)
  · have h := ip c h
    refine a_ls [] (ls' := []) rfl ?_
    exact t_M_isBearing_22 hB hF h
  · have h := iq c h
    refine a_iload_n (j := 0) hB e_M_isBearing_11 rfl rfl ?_
    refine a_bipush (v := 15) hB e_M_isBearing_12 bp_15 ?_
    refine a_irem hB e_M_isBearing_14 (by decide) ?_
    refine a_if_ne (tgt := 22) hB e_M_isBearing_15 (by decide) (fun c => ?_) (fun c => ?_)
    · have h := iq c h
      refine a_ls [] (ls' := []) rfl ?_
      exact t_M_isBearing_22 hB hF h
    · have h := ip c h
      refine a_iconst (v := 1) hB e_M_isBearing_18 ic_1 ?_
      refine a_goto (tgt := 23) hB e_M_isBearing_19 (by decide) ?_
      refine a_ls [] (ls' := []) rfl ?_
      exact t_M_isBearing_23 hB hF h
set_option maxRecDepth 100000 in
theorem c_M_isBearing {G : Gt} (hG : GOK G) {φ : Ph} (hF : SF 148 φ)   {M : Mm} {l0 : Int32} {o : Int32} (h : f_M_isBearing l0 = some o) : CT G I_M_isBearing [.int l0] M φ (.inl (some (.int o))) M φ :=
  ct_of hG (by decide) (Nat.le_of_ble_eq_true rfl) (fun B hB => t_M_isBearing hB hF  h)
set_option maxRecDepth 100000 in
theorem t_M_mayAdd_52 {G : Gt} {φ : Ph} {B : Bag} (hB : BF G I_M_mayAdd B) (hF : SF 148 φ)    {o : Int32} {M9 : Mm} {t0 : Int32} {M : Mm} (h : f_M_mayAdd_52 t0 M = some (o, M9)) : AW G I_M_mayAdd B (QM G I_M_mayAdd B (.inl (some (.int o))) M9 φ) 0 0 52 [] [.int t0] M φ := by
  unfold f_M_mayAdd_52 at h
  obtain ⟨z52, h⟩ := chk_i h
  cases h
  exact a_zret hB rfl z52 e_M_mayAdd_52 (by decide) (by decide)
set_option maxRecDepth 100000 in
theorem t_M_mayAdd_51 {G : Gt} {φ : Ph} {B : Bag} (hB : BF G I_M_mayAdd B) (hF : SF 148 φ)    {o : Int32} {M9 : Mm}  {M : Mm} (h : f_M_mayAdd_51 M = some (o, M9)) : AW G I_M_mayAdd B (QM G I_M_mayAdd B (.inl (some (.int o))) M9 φ) 0 0 51 [] [] M φ := by
  unfold f_M_mayAdd_51 at h
  refine a_iconst (v := 0) hB e_M_mayAdd_51 ic_0 ?_
  exact t_M_mayAdd_52 hB hF h
set_option maxRecDepth 100000 in
theorem t_M_mayAdd {G : Gt} {φ : Ph} {B : Bag} (hB : BF G I_M_mayAdd B) (hF : SF 148 φ)    {o : Int32} {M9 : Mm}  {M : Mm} (h : f_M_mayAdd M = some (o, M9)) : AW G I_M_mayAdd B (QM G I_M_mayAdd B (.inl (some (.int o))) M9 φ) 0 0 0 [(0, .ref 134)] [] M φ := by
  unfold f_M_mayAdd at h
  refine a_aload_n (j := 0) hB e_M_mayAdd_0 rfl rfl ?_
  refine a_iconst (v := 2) hB e_M_mayAdd_1 ic_2 ?_
  obtain ⟨M2, hM2, h⟩ := bm_i h
  refine a_putI (k := 19) hB e_M_mayAdd_2 fw_M_153 (sf_lt hF (by decide)) kk_134 tt_134_19 ?_
  refine a_mem hM2 ?_
  refine a_aload_n (j := 0) hB e_M_mayAdd_5 rfl rfl ?_
  refine a_getR (r := 147) (k := 18) hB e_M_mayAdd_6 fl_M_51 (sf_lt hF (by decide)) kk_134 tt_134_18 (hF.1 _ _) ?_
  refine a_iconst (v := 0) hB e_M_mayAdd_9 ic_0 ?_
  refine a_bipush (v := 113) hB e_M_mayAdd_10 bp_113 ?_
  obtain ⟨M12, hM12, h⟩ := bm_i h
  refine a_iast' hB e_M_mayAdd_12 (sf_lt hF (by decide)) kk_147 ll_147 (by decide) ?_
  refine a_mem hM12 ?_
  refine a_aload_n (j := 0) hB e_M_mayAdd_13 rfl rfl ?_
  refine a_getR (r := 147) (k := 18) hB e_M_mayAdd_14 fl_M_51 (sf_lt hF (by decide)) kk_134 tt_134_18 (hF.1 _ _) ?_
  refine a_iconst (v := 1) hB e_M_mayAdd_17 ic_1 ?_
  refine a_bipush (v := 97) hB e_M_mayAdd_18 bp_97 ?_
  refine a_aload_n (j := 0) hB e_M_mayAdd_20 rfl rfl ?_
  refine a_getR (r := 135) (k := 0) hB e_M_mayAdd_21 fl_M_9 (sf_lt hF (by decide)) kk_134 tt_134_0 (hF.1 _ _) ?_
  refine a_iconst (v := 0) hB e_M_mayAdd_24 ic_0 ?_
  refine a_iald' hB e_M_mayAdd_25 (sf_lt hF (by decide)) kk_135 ll_135 (by decide) ?_
  refine a_iadd hB e_M_mayAdd_26 ?_
  obtain ⟨M27, hM27, h⟩ := bm_i h
  refine a_iast' hB e_M_mayAdd_27 (sf_lt hF (by decide)) kk_147 ll_147 (by decide) ?_
  refine a_mem hM27 ?_
  refine a_aload_n (j := 0) hB e_M_mayAdd_28 rfl rfl ?_
  refine a_getR (r := 135) (k := 0) hB e_M_mayAdd_29 fl_M_9 (sf_lt hF (by decide)) kk_134 tt_134_0 (hF.1 _ _) ?_
  refine a_iconst (v := 0) hB e_M_mayAdd_32 ic_0 ?_
  refine a_iald' hB e_M_mayAdd_33 (sf_lt hF (by decide)) kk_135 ll_135 (by decide) ?_
  refine a_bipush (v := 20) hB e_M_mayAdd_34 bp_20 ?_
  refine a_icmp_ge (tgt := 51) hB e_M_mayAdd_36 (by decide) (fun c => ?_) (fun c => ?_)
  · have h := ip c h
    refine a_ls [] (ls' := []) rfl ?_
    exact t_M_mayAdd_51 hB hF h
  · have h := iq c h
    refine a_aload_n (j := 0) hB e_M_mayAdd_39 rfl rfl ?_
    obtain ⟨r40, hr40, h⟩ := bn_i h
    refine a_ret (v := (some (.int r40))) (M1 := M27) (φ1 := φ) (st1 := [.int r40]) (j1 := 0) (j2 := 0) (ar_V (As := []) (rest := []) hB (c_M_named (bf_G hB) hF hr40) ml_M_211 md_M_named rc_M_named (sf_lt hF (by decide)) kk_134 rfl rfl (Nat.le_of_ble_eq_true rfl) rm_M_mayAdd_M_named e_M_mayAdd_40) rfl rfl rfl ?_
    refine a_iconst (v := -1) hB e_M_mayAdd_43 ic_m1 ?_
    refine a_icmp_ne (tgt := 51) hB e_M_mayAdd_44 (by decide) (fun c => ?_) (fun c => ?_)
    · have h := iq c h
      refine a_ls [] (ls' := []) rfl ?_
      exact t_M_mayAdd_51 hB hF h
    · have h := ip c h
      refine a_iconst (v := 1) hB e_M_mayAdd_47 ic_1 ?_
      refine a_goto (tgt := 52) hB e_M_mayAdd_48 (by decide) ?_
      refine a_ls [] (ls' := []) rfl ?_
      exact t_M_mayAdd_52 hB hF h
set_option maxRecDepth 100000 in
theorem c_M_mayAdd {G : Gt} (hG : GOK G) {φ : Ph} (hF : SF 148 φ)   {M : Mm}  {o : Int32} {M9 : Mm} (h : f_M_mayAdd M = some (o, M9)) : CT G I_M_mayAdd [.ref 134] M φ (.inl (some (.int o))) M9 φ :=
  ct_of hG (by decide) (Nat.le_of_ble_eq_true rfl) (fun B hB => t_M_mayAdd hB hF  h)
set_option maxRecDepth 100000 in
theorem t_M_adds {G : Gt} {φ : Ph} {B : Bag} (hB : BF G I_M_adds B) (hF : SF 148 φ)    {o : Int32} {M9 : Mm} {l1 : Int32} {l2 : Int32} {l3 : Int32} {l4 : Int32} {l5 : Int32} {l6 : Int32} {M : Mm} (h : f_M_adds l1 l2 l3 l4 l5 l6 M = some (o, M9)) : AW G I_M_adds B (QM G I_M_adds B (.inl (some (.int o))) M9 φ) 0 0 0 [(0, .ref 134), (1, .int l1), (2, .int l2), (3, .int l3), (4, .int l4), (5, .int l5), (6, .int l6)] [] M φ := by
  unfold f_M_adds at h
  refine a_aload_n (j := 0) hB e_M_adds_0 rfl rfl ?_
  refine a_getR (r := 135) (k := 0) hB e_M_adds_1 fl_M_9 (sf_lt hF (by decide)) kk_134 tt_134_0 (hF.1 _ _) ?_
  refine a_iconst (v := 0) hB e_M_adds_4 ic_0 ?_
  refine a_iald' hB e_M_adds_5 (sf_lt hF (by decide)) kk_135 ll_135 (by decide) ?_
  refine a_istore (ls' := [(7, .int (M 135 (ix (0 : Int32)))), (0, .ref 134), (1, .int l1), (2, .int l2), (3, .int l3), (4, .int l4), (5, .int l5), (6, .int l6)]) hB e_M_adds_6 (Nat.le_of_ble_eq_true rfl) rfl ?_
  refine a_aload_n (j := 1) hB e_M_adds_8 rfl rfl ?_
  refine a_aload_n (j := 1) hB e_M_adds_9 rfl rfl ?_
  refine a_getR (r := 135) (k := 0) hB e_M_adds_10 fl_M_9 (sf_lt hF (by decide)) kk_134 tt_134_0 (hF.1 _ _) ?_
  obtain ⟨M13, hr13, h⟩ := bn_i h
  refine a_ret (v := none) (M1 := M13) (φ1 := φ) (st1 := []) (j1 := 0) (j2 := 0) (ar_V (As := [.ref 135]) (rest := []) hB (c_M_remember (bf_G hB) hF kk_135 (by decide) ll_135 hr13) ml_M_280 md_M_remember rc_M_remember (sf_lt hF (by decide)) kk_134 rfl rfl (Nat.le_of_ble_eq_true rfl) rm_M_adds_M_remember e_M_adds_13) rfl rfl rfl ?_
  refine a_aload_n (j := 1) hB e_M_adds_16 rfl rfl ?_
  obtain ⟨M17, hr17, h⟩ := bn_i h
  refine a_ret (v := none) (M1 := M17) (φ1 := φ) (st1 := []) (j1 := 0) (j2 := 0) (ar_V (As := []) (rest := []) hB (c_M_layName (bf_G hB) hF hr17) ml_M_218 md_M_layName rc_M_layName (sf_lt hF (by decide)) kk_134 rfl rfl (Nat.le_of_ble_eq_true rfl) rm_M_adds_M_layName e_M_adds_17) rfl rfl rfl ?_
  refine a_aload_n (j := 1) hB e_M_adds_20 rfl rfl ?_
  refine a_iload (j := 0) hB e_M_adds_21 rfl ?_
  refine a_iconst (v := 0) hB e_M_adds_23 ic_0 ?_
  refine a_iload_n (j := 2) hB e_M_adds_24 rfl rfl ?_
  obtain ⟨M25, hr25, h⟩ := bn_i h
  refine a_ret (v := none) (M1 := M25) (φ1 := φ) (st1 := []) (j1 := 0) (j2 := 0) (ar_V (As := [.int (M 135 (ix (0 : Int32))), .int (0 : Int32), .int l1]) (rest := []) hB (c_M_put (bf_G hB) hF hr25) ml_M_149 md_M_put rc_M_put (sf_lt hF (by decide)) kk_134 rfl rfl (Nat.le_of_ble_eq_true rfl) rm_M_adds_M_put e_M_adds_25) rfl rfl rfl ?_
  refine a_aload_n (j := 1) hB e_M_adds_28 rfl rfl ?_
  refine a_iload (j := 0) hB e_M_adds_29 rfl ?_
  refine a_iconst (v := 1) hB e_M_adds_31 ic_1 ?_
  refine a_iload_n (j := 3) hB e_M_adds_32 rfl rfl ?_
  obtain ⟨M33, hr33, h⟩ := bn_i h
  refine a_ret (v := none) (M1 := M33) (φ1 := φ) (st1 := []) (j1 := 0) (j2 := 0) (ar_V (As := [.int (M 135 (ix (0 : Int32))), .int (1 : Int32), .int l2]) (rest := []) hB (c_M_put (bf_G hB) hF hr33) ml_M_149 md_M_put rc_M_put (sf_lt hF (by decide)) kk_134 rfl rfl (Nat.le_of_ble_eq_true rfl) rm_M_adds_M_put e_M_adds_33) rfl rfl rfl ?_
  refine a_aload_n (j := 1) hB e_M_adds_36 rfl rfl ?_
  refine a_iload (j := 0) hB e_M_adds_37 rfl ?_
  refine a_iconst (v := 2) hB e_M_adds_39 ic_2 ?_
  refine a_iload_n (j := 4) hB e_M_adds_40 rfl rfl ?_
  obtain ⟨M41, hr41, h⟩ := bn_i h
  refine a_ret (v := none) (M1 := M41) (φ1 := φ) (st1 := []) (j1 := 0) (j2 := 0) (ar_V (As := [.int (M 135 (ix (0 : Int32))), .int (2 : Int32), .int l3]) (rest := []) hB (c_M_put (bf_G hB) hF hr41) ml_M_149 md_M_put rc_M_put (sf_lt hF (by decide)) kk_134 rfl rfl (Nat.le_of_ble_eq_true rfl) rm_M_adds_M_put e_M_adds_41) rfl rfl rfl ?_
  refine a_aload_n (j := 1) hB e_M_adds_44 rfl rfl ?_
  refine a_iload (j := 0) hB e_M_adds_45 rfl ?_
  refine a_iconst (v := 3) hB e_M_adds_47 ic_3 ?_
  refine a_iconst (v := 0) hB e_M_adds_48 ic_0 ?_
  obtain ⟨M49, hr49, h⟩ := bn_i h
  refine a_ret (v := none) (M1 := M49) (φ1 := φ) (st1 := []) (j1 := 0) (j2 := 0) (ar_V (As := [.int (M 135 (ix (0 : Int32))), .int (3 : Int32), .int (0 : Int32)]) (rest := []) hB (c_M_put (bf_G hB) hF hr49) ml_M_149 md_M_put rc_M_put (sf_lt hF (by decide)) kk_134 rfl rfl (Nat.le_of_ble_eq_true rfl) rm_M_adds_M_put e_M_adds_49) rfl rfl rfl ?_
  refine a_aload_n (j := 1) hB e_M_adds_52 rfl rfl ?_
  refine a_iload (j := 0) hB e_M_adds_53 rfl ?_
  refine a_iconst (v := 4) hB e_M_adds_55 ic_4 ?_
  refine a_iload (j := 5) hB e_M_adds_56 rfl ?_
  obtain ⟨M58, hr58, h⟩ := bn_i h
  refine a_ret (v := none) (M1 := M58) (φ1 := φ) (st1 := []) (j1 := 0) (j2 := 0) (ar_V (As := [.int (M 135 (ix (0 : Int32))), .int (4 : Int32), .int l4]) (rest := []) hB (c_M_put (bf_G hB) hF hr58) ml_M_149 md_M_put rc_M_put (sf_lt hF (by decide)) kk_134 rfl rfl (Nat.le_of_ble_eq_true rfl) rm_M_adds_M_put e_M_adds_58) rfl rfl rfl ?_
  refine a_aload_n (j := 1) hB e_M_adds_61 rfl rfl ?_
  refine a_iload (j := 0) hB e_M_adds_62 rfl ?_
  refine a_iconst (v := 5) hB e_M_adds_64 ic_5 ?_
  refine a_iload (j := 6) hB e_M_adds_65 rfl ?_
  obtain ⟨M67, hr67, h⟩ := bn_i h
  refine a_ret (v := none) (M1 := M67) (φ1 := φ) (st1 := []) (j1 := 0) (j2 := 0) (ar_V (As := [.int (M 135 (ix (0 : Int32))), .int (5 : Int32), .int l5]) (rest := []) hB (c_M_put (bf_G hB) hF hr67) ml_M_149 md_M_put rc_M_put (sf_lt hF (by decide)) kk_134 rfl rfl (Nat.le_of_ble_eq_true rfl) rm_M_adds_M_put e_M_adds_67) rfl rfl rfl ?_
  refine a_aload_n (j := 1) hB e_M_adds_70 rfl rfl ?_
  refine a_iload (j := 0) hB e_M_adds_71 rfl ?_
  refine a_bipush (v := 6) hB e_M_adds_73 bp_6 ?_
  refine a_iload (j := 7) hB e_M_adds_75 rfl ?_
  obtain ⟨M77, hr77, h⟩ := bn_i h
  refine a_ret (v := none) (M1 := M77) (φ1 := φ) (st1 := []) (j1 := 0) (j2 := 0) (ar_V (As := [.int (M 135 (ix (0 : Int32))), .int (6 : Int32), .int l6]) (rest := []) hB (c_M_put (bf_G hB) hF hr77) ml_M_149 md_M_put rc_M_put (sf_lt hF (by decide)) kk_134 rfl rfl (Nat.le_of_ble_eq_true rfl) rm_M_adds_M_put e_M_adds_77) rfl rfl rfl ?_
  refine a_aload_n (j := 1) hB e_M_adds_80 rfl rfl ?_
  refine a_getR (r := 135) (k := 0) hB e_M_adds_81 fl_M_9 (sf_lt hF (by decide)) kk_134 tt_134_0 (hF.1 _ _) ?_
  refine a_iconst (v := 0) hB e_M_adds_84 ic_0 ?_
  refine a_dup2 hB e_M_adds_85 rfl rfl ?_
  refine a_iald' hB e_M_adds_86 (sf_lt hF (by decide)) kk_135 ll_135 (by decide) ?_
  refine a_iconst (v := 1) hB e_M_adds_87 ic_1 ?_
  refine a_iadd hB e_M_adds_88 ?_
  obtain ⟨M89, hM89, h⟩ := bm_i h
  refine a_iast' hB e_M_adds_89 (sf_lt hF (by decide)) kk_135 ll_135 (by decide) ?_
  refine a_mem hM89 ?_
  refine a_iload (j := 0) hB e_M_adds_90 rfl ?_
  cases h
  exact a_iret hB rfl e_M_adds_92 (by decide) (by decide)
set_option maxRecDepth 100000 in
theorem c_M_adds {G : Gt} (hG : GOK G) {φ : Ph} (hF : SF 148 φ)   {M : Mm} {l1 : Int32} {l2 : Int32} {l3 : Int32} {l4 : Int32} {l5 : Int32} {l6 : Int32} {o : Int32} {M9 : Mm} (h : f_M_adds l1 l2 l3 l4 l5 l6 M = some (o, M9)) : CT G I_M_adds [.ref 134, .int l1, .int l2, .int l3, .int l4, .int l5, .int l6] M φ (.inl (some (.int o))) M9 φ :=
  ct_of hG (by decide) (Nat.le_of_ble_eq_true rfl) (fun B hB => t_M_adds hB hF  h)
set_option maxRecDepth 100000 in
theorem t_M_addLeg_80 {G : Gt} {φ : Ph} {B : Bag} (hB : BF G I_M_addLeg B) (hF : SF 148 φ)    {o : Int32} {M9 : Mm} {l1 : Int32} {l2 : Int32} {l3 : Int32} {l4 : Int32} {l5 : Int32} {t1 : Int32} {t2 : Int32} {M : Mm} (h : f_M_addLeg_80 l1 l2 l3 l4 l5 t1 t2 M = some (o, M9)) : AW G I_M_addLeg B (QM G I_M_addLeg B (.inl (some (.int o))) M9 φ) 0 0 80 [(0, .ref 134), (1, .int l1), (2, .int l2), (3, .int l3), (4, .int l4), (5, .int l5)] [.int t2, .int t1, .ref 134] M φ := by
  unfold f_M_addLeg_80 at h
  refine a_iconst (v := 0) hB e_M_addLeg_80 ic_0 ?_
  obtain ⟨r81, M81, hr81, h⟩ := bn2_i h
  refine a_ret (v := (some (.int r81))) (M1 := M81) (φ1 := φ) (st1 := [.int r81]) (j1 := 0) (j2 := 0) (ar_V (As := [.int t1, .int t2, .int (0 : Int32)]) (rest := []) hB (c_M_fails (bf_G hB) hF hr81) ml_M_160 md_M_fails rc_M_fails (sf_lt hF (by decide)) kk_134 rfl rfl (Nat.le_of_ble_eq_true rfl) rm_M_addLeg_M_fails e_M_addLeg_81) rfl rfl rfl ?_
  refine a_if_eq (tgt := 89) hB e_M_addLeg_84 (by decide) (fun c => ?_) (fun c => ?_)
  · have h := ip c h
    refine a_aload_n (j := 0) hB e_M_addLeg_89 rfl rfl ?_
    refine a_iload_n (j := 1) hB e_M_addLeg_90 rfl rfl ?_
    refine a_iload_n (j := 2) hB e_M_addLeg_91 rfl rfl ?_
    refine a_iload_n (j := 3) hB e_M_addLeg_92 rfl rfl ?_
    refine a_iload (j := 4) hB e_M_addLeg_93 rfl ?_
    refine a_iload (j := 5) hB e_M_addLeg_95 rfl ?_
    refine a_iconst (v := 0) hB e_M_addLeg_97 ic_0 ?_
    obtain ⟨r98, M98, hr98, h⟩ := bn2_i h
    refine a_ret (v := (some (.int r98))) (M1 := M98) (φ1 := φ) (st1 := [.int r98]) (j1 := 0) (j2 := 0) (ar_V (As := [.int l1, .int l2, .int l3, .int l4, .int l5, .int (0 : Int32)]) (rest := []) hB (c_M_adds (bf_G hB) hF hr98) ml_M_302 md_M_adds rc_M_adds (sf_lt hF (by decide)) kk_134 rfl rfl (Nat.le_of_ble_eq_true rfl) rm_M_addLeg_M_adds e_M_addLeg_98) rfl rfl rfl ?_
    cases h
    exact a_iret hB rfl e_M_addLeg_101 (by decide) (by decide)
  · have h := iq c h
    refine a_iconst (v := 0) hB e_M_addLeg_87 ic_0 ?_
    cases h
    exact a_iret hB rfl e_M_addLeg_88 (by decide) (by decide)
set_option maxRecDepth 100000 in
theorem t_M_addLeg_68 {G : Gt} {φ : Ph} {B : Bag} (hB : BF G I_M_addLeg B) (hF : SF 148 φ)    {o : Int32} {M9 : Mm} {l1 : Int32} {l2 : Int32} {l3 : Int32} {l4 : Int32} {l5 : Int32} {t1 : Int32} {M : Mm} (h : f_M_addLeg_68 l1 l2 l3 l4 l5 t1 M = some (o, M9)) : AW G I_M_addLeg B (QM G I_M_addLeg B (.inl (some (.int o))) M9 φ) 0 0 68 [(0, .ref 134), (1, .int l1), (2, .int l2), (3, .int l3), (4, .int l4), (5, .int l5)] [.int t1, .ref 134] M φ := by
  unfold f_M_addLeg_68 at h
  refine a_aload_n (j := 0) hB e_M_addLeg_68 rfl rfl ?_
  obtain ⟨r69, M69, hr69, h⟩ := bn2_i h
  refine a_ret (v := (some (.int r69))) (M1 := M69) (φ1 := φ) (st1 := [.int r69, .int t1, .ref 134]) (j1 := 0) (j2 := 0) (ar_V (As := []) (rest := [.int t1, .ref 134]) hB (c_M_mayAdd (bf_G hB) hF hr69) ml_M_298 md_M_mayAdd rc_M_mayAdd (sf_lt hF (by decide)) kk_134 rfl rfl (Nat.le_of_ble_eq_true rfl) rm_M_addLeg_M_mayAdd e_M_addLeg_69) rfl rfl rfl ?_
  refine a_if_ne (tgt := 79) hB e_M_addLeg_72 (by decide) (fun c => ?_) (fun c => ?_)
  · have h := iq c h
    refine a_iconst (v := 0) hB e_M_addLeg_79 ic_0 ?_
    exact t_M_addLeg_80 hB hF h
  · have h := ip c h
    refine a_iconst (v := 1) hB e_M_addLeg_75 ic_1 ?_
    refine a_goto (tgt := 80) hB e_M_addLeg_76 (by decide) ?_
    exact t_M_addLeg_80 hB hF h
set_option maxRecDepth 100000 in
theorem t_M_addLeg_55 {G : Gt} {φ : Ph} {B : Bag} (hB : BF G I_M_addLeg B) (hF : SF 148 φ)    {o : Int32} {M9 : Mm} {l1 : Int32} {l2 : Int32} {l3 : Int32} {l4 : Int32} {l5 : Int32} {t0 : Int32} {M : Mm} (h : f_M_addLeg_55 l1 l2 l3 l4 l5 t0 M = some (o, M9)) : AW G I_M_addLeg B (QM G I_M_addLeg B (.inl (some (.int o))) M9 φ) 0 0 55 [(0, .ref 134), (1, .int l1), (2, .int l2), (3, .int l3), (4, .int l4), (5, .int l5)] [.int t0] M φ := by
  unfold f_M_addLeg_55 at h
  refine a_istore (ls' := [(6, .int t0), (0, .ref 134), (1, .int l1), (2, .int l2), (3, .int l3), (4, .int l4), (5, .int l5)]) hB e_M_addLeg_55 (Nat.le_of_ble_eq_true rfl) rfl ?_
  refine a_aload_n (j := 1) hB e_M_addLeg_57 rfl rfl ?_
  refine a_iload (j := 0) hB e_M_addLeg_58 rfl ?_
  refine a_if_ne (tgt := 67) hB e_M_addLeg_60 (by decide) (fun c => ?_) (fun c => ?_)
  · have h := iq c h
    refine a_iconst (v := 0) hB e_M_addLeg_67 ic_0 ?_
    refine a_ls [1, 2, 3, 4, 5, 6] (ls' := [(0, .ref 134), (1, .int l1), (2, .int l2), (3, .int l3), (4, .int l4), (5, .int l5)]) rfl ?_
    exact t_M_addLeg_68 hB hF h
  · have h := ip c h
    refine a_iconst (v := 1) hB e_M_addLeg_63 ic_1 ?_
    refine a_goto (tgt := 68) hB e_M_addLeg_64 (by decide) ?_
    refine a_ls [1, 2, 3, 4, 5, 6] (ls' := [(0, .ref 134), (1, .int l1), (2, .int l2), (3, .int l3), (4, .int l4), (5, .int l5)]) rfl ?_
    exact t_M_addLeg_68 hB hF h
set_option maxRecDepth 100000 in
theorem t_M_addLeg_54 {G : Gt} {φ : Ph} {B : Bag} (hB : BF G I_M_addLeg B) (hF : SF 148 φ)    {o : Int32} {M9 : Mm} {l1 : Int32} {l2 : Int32} {l3 : Int32} {l4 : Int32} {l5 : Int32} {M : Mm} (h : f_M_addLeg_54 l1 l2 l3 l4 l5 M = some (o, M9)) : AW G I_M_addLeg B (QM G I_M_addLeg B (.inl (some (.int o))) M9 φ) 0 0 54 [(0, .ref 134), (1, .int l1), (2, .int l2), (3, .int l3), (4, .int l4), (5, .int l5)] [] M φ := by
  unfold f_M_addLeg_54 at h
  refine a_iconst (v := 0) hB e_M_addLeg_54 ic_0 ?_
  exact t_M_addLeg_55 hB hF h
set_option maxRecDepth 100000 in
theorem t_M_addLeg {G : Gt} {φ : Ph} {B : Bag} (hB : BF G I_M_addLeg B) (hF : SF 148 φ)    {o : Int32} {M9 : Mm} {l1 : Int32} {l2 : Int32} {l3 : Int32} {l4 : Int32} {l5 : Int32} {M : Mm} (h : f_M_addLeg l1 l2 l3 l4 l5 M = some (o, M9)) : AW G I_M_addLeg B (QM G I_M_addLeg B (.inl (some (.int o))) M9 φ) 0 0 0 [(0, .ref 134), (1, .int l1), (2, .int l2), (3, .int l3), (4, .int l4), (5, .int l5)] [] M φ := by
  unfold f_M_addLeg at h
  refine a_iload_n (j := 1) hB e_M_addLeg_0 rfl rfl ?_
  obtain ⟨r1, hr1, h⟩ := bn_i h
  refine a_ret (v := (some (.int r1))) (M1 := M) (φ1 := φ) (st1 := [.int r1]) (j1 := 0) (j2 := 0) (ar_S (As := [.int l1]) (rest := []) hB (c_M_isBearing (bf_G hB) hF hr1) ml_M_295 md_M_isBearing rfl rfl (Nat.le_of_ble_eq_true rfl) rm_M_addLeg_M_isBearing e_M_addLeg_1) rfl rfl rfl ?_
  refine a_if_eq (tgt := 54) hB e_M_addLeg_4 (by decide) (fun c => ?_) (fun c => ?_)
  · have h := ip c h
    exact t_M_addLeg_54 hB hF h
  · have h := iq c h
    refine a_iload_n (j := 2) hB e_M_addLeg_7 rfl rfl ?_
    refine a_iconst (v := 0) hB e_M_addLeg_8 ic_0 ?_
    refine a_bipush (v := 99) hB e_M_addLeg_9 bp_99 ?_
    obtain ⟨r11, hr11, h⟩ := bn_i h
    refine a_ret (v := (some (.int r11))) (M1 := M) (φ1 := φ) (st1 := [.int r11]) (j1 := 0) (j2 := 0) (ar_S (As := [.int l2, .int (0 : Int32), .int (99 : Int32)]) (rest := []) hB (c_M_isIn (bf_G hB) hF hr11) ml_M_92 md_M_isIn rfl rfl (Nat.le_of_ble_eq_true rfl) rm_M_addLeg_M_isIn e_M_addLeg_11) rfl rfl rfl ?_
    refine a_if_eq (tgt := 54) hB e_M_addLeg_14 (by decide) (fun c => ?_) (fun c => ?_)
    · have h := ip c h
      exact t_M_addLeg_54 hB hF h
    · have h := iq c h
      refine a_iload_n (j := 3) hB e_M_addLeg_17 rfl rfl ?_
      refine a_iconst (v := 0) hB e_M_addLeg_18 ic_0 ?_
      refine a_bipush (v := 99) hB e_M_addLeg_19 bp_99 ?_
      obtain ⟨r21, hr21, h⟩ := bn_i h
      refine a_ret (v := (some (.int r21))) (M1 := M) (φ1 := φ) (st1 := [.int r21]) (j1 := 0) (j2 := 0) (ar_S (As := [.int l3, .int (0 : Int32), .int (99 : Int32)]) (rest := []) hB (c_M_isIn (bf_G hB) hF hr21) ml_M_92 md_M_isIn rfl rfl (Nat.le_of_ble_eq_true rfl) rm_M_addLeg_M_isIn e_M_addLeg_21) rfl rfl rfl ?_
      refine a_if_eq (tgt := 54) hB e_M_addLeg_24 (by decide) (fun c => ?_) (fun c => ?_)
      · have h := ip c h
        exact t_M_addLeg_54 hB hF h
      · have h := iq c h
        refine a_iload (j := 4) hB e_M_addLeg_27 rfl ?_
        refine a_iconst (v := 0) hB e_M_addLeg_29 ic_0 ?_
        refine a_sipush (v := 9999) hB e_M_addLeg_30 sp_9999 ?_
        obtain ⟨r33, hr33, h⟩ := bn_i h
        refine a_ret (v := (some (.int r33))) (M1 := M) (φ1 := φ) (st1 := [.int r33]) (j1 := 0) (j2 := 0) (ar_S (As := [.int l4, .int (0 : Int32), .int (9999 : Int32)]) (rest := []) hB (c_M_isIn (bf_G hB) hF hr33) ml_M_92 md_M_isIn rfl rfl (Nat.le_of_ble_eq_true rfl) rm_M_addLeg_M_isIn e_M_addLeg_33) rfl rfl rfl ?_
        refine a_if_eq (tgt := 54) hB e_M_addLeg_36 (by decide) (fun c => ?_) (fun c => ?_)
        · have h := ip c h
          exact t_M_addLeg_54 hB hF h
        · have h := iq c h
          refine a_iload (j := 5) hB e_M_addLeg_39 rfl ?_
          refine a_iconst (v := 0) hB e_M_addLeg_41 ic_0 ?_
          refine a_bipush (v := 50) hB e_M_addLeg_42 bp_50 ?_
          obtain ⟨r44, hr44, h⟩ := bn_i h
          refine a_ret (v := (some (.int r44))) (M1 := M) (φ1 := φ) (st1 := [.int r44]) (j1 := 0) (j2 := 0) (ar_S (As := [.int l5, .int (0 : Int32), .int (50 : Int32)]) (rest := []) hB (c_M_isIn (bf_G hB) hF hr44) ml_M_92 md_M_isIn rfl rfl (Nat.le_of_ble_eq_true rfl) rm_M_addLeg_M_isIn e_M_addLeg_44) rfl rfl rfl ?_
          refine a_if_eq (tgt := 54) hB e_M_addLeg_47 (by decide) (fun c => ?_) (fun c => ?_)
          · have h := ip c h
            exact t_M_addLeg_54 hB hF h
          · have h := iq c h
            refine a_iconst (v := 1) hB e_M_addLeg_50 ic_1 ?_
            refine a_goto (tgt := 55) hB e_M_addLeg_51 (by decide) ?_
            exact t_M_addLeg_55 hB hF h
set_option maxRecDepth 100000 in
theorem c_M_addLeg {G : Gt} (hG : GOK G) {φ : Ph} (hF : SF 148 φ)   {M : Mm} {l1 : Int32} {l2 : Int32} {l3 : Int32} {l4 : Int32} {l5 : Int32} {o : Int32} {M9 : Mm} (h : f_M_addLeg l1 l2 l3 l4 l5 M = some (o, M9)) : CT G I_M_addLeg [.ref 134, .int l1, .int l2, .int l3, .int l4, .int l5] M φ (.inl (some (.int o))) M9 φ :=
  ct_of hG (by decide) (Nat.le_of_ble_eq_true rfl) (fun B hB => t_M_addLeg hB hF  h)
set_option maxRecDepth 100000 in
theorem t_M_addBog_36 {G : Gt} {φ : Ph} {B : Bag} (hB : BF G I_M_addBog B) (hF : SF 148 φ)    {o : Int32} {M9 : Mm} {l1 : Int32} {l2 : Int32} {t1 : Int32} {t2 : Int32} {M : Mm} (h : f_M_addBog_36 l1 l2 t1 t2 M = some (o, M9)) : AW G I_M_addBog B (QM G I_M_addBog B (.inl (some (.int o))) M9 φ) 0 0 36 [(0, .ref 134), (1, .int l1), (2, .int l2)] [.int t2, .int t1, .ref 134] M φ := by
  unfold f_M_addBog_36 at h
  refine a_iconst (v := 0) hB e_M_addBog_36 ic_0 ?_
  obtain ⟨r37, M37, hr37, h⟩ := bn2_i h
  refine a_ret (v := (some (.int r37))) (M1 := M37) (φ1 := φ) (st1 := [.int r37]) (j1 := 0) (j2 := 0) (ar_V (As := [.int t1, .int t2, .int (0 : Int32)]) (rest := []) hB (c_M_fails (bf_G hB) hF hr37) ml_M_160 md_M_fails rc_M_fails (sf_lt hF (by decide)) kk_134 rfl rfl (Nat.le_of_ble_eq_true rfl) rm_M_addBog_M_fails e_M_addBog_37) rfl rfl rfl ?_
  refine a_if_eq (tgt := 45) hB e_M_addBog_40 (by decide) (fun c => ?_) (fun c => ?_)
  · have h := ip c h
    refine a_aload_n (j := 0) hB e_M_addBog_45 rfl rfl ?_
    refine a_iload_n (j := 1) hB e_M_addBog_46 rfl rfl ?_
    refine a_iconst (v := 0) hB e_M_addBog_47 ic_0 ?_
    refine a_iconst (v := 0) hB e_M_addBog_48 ic_0 ?_
    refine a_iconst (v := 0) hB e_M_addBog_49 ic_0 ?_
    refine a_iconst (v := 0) hB e_M_addBog_50 ic_0 ?_
    refine a_iload_n (j := 2) hB e_M_addBog_51 rfl rfl ?_
    obtain ⟨r52, M52, hr52, h⟩ := bn2_i h
    refine a_ret (v := (some (.int r52))) (M1 := M52) (φ1 := φ) (st1 := [.int r52]) (j1 := 0) (j2 := 0) (ar_V (As := [.int l1, .int (0 : Int32), .int (0 : Int32), .int (0 : Int32), .int (0 : Int32), .int l2]) (rest := []) hB (c_M_adds (bf_G hB) hF hr52) ml_M_302 md_M_adds rc_M_adds (sf_lt hF (by decide)) kk_134 rfl rfl (Nat.le_of_ble_eq_true rfl) rm_M_addBog_M_adds e_M_addBog_52) rfl rfl rfl ?_
    cases h
    exact a_iret hB rfl e_M_addBog_55 (by decide) (by decide)
  · have h := iq c h
    refine a_iconst (v := 0) hB e_M_addBog_43 ic_0 ?_
    cases h
    exact a_iret hB rfl e_M_addBog_44 (by decide) (by decide)
set_option maxRecDepth 100000 in
theorem t_M_addBog_24 {G : Gt} {φ : Ph} {B : Bag} (hB : BF G I_M_addBog B) (hF : SF 148 φ)    {o : Int32} {M9 : Mm} {l1 : Int32} {l2 : Int32} {t1 : Int32} {M : Mm} (h : f_M_addBog_24 l1 l2 t1 M = some (o, M9)) : AW G I_M_addBog B (QM G I_M_addBog B (.inl (some (.int o))) M9 φ) 0 0 24 [(0, .ref 134), (1, .int l1), (2, .int l2)] [.int t1, .ref 134] M φ := by
  unfold f_M_addBog_24 at h
  refine a_aload_n (j := 0) hB e_M_addBog_24 rfl rfl ?_
  obtain ⟨r25, M25, hr25, h⟩ := bn2_i h
  refine a_ret (v := (some (.int r25))) (M1 := M25) (φ1 := φ) (st1 := [.int r25, .int t1, .ref 134]) (j1 := 0) (j2 := 0) (ar_V (As := []) (rest := [.int t1, .ref 134]) hB (c_M_mayAdd (bf_G hB) hF hr25) ml_M_298 md_M_mayAdd rc_M_mayAdd (sf_lt hF (by decide)) kk_134 rfl rfl (Nat.le_of_ble_eq_true rfl) rm_M_addBog_M_mayAdd e_M_addBog_25) rfl rfl rfl ?_
  refine a_if_ne (tgt := 35) hB e_M_addBog_28 (by decide) (fun c => ?_) (fun c => ?_)
  · have h := iq c h
    refine a_iconst (v := 0) hB e_M_addBog_35 ic_0 ?_
    exact t_M_addBog_36 hB hF h
  · have h := ip c h
    refine a_iconst (v := 1) hB e_M_addBog_31 ic_1 ?_
    refine a_goto (tgt := 36) hB e_M_addBog_32 (by decide) ?_
    exact t_M_addBog_36 hB hF h
set_option maxRecDepth 100000 in
theorem t_M_addBog_19 {G : Gt} {φ : Ph} {B : Bag} (hB : BF G I_M_addBog B) (hF : SF 148 φ)    {o : Int32} {M9 : Mm} {l1 : Int32} {l2 : Int32} {M : Mm} (h : f_M_addBog_19 l1 l2 M = some (o, M9)) : AW G I_M_addBog B (QM G I_M_addBog B (.inl (some (.int o))) M9 φ) 0 0 19 [(0, .ref 134), (1, .int l1), (2, .int l2)] [.ref 134] M φ := by
  unfold f_M_addBog_19 at h
  refine a_iconst (v := 1) hB e_M_addBog_19 ic_1 ?_
  refine a_goto (tgt := 24) hB e_M_addBog_20 (by decide) ?_
  exact t_M_addBog_24 hB hF h
set_option maxRecDepth 100000 in
theorem t_M_addBog {G : Gt} {φ : Ph} {B : Bag} (hB : BF G I_M_addBog B) (hF : SF 148 φ)    {o : Int32} {M9 : Mm} {l1 : Int32} {l2 : Int32} {M : Mm} (h : f_M_addBog l1 l2 M = some (o, M9)) : AW G I_M_addBog B (QM G I_M_addBog B (.inl (some (.int o))) M9 φ) 0 0 0 [(0, .ref 134), (1, .int l1), (2, .int l2)] [] M φ := by
  unfold f_M_addBog at h
  refine a_aload_n (j := 0) hB e_M_addBog_0 rfl rfl ?_
  refine a_iload_n (j := 1) hB e_M_addBog_1 rfl rfl ?_
  obtain ⟨r2, hr2, h⟩ := bn_i h
  refine a_ret (v := (some (.int r2))) (M1 := M) (φ1 := φ) (st1 := [.int r2, .ref 134]) (j1 := 0) (j2 := 0) (ar_S (As := [.int l1]) (rest := [.ref 134]) hB (c_M_isBearing (bf_G hB) hF hr2) ml_M_295 md_M_isBearing rfl rfl (Nat.le_of_ble_eq_true rfl) rm_M_addBog_M_isBearing e_M_addBog_2) rfl rfl rfl ?_
  refine a_if_eq (tgt := 19) hB e_M_addBog_5 (by decide) (fun c => ?_) (fun c => ?_)
  · have h := ip c h
    exact t_M_addBog_19 hB hF h
  · have h := iq c h
    refine a_iload_n (j := 2) hB e_M_addBog_8 rfl rfl ?_
    refine a_iconst (v := 1) hB e_M_addBog_9 ic_1 ?_
    refine a_sipush (v := 999) hB e_M_addBog_10 sp_999 ?_
    obtain ⟨r13, hr13, h⟩ := bn_i h
    refine a_ret (v := (some (.int r13))) (M1 := M) (φ1 := φ) (st1 := [.int r13, .ref 134]) (j1 := 0) (j2 := 0) (ar_S (As := [.int l2, .int (1 : Int32), .int (999 : Int32)]) (rest := [.ref 134]) hB (c_M_isIn (bf_G hB) hF hr13) ml_M_92 md_M_isIn rfl rfl (Nat.le_of_ble_eq_true rfl) rm_M_addBog_M_isIn e_M_addBog_13) rfl rfl rfl ?_
    refine a_if_ne (tgt := 23) hB e_M_addBog_16 (by decide) (fun c => ?_) (fun c => ?_)
    · have h := iq c h
      refine a_iconst (v := 0) hB e_M_addBog_23 ic_0 ?_
      exact t_M_addBog_24 hB hF h
    · have h := ip c h
      exact t_M_addBog_19 hB hF h
set_option maxRecDepth 100000 in
theorem c_M_addBog {G : Gt} (hG : GOK G) {φ : Ph} (hF : SF 148 φ)   {M : Mm} {l1 : Int32} {l2 : Int32} {o : Int32} {M9 : Mm} (h : f_M_addBog l1 l2 M = some (o, M9)) : CT G I_M_addBog [.ref 134, .int l1, .int l2] M φ (.inl (some (.int o))) M9 φ :=
  ct_of hG (by decide) (Nat.le_of_ble_eq_true rfl) (fun B hB => t_M_addBog hB hF  h)
set_option maxRecDepth 100000 in
theorem t_M_dropPin_25 {G : Gt} {φ : Ph} {B : Bag} (hB : BF G I_M_dropPin B) (hF : SF 148 φ)    {o : Int32} {M9 : Mm} {l1 : Int32} {t1 : Int32} {t2 : Int32} {M : Mm} (h : f_M_dropPin_25 l1 t1 t2 M = some (o, M9)) : AW G I_M_dropPin B (QM G I_M_dropPin B (.inl (some (.int o))) M9 φ) 0 0 25 [(0, .ref 134), (1, .int l1)] [.int t2, .int t1, .ref 134] M φ := by
  unfold f_M_dropPin_25 at h
  refine a_iconst (v := 0) hB e_M_dropPin_25 ic_0 ?_
  obtain ⟨r26, M26, hr26, h⟩ := bn2_i h
  refine a_ret (v := (some (.int r26))) (M1 := M26) (φ1 := φ) (st1 := [.int r26]) (j1 := 0) (j2 := 0) (ar_V (As := [.int t1, .int t2, .int (0 : Int32)]) (rest := []) hB (c_M_fails (bf_G hB) hF hr26) ml_M_160 md_M_fails rc_M_fails (sf_lt hF (by decide)) kk_134 rfl rfl (Nat.le_of_ble_eq_true rfl) rm_M_dropPin_M_fails e_M_dropPin_26) rfl rfl rfl ?_
  refine a_if_eq (tgt := 34) hB e_M_dropPin_29 (by decide) (fun c => ?_) (fun c => ?_)
  · have h := ip c h
    refine a_aload_n (j := 0) hB e_M_dropPin_34 rfl rfl ?_
    refine a_aload_n (j := 0) hB e_M_dropPin_35 rfl rfl ?_
    refine a_getR (r := 135) (k := 0) hB e_M_dropPin_36 fl_M_9 (sf_lt hF (by decide)) kk_134 tt_134_0 (hF.1 _ _) ?_
    obtain ⟨M39, hr39, h⟩ := bn_i h
    refine a_ret (v := none) (M1 := M39) (φ1 := φ) (st1 := []) (j1 := 0) (j2 := 0) (ar_V (As := [.ref 135]) (rest := []) hB (c_M_remember (bf_G hB) hF kk_135 (by decide) ll_135 hr39) ml_M_280 md_M_remember rc_M_remember (sf_lt hF (by decide)) kk_134 rfl rfl (Nat.le_of_ble_eq_true rfl) rm_M_dropPin_M_remember e_M_dropPin_39) rfl rfl rfl ?_
    refine a_aload_n (j := 0) hB e_M_dropPin_42 rfl rfl ?_
    refine a_iload_n (j := 1) hB e_M_dropPin_43 rfl rfl ?_
    refine a_iconst (v := 1) hB e_M_dropPin_44 ic_1 ?_
    obtain ⟨r45, M45, hr45, h⟩ := bn2_i h
    refine a_ret (v := (some (.int r45))) (M1 := M45) (φ1 := φ) (st1 := [.int r45]) (j1 := 0) (j2 := 0) (ar_V (As := [.int l1, .int (1 : Int32)]) (rest := []) hB (c_M_drops (bf_G hB) hF hr45) ml_M_253 md_M_drops rc_M_drops (sf_lt hF (by decide)) kk_134 rfl rfl (Nat.le_of_ble_eq_true rfl) rm_M_dropPin_M_drops e_M_dropPin_45) rfl rfl rfl ?_
    cases h
    exact a_iret hB rfl e_M_dropPin_48 (by decide) (by decide)
  · have h := iq c h
    refine a_iconst (v := 0) hB e_M_dropPin_32 ic_0 ?_
    cases h
    exact a_iret hB rfl e_M_dropPin_33 (by decide) (by decide)
set_option maxRecDepth 100000 in
theorem t_M_dropPin_24 {G : Gt} {φ : Ph} {B : Bag} (hB : BF G I_M_dropPin B) (hF : SF 148 φ)    {o : Int32} {M9 : Mm} {l1 : Int32} {t1 : Int32} {M : Mm} (h : f_M_dropPin_24 l1 t1 M = some (o, M9)) : AW G I_M_dropPin B (QM G I_M_dropPin B (.inl (some (.int o))) M9 φ) 0 0 24 [(0, .ref 134), (1, .int l1)] [.int t1, .ref 134] M φ := by
  unfold f_M_dropPin_24 at h
  refine a_iconst (v := 0) hB e_M_dropPin_24 ic_0 ?_
  exact t_M_dropPin_25 hB hF h
set_option maxRecDepth 100000 in
theorem t_M_dropPin {G : Gt} {φ : Ph} {B : Bag} (hB : BF G I_M_dropPin B) (hF : SF 148 φ)    {o : Int32} {M9 : Mm} {l1 : Int32} {M : Mm} (h : f_M_dropPin l1 M = some (o, M9)) : AW G I_M_dropPin B (QM G I_M_dropPin B (.inl (some (.int o))) M9 φ) 0 0 0 [(0, .ref 134), (1, .int l1)] [] M φ := by
  unfold f_M_dropPin at h
  refine a_aload_n (j := 0) hB e_M_dropPin_0 rfl rfl ?_
  refine a_iload_n (j := 1) hB e_M_dropPin_1 rfl rfl ?_
  obtain ⟨r2, hr2, h⟩ := bn_i h
  refine a_ret (v := (some (.int r2))) (M1 := M) (φ1 := φ) (st1 := [.int r2]) (j1 := 0) (j2 := 0) (ar_V (As := [.int l1]) (rest := []) hB (c_M_noLeg (bf_G hB) hF hr2) ml_M_306 md_M_noLeg rc_M_noLeg (sf_lt hF (by decide)) kk_134 rfl rfl (Nat.le_of_ble_eq_true rfl) rm_M_dropPin_M_noLeg e_M_dropPin_2) rfl rfl rfl ?_
  refine a_istore_n (ls' := [(2, .int r2), (0, .ref 134), (1, .int l1)]) hB e_M_dropPin_5 rfl (Nat.le_of_ble_eq_true rfl) rfl ?_
  refine a_aload_n (j := 1) hB e_M_dropPin_6 rfl rfl ?_
  refine a_iload_n (j := 0) hB e_M_dropPin_7 rfl rfl ?_
  refine a_iload_n (j := 0) hB e_M_dropPin_8 rfl rfl ?_
  refine a_if_ne (tgt := 24) hB e_M_dropPin_9 (by decide) (fun c => ?_) (fun c => ?_)
  · have h := iq c h
    refine a_ls [1, 2] (ls' := [(0, .ref 134), (1, .int l1)]) rfl ?_
    exact t_M_dropPin_24 hB hF h
  · have h := ip c h
    refine a_aload_n (j := 1) hB e_M_dropPin_12 rfl rfl ?_
    refine a_iload_n (j := 2) hB e_M_dropPin_13 rfl rfl ?_
    obtain ⟨r14, hr14, h⟩ := bn_i h
    refine a_ret (v := (some (.int r14))) (M1 := M) (φ1 := φ) (st1 := [.int r14, .int r2, .ref 134]) (j1 := 0) (j2 := 0) (ar_V (As := [.int l1]) (rest := [.int r2, .ref 134]) hB (c_M_mayDrop (bf_G hB) hF hr14) ml_M_250 md_M_mayDrop rc_M_mayDrop (sf_lt hF (by decide)) kk_134 rfl rfl (Nat.le_of_ble_eq_true rfl) rm_M_dropPin_M_mayDrop e_M_dropPin_14) rfl rfl rfl ?_
    refine a_if_ne (tgt := 24) hB e_M_dropPin_17 (by decide) (fun c => ?_) (fun c => ?_)
    · have h := iq c h
      refine a_ls [1, 2] (ls' := [(0, .ref 134), (1, .int l1)]) rfl ?_
      exact t_M_dropPin_24 hB hF h
    · have h := ip c h
      refine a_iconst (v := 1) hB e_M_dropPin_20 ic_1 ?_
      refine a_goto (tgt := 25) hB e_M_dropPin_21 (by decide) ?_
      refine a_ls [1, 2] (ls' := [(0, .ref 134), (1, .int l1)]) rfl ?_
      exact t_M_dropPin_25 hB hF h
set_option maxRecDepth 100000 in
theorem c_M_dropPin {G : Gt} (hG : GOK G) {φ : Ph} (hF : SF 148 φ)   {M : Mm} {l1 : Int32} {o : Int32} {M9 : Mm} (h : f_M_dropPin l1 M = some (o, M9)) : CT G I_M_dropPin [.ref 134, .int l1] M φ (.inl (some (.int o))) M9 φ :=
  ct_of hG (by decide) (Nat.le_of_ble_eq_true rfl) (fun B hB => t_M_dropPin hB hF  h)
