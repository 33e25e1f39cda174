/-! the functions are what the machine does -/
set_option maxRecDepth 100000 in
theorem t_I_readsChained_29 {G : Gt} {φ : Ph} {B : Bag} (hB : BF G I_I_readsChained B) (hF : SF 134 φ)    {o : Int32} {M9 : Mm} {l1 : Int32} {t0 : Int32} {M : Mm} (h : f_I_readsChained_29 l1 t0 M = some (o, M9)) : AW G I_I_readsChained B (QM G I_I_readsChained B (.inl (some (.int o))) M9 φ) 0 0 29 [(0, .ref 1), (1, .int l1)] [.int t0] M φ := by
  unfold f_I_readsChained_29 at h
  refine a_istore_n (ls' := [(2, .int t0), (0, .ref 1), (1, .int l1)]) hB e_I_readsChained_29 rfl (Nat.le_of_ble_eq_true rfl) rfl ?_
  refine a_iload_n (j := 0) hB e_I_readsChained_30 rfl rfl ?_
  refine a_iconst (v := -1) hB e_I_readsChained_31 ic_m1 ?_
  refine a_icmp_ne (tgt := 39) hB e_I_readsChained_32 (by decide) (fun c => ?_) (fun c => ?_)
  · have h := iq c h
    refine a_aload_n (j := 1) hB e_I_readsChained_39 rfl rfl ?_
    refine a_iconst (v := 0) hB e_I_readsChained_40 ic_0 ?_
    refine a_bipush (v := 99) hB e_I_readsChained_41 bp_99 ?_
    obtain ⟨r43, M43, hr43, h⟩ := bn2_i h
    refine a_ret (v := (some (.int r43))) (M1 := M43) (φ1 := φ) (st1 := [.int r43]) (j1 := 0) (j2 := 0) (ar_V (As := [.int (0 : Int32), .int (99 : Int32)]) (rest := []) hB (c_I_numberHere (bf_G hB) hF hr43) ml_I_114 md_I_numberHere rc_I_numberHere (sf_lt hF (by decide)) kk_1 rfl rfl (Nat.le_of_ble_eq_true rfl) rm_I_readsChained_I_numberHere e_I_readsChained_43) rfl rfl rfl ?_
    refine a_ls [1, 2, 0] (ls' := [(0, .ref 1), (1, .int l1), (2, .int t0)]) rfl ?_
    exact t_I_readsChained_46 hB hF h
  · have h := ip c h
    refine a_iconst (v := -1) hB e_I_readsChained_35 ic_m1 ?_
    refine a_goto (tgt := 46) hB e_I_readsChained_36 (by decide) ?_
    refine a_ls [1, 2, 0] (ls' := [(0, .ref 1), (1, .int l1), (2, .int t0)]) rfl ?_
    exact t_I_readsChained_46 hB hF h
set_option maxRecDepth 100000 in
theorem t_I_readsChained_28 {G : Gt} {φ : Ph} {B : Bag} (hB : BF G I_I_readsChained B) (hF : SF 134 φ)    {o : Int32} {M9 : Mm} {l1 : Int32} {M : Mm} (h : f_I_readsChained_28 l1 M = some (o, M9)) : AW G I_I_readsChained B (QM G I_I_readsChained B (.inl (some (.int o))) M9 φ) 0 0 28 [(0, .ref 1), (1, .int l1)] [] M φ := by
  unfold f_I_readsChained_28 at h
  refine a_iconst (v := -1) hB e_I_readsChained_28 ic_m1 ?_
  exact t_I_readsChained_29 hB hF h
set_option maxRecDepth 100000 in
theorem t_I_readsChained {G : Gt} {φ : Ph} {B : Bag} (hB : BF G I_I_readsChained B) (hF : SF 134 φ)    {o : Int32} {M9 : Mm}  {M : Mm} (h : f_I_readsChained M = some (o, M9)) : AW G I_I_readsChained B (QM G I_I_readsChained B (.inl (some (.int o))) M9 φ) 0 0 0 [(0, .ref 1)] [] M φ := by
  unfold f_I_readsChained at h
  refine a_aload_n (j := 0) hB e_I_readsChained_0 rfl rfl ?_
  obtain ⟨r1, M1, hr1, h⟩ := bn2_i h
  refine a_ret (v := (some (.int r1))) (M1 := M1) (φ1 := φ) (st1 := [.int r1]) (j1 := 0) (j2 := 0) (ar_V (As := []) (rest := []) hB (c_I_newName (bf_G hB) hF hr1) ml_I_107 md_I_newName rc_I_newName (sf_lt hF (by decide)) kk_1 rfl rfl (Nat.le_of_ble_eq_true rfl) rm_I_readsChained_I_newName e_I_readsChained_1) rfl rfl rfl ?_
  refine a_istore_n (ls' := [(1, .int r1), (0, .ref 1)]) hB e_I_readsChained_4 rfl (Nat.le_of_ble_eq_true rfl) rfl ?_
  refine a_iload_n (j := 0) hB e_I_readsChained_5 rfl rfl ?_
  refine a_iconst (v := -1) hB e_I_readsChained_6 ic_m1 ?_
  refine a_icmp_eq (tgt := 28) hB e_I_readsChained_7 (by decide) (fun c => ?_) (fun c => ?_)
  · have h := ip c h
    refine a_ls [1, 0] (ls' := [(0, .ref 1), (1, .int r1)]) rfl ?_
    exact t_I_readsChained_28 hB hF h
  · have h := iq c h
    refine a_aload_n (j := 1) hB e_I_readsChained_10 rfl rfl ?_
    obtain ⟨r11, M11, hr11, h⟩ := bn2_i h
    refine a_ret (v := (some (.int r11))) (M1 := M11) (φ1 := φ) (st1 := [.int r11]) (j1 := 0) (j2 := 0) (ar_V (As := []) (rest := []) hB (c_I_mayTurnHere (bf_G hB) hF hr11) ml_I_111 md_I_mayTurnHere rc_I_mayTurnHere (sf_lt hF (by decide)) kk_1 rfl rfl (Nat.le_of_ble_eq_true rfl) rm_I_readsChained_I_mayTurnHere e_I_readsChained_11) rfl rfl rfl ?_
    refine a_if_eq (tgt := 28) hB e_I_readsChained_14 (by decide) (fun c => ?_) (fun c => ?_)
    · have h := ip c h
      refine a_ls [1, 0] (ls' := [(0, .ref 1), (1, .int r1)]) rfl ?_
      exact t_I_readsChained_28 hB hF h
    · have h := iq c h
      refine a_aload_n (j := 1) hB e_I_readsChained_17 rfl rfl ?_
      refine a_iconst (v := 0) hB e_I_readsChained_18 ic_0 ?_
      refine a_sipush (v := 345) hB e_I_readsChained_19 sp_345 ?_
      obtain ⟨r22, M22, hr22, h⟩ := bn2_i h
      refine a_ret (v := (some (.int r22))) (M1 := M22) (φ1 := φ) (st1 := [.int r22]) (j1 := 0) (j2 := 0) (ar_V (As := [.int (0 : Int32), .int (345 : Int32)]) (rest := []) hB (c_I_numberHere (bf_G hB) hF hr22) ml_I_114 md_I_numberHere rc_I_numberHere (sf_lt hF (by decide)) kk_1 rfl rfl (Nat.le_of_ble_eq_true rfl) rm_I_readsChained_I_numberHere e_I_readsChained_22) rfl rfl rfl ?_
      refine a_goto (tgt := 29) hB e_I_readsChained_25 (by decide) ?_
      refine a_ls [1, 0] (ls' := [(0, .ref 1), (1, .int r1)]) rfl ?_
      exact t_I_readsChained_29 hB hF h
set_option maxRecDepth 100000 in
theorem c_I_readsChained {G : Gt} (hG : GOK G) {φ : Ph} (hF : SF 134 φ)   {M : Mm}  {o : Int32} {M9 : Mm} (h : f_I_readsChained M = some (o, M9)) : CT G I_I_readsChained [.ref 1] M φ (.inl (some (.int o))) M9 φ :=
  ct_of hG (by decide) (Nat.le_of_ble_eq_true rfl) (fun B hB => t_I_readsChained hB hF  h)
set_option maxRecDepth 100000 in
theorem t_S_addPaced {G : Gt} {φ : Ph} {B : Bag} (hB : BF G I_S_addPaced B) (hF : SF 134 φ) {a : Nat} (hs_a : isSv a)  {M9 : Mm} {l1 : Int32} {l2 : Int32} {l3 : Int32} {M : Mm} (h : f_S_addPaced a l1 l2 l3 M = some M9) : AW G I_S_addPaced B (QM G I_S_addPaced B (.inl none) M9 φ) 0 0 0 [(0, .ref a), (1, .int l1), (2, .int l2), (3, .int l3)] [] M φ := by
  unfold f_S_addPaced at h
  refine a_aload_n (j := 0) hB e_S_addPaced_0 rfl rfl ?_
  refine a_getI (k := 9) hB e_S_addPaced_1 fl_S_44 (sv_lt hs_a hF (by decide)) (sv_kd hs_a) (sv_t0 hs_a 0 (by decide)) ?_
  refine a_bipush (v := 20) hB e_S_addPaced_4 bp_20 ?_
  refine a_icmp_lt (tgt := 10) hB e_S_addPaced_6 (by decide) (fun c => ?_) (fun c => ?_)
  · have h := ip c h
    refine a_aload_n (j := 0) hB e_S_addPaced_10 rfl rfl ?_
    refine a_iload_n (j := 1) hB e_S_addPaced_11 rfl rfl ?_
    refine a_iload_n (j := 2) hB e_S_addPaced_12 rfl rfl ?_
    refine a_iconst (v := 0) hB e_S_addPaced_13 ic_0 ?_
    refine a_iconst (v := 0) hB e_S_addPaced_14 ic_0 ?_
    refine a_iconst (v := 0) hB e_S_addPaced_15 ic_0 ?_
    refine a_iconst (v := 0) hB e_S_addPaced_16 ic_0 ?_
    refine a_bipush (v := 15) hB e_S_addPaced_17 bp_15 ?_
    obtain ⟨M19, hr19, h⟩ := bn_i h
    refine a_ret (v := none) (M1 := M19) (φ1 := φ) (st1 := []) (j1 := 0) (j2 := 0) (ar_V (As := [.int l1, .int l2, .int (0 : Int32), .int (0 : Int32), .int (0 : Int32), .int (0 : Int32), .int (15 : Int32)]) (rest := []) hB (c_S_addChained (bf_G hB) hF hs_a hr19) ml_S_54 md_S_addChained rc_S_addChained (sv_lt hs_a hF (by decide)) (sv_kd hs_a) rfl rfl (Nat.le_of_ble_eq_true rfl) rm_S_addPaced_S_addChained e_S_addPaced_19) rfl rfl rfl ?_
    refine a_aload_n (j := 0) hB e_S_addPaced_22 rfl rfl ?_
    refine a_getR (r := a + 1 + 2) (k := 2) hB e_S_addPaced_23 fl_S_18 (sv_lt hs_a hF (by decide)) (sv_kd hs_a) (sv_t hs_a 2 (by decide)) (hF.1 _ _) ?_
    refine a_aload_n (j := 0) hB e_S_addPaced_26 rfl rfl ?_
    refine a_getI (k := 9) hB e_S_addPaced_27 fl_S_44 (sv_lt hs_a hF (by decide)) (sv_kd hs_a) (sv_t0 hs_a 0 (by decide)) ?_
    refine a_iconst (v := 1) hB e_S_addPaced_30 ic_1 ?_
    refine a_isub hB e_S_addPaced_31 ?_
    refine a_iconst (v := 1) hB e_S_addPaced_32 ic_1 ?_
    obtain ⟨c33, h⟩ := chk_i h
    obtain ⟨M33, hM33, h⟩ := bm_i h
    refine a_zast' hB e_S_addPaced_33 (sv_la hs_a hF (by decide) 2 (by decide)) (sv_kz hs_a) (sv_ln hs_a 2 (by decide)) c33 (Or.inr rfl) ?_
    refine a_mem hM33 ?_
    refine a_aload_n (j := 0) hB e_S_addPaced_34 rfl rfl ?_
    refine a_getR (r := a + 1 + 3) (k := 3) hB e_S_addPaced_35 fl_S_22 (sv_lt hs_a hF (by decide)) (sv_kd hs_a) (sv_t hs_a 3 (by decide)) (hF.1 _ _) ?_
    refine a_aload_n (j := 0) hB e_S_addPaced_38 rfl rfl ?_
    refine a_getI (k := 9) hB e_S_addPaced_39 fl_S_44 (sv_lt hs_a hF (by decide)) (sv_kd hs_a) (sv_t0 hs_a 0 (by decide)) ?_
    refine a_iconst (v := 1) hB e_S_addPaced_42 ic_1 ?_
    refine a_isub hB e_S_addPaced_43 ?_
    refine a_iload_n (j := 3) hB e_S_addPaced_44 rfl rfl ?_
    obtain ⟨c45, h⟩ := chk_i h
    obtain ⟨M45, hM45, h⟩ := bm_i h
    refine a_iast' hB e_S_addPaced_45 (sv_la hs_a hF (by decide) 3 (by decide)) (sv_ki hs_a 3 (by decide) (by decide)) (sv_ln hs_a 3 (by decide)) c45 ?_
    refine a_mem hM45 ?_
    cases h
    exact a_vret hB rfl e_S_addPaced_46 (by decide) (by decide)
  · have h := iq c h
    cases h
    exact a_vret hB rfl e_S_addPaced_9 (by decide) (by decide)
set_option maxRecDepth 100000 in
theorem c_S_addPaced {G : Gt} (hG : GOK G) {φ : Ph} (hF : SF 134 φ) {a : Nat} (hs_a : isSv a) {M : Mm} {l1 : Int32} {l2 : Int32} {l3 : Int32} {M9 : Mm} (h : f_S_addPaced a l1 l2 l3 M = some M9) : CT G I_S_addPaced [.ref a, .int l1, .int l2, .int l3] M φ (.inl none) M9 φ :=
  ct_of hG (by decide) (Nat.le_of_ble_eq_true rfl) (fun B hB => t_S_addPaced hB hF hs_a h)
set_option maxRecDepth 100000 in
theorem t_I_readsBog_60 {G : Gt} {φ : Ph} {B : Bag} (hB : BF G I_I_readsBog B) (hF : SF 134 φ)    {o : Int32} {M9 : Mm}  {M : Mm} (h : f_I_readsBog_60 M = some (o, M9)) : AW G I_I_readsBog B (QM G I_I_readsBog B (.inl (some (.int o))) M9 φ) 0 0 60 [] [] M φ := by
  unfold f_I_readsBog_60 at h
  refine a_iconst (v := 0) hB e_I_readsBog_60 ic_0 ?_
  cases h
  exact a_zret hB rfl (Or.inl rfl) e_I_readsBog_61 (by decide) (by decide)
set_option maxRecDepth 100000 in
theorem t_I_readsBog_47 {G : Gt} {φ : Ph} {B : Bag} (hB : BF G I_I_readsBog B) (hF : SF 134 φ)    {o : Int32} {M9 : Mm} {l1 : Int32} {l2 : Int32} {t0 : Int32} {M : Mm} (h : f_I_readsBog_47 l1 l2 t0 M = some (o, M9)) : AW G I_I_readsBog B (QM G I_I_readsBog B (.inl (some (.int o))) M9 φ) 0 0 47 [(0, .ref 1), (1, .int l1), (2, .int l2)] [.int t0] M φ := by
  unfold f_I_readsBog_47 at h
  refine a_istore_n (ls' := [(3, .int t0), (0, .ref 1), (1, .int l1), (2, .int l2)]) hB e_I_readsBog_47 rfl (Nat.le_of_ble_eq_true rfl) rfl ?_
  refine a_iload_n (j := 0) hB e_I_readsBog_48 rfl rfl ?_
  refine a_iconst (v := -1) hB e_I_readsBog_49 ic_m1 ?_
  refine a_icmp_eq (tgt := 60) hB e_I_readsBog_50 (by decide) (fun c => ?_) (fun c => ?_)
  · have h := ip c h
    refine a_ls [] (ls' := []) rfl ?_
    exact t_I_readsBog_60 hB hF h
  · have h := iq c h
    refine a_aload_n (j := 1) hB e_I_readsBog_53 rfl rfl ?_
    obtain ⟨r54, M54, hr54, h⟩ := bn2_i h
    refine a_ret (v := (some (.int r54))) (M1 := M54) (φ1 := φ) (st1 := [.int r54]) (j1 := 0) (j2 := 0) (ar_V (As := []) (rest := []) hB (c_I_readsSemicolon (bf_G hB) hF hr54) ml_I_61 md_I_readsSemicolon rc_I_readsSemicolon (sf_lt hF (by decide)) kk_1 rfl rfl (Nat.le_of_ble_eq_true rfl) rm_I_readsBog_I_readsSemicolon e_I_readsBog_54) rfl rfl rfl ?_
    refine a_if_ne (tgt := 62) hB e_I_readsBog_57 (by decide) (fun c => ?_) (fun c => ?_)
    · have h := iq c h
      refine a_aload_n (j := 1) hB e_I_readsBog_62 rfl rfl ?_
      refine a_getR (r := 4) (k := 1) hB e_I_readsBog_63 fl_I_21 (sf_lt hF (by decide)) kk_1 tt_1_1 (hF.1 _ _) ?_
      refine a_iload_n (j := 2) hB e_I_readsBog_66 rfl rfl ?_
      refine a_iload_n (j := 3) hB e_I_readsBog_67 rfl rfl ?_
      refine a_iload_n (j := 0) hB e_I_readsBog_68 rfl rfl ?_
      obtain ⟨M69, hr69, h⟩ := bn_i h
      refine a_ret (v := none) (M1 := M69) (φ1 := φ) (st1 := []) (j1 := 0) (j2 := 0) (ar_V (As := [.int l1, .int l2, .int t0]) (rest := []) hB (c_S_addPaced (bf_G hB) hF sv_4 hr69) ml_I_131 md_S_addPaced rc_S_addPaced (sf_lt hF (by decide)) kk_4 rfl rfl (Nat.le_of_ble_eq_true rfl) rm_I_readsBog_S_addPaced e_I_readsBog_69) rfl rfl rfl ?_
      refine a_iconst (v := 1) hB e_I_readsBog_72 ic_1 ?_
      cases h
      exact a_zret hB rfl (Or.inr rfl) e_I_readsBog_73 (by decide) (by decide)
    · have h := ip c h
      refine a_ls [] (ls' := []) rfl ?_
      exact t_I_readsBog_60 hB hF h
set_option maxRecDepth 100000 in
theorem t_I_readsBog_29 {G : Gt} {φ : Ph} {B : Bag} (hB : BF G I_I_readsBog B) (hF : SF 134 φ)    {o : Int32} {M9 : Mm} {l1 : Int32} {t0 : Int32} {M : Mm} (h : f_I_readsBog_29 l1 t0 M = some (o, M9)) : AW G I_I_readsBog B (QM G I_I_readsBog B (.inl (some (.int o))) M9 φ) 0 0 29 [(0, .ref 1), (1, .int l1)] [.int t0] M φ := by
  unfold f_I_readsBog_29 at h
  refine a_istore_n (ls' := [(2, .int t0), (0, .ref 1), (1, .int l1)]) hB e_I_readsBog_29 rfl (Nat.le_of_ble_eq_true rfl) rfl ?_
  refine a_iload_n (j := 0) hB e_I_readsBog_30 rfl rfl ?_
  refine a_iconst (v := -1) hB e_I_readsBog_31 ic_m1 ?_
  refine a_icmp_ne (tgt := 39) hB e_I_readsBog_32 (by decide) (fun c => ?_) (fun c => ?_)
  · have h := iq c h
    refine a_aload_n (j := 1) hB e_I_readsBog_39 rfl rfl ?_
    refine a_iconst (v := 1) hB e_I_readsBog_40 ic_1 ?_
    refine a_sipush (v := 999) hB e_I_readsBog_41 sp_999 ?_
    obtain ⟨r44, M44, hr44, h⟩ := bn2_i h
    refine a_ret (v := (some (.int r44))) (M1 := M44) (φ1 := φ) (st1 := [.int r44]) (j1 := 0) (j2 := 0) (ar_V (As := [.int (1 : Int32), .int (999 : Int32)]) (rest := []) hB (c_I_numberHere (bf_G hB) hF hr44) ml_I_114 md_I_numberHere rc_I_numberHere (sf_lt hF (by decide)) kk_1 rfl rfl (Nat.le_of_ble_eq_true rfl) rm_I_readsBog_I_numberHere e_I_readsBog_44) rfl rfl rfl ?_
    refine a_ls [1, 2, 0] (ls' := [(0, .ref 1), (1, .int l1), (2, .int t0)]) rfl ?_
    exact t_I_readsBog_47 hB hF h
  · have h := ip c h
    refine a_iconst (v := -1) hB e_I_readsBog_35 ic_m1 ?_
    refine a_goto (tgt := 47) hB e_I_readsBog_36 (by decide) ?_
    refine a_ls [1, 2, 0] (ls' := [(0, .ref 1), (1, .int l1), (2, .int t0)]) rfl ?_
    exact t_I_readsBog_47 hB hF h
set_option maxRecDepth 100000 in
theorem t_I_readsBog_28 {G : Gt} {φ : Ph} {B : Bag} (hB : BF G I_I_readsBog B) (hF : SF 134 φ)    {o : Int32} {M9 : Mm} {l1 : Int32} {M : Mm} (h : f_I_readsBog_28 l1 M = some (o, M9)) : AW G I_I_readsBog B (QM G I_I_readsBog B (.inl (some (.int o))) M9 φ) 0 0 28 [(0, .ref 1), (1, .int l1)] [] M φ := by
  unfold f_I_readsBog_28 at h
  refine a_iconst (v := -1) hB e_I_readsBog_28 ic_m1 ?_
  exact t_I_readsBog_29 hB hF h
set_option maxRecDepth 100000 in
theorem t_I_readsBog {G : Gt} {φ : Ph} {B : Bag} (hB : BF G I_I_readsBog B) (hF : SF 134 φ)    {o : Int32} {M9 : Mm}  {M : Mm} (h : f_I_readsBog M = some (o, M9)) : AW G I_I_readsBog B (QM G I_I_readsBog B (.inl (some (.int o))) M9 φ) 0 0 0 [(0, .ref 1)] [] M φ := by
  unfold f_I_readsBog at h
  refine a_aload_n (j := 0) hB e_I_readsBog_0 rfl rfl ?_
  obtain ⟨r1, M1, hr1, h⟩ := bn2_i h
  refine a_ret (v := (some (.int r1))) (M1 := M1) (φ1 := φ) (st1 := [.int r1]) (j1 := 0) (j2 := 0) (ar_V (As := []) (rest := []) hB (c_I_newName (bf_G hB) hF hr1) ml_I_107 md_I_newName rc_I_newName (sf_lt hF (by decide)) kk_1 rfl rfl (Nat.le_of_ble_eq_true rfl) rm_I_readsBog_I_newName e_I_readsBog_1) rfl rfl rfl ?_
  refine a_istore_n (ls' := [(1, .int r1), (0, .ref 1)]) hB e_I_readsBog_4 rfl (Nat.le_of_ble_eq_true rfl) rfl ?_
  refine a_iload_n (j := 0) hB e_I_readsBog_5 rfl rfl ?_
  refine a_iconst (v := -1) hB e_I_readsBog_6 ic_m1 ?_
  refine a_icmp_eq (tgt := 28) hB e_I_readsBog_7 (by decide) (fun c => ?_) (fun c => ?_)
  · have h := ip c h
    refine a_ls [1, 0] (ls' := [(0, .ref 1), (1, .int r1)]) rfl ?_
    exact t_I_readsBog_28 hB hF h
  · have h := iq c h
    refine a_aload_n (j := 1) hB e_I_readsBog_10 rfl rfl ?_
    obtain ⟨r11, M11, hr11, h⟩ := bn2_i h
    refine a_ret (v := (some (.int r11))) (M1 := M11) (φ1 := φ) (st1 := [.int r11]) (j1 := 0) (j2 := 0) (ar_V (As := []) (rest := []) hB (c_I_mayTurnHere (bf_G hB) hF hr11) ml_I_111 md_I_mayTurnHere rc_I_mayTurnHere (sf_lt hF (by decide)) kk_1 rfl rfl (Nat.le_of_ble_eq_true rfl) rm_I_readsBog_I_mayTurnHere e_I_readsBog_11) rfl rfl rfl ?_
    refine a_if_eq (tgt := 28) hB e_I_readsBog_14 (by decide) (fun c => ?_) (fun c => ?_)
    · have h := ip c h
      refine a_ls [1, 0] (ls' := [(0, .ref 1), (1, .int r1)]) rfl ?_
      exact t_I_readsBog_28 hB hF h
    · have h := iq c h
      refine a_aload_n (j := 1) hB e_I_readsBog_17 rfl rfl ?_
      refine a_iconst (v := 0) hB e_I_readsBog_18 ic_0 ?_
      refine a_sipush (v := 345) hB e_I_readsBog_19 sp_345 ?_
      obtain ⟨r22, M22, hr22, h⟩ := bn2_i h
      refine a_ret (v := (some (.int r22))) (M1 := M22) (φ1 := φ) (st1 := [.int r22]) (j1 := 0) (j2 := 0) (ar_V (As := [.int (0 : Int32), .int (345 : Int32)]) (rest := []) hB (c_I_numberHere (bf_G hB) hF hr22) ml_I_114 md_I_numberHere rc_I_numberHere (sf_lt hF (by decide)) kk_1 rfl rfl (Nat.le_of_ble_eq_true rfl) rm_I_readsBog_I_numberHere e_I_readsBog_22) rfl rfl rfl ?_
      refine a_goto (tgt := 29) hB e_I_readsBog_25 (by decide) ?_
      refine a_ls [1, 0] (ls' := [(0, .ref 1), (1, .int r1)]) rfl ?_
      exact t_I_readsBog_29 hB hF h
set_option maxRecDepth 100000 in
theorem c_I_readsBog {G : Gt} (hG : GOK G) {φ : Ph} (hF : SF 134 φ)   {M : Mm}  {o : Int32} {M9 : Mm} (h : f_I_readsBog M = some (o, M9)) : CT G I_I_readsBog [.ref 1] M φ (.inl (some (.int o))) M9 φ :=
  ct_of hG (by decide) (Nat.le_of_ble_eq_true rfl) (fun B hB => t_I_readsBog hB hF  h)
set_option maxRecDepth 100000 in
theorem t_I_legHere {G : Gt} {φ : Ph} {B : Bag} (hB : BF G I_I_legHere B) (hF : SF 134 φ)    {o : Int32} {M9 : Mm}  {M : Mm} (h : f_I_legHere M = some (o, M9)) : AW G I_I_legHere B (QM G I_I_legHere B (.inl (some (.int o))) M9 φ) 0 0 0 [(0, .ref 1)] [] M φ := by
  unfold f_I_legHere at h
  refine a_aload_n (j := 0) hB e_I_legHere_0 rfl rfl ?_
  obtain ⟨r1, M1, hr1, h⟩ := bn2_i h
  refine a_ret (v := (some (.int r1))) (M1 := M1) (φ1 := φ) (st1 := [.int r1]) (j1 := 0) (j2 := 0) (ar_V (As := []) (rest := []) hB (c_I_nameHere (bf_G hB) hF hr1) ml_I_158 md_I_nameHere rc_I_nameHere (sf_lt hF (by decide)) kk_1 rfl rfl (Nat.le_of_ble_eq_true rfl) rm_I_legHere_I_nameHere e_I_legHere_1) rfl rfl rfl ?_
  refine a_istore_n (ls' := [(1, .int r1), (0, .ref 1)]) hB e_I_legHere_4 rfl (Nat.le_of_ble_eq_true rfl) rfl ?_
  refine a_iload_n (j := 0) hB e_I_legHere_5 rfl rfl ?_
  refine a_iconst (v := -1) hB e_I_legHere_6 ic_m1 ?_
  refine a_icmp_ne (tgt := 12) hB e_I_legHere_7 (by decide) (fun c => ?_) (fun c => ?_)
  · have h := iq c h
    refine a_aload_n (j := 1) hB e_I_legHere_12 rfl rfl ?_
    refine a_getR (r := 4) (k := 1) hB e_I_legHere_13 fl_I_21 (sf_lt hF (by decide)) kk_1 tt_1_1 (hF.1 _ _) ?_
    refine a_iload_n (j := 0) hB e_I_legHere_16 rfl rfl ?_
    obtain ⟨r17, hr17, h⟩ := bn_i h
    refine a_ret (v := (some (.int r17))) (M1 := M1) (φ1 := φ) (st1 := [.int r17]) (j1 := 0) (j2 := 0) (ar_V (As := [.int r1]) (rest := []) hB (c_S_legNamed (bf_G hB) hF sv_4 hr17) ml_I_161 md_S_legNamed rc_S_legNamed (sf_lt hF (by decide)) kk_4 rfl rfl (Nat.le_of_ble_eq_true rfl) rm_I_legHere_S_legNamed e_I_legHere_17) rfl rfl rfl ?_
    refine a_istore_n (ls' := [(2, .int r17), (1, .int r1), (0, .ref 1)]) hB e_I_legHere_20 rfl (Nat.le_of_ble_eq_true rfl) rfl ?_
    refine a_iload_n (j := 0) hB e_I_legHere_21 rfl rfl ?_
    refine a_iconst (v := -1) hB e_I_legHere_22 ic_m1 ?_
    refine a_icmp_ne (tgt := 34) hB e_I_legHere_23 (by decide) (fun c => ?_) (fun c => ?_)
    · have h := iq c h
      refine a_aload_n (j := 2) hB e_I_legHere_34 rfl rfl ?_
      refine a_getR (r := 2) (k := 0) hB e_I_legHere_35 fl_I_12 (sf_lt hF (by decide)) kk_1 tt_1_0 (hF.1 _ _) ?_
      obtain ⟨M38, hr38, h⟩ := bn_i h
      refine a_ret (v := none) (M1 := M38) (φ1 := φ) (st1 := []) (j1 := 0) (j2 := 0) (ar_V (As := []) (rest := []) hB (c_L_advance (bf_G hB) hF hr38) ml_I_51 md_L_advance rc_L_advance (sf_lt hF (by decide)) kk_2 rfl rfl (Nat.le_of_ble_eq_true rfl) rm_I_legHere_L_advance e_I_legHere_38) rfl rfl rfl ?_
      refine a_iload_n (j := 0) hB e_I_legHere_41 rfl rfl ?_
      cases h
      exact a_iret hB rfl e_I_legHere_42 (by decide) (by decide)
    · have h := ip c h
      refine a_aload_n (j := 2) hB e_I_legHere_26 rfl rfl ?_
      refine a_iconst (v := 3) hB e_I_legHere_27 ic_3 ?_
      obtain ⟨r28, M28, hr28, h⟩ := bn2_i h
      refine a_ret (v := (some (.int r28))) (M1 := M28) (φ1 := φ) (st1 := [.int r28]) (j1 := 0) (j2 := 0) (ar_V (As := [.int (3 : Int32)]) (rest := []) hB (c_I_fail (bf_G hB) hF hr28) ml_I_47 md_I_fail rc_I_fail (sf_lt hF (by decide)) kk_1 rfl rfl (Nat.le_of_ble_eq_true rfl) rm_I_legHere_I_fail e_I_legHere_28) rfl rfl rfl ?_
      refine a_pop hB e_I_legHere_31 rfl ?_
      refine a_iconst (v := -1) hB e_I_legHere_32 ic_m1 ?_
      cases h
      exact a_iret hB rfl e_I_legHere_33 (by decide) (by decide)
  · have h := ip c h
    refine a_iconst (v := -1) hB e_I_legHere_10 ic_m1 ?_
    cases h
    exact a_iret hB rfl e_I_legHere_11 (by decide) (by decide)
set_option maxRecDepth 100000 in
theorem c_I_legHere {G : Gt} (hG : GOK G) {φ : Ph} (hF : SF 134 φ)   {M : Mm}  {o : Int32} {M9 : Mm} (h : f_I_legHere M = some (o, M9)) : CT G I_I_legHere [.ref 1] M φ (.inl (some (.int o))) M9 φ :=
  ct_of hG (by decide) (Nat.le_of_ble_eq_true rfl) (fun B hB => t_I_legHere hB hF  h)
set_option maxRecDepth 100000 in
theorem t_S_canDrop_25 {G : Gt} {φ : Ph} {B : Bag} (hB : BF G I_S_canDrop B) (hF : SF 134 φ) {a : Nat} (hs_a : isSv a) {M : Mm} {o : Int32} {t0 : Int32}  (h : f_S_canDrop_25 a M t0 = some o) : AW G I_S_canDrop B (QM G I_S_canDrop B (.inl (some (.int o))) M φ) 0 0 25 [] [.int t0] M φ := by
  unfold f_S_canDrop_25 at h
  obtain ⟨z25, h⟩ := chk_i h
  cases h
  exact a_zret hB rfl z25 e_S_canDrop_25 (by decide) (by decide)
set_option maxRecDepth 100000 in
theorem t_S_canDrop_24 {G : Gt} {φ : Ph} {B : Bag} (hB : BF G I_S_canDrop B) (hF : SF 134 φ) {a : Nat} (hs_a : isSv a) {M : Mm} {o : Int32}   (h : f_S_canDrop_24 a M = some o) : AW G I_S_canDrop B (QM G I_S_canDrop B (.inl (some (.int o))) M φ) 0 0 24 [] [] M φ := by
  unfold f_S_canDrop_24 at h
  refine a_iconst (v := 0) hB e_S_canDrop_24 ic_0 ?_
  exact t_S_canDrop_25 hB hF hs_a h
set_option maxRecDepth 100000 in
theorem t_S_canDrop {G : Gt} {φ : Ph} {B : Bag} (hB : BF G I_S_canDrop B) (hF : SF 134 φ) {a : Nat} (hs_a : isSv a) {M : Mm} {o : Int32} {l1 : Int32}  (h : f_S_canDrop a M l1 = some o) : AW G I_S_canDrop B (QM G I_S_canDrop B (.inl (some (.int o))) M φ) 0 0 0 [(0, .ref a), (1, .int l1)] [] M φ := by
  unfold f_S_canDrop at h
  refine a_aload_n (j := 0) hB e_S_canDrop_0 rfl rfl ?_
  refine a_getR (r := a + 1 + 2) (k := 2) hB e_S_canDrop_1 fl_S_18 (sv_lt hs_a hF (by decide)) (sv_kd hs_a) (sv_t hs_a 2 (by decide)) (hF.1 _ _) ?_
  refine a_iload_n (j := 1) hB e_S_canDrop_4 rfl rfl ?_
  obtain ⟨c5, h⟩ := chk_i h
  refine a_zald' hB e_S_canDrop_5 (sv_la hs_a hF (by decide) 2 (by decide)) (sv_kz hs_a) (sv_ln hs_a 2 (by decide)) c5 ?_
  refine a_if_ne (tgt := 24) hB e_S_canDrop_6 (by decide) (fun c => ?_) (fun c => ?_)
  · have h := iq c h
    refine a_ls [] (ls' := []) rfl ?_
    exact t_S_canDrop_24 hB hF hs_a h
  · have h := ip c h
    refine a_aload_n (j := 0) hB e_S_canDrop_9 rfl rfl ?_
    refine a_getR (r := a + 1 + 6) (k := 6) hB e_S_canDrop_10 fl_S_31 (sv_lt hs_a hF (by decide)) (sv_kd hs_a) (sv_t hs_a 6 (by decide)) (hF.1 _ _) ?_
    refine a_iload_n (j := 1) hB e_S_canDrop_13 rfl rfl ?_
    refine a_iald' hB e_S_canDrop_14 (sv_la hs_a hF (by decide) 6 (by decide)) (sv_ki hs_a 6 (by decide) (by decide)) (sv_ln hs_a 6 (by decide)) c5 ?_
    refine a_bipush (v := 9) hB e_S_canDrop_15 bp_9 ?_
    refine a_icmp_ge (tgt := 24) hB e_S_canDrop_17 (by decide) (fun c => ?_) (fun c => ?_)
    · have h := ip c h
      refine a_ls [] (ls' := []) rfl ?_
      exact t_S_canDrop_24 hB hF hs_a h
    · have h := iq c h
      refine a_iconst (v := 1) hB e_S_canDrop_20 ic_1 ?_
      refine a_goto (tgt := 25) hB e_S_canDrop_21 (by decide) ?_
      refine a_ls [] (ls' := []) rfl ?_
      exact t_S_canDrop_25 hB hF hs_a h
set_option maxRecDepth 100000 in
theorem c_S_canDrop {G : Gt} (hG : GOK G) {φ : Ph} (hF : SF 134 φ) {a : Nat} (hs_a : isSv a) {M : Mm} {l1 : Int32} {o : Int32} (h : f_S_canDrop a M l1 = some o) : CT G I_S_canDrop [.ref a, .int l1] M φ (.inl (some (.int o))) M φ :=
  ct_of hG (by decide) (Nat.le_of_ble_eq_true rfl) (fun B hB => t_S_canDrop hB hF hs_a h)
set_option maxRecDepth 100000 in
theorem t_S_canFind_14 {G : Gt} {φ : Ph} {B : Bag} (hB : BF G I_S_canFind B) (hF : SF 134 φ) {a : Nat} (hs_a : isSv a) {M : Mm} {o : Int32} {t0 : Int32}  (h : f_S_canFind_14 a M t0 = some o) : AW G I_S_canFind B (QM G I_S_canFind B (.inl (some (.int o))) M φ) 0 0 14 [] [.int t0] M φ := by
  unfold f_S_canFind_14 at h
  obtain ⟨z14, h⟩ := chk_i h
  cases h
  exact a_zret hB rfl z14 e_S_canFind_14 (by decide) (by decide)
set_option maxRecDepth 100000 in
theorem t_S_canFind {G : Gt} {φ : Ph} {B : Bag} (hB : BF G I_S_canFind B) (hF : SF 134 φ) {a : Nat} (hs_a : isSv a) {M : Mm} {o : Int32} {l1 : Int32}  (h : f_S_canFind a M l1 = some o) : AW G I_S_canFind B (QM G I_S_canFind B (.inl (some (.int o))) M φ) 0 0 0 [(0, .ref a), (1, .int l1)] [] M φ := by
  unfold f_S_canFind at h
  refine a_aload_n (j := 0) hB e_S_canFind_0 rfl rfl ?_
  refine a_getR (r := a + 1 + 6) (k := 6) hB e_S_canFind_1 fl_S_31 (sv_lt hs_a hF (by decide)) (sv_kd hs_a) (sv_t hs_a 6 (by decide)) (hF.1 _ _) ?_
  refine a_iload_n (j := 1) hB e_S_canFind_4 rfl rfl ?_
  obtain ⟨c5, h⟩ := chk_i h
  refine a_iald' hB e_S_canFind_5 (sv_la hs_a hF (by decide) 6 (by decide)) (sv_ki hs_a 6 (by decide) (by decide)) (sv_ln hs_a 6 (by decide)) c5 ?_
  refine a_if_le (tgt := 13) hB e_S_canFind_6 (by decide) (fun c => ?_) (fun c => ?_)
  · have h := ip c h
    refine a_iconst (v := 0) hB e_S_canFind_13 ic_0 ?_
    refine a_ls [] (ls' := []) rfl ?_
    exact t_S_canFind_14 hB hF hs_a h
  · have h := iq c h
    refine a_iconst (v := 1) hB e_S_canFind_9 ic_1 ?_
    refine a_goto (tgt := 14) hB e_S_canFind_10 (by decide) ?_
    refine a_ls [] (ls' := []) rfl ?_
    exact t_S_canFind_14 hB hF hs_a h
set_option maxRecDepth 100000 in
theorem c_S_canFind {G : Gt} (hG : GOK G) {φ : Ph} (hF : SF 134 φ) {a : Nat} (hs_a : isSv a) {M : Mm} {l1 : Int32} {o : Int32} (h : f_S_canFind a M l1 = some o) : CT G I_S_canFind [.ref a, .int l1] M φ (.inl (some (.int o))) M φ :=
  ct_of hG (by decide) (Nat.le_of_ble_eq_true rfl) (fun B hB => t_S_canFind hB hF hs_a h)
set_option maxRecDepth 100000 in
theorem t_I_readsPin_59 {G : Gt} {φ : Ph} {B : Bag} (hB : BF G I_I_readsPin B) (hF : SF 134 φ)    {o : Int32} {M9 : Mm}  {M : Mm} (h : f_I_readsPin_59 M = some (o, M9)) : AW G I_I_readsPin B (QM G I_I_readsPin B (.inl (some (.int o))) M9 φ) 0 0 59 [(0, .ref 1)] [] M φ := by
  unfold f_I_readsPin_59 at h
  refine a_aload_n (j := 0) hB e_I_readsPin_59 rfl rfl ?_
  refine a_bipush (v := 6) hB e_I_readsPin_60 bp_6 ?_
  obtain ⟨r62, M62, hr62, h⟩ := bn2_i h
  refine a_ret (v := (some (.int r62))) (M1 := M62) (φ1 := φ) (st1 := [.int r62]) (j1 := 0) (j2 := 0) (ar_V (As := [.int (6 : Int32)]) (rest := []) hB (c_I_fail (bf_G hB) hF hr62) ml_I_47 md_I_fail rc_I_fail (sf_lt hF (by decide)) kk_1 rfl rfl (Nat.le_of_ble_eq_true rfl) rm_I_readsPin_I_fail e_I_readsPin_62) rfl rfl rfl ?_
  obtain ⟨z65, h⟩ := chk_i h
  cases h
  exact a_zret hB rfl z65 e_I_readsPin_65 (by decide) (by decide)
set_option maxRecDepth 100000 in
theorem t_I_readsPin_94 {G : Gt} {φ : Ph} {B : Bag} (hB : BF G I_I_readsPin B) (hF : SF 134 φ)    {o : Int32} {M9 : Mm} {t1 : Int32} {t2 : Int32} {t3 : Int32} {M : Mm} (h : f_I_readsPin_94 t1 t2 t3 M = some (o, M9)) : AW G I_I_readsPin B (QM G I_I_readsPin B (.inl (some (.int o))) M9 φ) 0 0 94 [] [.int t3, .int t2, .int t1, .ref 11] M φ := by
  unfold f_I_readsPin_94 at h
  refine a_iadd hB e_I_readsPin_94 ?_
  obtain ⟨c95, h⟩ := chk_i h
  obtain ⟨M95, hM95, h⟩ := bm_i h
  refine a_iast' hB e_I_readsPin_95 (sf_lt hF (by decide)) kk_11 ll_11 c95 ?_
  refine a_mem hM95 ?_
  refine a_iconst (v := 1) hB e_I_readsPin_96 ic_1 ?_
  cases h
  exact a_zret hB rfl (Or.inr rfl) e_I_readsPin_97 (by decide) (by decide)
set_option maxRecDepth 100000 in
theorem t_I_readsPin_66 {G : Gt} {φ : Ph} {B : Bag} (hB : BF G I_I_readsPin B) (hF : SF 134 φ)    {o : Int32} {M9 : Mm} {l1 : Int32} {l2 : Int32} {M : Mm} (h : f_I_readsPin_66 l1 l2 M = some (o, M9)) : AW G I_I_readsPin B (QM G I_I_readsPin B (.inl (some (.int o))) M9 φ) 0 0 66 [(0, .ref 1), (1, .int l1), (2, .int l2)] [] M φ := by
  unfold f_I_readsPin_66 at h
  refine a_aload_n (j := 0) hB e_I_readsPin_66 rfl rfl ?_
  obtain ⟨r67, M67, hr67, h⟩ := bn2_i h
  refine a_ret (v := (some (.int r67))) (M1 := M67) (φ1 := φ) (st1 := [.int r67]) (j1 := 0) (j2 := 0) (ar_V (As := []) (rest := []) hB (c_I_readsSemicolon (bf_G hB) hF hr67) ml_I_61 md_I_readsSemicolon rc_I_readsSemicolon (sf_lt hF (by decide)) kk_1 rfl rfl (Nat.le_of_ble_eq_true rfl) rm_I_readsPin_I_readsSemicolon e_I_readsPin_67) rfl rfl rfl ?_
  refine a_if_ne (tgt := 75) hB e_I_readsPin_70 (by decide) (fun c => ?_) (fun c => ?_)
  · have h := iq c h
    refine a_aload_n (j := 0) hB e_I_readsPin_75 rfl rfl ?_
    refine a_getR (r := 4) (k := 1) hB e_I_readsPin_76 fl_I_21 (sf_lt hF (by decide)) kk_1 tt_1_1 (hF.1 _ _) ?_
    refine a_getR (r := 11) (k := 6) hB e_I_readsPin_79 fl_I_144 (sf_lt hF (by decide)) kk_4 tt_4_6 (hF.1 _ _) ?_
    refine a_iload_n (j := 2) hB e_I_readsPin_82 rfl rfl ?_
    refine a_dup2 hB e_I_readsPin_83 rfl rfl ?_
    obtain ⟨c84, h⟩ := chk_i h
    refine a_iald' hB e_I_readsPin_84 (sf_lt hF (by decide)) kk_11 ll_11 c84 ?_
    refine a_iload_n (j := 1) hB e_I_readsPin_85 rfl rfl ?_
    refine a_if_eq (tgt := 93) hB e_I_readsPin_86 (by decide) (fun c => ?_) (fun c => ?_)
    · have h := ip c h
      refine a_iconst (v := -1) hB e_I_readsPin_93 ic_m1 ?_
      refine a_ls [] (ls' := []) rfl ?_
      exact t_I_readsPin_94 hB hF h
    · have h := iq c h
      refine a_iconst (v := 1) hB e_I_readsPin_89 ic_1 ?_
      refine a_goto (tgt := 94) hB e_I_readsPin_90 (by decide) ?_
      refine a_ls [] (ls' := []) rfl ?_
      exact t_I_readsPin_94 hB hF h
  · have h := ip c h
    refine a_iconst (v := 0) hB e_I_readsPin_73 ic_0 ?_
    cases h
    exact a_zret hB rfl (Or.inl rfl) e_I_readsPin_74 (by decide) (by decide)
set_option maxRecDepth 100000 in
theorem t_I_readsPin {G : Gt} {φ : Ph} {B : Bag} (hB : BF G I_I_readsPin B) (hF : SF 134 φ)    {o : Int32} {M9 : Mm} {l1 : Int32} {M : Mm} (h : f_I_readsPin l1 M = some (o, M9)) : AW G I_I_readsPin B (QM G I_I_readsPin B (.inl (some (.int o))) M9 φ) 0 0 0 [(0, .ref 1), (1, .int l1)] [] M φ := by
  unfold f_I_readsPin at h
  refine a_aload_n (j := 0) hB e_I_readsPin_0 rfl rfl ?_
  refine a_getR (r := 2) (k := 0) hB e_I_readsPin_1 fl_I_12 (sf_lt hF (by decide)) kk_1 tt_1_0 (hF.1 _ _) ?_
  obtain ⟨M4, hr4, h⟩ := bn_i h
  refine a_ret (v := none) (M1 := M4) (φ1 := φ) (st1 := []) (j1 := 0) (j2 := 0) (ar_V (As := []) (rest := []) hB (c_L_advance (bf_G hB) hF hr4) ml_I_51 md_L_advance rc_L_advance (sf_lt hF (by decide)) kk_2 rfl rfl (Nat.le_of_ble_eq_true rfl) rm_I_readsPin_L_advance e_I_readsPin_4) rfl rfl rfl ?_
  refine a_aload_n (j := 0) hB e_I_readsPin_7 rfl rfl ?_
  obtain ⟨r8, M8, hr8, h⟩ := bn2_i h
  refine a_ret (v := (some (.int r8))) (M1 := M8) (φ1 := φ) (st1 := [.int r8]) (j1 := 0) (j2 := 0) (ar_V (As := []) (rest := []) hB (c_I_legHere (bf_G hB) hF hr8) ml_I_135 md_I_legHere rc_I_legHere (sf_lt hF (by decide)) kk_1 rfl rfl (Nat.le_of_ble_eq_true rfl) rm_I_readsPin_I_legHere e_I_readsPin_8) rfl rfl rfl ?_
  refine a_istore_n (ls' := [(2, .int r8), (0, .ref 1), (1, .int l1)]) hB e_I_readsPin_11 rfl (Nat.le_of_ble_eq_true rfl) rfl ?_
  refine a_iload_n (j := 0) hB e_I_readsPin_12 rfl rfl ?_
  refine a_iconst (v := -1) hB e_I_readsPin_13 ic_m1 ?_
  refine a_icmp_ne (tgt := 19) hB e_I_readsPin_14 (by decide) (fun c => ?_) (fun c => ?_)
  · have h := iq c h
    refine a_aload_n (j := 1) hB e_I_readsPin_19 rfl rfl ?_
    refine a_getR (r := 2) (k := 0) hB e_I_readsPin_20 fl_I_12 (sf_lt hF (by decide)) kk_1 tt_1_0 (hF.1 _ _) ?_
    refine a_getI (k := 2) hB e_I_readsPin_23 fl_I_67 (sf_lt hF (by decide)) kk_2 tt_2_2 ?_
    refine a_iconst (v := 3) hB e_I_readsPin_26 ic_3 ?_
    refine a_icmp_ne (tgt := 66) hB e_I_readsPin_27 (by decide) (fun c => ?_) (fun c => ?_)
    · have h := iq c h
      refine a_ls [1, 2, 0] (ls' := [(0, .ref 1), (1, .int l1), (2, .int r8)]) rfl ?_
      exact t_I_readsPin_66 hB hF h
    · have h := ip c h
      refine a_iload_n (j := 2) hB e_I_readsPin_30 rfl rfl ?_
      refine a_if_eq (tgt := 48) hB e_I_readsPin_31 (by decide) (fun c => ?_) (fun c => ?_)
      · have h := ip c h
        refine a_aload_n (j := 1) hB e_I_readsPin_48 rfl rfl ?_
        refine a_getR (r := 4) (k := 1) hB e_I_readsPin_49 fl_I_21 (sf_lt hF (by decide)) kk_1 tt_1_1 (hF.1 _ _) ?_
        refine a_iload_n (j := 0) hB e_I_readsPin_52 rfl rfl ?_
        obtain ⟨r53, hr53, h⟩ := bn_i h
        refine a_ret (v := (some (.int r53))) (M1 := M8) (φ1 := φ) (st1 := [.int r53]) (j1 := 0) (j2 := 0) (ar_V (As := [.int r8]) (rest := []) hB (c_S_canFind (bf_G hB) hF sv_4 hr53) ml_I_141 md_S_canFind rc_S_canFind (sf_lt hF (by decide)) kk_4 rfl rfl (Nat.le_of_ble_eq_true rfl) rm_I_readsPin_S_canFind e_I_readsPin_53) rfl rfl rfl ?_
        refine a_if_ne (tgt := 66) hB e_I_readsPin_56 (by decide) (fun c => ?_) (fun c => ?_)
        · have h := iq c h
          refine a_ls [1, 2, 0] (ls' := [(0, .ref 1), (1, .int l1), (2, .int r8)]) rfl ?_
          exact t_I_readsPin_66 hB hF h
        · have h := ip c h
          refine a_ls [1] (ls' := [(0, .ref 1)]) rfl ?_
          exact t_I_readsPin_59 hB hF h
      · have h := iq c h
        refine a_aload_n (j := 1) hB e_I_readsPin_34 rfl rfl ?_
        refine a_getR (r := 4) (k := 1) hB e_I_readsPin_35 fl_I_21 (sf_lt hF (by decide)) kk_1 tt_1_1 (hF.1 _ _) ?_
        refine a_iload_n (j := 0) hB e_I_readsPin_38 rfl rfl ?_
        obtain ⟨r39, hr39, h⟩ := bn_i h
        refine a_ret (v := (some (.int r39))) (M1 := M8) (φ1 := φ) (st1 := [.int r39]) (j1 := 0) (j2 := 0) (ar_V (As := [.int r8]) (rest := []) hB (c_S_canDrop (bf_G hB) hF sv_4 hr39) ml_I_138 md_S_canDrop rc_S_canDrop (sf_lt hF (by decide)) kk_4 rfl rfl (Nat.le_of_ble_eq_true rfl) rm_I_readsPin_S_canDrop e_I_readsPin_39) rfl rfl rfl ?_
        refine a_if_eq (tgt := 59) hB e_I_readsPin_42 (by decide) (fun c => ?_) (fun c => ?_)
        · have h := ip c h
          refine a_ls [1] (ls' := [(0, .ref 1)]) rfl ?_
          exact t_I_readsPin_59 hB hF h
        · have h := iq c h
          refine a_goto (tgt := 66) hB e_I_readsPin_45 (by decide) ?_
          refine a_ls [1, 2, 0] (ls' := [(0, .ref 1), (1, .int l1), (2, .int r8)]) rfl ?_
          exact t_I_readsPin_66 hB hF h
  · have h := ip c h
    refine a_iconst (v := 0) hB e_I_readsPin_17 ic_0 ?_
    cases h
    exact a_zret hB rfl (Or.inl rfl) e_I_readsPin_18 (by decide) (by decide)
set_option maxRecDepth 100000 in
theorem c_I_readsPin {G : Gt} (hG : GOK G) {φ : Ph} (hF : SF 134 φ)   {M : Mm} {l1 : Int32} {o : Int32} {M9 : Mm} (h : f_I_readsPin l1 M = some (o, M9)) : CT G I_I_readsPin [.ref 1, .int l1] M φ (.inl (some (.int o))) M9 φ :=
  ct_of hG (by decide) (Nat.le_of_ble_eq_true rfl) (fun B hB => t_I_readsPin hB hF  h)
set_option maxRecDepth 100000 in
theorem t_I_readsAdjusted {G : Gt} {φ : Ph} {B : Bag} (hB : BF G I_I_readsAdjusted B) (hF : SF 134 φ)    {o : Int32} {M9 : Mm} {l1 : Int32} {M : Mm} (h : f_I_readsAdjusted l1 M = some (o, M9)) : AW G I_I_readsAdjusted B (QM G I_I_readsAdjusted B (.inl (some (.int o))) M9 φ) 0 0 0 [(0, .ref 1), (1, .int l1)] [] M φ := by
  unfold f_I_readsAdjusted at h
  refine a_aload_n (j := 0) hB e_I_readsAdjusted_0 rfl rfl ?_
  refine a_getR (r := 2) (k := 0) hB e_I_readsAdjusted_1 fl_I_12 (sf_lt hF (by decide)) kk_1 tt_1_0 (hF.1 _ _) ?_
  obtain ⟨M4, hr4, h⟩ := bn_i h
  refine a_ret (v := none) (M1 := M4) (φ1 := φ) (st1 := []) (j1 := 0) (j2 := 0) (ar_V (As := []) (rest := []) hB (c_L_advance (bf_G hB) hF hr4) ml_I_51 md_L_advance rc_L_advance (sf_lt hF (by decide)) kk_2 rfl rfl (Nat.le_of_ble_eq_true rfl) rm_I_readsAdjusted_L_advance e_I_readsAdjusted_4) rfl rfl rfl ?_
  refine a_aload_n (j := 0) hB e_I_readsAdjusted_7 rfl rfl ?_
  refine a_getR (r := 4) (k := 1) hB e_I_readsAdjusted_8 fl_I_21 (sf_lt hF (by decide)) kk_1 tt_1_1 (hF.1 _ _) ?_
  refine a_iload_n (j := 1) hB e_I_readsAdjusted_11 rfl rfl ?_
  obtain ⟨z12, h⟩ := chk_i h
  obtain ⟨M12, hM12, h⟩ := bm_i h
  refine a_putZ (k := 12) hB e_I_readsAdjusted_12 fw_I_151 (sf_lt hF (by decide)) kk_4 tt_4_12 z12 ?_
  refine a_mem hM12 ?_
  refine a_aload_n (j := 0) hB e_I_readsAdjusted_15 rfl rfl ?_
  obtain ⟨r16, M16, hr16, h⟩ := bn2_i h
  refine a_ret (v := (some (.int r16))) (M1 := M16) (φ1 := φ) (st1 := [.int r16]) (j1 := 0) (j2 := 0) (ar_V (As := []) (rest := []) hB (c_I_readsSemicolon (bf_G hB) hF hr16) ml_I_61 md_I_readsSemicolon rc_I_readsSemicolon (sf_lt hF (by decide)) kk_1 rfl rfl (Nat.le_of_ble_eq_true rfl) rm_I_readsAdjusted_I_readsSemicolon e_I_readsAdjusted_16) rfl rfl rfl ?_
  obtain ⟨z19, h⟩ := chk_i h
  cases h
  exact a_zret hB rfl z19 e_I_readsAdjusted_19 (by decide) (by decide)
set_option maxRecDepth 100000 in
theorem c_I_readsAdjusted {G : Gt} (hG : GOK G) {φ : Ph} (hF : SF 134 φ)   {M : Mm} {l1 : Int32} {o : Int32} {M9 : Mm} (h : f_I_readsAdjusted l1 M = some (o, M9)) : CT G I_I_readsAdjusted [.ref 1, .int l1] M φ (.inl (some (.int o))) M9 φ :=
  ct_of hG (by decide) (Nat.le_of_ble_eq_true rfl) (fun B hB => t_I_readsAdjusted hB hF  h)
set_option maxRecDepth 100000 in
theorem t_I_readsBack_35 {G : Gt} {φ : Ph} {B : Bag} (hB : BF G I_I_readsBack B) (hF : SF 134 φ)    {o : Int32} {M9 : Mm}  {M : Mm} (h : f_I_readsBack_35 M = some (o, M9)) : AW G I_I_readsBack B (QM G I_I_readsBack B (.inl (some (.int o))) M9 φ) 0 0 35 [(0, .ref 1)] [] M φ := by
  unfold f_I_readsBack_35 at h
  refine a_aload_n (j := 0) hB e_I_readsBack_35 rfl rfl ?_
  obtain ⟨r36, M36, hr36, h⟩ := bn2_i h
  refine a_ret (v := (some (.int r36))) (M1 := M36) (φ1 := φ) (st1 := [.int r36]) (j1 := 0) (j2 := 0) (ar_V (As := []) (rest := []) hB (c_I_readsSemicolon (bf_G hB) hF hr36) ml_I_61 md_I_readsSemicolon rc_I_readsSemicolon (sf_lt hF (by decide)) kk_1 rfl rfl (Nat.le_of_ble_eq_true rfl) rm_I_readsBack_I_readsSemicolon e_I_readsBack_36) rfl rfl rfl ?_
  refine a_if_ne (tgt := 44) hB e_I_readsBack_39 (by decide) (fun c => ?_) (fun c => ?_)
  · have h := iq c h
    refine a_aload_n (j := 0) hB e_I_readsBack_44 rfl rfl ?_
    refine a_getR (r := 4) (k := 1) hB e_I_readsBack_45 fl_I_21 (sf_lt hF (by decide)) kk_1 tt_1_1 (hF.1 _ _) ?_
    refine a_dup hB e_I_readsBack_48 rfl ?_
    refine a_getI (k := 9) hB e_I_readsBack_49 fl_I_155 (sf_lt hF (by decide)) kk_4 tt_4_9 ?_
    refine a_iconst (v := 1) hB e_I_readsBack_52 ic_1 ?_
    refine a_isub hB e_I_readsBack_53 ?_
    obtain ⟨M54, hM54, h⟩ := bm_i h
    refine a_putI (k := 9) hB e_I_readsBack_54 fw_I_155 (sf_lt hF (by decide)) kk_4 tt_4_9 ?_
    refine a_mem hM54 ?_
    refine a_iconst (v := 1) hB e_I_readsBack_57 ic_1 ?_
    cases h
    exact a_zret hB rfl (Or.inr rfl) e_I_readsBack_58 (by decide) (by decide)
  · have h := ip c h
    refine a_iconst (v := 0) hB e_I_readsBack_42 ic_0 ?_
    cases h
    exact a_zret hB rfl (Or.inl rfl) e_I_readsBack_43 (by decide) (by decide)
set_option maxRecDepth 100000 in
theorem t_I_readsBack {G : Gt} {φ : Ph} {B : Bag} (hB : BF G I_I_readsBack B) (hF : SF 134 φ)    {o : Int32} {M9 : Mm}  {M : Mm} (h : f_I_readsBack M = some (o, M9)) : AW G I_I_readsBack B (QM G I_I_readsBack B (.inl (some (.int o))) M9 φ) 0 0 0 [(0, .ref 1)] [] M φ := by
  unfold f_I_readsBack at h
  refine a_aload_n (j := 0) hB e_I_readsBack_0 rfl rfl ?_
  refine a_getR (r := 2) (k := 0) hB e_I_readsBack_1 fl_I_12 (sf_lt hF (by decide)) kk_1 tt_1_0 (hF.1 _ _) ?_
  obtain ⟨M4, hr4, h⟩ := bn_i h
  refine a_ret (v := none) (M1 := M4) (φ1 := φ) (st1 := []) (j1 := 0) (j2 := 0) (ar_V (As := []) (rest := []) hB (c_L_advance (bf_G hB) hF hr4) ml_I_51 md_L_advance rc_L_advance (sf_lt hF (by decide)) kk_2 rfl rfl (Nat.le_of_ble_eq_true rfl) rm_I_readsBack_L_advance e_I_readsBack_4) rfl rfl rfl ?_
  refine a_aload_n (j := 0) hB e_I_readsBack_7 rfl rfl ?_
  refine a_getR (r := 2) (k := 0) hB e_I_readsBack_8 fl_I_12 (sf_lt hF (by decide)) kk_1 tt_1_0 (hF.1 _ _) ?_
  refine a_getI (k := 2) hB e_I_readsBack_11 fl_I_67 (sf_lt hF (by decide)) kk_2 tt_2_2 ?_
  refine a_iconst (v := 3) hB e_I_readsBack_14 ic_3 ?_
  refine a_icmp_ne (tgt := 35) hB e_I_readsBack_15 (by decide) (fun c => ?_) (fun c => ?_)
  · have h := iq c h
    exact t_I_readsBack_35 hB hF h
  · have h := ip c h
    refine a_aload_n (j := 0) hB e_I_readsBack_18 rfl rfl ?_
    refine a_getR (r := 4) (k := 1) hB e_I_readsBack_19 fl_I_21 (sf_lt hF (by decide)) kk_1 tt_1_1 (hF.1 _ _) ?_
    refine a_getI (k := 9) hB e_I_readsBack_22 fl_I_155 (sf_lt hF (by decide)) kk_4 tt_4_9 ?_
    refine a_if_ne (tgt := 35) hB e_I_readsBack_25 (by decide) (fun c => ?_) (fun c => ?_)
    · have h := iq c h
      exact t_I_readsBack_35 hB hF h
    · have h := ip c h
      refine a_aload_n (j := 0) hB e_I_readsBack_28 rfl rfl ?_
      refine a_bipush (v := 6) hB e_I_readsBack_29 bp_6 ?_
      obtain ⟨r31, M31, hr31, h⟩ := bn2_i h
      refine a_ret (v := (some (.int r31))) (M1 := M31) (φ1 := φ) (st1 := [.int r31]) (j1 := 0) (j2 := 0) (ar_V (As := [.int (6 : Int32)]) (rest := []) hB (c_I_fail (bf_G hB) hF hr31) ml_I_47 md_I_fail rc_I_fail (sf_lt hF (by decide)) kk_1 rfl rfl (Nat.le_of_ble_eq_true rfl) rm_I_readsBack_I_fail e_I_readsBack_31) rfl rfl rfl ?_
      obtain ⟨z34, h⟩ := chk_i h
      cases h
      exact a_zret hB rfl z34 e_I_readsBack_34 (by decide) (by decide)
set_option maxRecDepth 100000 in
theorem c_I_readsBack {G : Gt} (hG : GOK G) {φ : Ph} (hF : SF 134 φ)   {M : Mm}  {o : Int32} {M9 : Mm} (h : f_I_readsBack M = some (o, M9)) : CT G I_I_readsBack [.ref 1] M φ (.inl (some (.int o))) M9 φ :=
  ct_of hG (by decide) (Nat.le_of_ble_eq_true rfl) (fun B hB => t_I_readsBack hB hF  h)
set_option maxRecDepth 100000 in
theorem t_I_readsCommand_108 {G : Gt} {φ : Ph} {B : Bag} (hB : BF G I_I_readsCommand B) (hF : SF 134 φ)    {o : Int32} {M9 : Mm} {t0 : Int32} {M : Mm} (h : f_I_readsCommand_108 t0 M = some (o, M9)) : AW G I_I_readsCommand B (QM G I_I_readsCommand B (.inl (some (.int o))) M9 φ) 0 0 108 [] [.int t0] M φ := by
  unfold f_I_readsCommand_108 at h
  obtain ⟨z108, h⟩ := chk_i h
  cases h
  exact a_zret hB rfl z108 e_I_readsCommand_108 (by decide) (by decide)
set_option maxRecDepth 100000 in
theorem t_I_readsCommand_107 {G : Gt} {φ : Ph} {B : Bag} (hB : BF G I_I_readsCommand B) (hF : SF 134 φ)    {o : Int32} {M9 : Mm}  {M : Mm} (h : f_I_readsCommand_107 M = some (o, M9)) : AW G I_I_readsCommand B (QM G I_I_readsCommand B (.inl (some (.int o))) M9 φ) 0 0 107 [] [] M φ := by
  unfold f_I_readsCommand_107 at h
  refine a_iconst (v := 0) hB e_I_readsCommand_107 ic_0 ?_
  exact t_I_readsCommand_108 hB hF h
set_option maxRecDepth 100000 in
theorem t_I_readsCommand_147 {G : Gt} {φ : Ph} {B : Bag} (hB : BF G I_I_readsCommand B) (hF : SF 134 φ)    {o : Int32} {M9 : Mm} {t0 : Int32} {M : Mm} (h : f_I_readsCommand_147 t0 M = some (o, M9)) : AW G I_I_readsCommand B (QM G I_I_readsCommand B (.inl (some (.int o))) M9 φ) 0 0 147 [] [.int t0] M φ := by
  unfold f_I_readsCommand_147 at h
  obtain ⟨z147, h⟩ := chk_i h
  cases h
  exact a_zret hB rfl z147 e_I_readsCommand_147 (by decide) (by decide)
set_option maxRecDepth 100000 in
theorem t_I_readsCommand_146 {G : Gt} {φ : Ph} {B : Bag} (hB : BF G I_I_readsCommand B) (hF : SF 134 φ)    {o : Int32} {M9 : Mm}  {M : Mm} (h : f_I_readsCommand_146 M = some (o, M9)) : AW G I_I_readsCommand B (QM G I_I_readsCommand B (.inl (some (.int o))) M9 φ) 0 0 146 [] [] M φ := by
  unfold f_I_readsCommand_146 at h
  refine a_iconst (v := 0) hB e_I_readsCommand_146 ic_0 ?_
  exact t_I_readsCommand_147 hB hF h
set_option maxRecDepth 100000 in
theorem t_I_readsCommand {G : Gt} {φ : Ph} {B : Bag} (hB : BF G I_I_readsCommand B) (hF : SF 134 φ)    {o : Int32} {M9 : Mm}  {M : Mm} (h : f_I_readsCommand M = some (o, M9)) : AW G I_I_readsCommand B (QM G I_I_readsCommand B (.inl (some (.int o))) M9 φ) 0 0 0 [(0, .ref 1)] [] M φ := by
  unfold f_I_readsCommand at h
  refine a_aload_n (j := 0) hB e_I_readsCommand_0 rfl rfl ?_
  refine a_getR (r := 2) (k := 0) hB e_I_readsCommand_1 fl_I_12 (sf_lt hF (by decide)) kk_1 tt_1_0 (hF.1 _ _) ?_
  refine a_ldcS (i := 2) hB rfl e_I_readsCommand_4 ?_
  obtain ⟨r6, hr6, h⟩ := bn_i h
  refine a_ret (v := (some (.int r6))) (M1 := M) (φ1 := φ) (st1 := [.int r6]) (j1 := 0) (j2 := 0) (ar_V (As := [.ref (1000 + 2)]) (rest := []) hB (c_L_isAt (bf_G hB) hF (by decide) hr6) ml_I_43 md_L_isAt rc_L_isAt (sf_lt hF (by decide)) kk_2 rfl rfl (Nat.le_of_ble_eq_true rfl) rm_I_readsCommand_L_isAt e_I_readsCommand_6) rfl rfl rfl ?_
  refine a_if_eq (tgt := 17) hB e_I_readsCommand_9 (by decide) (fun c => ?_) (fun c => ?_)
  · have h := ip c h
    refine a_aload_n (j := 0) hB e_I_readsCommand_17 rfl rfl ?_
    refine a_getR (r := 2) (k := 0) hB e_I_readsCommand_18 fl_I_12 (sf_lt hF (by decide)) kk_1 tt_1_0 (hF.1 _ _) ?_
    refine a_ldcS (i := 6) hB rfl e_I_readsCommand_21 ?_
    obtain ⟨r23, hr23, h⟩ := bn_i h
    refine a_ret (v := (some (.int r23))) (M1 := M) (φ1 := φ) (st1 := [.int r23]) (j1 := 0) (j2 := 0) (ar_V (As := [.ref (1000 + 6)]) (rest := []) hB (c_L_isAt (bf_G hB) hF (by decide) hr23) ml_I_43 md_L_isAt rc_L_isAt (sf_lt hF (by decide)) kk_2 rfl rfl (Nat.le_of_ble_eq_true rfl) rm_I_readsCommand_L_isAt e_I_readsCommand_23) rfl rfl rfl ?_
    refine a_if_eq (tgt := 34) hB e_I_readsCommand_26 (by decide) (fun c => ?_) (fun c => ?_)
    · have h := ip c h
      refine a_aload_n (j := 0) hB e_I_readsCommand_34 rfl rfl ?_
      refine a_getR (r := 2) (k := 0) hB e_I_readsCommand_35 fl_I_12 (sf_lt hF (by decide)) kk_1 tt_1_0 (hF.1 _ _) ?_
      refine a_ldcS (i := 7) hB rfl e_I_readsCommand_38 ?_
      obtain ⟨r40, hr40, h⟩ := bn_i h
      refine a_ret (v := (some (.int r40))) (M1 := M) (φ1 := φ) (st1 := [.int r40]) (j1 := 0) (j2 := 0) (ar_V (As := [.ref (1000 + 7)]) (rest := []) hB (c_L_isAt (bf_G hB) hF (by decide) hr40) ml_I_43 md_L_isAt rc_L_isAt (sf_lt hF (by decide)) kk_2 rfl rfl (Nat.le_of_ble_eq_true rfl) rm_I_readsCommand_L_isAt e_I_readsCommand_40) rfl rfl rfl ?_
      refine a_if_eq (tgt := 52) hB e_I_readsCommand_43 (by decide) (fun c => ?_) (fun c => ?_)
      · have h := ip c h
        refine a_aload_n (j := 0) hB e_I_readsCommand_52 rfl rfl ?_
        refine a_getR (r := 2) (k := 0) hB e_I_readsCommand_53 fl_I_12 (sf_lt hF (by decide)) kk_1 tt_1_0 (hF.1 _ _) ?_
        refine a_ldcS (i := 8) hB rfl e_I_readsCommand_56 ?_
        obtain ⟨r58, hr58, h⟩ := bn_i h
        refine a_ret (v := (some (.int r58))) (M1 := M) (φ1 := φ) (st1 := [.int r58]) (j1 := 0) (j2 := 0) (ar_V (As := [.ref (1000 + 8)]) (rest := []) hB (c_L_isAt (bf_G hB) hF (by decide) hr58) ml_I_43 md_L_isAt rc_L_isAt (sf_lt hF (by decide)) kk_2 rfl rfl (Nat.le_of_ble_eq_true rfl) rm_I_readsCommand_L_isAt e_I_readsCommand_58) rfl rfl rfl ?_
        refine a_if_eq (tgt := 70) hB e_I_readsCommand_61 (by decide) (fun c => ?_) (fun c => ?_)
        · have h := ip c h
          refine a_aload_n (j := 0) hB e_I_readsCommand_70 rfl rfl ?_
          refine a_getR (r := 2) (k := 0) hB e_I_readsCommand_71 fl_I_12 (sf_lt hF (by decide)) kk_1 tt_1_0 (hF.1 _ _) ?_
          refine a_ldcS (i := 9) hB rfl e_I_readsCommand_74 ?_
          obtain ⟨r76, hr76, h⟩ := bn_i h
          refine a_ret (v := (some (.int r76))) (M1 := M) (φ1 := φ) (st1 := [.int r76]) (j1 := 0) (j2 := 0) (ar_V (As := [.ref (1000 + 9)]) (rest := []) hB (c_L_isAt (bf_G hB) hF (by decide) hr76) ml_I_43 md_L_isAt rc_L_isAt (sf_lt hF (by decide)) kk_2 rfl rfl (Nat.le_of_ble_eq_true rfl) rm_I_readsCommand_L_isAt e_I_readsCommand_76) rfl rfl rfl ?_
          refine a_if_eq (tgt := 109) hB e_I_readsCommand_79 (by decide) (fun c => ?_) (fun c => ?_)
          · have h := ip c h
            refine a_aload_n (j := 0) hB e_I_readsCommand_109 rfl rfl ?_
            refine a_getR (r := 2) (k := 0) hB e_I_readsCommand_110 fl_I_12 (sf_lt hF (by decide)) kk_1 tt_1_0 (hF.1 _ _) ?_
            refine a_ldcS (i := 10) hB rfl e_I_readsCommand_113 ?_
            obtain ⟨r115, hr115, h⟩ := bn_i h
            refine a_ret (v := (some (.int r115))) (M1 := M) (φ1 := φ) (st1 := [.int r115]) (j1 := 0) (j2 := 0) (ar_V (As := [.ref (1000 + 10)]) (rest := []) hB (c_L_isAt (bf_G hB) hF (by decide) hr115) ml_I_43 md_L_isAt rc_L_isAt (sf_lt hF (by decide)) kk_2 rfl rfl (Nat.le_of_ble_eq_true rfl) rm_I_readsCommand_L_isAt e_I_readsCommand_115) rfl rfl rfl ?_
            refine a_if_eq (tgt := 148) hB e_I_readsCommand_118 (by decide) (fun c => ?_) (fun c => ?_)
            · have h := ip c h
              refine a_aload_n (j := 0) hB e_I_readsCommand_148 rfl rfl ?_
              refine a_getR (r := 2) (k := 0) hB e_I_readsCommand_149 fl_I_12 (sf_lt hF (by decide)) kk_1 tt_1_0 (hF.1 _ _) ?_
              refine a_ldcS (i := 11) hB rfl e_I_readsCommand_152 ?_
              obtain ⟨r154, hr154, h⟩ := bn_i h
              refine a_ret (v := (some (.int r154))) (M1 := M) (φ1 := φ) (st1 := [.int r154]) (j1 := 0) (j2 := 0) (ar_V (As := [.ref (1000 + 11)]) (rest := []) hB (c_L_isAt (bf_G hB) hF (by decide) hr154) ml_I_43 md_L_isAt rc_L_isAt (sf_lt hF (by decide)) kk_2 rfl rfl (Nat.le_of_ble_eq_true rfl) rm_I_readsCommand_L_isAt e_I_readsCommand_154) rfl rfl rfl ?_
              refine a_if_eq (tgt := 166) hB e_I_readsCommand_157 (by decide) (fun c => ?_) (fun c => ?_)
              · have h := ip c h
                refine a_aload_n (j := 0) hB e_I_readsCommand_166 rfl rfl ?_
                refine a_getR (r := 2) (k := 0) hB e_I_readsCommand_167 fl_I_12 (sf_lt hF (by decide)) kk_1 tt_1_0 (hF.1 _ _) ?_
                refine a_ldcS (i := 12) hB rfl e_I_readsCommand_170 ?_
                obtain ⟨r172, hr172, h⟩ := bn_i h
                refine a_ret (v := (some (.int r172))) (M1 := M) (φ1 := φ) (st1 := [.int r172]) (j1 := 0) (j2 := 0) (ar_V (As := [.ref (1000 + 12)]) (rest := []) hB (c_L_isAt (bf_G hB) hF (by decide) hr172) ml_I_43 md_L_isAt rc_L_isAt (sf_lt hF (by decide)) kk_2 rfl rfl (Nat.le_of_ble_eq_true rfl) rm_I_readsCommand_L_isAt e_I_readsCommand_172) rfl rfl rfl ?_
                refine a_if_eq (tgt := 184) hB e_I_readsCommand_175 (by decide) (fun c => ?_) (fun c => ?_)
                · have h := ip c h
                  refine a_aload_n (j := 0) hB e_I_readsCommand_184 rfl rfl ?_
                  refine a_getR (r := 2) (k := 0) hB e_I_readsCommand_185 fl_I_12 (sf_lt hF (by decide)) kk_1 tt_1_0 (hF.1 _ _) ?_
                  refine a_ldcS (i := 13) hB rfl e_I_readsCommand_188 ?_
                  obtain ⟨r190, hr190, h⟩ := bn_i h
                  refine a_ret (v := (some (.int r190))) (M1 := M) (φ1 := φ) (st1 := [.int r190]) (j1 := 0) (j2 := 0) (ar_V (As := [.ref (1000 + 13)]) (rest := []) hB (c_L_isAt (bf_G hB) hF (by decide) hr190) ml_I_43 md_L_isAt rc_L_isAt (sf_lt hF (by decide)) kk_2 rfl rfl (Nat.le_of_ble_eq_true rfl) rm_I_readsCommand_L_isAt e_I_readsCommand_190) rfl rfl rfl ?_
                  refine a_if_eq (tgt := 201) hB e_I_readsCommand_193 (by decide) (fun c => ?_) (fun c => ?_)
                  · have h := ip c h
                    refine a_aload_n (j := 0) hB e_I_readsCommand_201 rfl rfl ?_
                    refine a_iconst (v := 1) hB e_I_readsCommand_202 ic_1 ?_
                    obtain ⟨r203, M203, hr203, h⟩ := bn2_i h
                    refine a_ret (v := (some (.int r203))) (M1 := M203) (φ1 := φ) (st1 := [.int r203]) (j1 := 0) (j2 := 0) (ar_V (As := [.int (1 : Int32)]) (rest := []) hB (c_I_fail (bf_G hB) hF hr203) ml_I_47 md_I_fail rc_I_fail (sf_lt hF (by decide)) kk_1 rfl rfl (Nat.le_of_ble_eq_true rfl) rm_I_readsCommand_I_fail e_I_readsCommand_203) rfl rfl rfl ?_
                    obtain ⟨z206, h⟩ := chk_i h
                    cases h
                    exact a_zret hB rfl z206 e_I_readsCommand_206 (by decide) (by decide)
                  · have h := iq c h
                    refine a_aload_n (j := 0) hB e_I_readsCommand_196 rfl rfl ?_
                    obtain ⟨r197, M197, hr197, h⟩ := bn2_i h
                    refine a_ret (v := (some (.int r197))) (M1 := M197) (φ1 := φ) (st1 := [.int r197]) (j1 := 0) (j2 := 0) (ar_V (As := []) (rest := []) hB (c_I_readsBack (bf_G hB) hF hr197) ml_I_104 md_I_readsBack rc_I_readsBack (sf_lt hF (by decide)) kk_1 rfl rfl (Nat.le_of_ble_eq_true rfl) rm_I_readsCommand_I_readsBack e_I_readsCommand_197) rfl rfl rfl ?_
                    obtain ⟨z200, h⟩ := chk_i h
                    cases h
                    exact a_zret hB rfl z200 e_I_readsCommand_200 (by decide) (by decide)
                · have h := iq c h
                  refine a_aload_n (j := 0) hB e_I_readsCommand_178 rfl rfl ?_
                  refine a_iconst (v := 0) hB e_I_readsCommand_179 ic_0 ?_
                  obtain ⟨r180, M180, hr180, h⟩ := bn2_i h
                  refine a_ret (v := (some (.int r180))) (M1 := M180) (φ1 := φ) (st1 := [.int r180]) (j1 := 0) (j2 := 0) (ar_V (As := [.int (0 : Int32)]) (rest := []) hB (c_I_readsAdjusted (bf_G hB) hF hr180) ml_I_97 md_I_readsAdjusted rc_I_readsAdjusted (sf_lt hF (by decide)) kk_1 rfl rfl (Nat.le_of_ble_eq_true rfl) rm_I_readsCommand_I_readsAdjusted e_I_readsCommand_180) rfl rfl rfl ?_
                  obtain ⟨z183, h⟩ := chk_i h
                  cases h
                  exact a_zret hB rfl z183 e_I_readsCommand_183 (by decide) (by decide)
              · have h := iq c h
                refine a_aload_n (j := 0) hB e_I_readsCommand_160 rfl rfl ?_
                refine a_iconst (v := 1) hB e_I_readsCommand_161 ic_1 ?_
                obtain ⟨r162, M162, hr162, h⟩ := bn2_i h
                refine a_ret (v := (some (.int r162))) (M1 := M162) (φ1 := φ) (st1 := [.int r162]) (j1 := 0) (j2 := 0) (ar_V (As := [.int (1 : Int32)]) (rest := []) hB (c_I_readsAdjusted (bf_G hB) hF hr162) ml_I_97 md_I_readsAdjusted rc_I_readsAdjusted (sf_lt hF (by decide)) kk_1 rfl rfl (Nat.le_of_ble_eq_true rfl) rm_I_readsCommand_I_readsAdjusted e_I_readsCommand_162) rfl rfl rfl ?_
                obtain ⟨z165, h⟩ := chk_i h
                cases h
                exact a_zret hB rfl z165 e_I_readsCommand_165 (by decide) (by decide)
            · have h := iq c h
              refine a_aload_n (j := 0) hB e_I_readsCommand_121 rfl rfl ?_
              refine a_getR (r := 2) (k := 0) hB e_I_readsCommand_122 fl_I_12 (sf_lt hF (by decide)) kk_1 tt_1_0 (hF.1 _ _) ?_
              obtain ⟨M125, hr125, h⟩ := bn_i h
              refine a_ret (v := none) (M1 := M125) (φ1 := φ) (st1 := []) (j1 := 0) (j2 := 0) (ar_V (As := []) (rest := []) hB (c_L_advance (bf_G hB) hF hr125) ml_I_51 md_L_advance rc_L_advance (sf_lt hF (by decide)) kk_2 rfl rfl (Nat.le_of_ble_eq_true rfl) rm_I_readsCommand_L_advance e_I_readsCommand_125) rfl rfl rfl ?_
              refine a_aload_n (j := 0) hB e_I_readsCommand_128 rfl rfl ?_
              obtain ⟨r129, M129, hr129, h⟩ := bn2_i h
              refine a_ret (v := (some (.int r129))) (M1 := M129) (φ1 := φ) (st1 := [.int r129]) (j1 := 0) (j2 := 0) (ar_V (As := []) (rest := []) hB (c_I_readsPace (bf_G hB) hF hr129) ml_I_58 md_I_readsPace rc_I_readsPace (sf_lt hF (by decide)) kk_1 rfl rfl (Nat.le_of_ble_eq_true rfl) rm_I_readsCommand_I_readsPace e_I_readsCommand_129) rfl rfl rfl ?_
              refine a_if_eq (tgt := 146) hB e_I_readsCommand_132 (by decide) (fun c => ?_) (fun c => ?_)
              · have h := ip c h
                refine a_ls [] (ls' := []) rfl ?_
                exact t_I_readsCommand_146 hB hF h
              · have h := iq c h
                refine a_aload_n (j := 0) hB e_I_readsCommand_135 rfl rfl ?_
                obtain ⟨r136, M136, hr136, h⟩ := bn2_i h
                refine a_ret (v := (some (.int r136))) (M1 := M136) (φ1 := φ) (st1 := [.int r136]) (j1 := 0) (j2 := 0) (ar_V (As := []) (rest := []) hB (c_I_readsSemicolon (bf_G hB) hF hr136) ml_I_61 md_I_readsSemicolon rc_I_readsSemicolon (sf_lt hF (by decide)) kk_1 rfl rfl (Nat.le_of_ble_eq_true rfl) rm_I_readsCommand_I_readsSemicolon e_I_readsCommand_136) rfl rfl rfl ?_
                refine a_if_eq (tgt := 146) hB e_I_readsCommand_139 (by decide) (fun c => ?_) (fun c => ?_)
                · have h := ip c h
                  refine a_ls [] (ls' := []) rfl ?_
                  exact t_I_readsCommand_146 hB hF h
                · have h := iq c h
                  refine a_iconst (v := 1) hB e_I_readsCommand_142 ic_1 ?_
                  refine a_goto (tgt := 147) hB e_I_readsCommand_143 (by decide) ?_
                  refine a_ls [] (ls' := []) rfl ?_
                  exact t_I_readsCommand_147 hB hF h
          · have h := iq c h
            refine a_aload_n (j := 0) hB e_I_readsCommand_82 rfl rfl ?_
            refine a_getR (r := 2) (k := 0) hB e_I_readsCommand_83 fl_I_12 (sf_lt hF (by decide)) kk_1 tt_1_0 (hF.1 _ _) ?_
            obtain ⟨M86, hr86, h⟩ := bn_i h
            refine a_ret (v := none) (M1 := M86) (φ1 := φ) (st1 := []) (j1 := 0) (j2 := 0) (ar_V (As := []) (rest := []) hB (c_L_advance (bf_G hB) hF hr86) ml_I_51 md_L_advance rc_L_advance (sf_lt hF (by decide)) kk_2 rfl rfl (Nat.le_of_ble_eq_true rfl) rm_I_readsCommand_L_advance e_I_readsCommand_86) rfl rfl rfl ?_
            refine a_aload_n (j := 0) hB e_I_readsCommand_89 rfl rfl ?_
            obtain ⟨r90, M90, hr90, h⟩ := bn2_i h
            refine a_ret (v := (some (.int r90))) (M1 := M90) (φ1 := φ) (st1 := [.int r90]) (j1 := 0) (j2 := 0) (ar_V (As := []) (rest := []) hB (c_I_readsWear (bf_G hB) hF hr90) ml_I_54 md_I_readsWear rc_I_readsWear (sf_lt hF (by decide)) kk_1 rfl rfl (Nat.le_of_ble_eq_true rfl) rm_I_readsCommand_I_readsWear e_I_readsCommand_90) rfl rfl rfl ?_
            refine a_if_eq (tgt := 107) hB e_I_readsCommand_93 (by decide) (fun c => ?_) (fun c => ?_)
            · have h := ip c h
              refine a_ls [] (ls' := []) rfl ?_
              exact t_I_readsCommand_107 hB hF h
            · have h := iq c h
              refine a_aload_n (j := 0) hB e_I_readsCommand_96 rfl rfl ?_
              obtain ⟨r97, M97, hr97, h⟩ := bn2_i h
              refine a_ret (v := (some (.int r97))) (M1 := M97) (φ1 := φ) (st1 := [.int r97]) (j1 := 0) (j2 := 0) (ar_V (As := []) (rest := []) hB (c_I_readsSemicolon (bf_G hB) hF hr97) ml_I_61 md_I_readsSemicolon rc_I_readsSemicolon (sf_lt hF (by decide)) kk_1 rfl rfl (Nat.le_of_ble_eq_true rfl) rm_I_readsCommand_I_readsSemicolon e_I_readsCommand_97) rfl rfl rfl ?_
              refine a_if_eq (tgt := 107) hB e_I_readsCommand_100 (by decide) (fun c => ?_) (fun c => ?_)
              · have h := ip c h
                refine a_ls [] (ls' := []) rfl ?_
                exact t_I_readsCommand_107 hB hF h
              · have h := iq c h
                refine a_iconst (v := 1) hB e_I_readsCommand_103 ic_1 ?_
                refine a_goto (tgt := 108) hB e_I_readsCommand_104 (by decide) ?_
                refine a_ls [] (ls' := []) rfl ?_
                exact t_I_readsCommand_108 hB hF h
        · have h := iq c h
          refine a_aload_n (j := 0) hB e_I_readsCommand_64 rfl rfl ?_
          refine a_iconst (v := 0) hB e_I_readsCommand_65 ic_0 ?_
          obtain ⟨r66, M66, hr66, h⟩ := bn2_i h
          refine a_ret (v := (some (.int r66))) (M1 := M66) (φ1 := φ) (st1 := [.int r66]) (j1 := 0) (j2 := 0) (ar_V (As := [.int (0 : Int32)]) (rest := []) hB (c_I_readsPin (bf_G hB) hF hr66) ml_I_85 md_I_readsPin rc_I_readsPin (sf_lt hF (by decide)) kk_1 rfl rfl (Nat.le_of_ble_eq_true rfl) rm_I_readsCommand_I_readsPin e_I_readsCommand_66) rfl rfl rfl ?_
          obtain ⟨z69, h⟩ := chk_i h
          cases h
          exact a_zret hB rfl z69 e_I_readsCommand_69 (by decide) (by decide)
      · have h := iq c h
        refine a_aload_n (j := 0) hB e_I_readsCommand_46 rfl rfl ?_
        refine a_iconst (v := 1) hB e_I_readsCommand_47 ic_1 ?_
        obtain ⟨r48, M48, hr48, h⟩ := bn2_i h
        refine a_ret (v := (some (.int r48))) (M1 := M48) (φ1 := φ) (st1 := [.int r48]) (j1 := 0) (j2 := 0) (ar_V (As := [.int (1 : Int32)]) (rest := []) hB (c_I_readsPin (bf_G hB) hF hr48) ml_I_85 md_I_readsPin rc_I_readsPin (sf_lt hF (by decide)) kk_1 rfl rfl (Nat.le_of_ble_eq_true rfl) rm_I_readsCommand_I_readsPin e_I_readsCommand_48) rfl rfl rfl ?_
        obtain ⟨z51, h⟩ := chk_i h
        cases h
        exact a_zret hB rfl z51 e_I_readsCommand_51 (by decide) (by decide)
    · have h := iq c h
      refine a_aload_n (j := 0) hB e_I_readsCommand_29 rfl rfl ?_
      obtain ⟨r30, M30, hr30, h⟩ := bn2_i h
      refine a_ret (v := (some (.int r30))) (M1 := M30) (φ1 := φ) (st1 := [.int r30]) (j1 := 0) (j2 := 0) (ar_V (As := []) (rest := []) hB (c_I_readsBog (bf_G hB) hF hr30) ml_I_80 md_I_readsBog rc_I_readsBog (sf_lt hF (by decide)) kk_1 rfl rfl (Nat.le_of_ble_eq_true rfl) rm_I_readsCommand_I_readsBog e_I_readsCommand_30) rfl rfl rfl ?_
      obtain ⟨z33, h⟩ := chk_i h
      cases h
      exact a_zret hB rfl z33 e_I_readsCommand_33 (by decide) (by decide)
  · have h := iq c h
    refine a_aload_n (j := 0) hB e_I_readsCommand_12 rfl rfl ?_
    obtain ⟨r13, M13, hr13, h⟩ := bn2_i h
    refine a_ret (v := (some (.int r13))) (M1 := M13) (φ1 := φ) (st1 := [.int r13]) (j1 := 0) (j2 := 0) (ar_V (As := []) (rest := []) hB (c_I_readsChained (bf_G hB) hF hr13) ml_I_75 md_I_readsChained rc_I_readsChained (sf_lt hF (by decide)) kk_1 rfl rfl (Nat.le_of_ble_eq_true rfl) rm_I_readsCommand_I_readsChained e_I_readsCommand_13) rfl rfl rfl ?_
    obtain ⟨z16, h⟩ := chk_i h
    cases h
    exact a_zret hB rfl z16 e_I_readsCommand_16 (by decide) (by decide)
