/-! the functions are what the machine does -/
set_option maxRecDepth 100000 in
theorem t_M_findPin_26 {G : Gt} {φ : Ph} {B : Bag} (hB : BF G I_M_findPin B) (hF : SF 148 φ)    {o : Int32} {M9 : Mm} {l1 : Int32} {t1 : Int32} {t2 : Int32} {M : Mm} (h : f_M_findPin_26 l1 t1 t2 M = some (o, M9)) : AW G I_M_findPin B (QM G I_M_findPin B (.inl (some (.int o))) M9 φ) 0 0 26 [(0, .ref 134), (1, .int l1)] [.int t2, .int t1, .ref 134] M φ := by
  unfold f_M_findPin_26 at h
  refine a_iconst (v := 0) hB e_M_findPin_26 ic_0 ?_
  obtain ⟨r27, M27, hr27, h⟩ := bn2_i h
  refine a_ret (v := (some (.int r27))) (M1 := M27) (φ1 := φ) (st1 := [.int r27]) (j1 := 0) (j2 := 0) (ar_V (As := [.int t1, .int t2, .int (0 : Int32)]) (rest := []) hB (c_M_fails (bf_G hB) hF hr27) ml_M_160 md_M_fails rc_M_fails (sf_lt hF (by decide)) kk_134 rfl rfl (Nat.le_of_ble_eq_true rfl) rm_M_findPin_M_fails e_M_findPin_27) rfl rfl rfl ?_
  refine a_if_eq (tgt := 35) hB e_M_findPin_30 (by decide) (fun c => ?_) (fun c => ?_)
  · have h := ip c h
    refine a_aload_n (j := 0) hB e_M_findPin_35 rfl rfl ?_
    refine a_aload_n (j := 0) hB e_M_findPin_36 rfl rfl ?_
    refine a_getR (r := 135) (k := 0) hB e_M_findPin_37 fl_M_9 (sf_lt hF (by decide)) kk_134 tt_134_0 (hF.1 _ _) ?_
    obtain ⟨M40, hr40, h⟩ := bn_i h
    refine a_ret (v := none) (M1 := M40) (φ1 := φ) (st1 := []) (j1 := 0) (j2 := 0) (ar_V (As := [.ref 135]) (rest := []) hB (c_M_remember (bf_G hB) hF kk_135 (by decide) ll_135 hr40) ml_M_280 md_M_remember rc_M_remember (sf_lt hF (by decide)) kk_134 rfl rfl (Nat.le_of_ble_eq_true rfl) rm_M_findPin_M_remember e_M_findPin_40) rfl rfl rfl ?_
    refine a_aload_n (j := 0) hB e_M_findPin_43 rfl rfl ?_
    refine a_iload_n (j := 1) hB e_M_findPin_44 rfl rfl ?_
    refine a_iconst (v := -1) hB e_M_findPin_45 ic_m1 ?_
    obtain ⟨r46, M46, hr46, h⟩ := bn2_i h
    refine a_ret (v := (some (.int r46))) (M1 := M46) (φ1 := φ) (st1 := [.int r46]) (j1 := 0) (j2 := 0) (ar_V (As := [.int l1, .int (-1 : Int32)]) (rest := []) hB (c_M_drops (bf_G hB) hF hr46) ml_M_253 md_M_drops rc_M_drops (sf_lt hF (by decide)) kk_134 rfl rfl (Nat.le_of_ble_eq_true rfl) rm_M_findPin_M_drops e_M_findPin_46) rfl rfl rfl ?_
    cases h
    exact a_iret hB rfl e_M_findPin_49 (by decide) (by decide)
  · have h := iq c h
    refine a_iconst (v := 0) hB e_M_findPin_33 ic_0 ?_
    cases h
    exact a_iret hB rfl e_M_findPin_34 (by decide) (by decide)
set_option maxRecDepth 100000 in
theorem t_M_findPin_25 {G : Gt} {φ : Ph} {B : Bag} (hB : BF G I_M_findPin B) (hF : SF 148 φ)    {o : Int32} {M9 : Mm} {l1 : Int32} {t1 : Int32} {M : Mm} (h : f_M_findPin_25 l1 t1 M = some (o, M9)) : AW G I_M_findPin B (QM G I_M_findPin B (.inl (some (.int o))) M9 φ) 0 0 25 [(0, .ref 134), (1, .int l1)] [.int t1, .ref 134] M φ := by
  unfold f_M_findPin_25 at h
  refine a_iconst (v := 0) hB e_M_findPin_25 ic_0 ?_
  exact t_M_findPin_26 hB hF h
set_option maxRecDepth 100000 in
theorem t_M_findPin {G : Gt} {φ : Ph} {B : Bag} (hB : BF G I_M_findPin B) (hF : SF 148 φ)    {o : Int32} {M9 : Mm} {l1 : Int32} {M : Mm} (h : f_M_findPin l1 M = some (o, M9)) : AW G I_M_findPin B (QM G I_M_findPin B (.inl (some (.int o))) M9 φ) 0 0 0 [(0, .ref 134), (1, .int l1)] [] M φ := by
  unfold f_M_findPin at h
  refine a_aload_n (j := 0) hB e_M_findPin_0 rfl rfl ?_
  refine a_iload_n (j := 1) hB e_M_findPin_1 rfl rfl ?_
  obtain ⟨r2, hr2, h⟩ := bn_i h
  refine a_ret (v := (some (.int r2))) (M1 := M) (φ1 := φ) (st1 := [.int r2]) (j1 := 0) (j2 := 0) (ar_V (As := [.int l1]) (rest := []) hB (c_M_noLeg (bf_G hB) hF hr2) ml_M_306 md_M_noLeg rc_M_noLeg (sf_lt hF (by decide)) kk_134 rfl rfl (Nat.le_of_ble_eq_true rfl) rm_M_findPin_M_noLeg e_M_findPin_2) rfl rfl rfl ?_
  refine a_istore_n (ls' := [(2, .int r2), (0, .ref 134), (1, .int l1)]) hB e_M_findPin_5 rfl (Nat.le_of_ble_eq_true rfl) rfl ?_
  refine a_aload_n (j := 1) hB e_M_findPin_6 rfl rfl ?_
  refine a_iload_n (j := 0) hB e_M_findPin_7 rfl rfl ?_
  refine a_iload_n (j := 0) hB e_M_findPin_8 rfl rfl ?_
  refine a_if_ne (tgt := 25) hB e_M_findPin_9 (by decide) (fun c => ?_) (fun c => ?_)
  · have h := iq c h
    refine a_ls [1, 2] (ls' := [(0, .ref 134), (1, .int l1)]) rfl ?_
    exact t_M_findPin_25 hB hF h
  · have h := ip c h
    refine a_aload_n (j := 1) hB e_M_findPin_12 rfl rfl ?_
    refine a_iload_n (j := 2) hB e_M_findPin_13 rfl rfl ?_
    refine a_iconst (v := 3) hB e_M_findPin_14 ic_3 ?_
    obtain ⟨r15, hr15, h⟩ := bn_i h
    refine a_ret (v := (some (.int r15))) (M1 := M) (φ1 := φ) (st1 := [.int r15, .int r2, .ref 134]) (j1 := 0) (j2 := 0) (ar_V (As := [.int l1, .int (3 : Int32)]) (rest := [.int r2, .ref 134]) hB (c_M_of (bf_G hB) hF hr15) ml_M_96 md_M_of rc_M_of (sf_lt hF (by decide)) kk_134 rfl rfl (Nat.le_of_ble_eq_true rfl) rm_M_findPin_M_of e_M_findPin_15) rfl rfl rfl ?_
    refine a_if_ne (tgt := 25) hB e_M_findPin_18 (by decide) (fun c => ?_) (fun c => ?_)
    · have h := iq c h
      refine a_ls [1, 2] (ls' := [(0, .ref 134), (1, .int l1)]) rfl ?_
      exact t_M_findPin_25 hB hF h
    · have h := ip c h
      refine a_iconst (v := 1) hB e_M_findPin_21 ic_1 ?_
      refine a_goto (tgt := 26) hB e_M_findPin_22 (by decide) ?_
      refine a_ls [1, 2] (ls' := [(0, .ref 134), (1, .int l1)]) rfl ?_
      exact t_M_findPin_26 hB hF h
set_option maxRecDepth 100000 in
theorem c_M_findPin {G : Gt} (hG : GOK G) {φ : Ph} (hF : SF 148 φ)   {M : Mm} {l1 : Int32} {o : Int32} {M9 : Mm} (h : f_M_findPin l1 M = some (o, M9)) : CT G I_M_findPin [.ref 134, .int l1] M φ (.inl (some (.int o))) M9 φ :=
  ct_of hG (by decide) (Nat.le_of_ble_eq_true rfl) (fun B hB => t_M_findPin hB hF  h)
set_option maxRecDepth 100000 in
theorem t_M_removeLast_15 {G : Gt} {φ : Ph} {B : Bag} (hB : BF G I_M_removeLast B) (hF : SF 148 φ)    {o : Int32} {M9 : Mm} {t1 : Int32} {M : Mm} (h : f_M_removeLast_15 t1 M = some (o, M9)) : AW G I_M_removeLast B (QM G I_M_removeLast B (.inl (some (.int o))) M9 φ) 0 0 15 [(0, .ref 134)] [.int t1, .ref 134] M φ := by
  unfold f_M_removeLast_15 at h
  refine a_iconst (v := 0) hB e_M_removeLast_15 ic_0 ?_
  refine a_iconst (v := 0) hB e_M_removeLast_16 ic_0 ?_
  obtain ⟨r17, M17, hr17, h⟩ := bn2_i h
  refine a_ret (v := (some (.int r17))) (M1 := M17) (φ1 := φ) (st1 := [.int r17]) (j1 := 0) (j2 := 0) (ar_V (As := [.int t1, .int (0 : Int32), .int (0 : Int32)]) (rest := []) hB (c_M_fails (bf_G hB) hF hr17) ml_M_160 md_M_fails rc_M_fails (sf_lt hF (by decide)) kk_134 rfl rfl (Nat.le_of_ble_eq_true rfl) rm_M_removeLast_M_fails e_M_removeLast_17) rfl rfl rfl ?_
  refine a_if_eq (tgt := 25) hB e_M_removeLast_20 (by decide) (fun c => ?_) (fun c => ?_)
  · have h := ip c h
    refine a_aload_n (j := 0) hB e_M_removeLast_25 rfl rfl ?_
    refine a_aload_n (j := 0) hB e_M_removeLast_26 rfl rfl ?_
    refine a_getR (r := 135) (k := 0) hB e_M_removeLast_27 fl_M_9 (sf_lt hF (by decide)) kk_134 tt_134_0 (hF.1 _ _) ?_
    obtain ⟨M30, hr30, h⟩ := bn_i h
    refine a_ret (v := none) (M1 := M30) (φ1 := φ) (st1 := []) (j1 := 0) (j2 := 0) (ar_V (As := [.ref 135]) (rest := []) hB (c_M_remember (bf_G hB) hF kk_135 (by decide) ll_135 hr30) ml_M_280 md_M_remember rc_M_remember (sf_lt hF (by decide)) kk_134 rfl rfl (Nat.le_of_ble_eq_true rfl) rm_M_removeLast_M_remember e_M_removeLast_30) rfl rfl rfl ?_
    refine a_aload_n (j := 0) hB e_M_removeLast_33 rfl rfl ?_
    obtain ⟨r34, M34, hr34, h⟩ := bn2_i h
    refine a_ret (v := (some (.int r34))) (M1 := M34) (φ1 := φ) (st1 := [.int r34]) (j1 := 0) (j2 := 0) (ar_V (As := []) (rest := []) hB (c_M_removes (bf_G hB) hF hr34) ml_M_270 md_M_removes rc_M_removes (sf_lt hF (by decide)) kk_134 rfl rfl (Nat.le_of_ble_eq_true rfl) rm_M_removeLast_M_removes e_M_removeLast_34) rfl rfl rfl ?_
    cases h
    exact a_iret hB rfl e_M_removeLast_37 (by decide) (by decide)
  · have h := iq c h
    refine a_iconst (v := 0) hB e_M_removeLast_23 ic_0 ?_
    cases h
    exact a_iret hB rfl e_M_removeLast_24 (by decide) (by decide)
set_option maxRecDepth 100000 in
theorem t_M_removeLast {G : Gt} {φ : Ph} {B : Bag} (hB : BF G I_M_removeLast B) (hF : SF 148 φ)    {o : Int32} {M9 : Mm}  {M : Mm} (h : f_M_removeLast M = some (o, M9)) : AW G I_M_removeLast B (QM G I_M_removeLast B (.inl (some (.int o))) M9 φ) 0 0 0 [(0, .ref 134)] [] M φ := by
  unfold f_M_removeLast at h
  refine a_aload_n (j := 0) hB e_M_removeLast_0 rfl rfl ?_
  refine a_aload_n (j := 0) hB e_M_removeLast_1 rfl rfl ?_
  refine a_getR (r := 135) (k := 0) hB e_M_removeLast_2 fl_M_9 (sf_lt hF (by decide)) kk_134 tt_134_0 (hF.1 _ _) ?_
  refine a_iconst (v := 0) hB e_M_removeLast_5 ic_0 ?_
  refine a_iald' hB e_M_removeLast_6 (sf_lt hF (by decide)) kk_135 ll_135 (by decide) ?_
  refine a_if_ne (tgt := 14) hB e_M_removeLast_7 (by decide) (fun c => ?_) (fun c => ?_)
  · have h := iq c h
    refine a_iconst (v := 0) hB e_M_removeLast_14 ic_0 ?_
    exact t_M_removeLast_15 hB hF h
  · have h := ip c h
    refine a_iconst (v := 1) hB e_M_removeLast_10 ic_1 ?_
    refine a_goto (tgt := 15) hB e_M_removeLast_11 (by decide) ?_
    exact t_M_removeLast_15 hB hF h
set_option maxRecDepth 100000 in
theorem c_M_removeLast {G : Gt} (hG : GOK G) {φ : Ph} (hF : SF 148 φ)   {M : Mm}  {o : Int32} {M9 : Mm} (h : f_M_removeLast M = some (o, M9)) : CT G I_M_removeLast [.ref 134] M φ (.inl (some (.int o))) M9 φ :=
  ct_of hG (by decide) (Nat.le_of_ble_eq_true rfl) (fun B hB => t_M_removeLast hB hF  h)
set_option maxRecDepth 100000 in
theorem t_M_setWear_17 {G : Gt} {φ : Ph} {B : Bag} (hB : BF G I_M_setWear B) (hF : SF 148 φ)    {o : Int32} {M9 : Mm} {l1 : Int32} {t1 : Int32} {M : Mm} (h : f_M_setWear_17 l1 t1 M = some (o, M9)) : AW G I_M_setWear B (QM G I_M_setWear B (.inl (some (.int o))) M9 φ) 0 0 17 [(0, .ref 134), (1, .int l1)] [.int t1, .ref 134] M φ := by
  unfold f_M_setWear_17 at h
  refine a_iconst (v := 0) hB e_M_setWear_17 ic_0 ?_
  refine a_iconst (v := 0) hB e_M_setWear_18 ic_0 ?_
  obtain ⟨r19, M19, hr19, h⟩ := bn2_i h
  refine a_ret (v := (some (.int r19))) (M1 := M19) (φ1 := φ) (st1 := [.int r19]) (j1 := 0) (j2 := 0) (ar_V (As := [.int t1, .int (0 : Int32), .int (0 : Int32)]) (rest := []) hB (c_M_fails (bf_G hB) hF hr19) ml_M_160 md_M_fails rc_M_fails (sf_lt hF (by decide)) kk_134 rfl rfl (Nat.le_of_ble_eq_true rfl) rm_M_setWear_M_fails e_M_setWear_19) rfl rfl rfl ?_
  refine a_if_eq (tgt := 27) hB e_M_setWear_22 (by decide) (fun c => ?_) (fun c => ?_)
  · have h := ip c h
    refine a_aload_n (j := 0) hB e_M_setWear_27 rfl rfl ?_
    refine a_aload_n (j := 0) hB e_M_setWear_28 rfl rfl ?_
    refine a_getR (r := 135) (k := 0) hB e_M_setWear_29 fl_M_9 (sf_lt hF (by decide)) kk_134 tt_134_0 (hF.1 _ _) ?_
    obtain ⟨M32, hr32, h⟩ := bn_i h
    refine a_ret (v := none) (M1 := M32) (φ1 := φ) (st1 := []) (j1 := 0) (j2 := 0) (ar_V (As := [.ref 135]) (rest := []) hB (c_M_remember (bf_G hB) hF kk_135 (by decide) ll_135 hr32) ml_M_280 md_M_remember rc_M_remember (sf_lt hF (by decide)) kk_134 rfl rfl (Nat.le_of_ble_eq_true rfl) rm_M_setWear_M_remember e_M_setWear_32) rfl rfl rfl ?_
    refine a_aload_n (j := 0) hB e_M_setWear_35 rfl rfl ?_
    refine a_iconst (v := 1) hB e_M_setWear_36 ic_1 ?_
    refine a_iload_n (j := 1) hB e_M_setWear_37 rfl rfl ?_
    obtain ⟨r38, M38, hr38, h⟩ := bn2_i h
    refine a_ret (v := (some (.int r38))) (M1 := M38) (φ1 := φ) (st1 := [.int r38]) (j1 := 0) (j2 := 0) (ar_V (As := [.int (1 : Int32), .int l1]) (rest := []) hB (c_M_sets (bf_G hB) hF hr38) ml_M_263 md_M_sets rc_M_sets (sf_lt hF (by decide)) kk_134 rfl rfl (Nat.le_of_ble_eq_true rfl) rm_M_setWear_M_sets e_M_setWear_38) rfl rfl rfl ?_
    cases h
    exact a_iret hB rfl e_M_setWear_41 (by decide) (by decide)
  · have h := iq c h
    refine a_iconst (v := 0) hB e_M_setWear_25 ic_0 ?_
    cases h
    exact a_iret hB rfl e_M_setWear_26 (by decide) (by decide)
set_option maxRecDepth 100000 in
theorem t_M_setWear {G : Gt} {φ : Ph} {B : Bag} (hB : BF G I_M_setWear B) (hF : SF 148 φ)    {o : Int32} {M9 : Mm} {l1 : Int32} {M : Mm} (h : f_M_setWear l1 M = some (o, M9)) : AW G I_M_setWear B (QM G I_M_setWear B (.inl (some (.int o))) M9 φ) 0 0 0 [(0, .ref 134), (1, .int l1)] [] M φ := by
  unfold f_M_setWear at h
  refine a_aload_n (j := 0) hB e_M_setWear_0 rfl rfl ?_
  refine a_iload_n (j := 1) hB e_M_setWear_1 rfl rfl ?_
  refine a_iconst (v := 0) hB e_M_setWear_2 ic_0 ?_
  refine a_sipush (v := 999) hB e_M_setWear_3 sp_999 ?_
  obtain ⟨r6, hr6, h⟩ := bn_i h
  refine a_ret (v := (some (.int r6))) (M1 := M) (φ1 := φ) (st1 := [.int r6, .ref 134]) (j1 := 0) (j2 := 0) (ar_S (As := [.int l1, .int (0 : Int32), .int (999 : Int32)]) (rest := [.ref 134]) hB (c_M_isIn (bf_G hB) hF hr6) ml_M_92 md_M_isIn rfl rfl (Nat.le_of_ble_eq_true rfl) rm_M_setWear_M_isIn e_M_setWear_6) rfl rfl rfl ?_
  refine a_if_ne (tgt := 16) hB e_M_setWear_9 (by decide) (fun c => ?_) (fun c => ?_)
  · have h := iq c h
    refine a_iconst (v := 0) hB e_M_setWear_16 ic_0 ?_
    exact t_M_setWear_17 hB hF h
  · have h := ip c h
    refine a_iconst (v := 1) hB e_M_setWear_12 ic_1 ?_
    refine a_goto (tgt := 17) hB e_M_setWear_13 (by decide) ?_
    exact t_M_setWear_17 hB hF h
set_option maxRecDepth 100000 in
theorem c_M_setWear {G : Gt} (hG : GOK G) {φ : Ph} (hF : SF 148 φ)   {M : Mm} {l1 : Int32} {o : Int32} {M9 : Mm} (h : f_M_setWear l1 M = some (o, M9)) : CT G I_M_setWear [.ref 134, .int l1] M φ (.inl (some (.int o))) M9 φ :=
  ct_of hG (by decide) (Nat.le_of_ble_eq_true rfl) (fun B hB => t_M_setWear hB hF  h)
set_option maxRecDepth 100000 in
theorem t_M_setPace_18 {G : Gt} {φ : Ph} {B : Bag} (hB : BF G I_M_setPace B) (hF : SF 148 φ)    {o : Int32} {M9 : Mm} {l1 : Int32} {t1 : Int32} {M : Mm} (h : f_M_setPace_18 l1 t1 M = some (o, M9)) : AW G I_M_setPace B (QM G I_M_setPace B (.inl (some (.int o))) M9 φ) 0 0 18 [(0, .ref 134), (1, .int l1)] [.int t1, .ref 134] M φ := by
  unfold f_M_setPace_18 at h
  refine a_iconst (v := 0) hB e_M_setPace_18 ic_0 ?_
  refine a_iconst (v := 0) hB e_M_setPace_19 ic_0 ?_
  obtain ⟨r20, M20, hr20, h⟩ := bn2_i h
  refine a_ret (v := (some (.int r20))) (M1 := M20) (φ1 := φ) (st1 := [.int r20]) (j1 := 0) (j2 := 0) (ar_V (As := [.int t1, .int (0 : Int32), .int (0 : Int32)]) (rest := []) hB (c_M_fails (bf_G hB) hF hr20) ml_M_160 md_M_fails rc_M_fails (sf_lt hF (by decide)) kk_134 rfl rfl (Nat.le_of_ble_eq_true rfl) rm_M_setPace_M_fails e_M_setPace_20) rfl rfl rfl ?_
  refine a_if_eq (tgt := 28) hB e_M_setPace_23 (by decide) (fun c => ?_) (fun c => ?_)
  · have h := ip c h
    refine a_aload_n (j := 0) hB e_M_setPace_28 rfl rfl ?_
    refine a_aload_n (j := 0) hB e_M_setPace_29 rfl rfl ?_
    refine a_getR (r := 135) (k := 0) hB e_M_setPace_30 fl_M_9 (sf_lt hF (by decide)) kk_134 tt_134_0 (hF.1 _ _) ?_
    obtain ⟨M33, hr33, h⟩ := bn_i h
    refine a_ret (v := none) (M1 := M33) (φ1 := φ) (st1 := []) (j1 := 0) (j2 := 0) (ar_V (As := [.ref 135]) (rest := []) hB (c_M_remember (bf_G hB) hF kk_135 (by decide) ll_135 hr33) ml_M_280 md_M_remember rc_M_remember (sf_lt hF (by decide)) kk_134 rfl rfl (Nat.le_of_ble_eq_true rfl) rm_M_setPace_M_remember e_M_setPace_33) rfl rfl rfl ?_
    refine a_aload_n (j := 0) hB e_M_setPace_36 rfl rfl ?_
    refine a_iconst (v := 2) hB e_M_setPace_37 ic_2 ?_
    refine a_iload_n (j := 1) hB e_M_setPace_38 rfl rfl ?_
    obtain ⟨r39, M39, hr39, h⟩ := bn2_i h
    refine a_ret (v := (some (.int r39))) (M1 := M39) (φ1 := φ) (st1 := [.int r39]) (j1 := 0) (j2 := 0) (ar_V (As := [.int (2 : Int32), .int l1]) (rest := []) hB (c_M_sets (bf_G hB) hF hr39) ml_M_263 md_M_sets rc_M_sets (sf_lt hF (by decide)) kk_134 rfl rfl (Nat.le_of_ble_eq_true rfl) rm_M_setPace_M_sets e_M_setPace_39) rfl rfl rfl ?_
    cases h
    exact a_iret hB rfl e_M_setPace_42 (by decide) (by decide)
  · have h := iq c h
    refine a_iconst (v := 0) hB e_M_setPace_26 ic_0 ?_
    cases h
    exact a_iret hB rfl e_M_setPace_27 (by decide) (by decide)
set_option maxRecDepth 100000 in
theorem t_M_setPace {G : Gt} {φ : Ph} {B : Bag} (hB : BF G I_M_setPace B) (hF : SF 148 φ)    {o : Int32} {M9 : Mm} {l1 : Int32} {M : Mm} (h : f_M_setPace l1 M = some (o, M9)) : AW G I_M_setPace B (QM G I_M_setPace B (.inl (some (.int o))) M9 φ) 0 0 0 [(0, .ref 134), (1, .int l1)] [] M φ := by
  unfold f_M_setPace at h
  refine a_aload_n (j := 0) hB e_M_setPace_0 rfl rfl ?_
  refine a_iload_n (j := 1) hB e_M_setPace_1 rfl rfl ?_
  refine a_bipush (v := 100) hB e_M_setPace_2 bp_100 ?_
  refine a_sipush (v := 999) hB e_M_setPace_4 sp_999 ?_
  obtain ⟨r7, hr7, h⟩ := bn_i h
  refine a_ret (v := (some (.int r7))) (M1 := M) (φ1 := φ) (st1 := [.int r7, .ref 134]) (j1 := 0) (j2 := 0) (ar_S (As := [.int l1, .int (100 : Int32), .int (999 : Int32)]) (rest := [.ref 134]) hB (c_M_isIn (bf_G hB) hF hr7) ml_M_92 md_M_isIn rfl rfl (Nat.le_of_ble_eq_true rfl) rm_M_setPace_M_isIn e_M_setPace_7) rfl rfl rfl ?_
  refine a_if_ne (tgt := 17) hB e_M_setPace_10 (by decide) (fun c => ?_) (fun c => ?_)
  · have h := iq c h
    refine a_iconst (v := 0) hB e_M_setPace_17 ic_0 ?_
    exact t_M_setPace_18 hB hF h
  · have h := ip c h
    refine a_iconst (v := 1) hB e_M_setPace_13 ic_1 ?_
    refine a_goto (tgt := 18) hB e_M_setPace_14 (by decide) ?_
    exact t_M_setPace_18 hB hF h
set_option maxRecDepth 100000 in
theorem c_M_setPace {G : Gt} (hG : GOK G) {φ : Ph} (hF : SF 148 φ)   {M : Mm} {l1 : Int32} {o : Int32} {M9 : Mm} (h : f_M_setPace l1 M = some (o, M9)) : CT G I_M_setPace [.ref 134, .int l1] M φ (.inl (some (.int o))) M9 φ :=
  ct_of hG (by decide) (Nat.le_of_ble_eq_true rfl) (fun B hB => t_M_setPace hB hF  h)
set_option maxRecDepth 100000 in
theorem t_M_setAdjusted_36 {G : Gt} {φ : Ph} {B : Bag} (hB : BF G I_M_setAdjusted B) (hF : SF 148 φ)    {o : Int32} {M9 : Mm} {t0 : Int32} {M : Mm} (h : f_M_setAdjusted_36 t0 M = some (o, M9)) : AW G I_M_setAdjusted B (QM G I_M_setAdjusted B (.inl (some (.int o))) M9 φ) 0 0 36 [] [.int t0] M φ := by
  unfold f_M_setAdjusted_36 at h
  obtain ⟨z36, h⟩ := chk_i h
  cases h
  exact a_zret hB rfl z36 e_M_setAdjusted_36 (by decide) (by decide)
set_option maxRecDepth 100000 in
theorem t_M_setAdjusted_24 {G : Gt} {φ : Ph} {B : Bag} (hB : BF G I_M_setAdjusted B) (hF : SF 148 φ)    {o : Int32} {M9 : Mm} {t1 : Int32} {t2 : Int32} {M : Mm} (h : f_M_setAdjusted_24 t1 t2 M = some (o, M9)) : AW G I_M_setAdjusted B (QM G I_M_setAdjusted B (.inl (some (.int o))) M9 φ) 0 0 24 [] [.int t2, .int t1, .ref 134] M φ := by
  unfold f_M_setAdjusted_24 at h
  obtain ⟨r24, M24, hr24, h⟩ := bn2_i h
  refine a_ret (v := (some (.int r24))) (M1 := M24) (φ1 := φ) (st1 := [.int r24]) (j1 := 0) (j2 := 0) (ar_V (As := [.int t1, .int t2]) (rest := []) hB (c_M_sets (bf_G hB) hF hr24) ml_M_263 md_M_sets rc_M_sets (sf_lt hF (by decide)) kk_134 rfl rfl (Nat.le_of_ble_eq_true rfl) rm_M_setAdjusted_M_sets e_M_setAdjusted_24) rfl rfl rfl ?_
  refine a_iconst (v := 1) hB e_M_setAdjusted_27 ic_1 ?_
  refine a_icmp_ne (tgt := 35) hB e_M_setAdjusted_28 (by decide) (fun c => ?_) (fun c => ?_)
  · have h := iq c h
    refine a_iconst (v := 0) hB e_M_setAdjusted_35 ic_0 ?_
    exact t_M_setAdjusted_36 hB hF h
  · have h := ip c h
    refine a_iconst (v := 1) hB e_M_setAdjusted_31 ic_1 ?_
    refine a_goto (tgt := 36) hB e_M_setAdjusted_32 (by decide) ?_
    exact t_M_setAdjusted_36 hB hF h
set_option maxRecDepth 100000 in
theorem t_M_setAdjusted {G : Gt} {φ : Ph} {B : Bag} (hB : BF G I_M_setAdjusted B) (hF : SF 148 φ)    {o : Int32} {M9 : Mm} {l1 : Int32} {M : Mm} (h : f_M_setAdjusted l1 M = some (o, M9)) : AW G I_M_setAdjusted B (QM G I_M_setAdjusted B (.inl (some (.int o))) M9 φ) 0 0 0 [(0, .ref 134), (1, .int l1)] [] M φ := by
  unfold f_M_setAdjusted at h
  refine a_aload_n (j := 0) hB e_M_setAdjusted_0 rfl rfl ?_
  refine a_iconst (v := 0) hB e_M_setAdjusted_1 ic_0 ?_
  obtain ⟨M2, hM2, h⟩ := bm_i h
  refine a_putI (k := 7) hB e_M_setAdjusted_2 fw_M_79 (sf_lt hF (by decide)) kk_134 tt_134_7 ?_
  refine a_mem hM2 ?_
  refine a_aload_n (j := 0) hB e_M_setAdjusted_5 rfl rfl ?_
  refine a_aload_n (j := 0) hB e_M_setAdjusted_6 rfl rfl ?_
  refine a_getR (r := 135) (k := 0) hB e_M_setAdjusted_7 fl_M_9 (sf_lt hF (by decide)) kk_134 tt_134_0 (hF.1 _ _) ?_
  obtain ⟨M10, hr10, h⟩ := bn_i h
  refine a_ret (v := none) (M1 := M10) (φ1 := φ) (st1 := []) (j1 := 0) (j2 := 0) (ar_V (As := [.ref 135]) (rest := []) hB (c_M_remember (bf_G hB) hF kk_135 (by decide) ll_135 hr10) ml_M_280 md_M_remember rc_M_remember (sf_lt hF (by decide)) kk_134 rfl rfl (Nat.le_of_ble_eq_true rfl) rm_M_setAdjusted_M_remember e_M_setAdjusted_10) rfl rfl rfl ?_
  refine a_aload_n (j := 0) hB e_M_setAdjusted_13 rfl rfl ?_
  refine a_iconst (v := 3) hB e_M_setAdjusted_14 ic_3 ?_
  refine a_iload_n (j := 1) hB e_M_setAdjusted_15 rfl rfl ?_
  refine a_if_eq (tgt := 23) hB e_M_setAdjusted_16 (by decide) (fun c => ?_) (fun c => ?_)
  · have h := ip c h
    refine a_iconst (v := 0) hB e_M_setAdjusted_23 ic_0 ?_
    refine a_ls [] (ls' := []) rfl ?_
    exact t_M_setAdjusted_24 hB hF h
  · have h := iq c h
    refine a_iconst (v := 1) hB e_M_setAdjusted_19 ic_1 ?_
    refine a_goto (tgt := 24) hB e_M_setAdjusted_20 (by decide) ?_
    refine a_ls [] (ls' := []) rfl ?_
    exact t_M_setAdjusted_24 hB hF h
set_option maxRecDepth 100000 in
theorem c_M_setAdjusted {G : Gt} (hG : GOK G) {φ : Ph} (hF : SF 148 φ)   {M : Mm} {l1 : Int32} {o : Int32} {M9 : Mm} (h : f_M_setAdjusted l1 M = some (o, M9)) : CT G I_M_setAdjusted [.ref 134, .int l1] M φ (.inl (some (.int o))) M9 φ :=
  ct_of hG (by decide) (Nat.le_of_ble_eq_true rfl) (fun B hB => t_M_setAdjusted hB hF  h)
set_option maxRecDepth 100000 in
theorem t_M_undo_13 {G : Gt} {φ : Ph} {B : Bag} (hB : BF G I_M_undo B) (hF : SF 148 φ)    {o : Int32} {M9 : Mm} {t1 : Int32} {M : Mm} (h : f_M_undo_13 t1 M = some (o, M9)) : AW G I_M_undo B (QM G I_M_undo B (.inl (some (.int o))) M9 φ) 0 0 13 [(0, .ref 134)] [.int t1, .ref 134] M φ := by
  unfold f_M_undo_13 at h
  refine a_iconst (v := 0) hB e_M_undo_13 ic_0 ?_
  refine a_iconst (v := 0) hB e_M_undo_14 ic_0 ?_
  obtain ⟨r15, M15, hr15, h⟩ := bn2_i h
  refine a_ret (v := (some (.int r15))) (M1 := M15) (φ1 := φ) (st1 := [.int r15]) (j1 := 0) (j2 := 0) (ar_V (As := [.int t1, .int (0 : Int32), .int (0 : Int32)]) (rest := []) hB (c_M_fails (bf_G hB) hF hr15) ml_M_160 md_M_fails rc_M_fails (sf_lt hF (by decide)) kk_134 rfl rfl (Nat.le_of_ble_eq_true rfl) rm_M_undo_M_fails e_M_undo_15) rfl rfl rfl ?_
  refine a_if_eq (tgt := 23) hB e_M_undo_18 (by decide) (fun c => ?_) (fun c => ?_)
  · have h := ip c h
    refine a_aload_n (j := 0) hB e_M_undo_23 rfl rfl ?_
    refine a_dup hB e_M_undo_24 rfl ?_
    refine a_getI (k := 6) hB e_M_undo_25 fl_M_76 (sf_lt hF (by decide)) kk_134 tt_134_6 ?_
    refine a_iconst (v := 1) hB e_M_undo_28 ic_1 ?_
    refine a_isub hB e_M_undo_29 ?_
    obtain ⟨M30, hM30, h⟩ := bm_i h
    refine a_putI (k := 6) hB e_M_undo_30 fw_M_76 (sf_lt hF (by decide)) kk_134 tt_134_6 ?_
    refine a_mem hM30 ?_
    refine a_aload_n (j := 0) hB e_M_undo_33 rfl rfl ?_
    refine a_getR (r := 137) (k := 2) hB e_M_undo_34 fl_M_16 (sf_lt hF (by decide)) kk_134 tt_134_2 (hF.1 _ _) ?_
    refine a_aload_n (j := 0) hB e_M_undo_37 rfl rfl ?_
    refine a_getI (k := 6) hB e_M_undo_38 fl_M_76 (sf_lt hF (by decide)) kk_134 tt_134_6 ?_
    refine a_sipush (v := 284) hB e_M_undo_41 sp_284 ?_
    refine a_imul hB e_M_undo_44 ?_
    refine a_aload_n (j := 0) hB e_M_undo_45 rfl rfl ?_
    refine a_getR (r := 135) (k := 0) hB e_M_undo_46 fl_M_9 (sf_lt hF (by decide)) kk_134 tt_134_0 (hF.1 _ _) ?_
    refine a_iconst (v := 0) hB e_M_undo_49 ic_0 ?_
    obtain ⟨M50, hr50, h⟩ := bn_i h
    refine a_ret (v := none) (M1 := M50) (φ1 := φ) (st1 := []) (j1 := 0) (j2 := 0) (ar_S (As := [.ref 137, .int ((M30 134 6) * (284 : Int32)), .ref 135, .int (0 : Int32)]) (rest := []) hB (c_M_copy (bf_G hB) hF kk_137 (by decide) kk_135 (by decide) hr50) ml_M_88 md_M_copy rfl rfl (Nat.le_of_ble_eq_true rfl) rm_M_undo_M_copy e_M_undo_50) rfl rfl rfl ?_
    refine a_aload_n (j := 0) hB e_M_undo_53 rfl rfl ?_
    refine a_getI (k := 6) hB e_M_undo_54 fl_M_76 (sf_lt hF (by decide)) kk_134 tt_134_6 ?_
    cases h
    exact a_iret hB rfl e_M_undo_57 (by decide) (by decide)
  · have h := iq c h
    refine a_iconst (v := 0) hB e_M_undo_21 ic_0 ?_
    cases h
    exact a_iret hB rfl e_M_undo_22 (by decide) (by decide)
set_option maxRecDepth 100000 in
theorem t_M_undo {G : Gt} {φ : Ph} {B : Bag} (hB : BF G I_M_undo B) (hF : SF 148 φ)    {o : Int32} {M9 : Mm}  {M : Mm} (h : f_M_undo M = some (o, M9)) : AW G I_M_undo B (QM G I_M_undo B (.inl (some (.int o))) M9 φ) 0 0 0 [(0, .ref 134)] [] M φ := by
  unfold f_M_undo at h
  refine a_aload_n (j := 0) hB e_M_undo_0 rfl rfl ?_
  refine a_aload_n (j := 0) hB e_M_undo_1 rfl rfl ?_
  refine a_getI (k := 6) hB e_M_undo_2 fl_M_76 (sf_lt hF (by decide)) kk_134 tt_134_6 ?_
  refine a_if_ne (tgt := 12) hB e_M_undo_5 (by decide) (fun c => ?_) (fun c => ?_)
  · have h := iq c h
    refine a_iconst (v := 0) hB e_M_undo_12 ic_0 ?_
    exact t_M_undo_13 hB hF h
  · have h := ip c h
    refine a_iconst (v := 1) hB e_M_undo_8 ic_1 ?_
    refine a_goto (tgt := 13) hB e_M_undo_9 (by decide) ?_
    exact t_M_undo_13 hB hF h
set_option maxRecDepth 100000 in
theorem c_M_undo {G : Gt} (hG : GOK G) {φ : Ph} (hF : SF 148 φ)   {M : Mm}  {o : Int32} {M9 : Mm} (h : f_M_undo M = some (o, M9)) : CT G I_M_undo [.ref 134] M φ (.inl (some (.int o))) M9 φ :=
  ct_of hG (by decide) (Nat.le_of_ble_eq_true rfl) (fun B hB => t_M_undo hB hF  h)
set_option maxRecDepth 100000 in
theorem t_M_save_15 {G : Gt} {φ : Ph} {B : Bag} (hB : BF G I_M_save B) (hF : SF 148 φ)    {o : Int32} {M9 : Mm} {l1 : Int32} {t1 : Int32} {M : Mm} (h : f_M_save_15 l1 t1 M = some (o, M9)) : AW G I_M_save B (QM G I_M_save B (.inl (some (.int o))) M9 φ) 0 0 15 [(0, .ref 134), (1, .int l1)] [.int t1, .ref 134] M φ := by
  unfold f_M_save_15 at h
  refine a_iconst (v := 0) hB e_M_save_15 ic_0 ?_
  refine a_iconst (v := 0) hB e_M_save_16 ic_0 ?_
  obtain ⟨r17, M17, hr17, h⟩ := bn2_i h
  refine a_ret (v := (some (.int r17))) (M1 := M17) (φ1 := φ) (st1 := [.int r17]) (j1 := 0) (j2 := 0) (ar_V (As := [.int t1, .int (0 : Int32), .int (0 : Int32)]) (rest := []) hB (c_M_fails (bf_G hB) hF hr17) ml_M_160 md_M_fails rc_M_fails (sf_lt hF (by decide)) kk_134 rfl rfl (Nat.le_of_ble_eq_true rfl) rm_M_save_M_fails e_M_save_17) rfl rfl rfl ?_
  refine a_if_eq (tgt := 25) hB e_M_save_20 (by decide) (fun c => ?_) (fun c => ?_)
  · have h := ip c h
    refine a_aload_n (j := 0) hB e_M_save_25 rfl rfl ?_
    refine a_getR (r := 135) (k := 0) hB e_M_save_26 fl_M_9 (sf_lt hF (by decide)) kk_134 tt_134_0 (hF.1 _ _) ?_
    refine a_iconst (v := 0) hB e_M_save_29 ic_0 ?_
    refine a_aload_n (j := 0) hB e_M_save_30 rfl rfl ?_
    refine a_getR (r := 138) (k := 3) hB e_M_save_31 fl_M_19 (sf_lt hF (by decide)) kk_134 tt_134_3 (hF.1 _ _) ?_
    refine a_iload_n (j := 1) hB e_M_save_34 rfl rfl ?_
    refine a_sipush (v := 284) hB e_M_save_35 sp_284 ?_
    refine a_imul hB e_M_save_38 ?_
    obtain ⟨M39, hr39, h⟩ := bn_i h
    refine a_ret (v := none) (M1 := M39) (φ1 := φ) (st1 := []) (j1 := 0) (j2 := 0) (ar_S (As := [.ref 135, .int (0 : Int32), .ref 138, .int (l1 * (284 : Int32))]) (rest := []) hB (c_M_copy (bf_G hB) hF kk_135 (by decide) kk_138 (by decide) hr39) ml_M_88 md_M_copy rfl rfl (Nat.le_of_ble_eq_true rfl) rm_M_save_M_copy e_M_save_39) rfl rfl rfl ?_
    refine a_aload_n (j := 0) hB e_M_save_42 rfl rfl ?_
    refine a_getR (r := 140) (k := 5) hB e_M_save_43 fl_M_25 (sf_lt hF (by decide)) kk_134 tt_134_5 (hF.1 _ _) ?_
    refine a_iload_n (j := 1) hB e_M_save_46 rfl rfl ?_
    refine a_iconst (v := 1) hB e_M_save_47 ic_1 ?_
    obtain ⟨c48, h⟩ := chk_i h
    obtain ⟨M48, hM48, h⟩ := bm_i h
    refine a_zast' hB e_M_save_48 (sf_lt hF (by decide)) kk_140 ll_140 c48 (Or.inr rfl) ?_
    refine a_mem hM48 ?_
    refine a_aload_n (j := 0) hB e_M_save_49 rfl rfl ?_
    refine a_getR (r := 135) (k := 0) hB e_M_save_50 fl_M_9 (sf_lt hF (by decide)) kk_134 tt_134_0 (hF.1 _ _) ?_
    refine a_iconst (v := 0) hB e_M_save_53 ic_0 ?_
    refine a_iald' hB e_M_save_54 (sf_lt hF (by decide)) kk_135 ll_135 (by decide) ?_
    cases h
    exact a_iret hB rfl e_M_save_55 (by decide) (by decide)
  · have h := iq c h
    refine a_iconst (v := 0) hB e_M_save_23 ic_0 ?_
    cases h
    exact a_iret hB rfl e_M_save_24 (by decide) (by decide)
set_option maxRecDepth 100000 in
theorem t_M_save {G : Gt} {φ : Ph} {B : Bag} (hB : BF G I_M_save B) (hF : SF 148 φ)    {o : Int32} {M9 : Mm} {l1 : Int32} {M : Mm} (h : f_M_save l1 M = some (o, M9)) : AW G I_M_save B (QM G I_M_save B (.inl (some (.int o))) M9 φ) 0 0 0 [(0, .ref 134), (1, .int l1)] [] M φ := by
  unfold f_M_save at h
  refine a_aload_n (j := 0) hB e_M_save_0 rfl rfl ?_
  refine a_iload_n (j := 1) hB e_M_save_1 rfl rfl ?_
  refine a_iconst (v := 0) hB e_M_save_2 ic_0 ?_
  refine a_iconst (v := 1) hB e_M_save_3 ic_1 ?_
  obtain ⟨r4, hr4, h⟩ := bn_i h
  refine a_ret (v := (some (.int r4))) (M1 := M) (φ1 := φ) (st1 := [.int r4, .ref 134]) (j1 := 0) (j2 := 0) (ar_S (As := [.int l1, .int (0 : Int32), .int (1 : Int32)]) (rest := [.ref 134]) hB (c_M_isIn (bf_G hB) hF hr4) ml_M_92 md_M_isIn rfl rfl (Nat.le_of_ble_eq_true rfl) rm_M_save_M_isIn e_M_save_4) rfl rfl rfl ?_
  refine a_if_ne (tgt := 14) hB e_M_save_7 (by decide) (fun c => ?_) (fun c => ?_)
  · have h := iq c h
    refine a_iconst (v := 0) hB e_M_save_14 ic_0 ?_
    exact t_M_save_15 hB hF h
  · have h := ip c h
    refine a_iconst (v := 1) hB e_M_save_10 ic_1 ?_
    refine a_goto (tgt := 15) hB e_M_save_11 (by decide) ?_
    exact t_M_save_15 hB hF h
set_option maxRecDepth 100000 in
theorem c_M_save {G : Gt} (hG : GOK G) {φ : Ph} (hF : SF 148 φ)   {M : Mm} {l1 : Int32} {o : Int32} {M9 : Mm} (h : f_M_save l1 M = some (o, M9)) : CT G I_M_save [.ref 134, .int l1] M φ (.inl (some (.int o))) M9 φ :=
  ct_of hG (by decide) (Nat.le_of_ble_eq_true rfl) (fun B hB => t_M_save hB hF  h)
set_option maxRecDepth 100000 in
theorem t_M_restore_35 {G : Gt} {φ : Ph} {B : Bag} (hB : BF G I_M_restore B) (hF : SF 148 φ)    {o : Int32} {M9 : Mm} {l1 : Int32} {t1 : Int32} {t2 : Int32} {M : Mm} (h : f_M_restore_35 l1 t1 t2 M = some (o, M9)) : AW G I_M_restore B (QM G I_M_restore B (.inl (some (.int o))) M9 φ) 0 0 35 [(0, .ref 134), (1, .int l1)] [.int t2, .int t1, .ref 134] M φ := by
  unfold f_M_restore_35 at h
  refine a_iconst (v := 0) hB e_M_restore_35 ic_0 ?_
  obtain ⟨r36, M36, hr36, h⟩ := bn2_i h
  refine a_ret (v := (some (.int r36))) (M1 := M36) (φ1 := φ) (st1 := [.int r36]) (j1 := 0) (j2 := 0) (ar_V (As := [.int t1, .int t2, .int (0 : Int32)]) (rest := []) hB (c_M_fails (bf_G hB) hF hr36) ml_M_160 md_M_fails rc_M_fails (sf_lt hF (by decide)) kk_134 rfl rfl (Nat.le_of_ble_eq_true rfl) rm_M_restore_M_fails e_M_restore_36) rfl rfl rfl ?_
  refine a_if_eq (tgt := 44) hB e_M_restore_39 (by decide) (fun c => ?_) (fun c => ?_)
  · have h := ip c h
    refine a_aload_n (j := 0) hB e_M_restore_44 rfl rfl ?_
    refine a_aload_n (j := 0) hB e_M_restore_45 rfl rfl ?_
    refine a_getR (r := 135) (k := 0) hB e_M_restore_46 fl_M_9 (sf_lt hF (by decide)) kk_134 tt_134_0 (hF.1 _ _) ?_
    obtain ⟨M49, hr49, h⟩ := bn_i h
    refine a_ret (v := none) (M1 := M49) (φ1 := φ) (st1 := []) (j1 := 0) (j2 := 0) (ar_V (As := [.ref 135]) (rest := []) hB (c_M_remember (bf_G hB) hF kk_135 (by decide) ll_135 hr49) ml_M_280 md_M_remember rc_M_remember (sf_lt hF (by decide)) kk_134 rfl rfl (Nat.le_of_ble_eq_true rfl) rm_M_restore_M_remember e_M_restore_49) rfl rfl rfl ?_
    refine a_aload_n (j := 0) hB e_M_restore_52 rfl rfl ?_
    refine a_getR (r := 138) (k := 3) hB e_M_restore_53 fl_M_19 (sf_lt hF (by decide)) kk_134 tt_134_3 (hF.1 _ _) ?_
    refine a_iload_n (j := 1) hB e_M_restore_56 rfl rfl ?_
    refine a_sipush (v := 284) hB e_M_restore_57 sp_284 ?_
    refine a_imul hB e_M_restore_60 ?_
    refine a_aload_n (j := 0) hB e_M_restore_61 rfl rfl ?_
    refine a_getR (r := 135) (k := 0) hB e_M_restore_62 fl_M_9 (sf_lt hF (by decide)) kk_134 tt_134_0 (hF.1 _ _) ?_
    refine a_iconst (v := 0) hB e_M_restore_65 ic_0 ?_
    obtain ⟨M66, hr66, h⟩ := bn_i h
    refine a_ret (v := none) (M1 := M66) (φ1 := φ) (st1 := []) (j1 := 0) (j2 := 0) (ar_S (As := [.ref 138, .int (l1 * (284 : Int32)), .ref 135, .int (0 : Int32)]) (rest := []) hB (c_M_copy (bf_G hB) hF kk_138 (by decide) kk_135 (by decide) hr66) ml_M_88 md_M_copy rfl rfl (Nat.le_of_ble_eq_true rfl) rm_M_restore_M_copy e_M_restore_66) rfl rfl rfl ?_
    refine a_aload_n (j := 0) hB e_M_restore_69 rfl rfl ?_
    refine a_getR (r := 135) (k := 0) hB e_M_restore_70 fl_M_9 (sf_lt hF (by decide)) kk_134 tt_134_0 (hF.1 _ _) ?_
    refine a_iconst (v := 0) hB e_M_restore_73 ic_0 ?_
    refine a_iald' hB e_M_restore_74 (sf_lt hF (by decide)) kk_135 ll_135 (by decide) ?_
    cases h
    exact a_iret hB rfl e_M_restore_75 (by decide) (by decide)
  · have h := iq c h
    refine a_iconst (v := 0) hB e_M_restore_42 ic_0 ?_
    cases h
    exact a_iret hB rfl e_M_restore_43 (by decide) (by decide)
set_option maxRecDepth 100000 in
theorem t_M_restore_34 {G : Gt} {φ : Ph} {B : Bag} (hB : BF G I_M_restore B) (hF : SF 148 φ)    {o : Int32} {M9 : Mm} {l1 : Int32} {t1 : Int32} {M : Mm} (h : f_M_restore_34 l1 t1 M = some (o, M9)) : AW G I_M_restore B (QM G I_M_restore B (.inl (some (.int o))) M9 φ) 0 0 34 [(0, .ref 134), (1, .int l1)] [.int t1, .ref 134] M φ := by
  unfold f_M_restore_34 at h
  refine a_iconst (v := 0) hB e_M_restore_34 ic_0 ?_
  exact t_M_restore_35 hB hF h
set_option maxRecDepth 100000 in
theorem t_M_restore_14 {G : Gt} {φ : Ph} {B : Bag} (hB : BF G I_M_restore B) (hF : SF 148 φ)    {o : Int32} {M9 : Mm} {l1 : Int32} {t0 : Int32} {M : Mm} (h : f_M_restore_14 l1 t0 M = some (o, M9)) : AW G I_M_restore B (QM G I_M_restore B (.inl (some (.int o))) M9 φ) 0 0 14 [(0, .ref 134), (1, .int l1)] [.int t0] M φ := by
  unfold f_M_restore_14 at h
  refine a_istore_n (ls' := [(2, .int t0), (0, .ref 134), (1, .int l1)]) hB e_M_restore_14 rfl (Nat.le_of_ble_eq_true rfl) rfl ?_
  refine a_aload_n (j := 1) hB e_M_restore_15 rfl rfl ?_
  refine a_iload_n (j := 0) hB e_M_restore_16 rfl rfl ?_
  refine a_iload_n (j := 0) hB e_M_restore_17 rfl rfl ?_
  refine a_if_ne (tgt := 34) hB e_M_restore_18 (by decide) (fun c => ?_) (fun c => ?_)
  · have h := iq c h
    refine a_ls [1, 2] (ls' := [(0, .ref 134), (1, .int l1)]) rfl ?_
    exact t_M_restore_34 hB hF h
  · have h := ip c h
    refine a_aload_n (j := 1) hB e_M_restore_21 rfl rfl ?_
    refine a_getR (r := 140) (k := 5) hB e_M_restore_22 fl_M_25 (sf_lt hF (by decide)) kk_134 tt_134_5 (hF.1 _ _) ?_
    refine a_iload_n (j := 2) hB e_M_restore_25 rfl rfl ?_
    obtain ⟨c26, h⟩ := chk_i h
    refine a_zald' hB e_M_restore_26 (sf_lt hF (by decide)) kk_140 ll_140 c26 ?_
    refine a_if_ne (tgt := 34) hB e_M_restore_27 (by decide) (fun c => ?_) (fun c => ?_)
    · have h := iq c h
      refine a_ls [1, 2] (ls' := [(0, .ref 134), (1, .int l1)]) rfl ?_
      exact t_M_restore_34 hB hF h
    · have h := ip c h
      refine a_iconst (v := 1) hB e_M_restore_30 ic_1 ?_
      refine a_goto (tgt := 35) hB e_M_restore_31 (by decide) ?_
      refine a_ls [1, 2] (ls' := [(0, .ref 134), (1, .int l1)]) rfl ?_
      exact t_M_restore_35 hB hF h
set_option maxRecDepth 100000 in
theorem t_M_restore {G : Gt} {φ : Ph} {B : Bag} (hB : BF G I_M_restore B) (hF : SF 148 φ)    {o : Int32} {M9 : Mm} {l1 : Int32} {M : Mm} (h : f_M_restore l1 M = some (o, M9)) : AW G I_M_restore B (QM G I_M_restore B (.inl (some (.int o))) M9 φ) 0 0 0 [(0, .ref 134), (1, .int l1)] [] M φ := by
  unfold f_M_restore at h
  refine a_iload_n (j := 1) hB e_M_restore_0 rfl rfl ?_
  refine a_iconst (v := 0) hB e_M_restore_1 ic_0 ?_
  refine a_iconst (v := 1) hB e_M_restore_2 ic_1 ?_
  obtain ⟨r3, hr3, h⟩ := bn_i h
  refine a_ret (v := (some (.int r3))) (M1 := M) (φ1 := φ) (st1 := [.int r3]) (j1 := 0) (j2 := 0) (ar_S (As := [.int l1, .int (0 : Int32), .int (1 : Int32)]) (rest := []) hB (c_M_isIn (bf_G hB) hF hr3) ml_M_92 md_M_isIn rfl rfl (Nat.le_of_ble_eq_true rfl) rm_M_restore_M_isIn e_M_restore_3) rfl rfl rfl ?_
  refine a_if_ne (tgt := 13) hB e_M_restore_6 (by decide) (fun c => ?_) (fun c => ?_)
  · have h := iq c h
    refine a_iconst (v := 0) hB e_M_restore_13 ic_0 ?_
    exact t_M_restore_14 hB hF h
  · have h := ip c h
    refine a_iconst (v := 1) hB e_M_restore_9 ic_1 ?_
    refine a_goto (tgt := 14) hB e_M_restore_10 (by decide) ?_
    exact t_M_restore_14 hB hF h
set_option maxRecDepth 100000 in
theorem c_M_restore {G : Gt} (hG : GOK G) {φ : Ph} (hF : SF 148 φ)   {M : Mm} {l1 : Int32} {o : Int32} {M9 : Mm} (h : f_M_restore l1 M = some (o, M9)) : CT G I_M_restore [.ref 134, .int l1] M φ (.inl (some (.int o))) M9 φ :=
  ct_of hG (by decide) (Nat.le_of_ble_eq_true rfl) (fun B hB => t_M_restore hB hF  h)
set_option maxRecDepth 100000 in
theorem t_M_legCount {G : Gt} {φ : Ph} {B : Bag} (hB : BF G I_M_legCount B) (hF : SF 148 φ)    {o : Int32} {M9 : Mm}  {M : Mm} (h : f_M_legCount M = some (o, M9)) : AW G I_M_legCount B (QM G I_M_legCount B (.inl (some (.int o))) M9 φ) 0 0 0 [(0, .ref 134)] [] M φ := by
  unfold f_M_legCount at h
  refine a_aload_n (j := 0) hB e_M_legCount_0 rfl rfl ?_
  refine a_aload_n (j := 0) hB e_M_legCount_1 rfl rfl ?_
  refine a_getR (r := 135) (k := 0) hB e_M_legCount_2 fl_M_9 (sf_lt hF (by decide)) kk_134 tt_134_0 (hF.1 _ _) ?_
  refine a_iconst (v := 0) hB e_M_legCount_5 ic_0 ?_
  refine a_iald' hB e_M_legCount_6 (sf_lt hF (by decide)) kk_135 ll_135 (by decide) ?_
  obtain ⟨r7, M7, hr7, h⟩ := bn2_i h
  refine a_ret (v := (some (.int r7))) (M1 := M7) (φ1 := φ) (st1 := [.int r7]) (j1 := 0) (j2 := 0) (ar_V (As := [.int (M 135 (ix (0 : Int32)))]) (rest := []) hB (c_M_told (bf_G hB) hF hr7) ml_M_292 md_M_told rc_M_told (sf_lt hF (by decide)) kk_134 rfl rfl (Nat.le_of_ble_eq_true rfl) rm_M_legCount_M_told e_M_legCount_7) rfl rfl rfl ?_
  cases h
  exact a_iret hB rfl e_M_legCount_10 (by decide) (by decide)
set_option maxRecDepth 100000 in
theorem c_M_legCount {G : Gt} (hG : GOK G) {φ : Ph} (hF : SF 148 φ)   {M : Mm}  {o : Int32} {M9 : Mm} (h : f_M_legCount M = some (o, M9)) : CT G I_M_legCount [.ref 134] M φ (.inl (some (.int o))) M9 φ :=
  ct_of hG (by decide) (Nat.le_of_ble_eq_true rfl) (fun B hB => t_M_legCount hB hF  h)
set_option maxRecDepth 100000 in
theorem t_M_stationCount {G : Gt} {φ : Ph} {B : Bag} (hB : BF G I_M_stationCount B) (hF : SF 148 φ)    {o : Int32} {M9 : Mm}  {M : Mm} (h : f_M_stationCount M = some (o, M9)) : AW G I_M_stationCount B (QM G I_M_stationCount B (.inl (some (.int o))) M9 φ) 0 0 0 [(0, .ref 134)] [] M φ := by
  unfold f_M_stationCount at h
  refine a_aload_n (j := 0) hB e_M_stationCount_0 rfl rfl ?_
  refine a_aload_n (j := 0) hB e_M_stationCount_1 rfl rfl ?_
  refine a_getR (r := 135) (k := 0) hB e_M_stationCount_2 fl_M_9 (sf_lt hF (by decide)) kk_134 tt_134_0 (hF.1 _ _) ?_
  refine a_iconst (v := 0) hB e_M_stationCount_5 ic_0 ?_
  refine a_iald' hB e_M_stationCount_6 (sf_lt hF (by decide)) kk_135 ll_135 (by decide) ?_
  refine a_iconst (v := 1) hB e_M_stationCount_7 ic_1 ?_
  refine a_iadd hB e_M_stationCount_8 ?_
  obtain ⟨r9, M9, hr9, h⟩ := bn2_i h
  refine a_ret (v := (some (.int r9))) (M1 := M9) (φ1 := φ) (st1 := [.int r9]) (j1 := 0) (j2 := 0) (ar_V (As := [.int ((M 135 (ix (0 : Int32))) + (1 : Int32))]) (rest := []) hB (c_M_told (bf_G hB) hF hr9) ml_M_292 md_M_told rc_M_told (sf_lt hF (by decide)) kk_134 rfl rfl (Nat.le_of_ble_eq_true rfl) rm_M_stationCount_M_told e_M_stationCount_9) rfl rfl rfl ?_
  cases h
  exact a_iret hB rfl e_M_stationCount_12 (by decide) (by decide)
set_option maxRecDepth 100000 in
theorem c_M_stationCount {G : Gt} (hG : GOK G) {φ : Ph} (hF : SF 148 φ)   {M : Mm}  {o : Int32} {M9 : Mm} (h : f_M_stationCount M = some (o, M9)) : CT G I_M_stationCount [.ref 134] M φ (.inl (some (.int o))) M9 φ :=
  ct_of hG (by decide) (Nat.le_of_ble_eq_true rfl) (fun B hB => t_M_stationCount hB hF  h)
set_option maxRecDepth 100000 in
theorem t_M_wear {G : Gt} {φ : Ph} {B : Bag} (hB : BF G I_M_wear B) (hF : SF 148 φ)    {o : Int32} {M9 : Mm}  {M : Mm} (h : f_M_wear M = some (o, M9)) : AW G I_M_wear B (QM G I_M_wear B (.inl (some (.int o))) M9 φ) 0 0 0 [(0, .ref 134)] [] M φ := by
  unfold f_M_wear at h
  refine a_aload_n (j := 0) hB e_M_wear_0 rfl rfl ?_
  refine a_aload_n (j := 0) hB e_M_wear_1 rfl rfl ?_
  refine a_getR (r := 135) (k := 0) hB e_M_wear_2 fl_M_9 (sf_lt hF (by decide)) kk_134 tt_134_0 (hF.1 _ _) ?_
  refine a_iconst (v := 1) hB e_M_wear_5 ic_1 ?_
  refine a_iald' hB e_M_wear_6 (sf_lt hF (by decide)) kk_135 ll_135 (by decide) ?_
  obtain ⟨r7, M7, hr7, h⟩ := bn2_i h
  refine a_ret (v := (some (.int r7))) (M1 := M7) (φ1 := φ) (st1 := [.int r7]) (j1 := 0) (j2 := 0) (ar_V (As := [.int (M 135 (ix (1 : Int32)))]) (rest := []) hB (c_M_told (bf_G hB) hF hr7) ml_M_292 md_M_told rc_M_told (sf_lt hF (by decide)) kk_134 rfl rfl (Nat.le_of_ble_eq_true rfl) rm_M_wear_M_told e_M_wear_7) rfl rfl rfl ?_
  cases h
  exact a_iret hB rfl e_M_wear_10 (by decide) (by decide)
set_option maxRecDepth 100000 in
theorem c_M_wear {G : Gt} (hG : GOK G) {φ : Ph} (hF : SF 148 φ)   {M : Mm}  {o : Int32} {M9 : Mm} (h : f_M_wear M = some (o, M9)) : CT G I_M_wear [.ref 134] M φ (.inl (some (.int o))) M9 φ :=
  ct_of hG (by decide) (Nat.le_of_ble_eq_true rfl) (fun B hB => t_M_wear hB hF  h)
set_option maxRecDepth 100000 in
theorem t_M_pace {G : Gt} {φ : Ph} {B : Bag} (hB : BF G I_M_pace B) (hF : SF 148 φ)    {o : Int32} {M9 : Mm}  {M : Mm} (h : f_M_pace M = some (o, M9)) : AW G I_M_pace B (QM G I_M_pace B (.inl (some (.int o))) M9 φ) 0 0 0 [(0, .ref 134)] [] M φ := by
  unfold f_M_pace at h
  refine a_aload_n (j := 0) hB e_M_pace_0 rfl rfl ?_
  refine a_aload_n (j := 0) hB e_M_pace_1 rfl rfl ?_
  refine a_getR (r := 135) (k := 0) hB e_M_pace_2 fl_M_9 (sf_lt hF (by decide)) kk_134 tt_134_0 (hF.1 _ _) ?_
  refine a_iconst (v := 2) hB e_M_pace_5 ic_2 ?_
  refine a_iald' hB e_M_pace_6 (sf_lt hF (by decide)) kk_135 ll_135 (by decide) ?_
  obtain ⟨r7, M7, hr7, h⟩ := bn2_i h
  refine a_ret (v := (some (.int r7))) (M1 := M7) (φ1 := φ) (st1 := [.int r7]) (j1 := 0) (j2 := 0) (ar_V (As := [.int (M 135 (ix (2 : Int32)))]) (rest := []) hB (c_M_told (bf_G hB) hF hr7) ml_M_292 md_M_told rc_M_told (sf_lt hF (by decide)) kk_134 rfl rfl (Nat.le_of_ble_eq_true rfl) rm_M_pace_M_told e_M_pace_7) rfl rfl rfl ?_
  cases h
  exact a_iret hB rfl e_M_pace_10 (by decide) (by decide)
set_option maxRecDepth 100000 in
theorem c_M_pace {G : Gt} (hG : GOK G) {φ : Ph} (hF : SF 148 φ)   {M : Mm}  {o : Int32} {M9 : Mm} (h : f_M_pace M = some (o, M9)) : CT G I_M_pace [.ref 134] M φ (.inl (some (.int o))) M9 φ :=
  ct_of hG (by decide) (Nat.le_of_ble_eq_true rfl) (fun B hB => t_M_pace hB hF  h)
set_option maxRecDepth 100000 in
theorem t_M_undoableChanges {G : Gt} {φ : Ph} {B : Bag} (hB : BF G I_M_undoableChanges B) (hF : SF 148 φ)    {o : Int32} {M9 : Mm}  {M : Mm} (h : f_M_undoableChanges M = some (o, M9)) : AW G I_M_undoableChanges B (QM G I_M_undoableChanges B (.inl (some (.int o))) M9 φ) 0 0 0 [(0, .ref 134)] [] M φ := by
  unfold f_M_undoableChanges at h
  refine a_aload_n (j := 0) hB e_M_undoableChanges_0 rfl rfl ?_
  refine a_aload_n (j := 0) hB e_M_undoableChanges_1 rfl rfl ?_
  refine a_getI (k := 6) hB e_M_undoableChanges_2 fl_M_76 (sf_lt hF (by decide)) kk_134 tt_134_6 ?_
  obtain ⟨r5, M5, hr5, h⟩ := bn2_i h
  refine a_ret (v := (some (.int r5))) (M1 := M5) (φ1 := φ) (st1 := [.int r5]) (j1 := 0) (j2 := 0) (ar_V (As := [.int (M 134 6)]) (rest := []) hB (c_M_told (bf_G hB) hF hr5) ml_M_292 md_M_told rc_M_told (sf_lt hF (by decide)) kk_134 rfl rfl (Nat.le_of_ble_eq_true rfl) rm_M_undoableChanges_M_told e_M_undoableChanges_5) rfl rfl rfl ?_
  cases h
  exact a_iret hB rfl e_M_undoableChanges_8 (by decide) (by decide)
set_option maxRecDepth 100000 in
theorem c_M_undoableChanges {G : Gt} (hG : GOK G) {φ : Ph} (hF : SF 148 φ)   {M : Mm}  {o : Int32} {M9 : Mm} (h : f_M_undoableChanges M = some (o, M9)) : CT G I_M_undoableChanges [.ref 134] M φ (.inl (some (.int o))) M9 φ :=
  ct_of hG (by decide) (Nat.le_of_ble_eq_true rfl) (fun B hB => t_M_undoableChanges hB hF  h)
set_option maxRecDepth 100000 in
theorem t_M_isAdjusted_19 {G : Gt} {φ : Ph} {B : Bag} (hB : BF G I_M_isAdjusted B) (hF : SF 148 φ)    {o : Int32} {M9 : Mm} {t0 : Int32} {M : Mm} (h : f_M_isAdjusted_19 t0 M = some (o, M9)) : AW G I_M_isAdjusted B (QM G I_M_isAdjusted B (.inl (some (.int o))) M9 φ) 0 0 19 [] [.int t0] M φ := by
  unfold f_M_isAdjusted_19 at h
  obtain ⟨z19, h⟩ := chk_i h
  cases h
  exact a_zret hB rfl z19 e_M_isAdjusted_19 (by decide) (by decide)
set_option maxRecDepth 100000 in
theorem t_M_isAdjusted {G : Gt} {φ : Ph} {B : Bag} (hB : BF G I_M_isAdjusted B) (hF : SF 148 φ)    {o : Int32} {M9 : Mm}  {M : Mm} (h : f_M_isAdjusted M = some (o, M9)) : AW G I_M_isAdjusted B (QM G I_M_isAdjusted B (.inl (some (.int o))) M9 φ) 0 0 0 [(0, .ref 134)] [] M φ := by
  unfold f_M_isAdjusted at h
  refine a_aload_n (j := 0) hB e_M_isAdjusted_0 rfl rfl ?_
  refine a_aload_n (j := 0) hB e_M_isAdjusted_1 rfl rfl ?_
  refine a_getR (r := 135) (k := 0) hB e_M_isAdjusted_2 fl_M_9 (sf_lt hF (by decide)) kk_134 tt_134_0 (hF.1 _ _) ?_
  refine a_iconst (v := 3) hB e_M_isAdjusted_5 ic_3 ?_
  refine a_iald' hB e_M_isAdjusted_6 (sf_lt hF (by decide)) kk_135 ll_135 (by decide) ?_
  obtain ⟨r7, M7, hr7, h⟩ := bn2_i h
  refine a_ret (v := (some (.int r7))) (M1 := M7) (φ1 := φ) (st1 := [.int r7]) (j1 := 0) (j2 := 0) (ar_V (As := [.int (M 135 (ix (3 : Int32)))]) (rest := []) hB (c_M_told (bf_G hB) hF hr7) ml_M_292 md_M_told rc_M_told (sf_lt hF (by decide)) kk_134 rfl rfl (Nat.le_of_ble_eq_true rfl) rm_M_isAdjusted_M_told e_M_isAdjusted_7) rfl rfl rfl ?_
  refine a_iconst (v := 1) hB e_M_isAdjusted_10 ic_1 ?_
  refine a_icmp_ne (tgt := 18) hB e_M_isAdjusted_11 (by decide) (fun c => ?_) (fun c => ?_)
  · have h := iq c h
    refine a_iconst (v := 0) hB e_M_isAdjusted_18 ic_0 ?_
    refine a_ls [] (ls' := []) rfl ?_
    exact t_M_isAdjusted_19 hB hF h
  · have h := ip c h
    refine a_iconst (v := 1) hB e_M_isAdjusted_14 ic_1 ?_
    refine a_goto (tgt := 19) hB e_M_isAdjusted_15 (by decide) ?_
    refine a_ls [] (ls' := []) rfl ?_
    exact t_M_isAdjusted_19 hB hF h
set_option maxRecDepth 100000 in
theorem c_M_isAdjusted {G : Gt} (hG : GOK G) {φ : Ph} (hF : SF 148 φ)   {M : Mm}  {o : Int32} {M9 : Mm} (h : f_M_isAdjusted M = some (o, M9)) : CT G I_M_isAdjusted [.ref 134] M φ (.inl (some (.int o))) M9 φ :=
  ct_of hG (by decide) (Nat.le_of_ble_eq_true rfl) (fun B hB => t_M_isAdjusted hB hF  h)
set_option maxRecDepth 100000 in
theorem t_M_isBad {G : Gt} {φ : Ph} {B : Bag} (hB : BF G I_M_isBad B) (hF : SF 148 φ)    {o : Int32} {M9 : Mm} {l1 : Int32} {M : Mm} (h : f_M_isBad l1 M = some (o, M9)) : AW G I_M_isBad B (QM G I_M_isBad B (.inl (some (.int o))) M9 φ) 0 0 0 [(0, .ref 134), (1, .int l1)] [] M φ := by
  unfold f_M_isBad at h
  refine a_aload_n (j := 0) hB e_M_isBad_0 rfl rfl ?_
  refine a_aload_n (j := 0) hB e_M_isBad_1 rfl rfl ?_
  refine a_iload_n (j := 1) hB e_M_isBad_2 rfl rfl ?_
  obtain ⟨r3, hr3, h⟩ := bn_i h
  refine a_ret (v := (some (.int r3))) (M1 := M) (φ1 := φ) (st1 := [.int r3, .ref 134]) (j1 := 0) (j2 := 0) (ar_V (As := [.int l1]) (rest := [.ref 134]) hB (c_M_noLeg (bf_G hB) hF hr3) ml_M_306 md_M_noLeg rc_M_noLeg (sf_lt hF (by decide)) kk_134 rfl rfl (Nat.le_of_ble_eq_true rfl) rm_M_isBad_M_noLeg e_M_isBad_3) rfl rfl rfl ?_
  refine a_iconst (v := 0) hB e_M_isBad_6 ic_0 ?_
  refine a_iconst (v := 0) hB e_M_isBad_7 ic_0 ?_
  obtain ⟨r8, M8, hr8, h⟩ := bn2_i h
  refine a_ret (v := (some (.int r8))) (M1 := M8) (φ1 := φ) (st1 := [.int r8]) (j1 := 0) (j2 := 0) (ar_V (As := [.int r3, .int (0 : Int32), .int (0 : Int32)]) (rest := []) hB (c_M_fails (bf_G hB) hF hr8) ml_M_160 md_M_fails rc_M_fails (sf_lt hF (by decide)) kk_134 rfl rfl (Nat.le_of_ble_eq_true rfl) rm_M_isBad_M_fails e_M_isBad_8) rfl rfl rfl ?_
  obtain ⟨z11, h⟩ := chk_i h
  cases h
  exact a_zret hB rfl z11 e_M_isBad_11 (by decide) (by decide)
set_option maxRecDepth 100000 in
theorem c_M_isBad {G : Gt} (hG : GOK G) {φ : Ph} (hF : SF 148 φ)   {M : Mm} {l1 : Int32} {o : Int32} {M9 : Mm} (h : f_M_isBad l1 M = some (o, M9)) : CT G I_M_isBad [.ref 134, .int l1] M φ (.inl (some (.int o))) M9 φ :=
  ct_of hG (by decide) (Nat.le_of_ble_eq_true rfl) (fun B hB => t_M_isBad hB hF  h)
set_option maxRecDepth 100000 in
theorem t_M_bearing_18 {G : Gt} {φ : Ph} {B : Bag} (hB : BF G I_M_bearing B) (hF : SF 148 φ)    {o : Int32} {M9 : Mm} {t0 : Int32} {M : Mm} (h : f_M_bearing_18 t0 M = some (o, M9)) : AW G I_M_bearing B (QM G I_M_bearing B (.inl (some (.int o))) M9 φ) 0 0 18 [] [.int t0] M φ := by
  unfold f_M_bearing_18 at h
  cases h
  exact a_iret hB rfl e_M_bearing_18 (by decide) (by decide)
set_option maxRecDepth 100000 in
theorem t_M_bearing {G : Gt} {φ : Ph} {B : Bag} (hB : BF G I_M_bearing B) (hF : SF 148 φ)    {o : Int32} {M9 : Mm} {l1 : Int32} {M : Mm} (h : f_M_bearing l1 M = some (o, M9)) : AW G I_M_bearing B (QM G I_M_bearing B (.inl (some (.int o))) M9 φ) 0 0 0 [(0, .ref 134), (1, .int l1)] [] M φ := by
  unfold f_M_bearing at h
  refine a_aload_n (j := 0) hB e_M_bearing_0 rfl rfl ?_
  refine a_iload_n (j := 1) hB e_M_bearing_1 rfl rfl ?_
  obtain ⟨r2, M2, hr2, h⟩ := bn2_i h
  refine a_ret (v := (some (.int r2))) (M1 := M2) (φ1 := φ) (st1 := [.int r2]) (j1 := 0) (j2 := 0) (ar_V (As := [.int l1]) (rest := []) hB (c_M_isBad (bf_G hB) hF hr2) ml_M_309 md_M_isBad rc_M_isBad (sf_lt hF (by decide)) kk_134 rfl rfl (Nat.le_of_ble_eq_true rfl) rm_M_bearing_M_isBad e_M_bearing_2) rfl rfl rfl ?_
  refine a_if_eq (tgt := 12) hB e_M_bearing_5 (by decide) (fun c => ?_) (fun c => ?_)
  · have h := ip c h
    refine a_aload_n (j := 0) hB e_M_bearing_12 rfl rfl ?_
    refine a_iload_n (j := 1) hB e_M_bearing_13 rfl rfl ?_
    refine a_iconst (v := 0) hB e_M_bearing_14 ic_0 ?_
    obtain ⟨r15, hr15, h⟩ := bn_i h
    refine a_ret (v := (some (.int r15))) (M1 := M2) (φ1 := φ) (st1 := [.int r15]) (j1 := 0) (j2 := 0) (ar_V (As := [.int l1, .int (0 : Int32)]) (rest := []) hB (c_M_of (bf_G hB) hF hr15) ml_M_96 md_M_of rc_M_of (sf_lt hF (by decide)) kk_134 rfl rfl (Nat.le_of_ble_eq_true rfl) rm_M_bearing_M_of e_M_bearing_15) rfl rfl rfl ?_
    refine a_ls [] (ls' := []) rfl ?_
    exact t_M_bearing_18 hB hF h
  · have h := iq c h
    refine a_iconst (v := 0) hB e_M_bearing_8 ic_0 ?_
    refine a_goto (tgt := 18) hB e_M_bearing_9 (by decide) ?_
    refine a_ls [] (ls' := []) rfl ?_
    exact t_M_bearing_18 hB hF h
set_option maxRecDepth 100000 in
theorem c_M_bearing {G : Gt} (hG : GOK G) {φ : Ph} (hF : SF 148 φ)   {M : Mm} {l1 : Int32} {o : Int32} {M9 : Mm} (h : f_M_bearing l1 M = some (o, M9)) : CT G I_M_bearing [.ref 134, .int l1] M φ (.inl (some (.int o))) M9 φ :=
  ct_of hG (by decide) (Nat.le_of_ble_eq_true rfl) (fun B hB => t_M_bearing hB hF  h)
set_option maxRecDepth 100000 in
theorem t_M_pins_18 {G : Gt} {φ : Ph} {B : Bag} (hB : BF G I_M_pins B) (hF : SF 148 φ)    {o : Int32} {M9 : Mm} {t0 : Int32} {M : Mm} (h : f_M_pins_18 t0 M = some (o, M9)) : AW G I_M_pins B (QM G I_M_pins B (.inl (some (.int o))) M9 φ) 0 0 18 [] [.int t0] M φ := by
  unfold f_M_pins_18 at h
  cases h
  exact a_iret hB rfl e_M_pins_18 (by decide) (by decide)
set_option maxRecDepth 100000 in
theorem t_M_pins {G : Gt} {φ : Ph} {B : Bag} (hB : BF G I_M_pins B) (hF : SF 148 φ)    {o : Int32} {M9 : Mm} {l1 : Int32} {M : Mm} (h : f_M_pins l1 M = some (o, M9)) : AW G I_M_pins B (QM G I_M_pins B (.inl (some (.int o))) M9 φ) 0 0 0 [(0, .ref 134), (1, .int l1)] [] M φ := by
  unfold f_M_pins at h
  refine a_aload_n (j := 0) hB e_M_pins_0 rfl rfl ?_
  refine a_iload_n (j := 1) hB e_M_pins_1 rfl rfl ?_
  obtain ⟨r2, M2, hr2, h⟩ := bn2_i h
  refine a_ret (v := (some (.int r2))) (M1 := M2) (φ1 := φ) (st1 := [.int r2]) (j1 := 0) (j2 := 0) (ar_V (As := [.int l1]) (rest := []) hB (c_M_isBad (bf_G hB) hF hr2) ml_M_309 md_M_isBad rc_M_isBad (sf_lt hF (by decide)) kk_134 rfl rfl (Nat.le_of_ble_eq_true rfl) rm_M_pins_M_isBad e_M_pins_2) rfl rfl rfl ?_
  refine a_if_eq (tgt := 12) hB e_M_pins_5 (by decide) (fun c => ?_) (fun c => ?_)
  · have h := ip c h
    refine a_aload_n (j := 0) hB e_M_pins_12 rfl rfl ?_
    refine a_iload_n (j := 1) hB e_M_pins_13 rfl rfl ?_
    refine a_iconst (v := 1) hB e_M_pins_14 ic_1 ?_
    obtain ⟨r15, hr15, h⟩ := bn_i h
    refine a_ret (v := (some (.int r15))) (M1 := M2) (φ1 := φ) (st1 := [.int r15]) (j1 := 0) (j2 := 0) (ar_V (As := [.int l1, .int (1 : Int32)]) (rest := []) hB (c_M_of (bf_G hB) hF hr15) ml_M_96 md_M_of rc_M_of (sf_lt hF (by decide)) kk_134 rfl rfl (Nat.le_of_ble_eq_true rfl) rm_M_pins_M_of e_M_pins_15) rfl rfl rfl ?_
    refine a_ls [] (ls' := []) rfl ?_
    exact t_M_pins_18 hB hF h
  · have h := iq c h
    refine a_iconst (v := 0) hB e_M_pins_8 ic_0 ?_
    refine a_goto (tgt := 18) hB e_M_pins_9 (by decide) ?_
    refine a_ls [] (ls' := []) rfl ?_
    exact t_M_pins_18 hB hF h
set_option maxRecDepth 100000 in
theorem c_M_pins {G : Gt} (hG : GOK G) {φ : Ph} (hF : SF 148 φ)   {M : Mm} {l1 : Int32} {o : Int32} {M9 : Mm} (h : f_M_pins l1 M = some (o, M9)) : CT G I_M_pins [.ref 134, .int l1] M φ (.inl (some (.int o))) M9 φ :=
  ct_of hG (by decide) (Nat.le_of_ble_eq_true rfl) (fun B hB => t_M_pins hB hF  h)
set_option maxRecDepth 100000 in
theorem t_M_droppedPins_18 {G : Gt} {φ : Ph} {B : Bag} (hB : BF G I_M_droppedPins B) (hF : SF 148 φ)    {o : Int32} {M9 : Mm} {t0 : Int32} {M : Mm} (h : f_M_droppedPins_18 t0 M = some (o, M9)) : AW G I_M_droppedPins B (QM G I_M_droppedPins B (.inl (some (.int o))) M9 φ) 0 0 18 [] [.int t0] M φ := by
  unfold f_M_droppedPins_18 at h
  cases h
  exact a_iret hB rfl e_M_droppedPins_18 (by decide) (by decide)
set_option maxRecDepth 100000 in
theorem t_M_droppedPins {G : Gt} {φ : Ph} {B : Bag} (hB : BF G I_M_droppedPins B) (hF : SF 148 φ)    {o : Int32} {M9 : Mm} {l1 : Int32} {M : Mm} (h : f_M_droppedPins l1 M = some (o, M9)) : AW G I_M_droppedPins B (QM G I_M_droppedPins B (.inl (some (.int o))) M9 φ) 0 0 0 [(0, .ref 134), (1, .int l1)] [] M φ := by
  unfold f_M_droppedPins at h
  refine a_aload_n (j := 0) hB e_M_droppedPins_0 rfl rfl ?_
  refine a_iload_n (j := 1) hB e_M_droppedPins_1 rfl rfl ?_
  obtain ⟨r2, M2, hr2, h⟩ := bn2_i h
  refine a_ret (v := (some (.int r2))) (M1 := M2) (φ1 := φ) (st1 := [.int r2]) (j1 := 0) (j2 := 0) (ar_V (As := [.int l1]) (rest := []) hB (c_M_isBad (bf_G hB) hF hr2) ml_M_309 md_M_isBad rc_M_isBad (sf_lt hF (by decide)) kk_134 rfl rfl (Nat.le_of_ble_eq_true rfl) rm_M_droppedPins_M_isBad e_M_droppedPins_2) rfl rfl rfl ?_
  refine a_if_eq (tgt := 12) hB e_M_droppedPins_5 (by decide) (fun c => ?_) (fun c => ?_)
  · have h := ip c h
    refine a_aload_n (j := 0) hB e_M_droppedPins_12 rfl rfl ?_
    refine a_iload_n (j := 1) hB e_M_droppedPins_13 rfl rfl ?_
    refine a_iconst (v := 3) hB e_M_droppedPins_14 ic_3 ?_
    obtain ⟨r15, hr15, h⟩ := bn_i h
    refine a_ret (v := (some (.int r15))) (M1 := M2) (φ1 := φ) (st1 := [.int r15]) (j1 := 0) (j2 := 0) (ar_V (As := [.int l1, .int (3 : Int32)]) (rest := []) hB (c_M_of (bf_G hB) hF hr15) ml_M_96 md_M_of rc_M_of (sf_lt hF (by decide)) kk_134 rfl rfl (Nat.le_of_ble_eq_true rfl) rm_M_droppedPins_M_of e_M_droppedPins_15) rfl rfl rfl ?_
    refine a_ls [] (ls' := []) rfl ?_
    exact t_M_droppedPins_18 hB hF h
  · have h := iq c h
    refine a_iconst (v := 0) hB e_M_droppedPins_8 ic_0 ?_
    refine a_goto (tgt := 18) hB e_M_droppedPins_9 (by decide) ?_
    refine a_ls [] (ls' := []) rfl ?_
    exact t_M_droppedPins_18 hB hF h
set_option maxRecDepth 100000 in
theorem c_M_droppedPins {G : Gt} (hG : GOK G) {φ : Ph} (hF : SF 148 φ)   {M : Mm} {l1 : Int32} {o : Int32} {M9 : Mm} (h : f_M_droppedPins l1 M = some (o, M9)) : CT G I_M_droppedPins [.ref 134, .int l1] M φ (.inl (some (.int o))) M9 φ :=
  ct_of hG (by decide) (Nat.le_of_ble_eq_true rfl) (fun B hB => t_M_droppedPins hB hF  h)
set_option maxRecDepth 100000 in
theorem t_M_readLength_17 {G : Gt} {φ : Ph} {B : Bag} (hB : BF G I_M_readLength B) (hF : SF 148 φ)    {o : Int32} {M9 : Mm} {t0 : Int32} {M : Mm} (h : f_M_readLength_17 t0 M = some (o, M9)) : AW G I_M_readLength B (QM G I_M_readLength B (.inl (some (.int o))) M9 φ) 0 0 17 [] [.int t0] M φ := by
  unfold f_M_readLength_17 at h
  cases h
  exact a_iret hB rfl e_M_readLength_17 (by decide) (by decide)
set_option maxRecDepth 100000 in
theorem t_M_readLength {G : Gt} {φ : Ph} {B : Bag} (hB : BF G I_M_readLength B) (hF : SF 148 φ)    {o : Int32} {M9 : Mm} {l1 : Int32} {M : Mm} (h : f_M_readLength l1 M = some (o, M9)) : AW G I_M_readLength B (QM G I_M_readLength B (.inl (some (.int o))) M9 φ) 0 0 0 [(0, .ref 134), (1, .int l1)] [] M φ := by
  unfold f_M_readLength at h
  refine a_aload_n (j := 0) hB e_M_readLength_0 rfl rfl ?_
  refine a_iload_n (j := 1) hB e_M_readLength_1 rfl rfl ?_
  obtain ⟨r2, M2, hr2, h⟩ := bn2_i h
  refine a_ret (v := (some (.int r2))) (M1 := M2) (φ1 := φ) (st1 := [.int r2]) (j1 := 0) (j2 := 0) (ar_V (As := [.int l1]) (rest := []) hB (c_M_isBad (bf_G hB) hF hr2) ml_M_309 md_M_isBad rc_M_isBad (sf_lt hF (by decide)) kk_134 rfl rfl (Nat.le_of_ble_eq_true rfl) rm_M_readLength_M_isBad e_M_readLength_2) rfl rfl rfl ?_
  refine a_if_eq (tgt := 12) hB e_M_readLength_5 (by decide) (fun c => ?_) (fun c => ?_)
  · have h := ip c h
    refine a_aload_n (j := 0) hB e_M_readLength_12 rfl rfl ?_
    refine a_iload_n (j := 1) hB e_M_readLength_13 rfl rfl ?_
    obtain ⟨r14, hr14, h⟩ := bn_i h
    refine a_ret (v := (some (.int r14))) (M1 := M2) (φ1 := φ) (st1 := [.int r14]) (j1 := 0) (j2 := 0) (ar_V (As := [.int l1]) (rest := []) hB (c_M_read (bf_G hB) hF hr14) ml_M_106 md_M_read rc_M_read (sf_lt hF (by decide)) kk_134 rfl rfl (Nat.le_of_ble_eq_true rfl) rm_M_readLength_M_read e_M_readLength_14) rfl rfl rfl ?_
    refine a_ls [] (ls' := []) rfl ?_
    exact t_M_readLength_17 hB hF h
  · have h := iq c h
    refine a_iconst (v := 0) hB e_M_readLength_8 ic_0 ?_
    refine a_goto (tgt := 17) hB e_M_readLength_9 (by decide) ?_
    refine a_ls [] (ls' := []) rfl ?_
    exact t_M_readLength_17 hB hF h
set_option maxRecDepth 100000 in
theorem c_M_readLength {G : Gt} (hG : GOK G) {φ : Ph} (hF : SF 148 φ)   {M : Mm} {l1 : Int32} {o : Int32} {M9 : Mm} (h : f_M_readLength l1 M = some (o, M9)) : CT G I_M_readLength [.ref 134, .int l1] M φ (.inl (some (.int o))) M9 φ :=
  ct_of hG (by decide) (Nat.le_of_ble_eq_true rfl) (fun B hB => t_M_readLength hB hF  h)
set_option maxRecDepth 100000 in
theorem t_M_slopeLength_17 {G : Gt} {φ : Ph} {B : Bag} (hB : BF G I_M_slopeLength B) (hF : SF 148 φ)    {o : Int32} {M9 : Mm} {t0 : Int32} {M : Mm} (h : f_M_slopeLength_17 t0 M = some (o, M9)) : AW G I_M_slopeLength B (QM G I_M_slopeLength B (.inl (some (.int o))) M9 φ) 0 0 17 [] [.int t0] M φ := by
  unfold f_M_slopeLength_17 at h
  cases h
  exact a_iret hB rfl e_M_slopeLength_17 (by decide) (by decide)
set_option maxRecDepth 100000 in
theorem t_M_slopeLength {G : Gt} {φ : Ph} {B : Bag} (hB : BF G I_M_slopeLength B) (hF : SF 148 φ)    {o : Int32} {M9 : Mm} {l1 : Int32} {M : Mm} (h : f_M_slopeLength l1 M = some (o, M9)) : AW G I_M_slopeLength B (QM G I_M_slopeLength B (.inl (some (.int o))) M9 φ) 0 0 0 [(0, .ref 134), (1, .int l1)] [] M φ := by
  unfold f_M_slopeLength at h
  refine a_aload_n (j := 0) hB e_M_slopeLength_0 rfl rfl ?_
  refine a_iload_n (j := 1) hB e_M_slopeLength_1 rfl rfl ?_
  obtain ⟨r2, M2, hr2, h⟩ := bn2_i h
  refine a_ret (v := (some (.int r2))) (M1 := M2) (φ1 := φ) (st1 := [.int r2]) (j1 := 0) (j2 := 0) (ar_V (As := [.int l1]) (rest := []) hB (c_M_isBad (bf_G hB) hF hr2) ml_M_309 md_M_isBad rc_M_isBad (sf_lt hF (by decide)) kk_134 rfl rfl (Nat.le_of_ble_eq_true rfl) rm_M_slopeLength_M_isBad e_M_slopeLength_2) rfl rfl rfl ?_
  refine a_if_eq (tgt := 12) hB e_M_slopeLength_5 (by decide) (fun c => ?_) (fun c => ?_)
  · have h := ip c h
    refine a_aload_n (j := 0) hB e_M_slopeLength_12 rfl rfl ?_
    refine a_iload_n (j := 1) hB e_M_slopeLength_13 rfl rfl ?_
    obtain ⟨r14, hr14, h⟩ := bn_i h
    refine a_ret (v := (some (.int r14))) (M1 := M2) (φ1 := φ) (st1 := [.int r14]) (j1 := 0) (j2 := 0) (ar_V (As := [.int l1]) (rest := []) hB (c_M_slope (bf_G hB) hF hr14) ml_M_116 md_M_slope rc_M_slope (sf_lt hF (by decide)) kk_134 rfl rfl (Nat.le_of_ble_eq_true rfl) rm_M_slopeLength_M_slope e_M_slopeLength_14) rfl rfl rfl ?_
    refine a_ls [] (ls' := []) rfl ?_
    exact t_M_slopeLength_17 hB hF h
  · have h := iq c h
    refine a_iconst (v := 0) hB e_M_slopeLength_8 ic_0 ?_
    refine a_goto (tgt := 17) hB e_M_slopeLength_9 (by decide) ?_
    refine a_ls [] (ls' := []) rfl ?_
    exact t_M_slopeLength_17 hB hF h
set_option maxRecDepth 100000 in
theorem c_M_slopeLength {G : Gt} (hG : GOK G) {φ : Ph} (hF : SF 148 φ)   {M : Mm} {l1 : Int32} {o : Int32} {M9 : Mm} (h : f_M_slopeLength l1 M = some (o, M9)) : CT G I_M_slopeLength [.ref 134, .int l1] M φ (.inl (some (.int o))) M9 φ :=
  ct_of hG (by decide) (Nat.le_of_ble_eq_true rfl) (fun B hB => t_M_slopeLength hB hF  h)
