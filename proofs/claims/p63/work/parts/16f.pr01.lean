/-! their proofs -/
set_option maxRecDepth 100000 in
theorem c_C_init {G : Gt} (hG : GOK G)    {M : Mm}  {M9 : Mm} (h : f_C_init M = some M9) : CT G I_C_init [.ref 0] M (ph [(0, 0)] (1)) (.inl none) M9 (ph [] (134)) :=
  ct_of hG (by decide) (Nat.le_of_ble_eq_true rfl) (fun B hB => t_C_init hB   h)
set_option maxRecDepth 100000 in
theorem t_A_init {G : Gt} {B : Bag} (hB : BF G I_A_init B)     {M9 : Mm}  {M : Mm} (h : f_A_init M = some M9) : AW G I_A_init B (QM G I_A_init B (.inl none) M9 (ph [] (136))) 0 0 0 [(0, .ref 134), (1, .int (16 : Int32))] [] M (ph [(134, 0)] (135)) := by
  unfold f_A_init at h
  refine a_aload_n (j := 0) hB e_A_init_0 rfl rfl ?_
  refine a_objInit hB ol_A_3 oi_i oi_c e_A_init_1 (by decide) (Nat.le_of_ble_eq_true rfl) ?_
  refine a_gsCmp hB gs_A_18 e_A_init_4 ?_
  refine a_if_eq (tgt := 25) hB e_A_init_7 (by decide) (fun c => absurd c (by decide)) (fun c => ?_)
  refine a_aload_n (j := 0) hB e_A_init_10 rfl rfl ?_
  refine a_iload_n (j := 1) hB e_A_init_11 rfl rfl ?_
  obtain ⟨M12, hM12, h⟩ := bm_i h
  refine a_newa (a := 135) (t := 11) (t0 := 1) (atype := .byte) hB e_A_init_12 rfl ac_byte rfl (by decide) (by decide) rfl rfl (by decide) kk_135 (by decide) (by decide) (by rw [ll_135]; decide) rfl (by rw [ll_135]) (by decide) (by decide) ?_
  refine a_ph (φ' := (ph [(134, 0)] (136))) (ph_nA0 (no_t 135 (by decide))) rfl ?_
  refine a_mem hM12 ?_
  refine a_putN (r := 135) (k := 0) hB e_A_init_14 fw_A_15 rfl (ph_lt (by decide)) kk_134 tt_134_0 ?_
  refine a_ph (φ' := (ph [(134, 1)] (136))) (ph_nS (by decide) (by decide) (by decide)) rfl ?_
  refine a_ph (φ' := (ph [] (136))) (ph_done (tg_tl (by decide) (by decide))) rfl ?_
  refine a_aload_n (j := 0) hB e_A_init_17 rfl rfl ?_
  refine a_iconst (v := 0) hB e_A_init_18 ic_0 ?_
  obtain ⟨M19, hM19, h⟩ := bm_i h
  refine a_putB0 (k := 1) hB e_A_init_19 fw_A_22 (ph_lt (by decide)) kk_134 tt_134_1 ?_
  refine a_mem hM19 ?_
  refine a_goto (tgt := 38) hB e_A_init_22 (by decide) ?_
  cases h
  exact a_vret hB rfl e_A_init_38 (by decide) (by decide)
set_option maxRecDepth 100000 in
theorem c_A_init {G : Gt} (hG : GOK G)    {M : Mm}  {M9 : Mm} (h : f_A_init M = some M9) : CT G I_A_init [.ref 134, .int (16 : Int32)] M (ph [(134, 0)] (135)) (.inl none) M9 (ph [] (136)) :=
  ct_of hG (by decide) (Nat.le_of_ble_eq_true rfl) (fun B hB => t_A_init hB   h)
set_option maxRecDepth 100000 in
theorem t_B_init {G : Gt} {B : Bag} (hB : BF G I_B_init B)     {M9 : Mm}  {M : Mm} (h : f_B_init M = some M9) : AW G I_B_init B (QM G I_B_init B (.inl none) M9 (ph [] (136))) 0 0 0 [(0, .ref 134)] [] M (ph [(134, 0)] (135)) := by
  unfold f_B_init at h
  refine a_aload_n (j := 0) hB e_B_init_0 rfl rfl ?_
  refine a_bipush (v := 16) hB e_B_init_1 bp_16 ?_
  obtain ⟨M3, hr3, h⟩ := bn_i h
  refine a_ret (v := none) (M1 := M3) (φ1 := (ph [] (136))) (st1 := []) (j1 := 1) (j2 := 16) (ar_I (As := [.int (16 : Int32)]) (rest := []) hB (c_A_init (bf_G hB) hr3) ml_B_1 md_A_init rfl rfl (Nat.le_of_ble_eq_true rfl) rm_B_init_A_init e_B_init_3) rfl rfl rfl ?_
  cases h
  exact a_vret hB rfl e_B_init_6 (by decide) (by decide)
set_option maxRecDepth 100000 in
theorem c_B_init {G : Gt} (hG : GOK G)    {M : Mm}  {M9 : Mm} (h : f_B_init M = some M9) : CT G I_B_init [.ref 134] M (ph [(134, 0)] (135)) (.inl none) M9 (ph [] (136)) :=
  ct_of hG (by decide) (Nat.le_of_ble_eq_true rfl) (fun B hB => t_B_init hB   h)
set_option maxRecDepth 100000 in
theorem t_A_ensureCapacityInternal {G : Gt} {φ : Ph} {B : Bag} (hB : BF G I_A_ensureCapacityInternal B) (hF : SF 136 φ)    {M9 : Mm} {l1 : Int32} {M : Mm} (h : f_A_ensureCapacityInternal l1 M = some M9) : AW G I_A_ensureCapacityInternal B (QM G I_A_ensureCapacityInternal B (.inl none) M9 φ) 0 0 0 [(0, .ref 134), (1, .int l1)] [] M φ := by
  unfold f_A_ensureCapacityInternal at h
  refine a_aload_n (j := 0) hB e_A_ensureCapacityInternal_0 rfl rfl ?_
  refine a_getR (r := 135) (k := 0) hB e_A_ensureCapacityInternal_1 fl_A_15 (sf_lt hF (by decide)) kk_134 tt_134_0 (hF.1 _ _) ?_
  refine a_alen (v := 16) (t := 11) hB e_A_ensureCapacityInternal_4 (sf_lt hF (by decide)) kk_135 (by decide) ll_135 rfl ?_
  refine a_aload_n (j := 0) hB e_A_ensureCapacityInternal_5 rfl rfl ?_
  refine a_getI (k := 1) hB e_A_ensureCapacityInternal_6 fl_A_22 (sf_lt hF (by decide)) kk_134 tt_134_1 ?_
  refine a_ishr hB e_A_ensureCapacityInternal_9 ?_
  refine a_istore_n (ls' := [(2, .int ((16 : Int32) >>> ((M 134 1) &&& 31))), (0, .ref 134), (1, .int l1)]) hB e_A_ensureCapacityInternal_10 rfl (Nat.le_of_ble_eq_true rfl) rfl ?_
  refine a_iload_n (j := 2) hB e_A_ensureCapacityInternal_11 rfl rfl ?_
  refine a_iload_n (j := 0) hB e_A_ensureCapacityInternal_12 rfl rfl ?_
  refine a_isub hB e_A_ensureCapacityInternal_13 ?_
  refine a_if_le (tgt := 38) hB e_A_ensureCapacityInternal_14 (by decide) (fun c => ?_) (fun c => ?_)
  · have h := ip c h
    cases h
    exact a_vret hB rfl e_A_ensureCapacityInternal_38 (by decide) (by decide)
  · have h := iq c h
    cases h
set_option maxRecDepth 100000 in
theorem c_A_ensureCapacityInternal {G : Gt} (hG : GOK G) {φ : Ph} (hF : SF 136 φ)   {M : Mm} {l1 : Int32} {M9 : Mm} (h : f_A_ensureCapacityInternal l1 M = some M9) : CT G I_A_ensureCapacityInternal [.ref 134, .int l1] M φ (.inl none) M9 φ :=
  ct_of hG (by decide) (Nat.le_of_ble_eq_true rfl) (fun B hB => t_A_ensureCapacityInternal hB hF  h)
set_option maxRecDepth 100000 in
theorem t_A_inflateIfNeededFor_21 {G : Gt} {φ : Ph} {B : Bag} (hB : BF G I_A_inflateIfNeededFor B) (hF : SF 136 φ) {w : Nat} (hw_w : w < 47) {M : Mm}   (h : f_A_inflateIfNeededFor_21 w M = some ()) : AW G I_A_inflateIfNeededFor B (QM G I_A_inflateIfNeededFor B (.inl none) M φ) 0 0 21 [] [] M φ := by
  unfold f_A_inflateIfNeededFor_21 at h
  exact a_vret hB rfl e_A_inflateIfNeededFor_21 (by decide) (by decide)
set_option maxRecDepth 100000 in
theorem t_A_inflateIfNeededFor {G : Gt} {φ : Ph} {B : Bag} (hB : BF G I_A_inflateIfNeededFor B) (hF : SF 136 φ) {w : Nat} (hw_w : w < 47) {M : Mm}   (h : f_A_inflateIfNeededFor w M = some ()) : AW G I_A_inflateIfNeededFor B (QM G I_A_inflateIfNeededFor B (.inl none) M φ) 0 0 0 [(0, .ref 134), (1, .ref (1000 + w))] [] M φ := by
  unfold f_A_inflateIfNeededFor at h
  refine a_gsCmp hB gs_A_18 e_A_inflateIfNeededFor_0 ?_
  refine a_if_eq (tgt := 21) hB e_A_inflateIfNeededFor_3 (by decide) (fun c => absurd c (by decide)) (fun c => ?_)
  refine a_aload_n (j := 0) hB e_A_inflateIfNeededFor_6 rfl rfl ?_
  refine a_getI (k := 1) hB e_A_inflateIfNeededFor_7 fl_A_22 (sf_lt hF (by decide)) kk_134 tt_134_1 ?_
  refine a_aload_n (j := 1) hB e_A_inflateIfNeededFor_10 rfl rfl ?_
  obtain ⟨r11, hr11, h⟩ := bn_i h
  refine a_ret (v := (some (.int r11))) (M1 := M) (φ1 := φ) (st1 := [.int r11, .int (M 134 1)]) (j1 := 0) (j2 := 0) (ar_VS (As := []) (rest := [.int (M 134 1)]) hB hw_w rfl (c_U_coderF (bf_G hB) hw_w hr11) ml_A_40 md_U_coder rfl rfl (Nat.le_of_ble_eq_true rfl) rm_A_inflateIfNeededFor_U_coder e_A_inflateIfNeededFor_11) rfl rfl rfl ?_
  refine a_icmp_eq (tgt := 21) hB e_A_inflateIfNeededFor_14 (by decide) (fun c => ?_) (fun c => ?_)
  · have h := ip c h
    refine a_ls [] (ls' := []) rfl ?_
    exact t_A_inflateIfNeededFor_21 hB hF hw_w h
  · have h := iq c h
    cases h
set_option maxRecDepth 100000 in
theorem c_A_inflateIfNeededFor {G : Gt} (hG : GOK G) {φ : Ph} (hF : SF 136 φ) {w : Nat} (hw_w : w < 47) {M : Mm}  (h : f_A_inflateIfNeededFor w M = some ()) : CT G I_A_inflateIfNeededFor [.ref 134, .ref (1000 + w)] M φ (.inl none) M φ :=
  ct_of hG (by decide) (Nat.le_of_ble_eq_true rfl) (fun B hB => t_A_inflateIfNeededFor hB hF hw_w h)
set_option maxRecDepth 100000 in
theorem t_U_getBytes {G : Gt} {φ : Ph} {B : Bag} (hB : BF G I_U_getBytes B) (hF : SF 136 φ) {w : Nat} (hw_w : w < 47)  {M9 : Mm} {l2 : Int32} {l3 : Int32} {M : Mm} (h : f_U_getBytes w l2 l3 M = some M9) : AW G I_U_getBytes B (QM G I_U_getBytes B (.inl none) M9 φ) 0 0 0 [(0, .ref (1000 + w)), (1, .ref 135), (2, .int l2), (3, .int l3)] [] M φ := by
  unfold f_U_getBytes at h
  refine a_aload_n (j := 0) hB e_U_getBytes_0 rfl rfl ?_
  obtain ⟨r1, hr1, h⟩ := bn_i h
  refine a_ret (v := (some (.int r1))) (M1 := M) (φ1 := φ) (st1 := [.int r1]) (j1 := 0) (j2 := 0) (ar_VS (As := []) (rest := []) hB hw_w rfl (c_U_coderF (bf_G hB) hw_w hr1) mlx_U_335 md_U_coder rfl rfl (Nat.le_of_ble_eq_true rfl) rm_U_getBytes_U_coder e_U_getBytes_1) rfl rfl rfl ?_
  refine a_iload_n (j := 3) hB e_U_getBytes_4 rfl rfl ?_
  refine a_icmp_ne (tgt := 28) hB e_U_getBytes_5 (by decide) (fun c => ?_) (fun c => ?_)
  · have h := iq c h
    cases h
  · have h := ip c h
    refine a_aload_n (j := 0) hB e_U_getBytes_8 rfl rfl ?_
    refine a_strVal hB hw_w fl_U_9 e_U_getBytes_9 ?_
    refine a_iconst (v := 0) hB e_U_getBytes_12 ic_0 ?_
    refine a_aload_n (j := 1) hB e_U_getBytes_13 rfl rfl ?_
    refine a_iload_n (j := 2) hB e_U_getBytes_14 rfl rfl ?_
    refine a_iload_n (j := 3) hB e_U_getBytes_15 rfl rfl ?_
    refine a_ishl hB e_U_getBytes_16 ?_
    refine a_aload_n (j := 0) hB e_U_getBytes_17 rfl rfl ?_
    refine a_strVal hB hw_w fl_U_9 e_U_getBytes_18 ?_
    refine a_alenE hB hw_w e_U_getBytes_21 ?_
    obtain ⟨⟨⟨c22a, c22b, c22c⟩, c22d, c22e⟩, h⟩ := chk_i h
    obtain ⟨M22, hM22, h⟩ := bm_i h
    refine a_cpyS hB hw_w mlx_U_212 nat_copy sta_copy ini_sys e_U_getBytes_22 (sf_lt hF (by decide)) kk_135 c22a c22b c22c c22d (by rw [ll_135]; exact c22e) (by decide) (Nat.le_of_ble_eq_true rfl) ?_
    refine a_mem hM22 ?_
    refine a_goto (tgt := 43) hB e_U_getBytes_25 (by decide) ?_
    cases h
    exact a_vret hB rfl e_U_getBytes_43 (by decide) (by decide)
set_option maxRecDepth 100000 in
theorem c_U_getBytes {G : Gt} (hG : GOK G) {φ : Ph} (hF : SF 136 φ) {w : Nat} (hw_w : w < 47) {M : Mm} {l2 : Int32} {l3 : Int32} {M9 : Mm} (h : f_U_getBytes w l2 l3 M = some M9) : CT G I_U_getBytes [.ref (1000 + w), .ref 135, .int l2, .int l3] M φ (.inl none) M9 φ :=
  ct_of hG (by decide) (Nat.le_of_ble_eq_true rfl) (fun B hB => t_U_getBytes hB hF hw_w h)
set_option maxRecDepth 100000 in
theorem t_A_putStringAt {G : Gt} {φ : Ph} {B : Bag} (hB : BF G I_A_putStringAt B) (hF : SF 136 φ) {w : Nat} (hw_w : w < 47)  {M9 : Mm} {l1 : Int32} {M : Mm} (h : f_A_putStringAt w l1 M = some M9) : AW G I_A_putStringAt B (QM G I_A_putStringAt B (.inl none) M9 φ) 0 0 0 [(0, .ref 134), (1, .int l1), (2, .ref (1000 + w))] [] M φ := by
  unfold f_A_putStringAt at h
  refine a_aload_n (j := 0) hB e_A_putStringAt_0 rfl rfl ?_
  refine a_aload_n (j := 2) hB e_A_putStringAt_1 rfl rfl ?_
  obtain ⟨r2, hr2, h⟩ := bn_i h
  refine a_ret (v := none) (M1 := M) (φ1 := φ) (st1 := []) (j1 := 0) (j2 := 0) (ar_VU (T := TJ4) (N := 4) (As := [.ref (1000 + w)]) (rest := []) hB (c_A_inflateIfNeededFor (bf_G hB) hF hw_w hr2) ml_A_397 mu_A_inflateIfNeededFor (by decide) rfl (sf_lt hF (by decide)) kk_134 rfl rfl (Nat.le_of_ble_eq_true rfl) rm_A_putStringAt_A_inflateIfNeededFor e_A_putStringAt_2) rfl rfl rfl ?_
  refine a_aload_n (j := 2) hB e_A_putStringAt_5 rfl rfl ?_
  refine a_aload_n (j := 0) hB e_A_putStringAt_6 rfl rfl ?_
  refine a_getR (r := 135) (k := 0) hB e_A_putStringAt_7 fl_A_15 (sf_lt hF (by decide)) kk_134 tt_134_0 (hF.1 _ _) ?_
  refine a_iload_n (j := 1) hB e_A_putStringAt_10 rfl rfl ?_
  refine a_aload_n (j := 0) hB e_A_putStringAt_11 rfl rfl ?_
  refine a_getI (k := 1) hB e_A_putStringAt_12 fl_A_22 (sf_lt hF (by decide)) kk_134 tt_134_1 ?_
  obtain ⟨M15, hr15, h⟩ := bn_i h
  refine a_ret (v := none) (M1 := M15) (φ1 := φ) (st1 := []) (j1 := 0) (j2 := 0) (ar_VS (As := [.ref 135, .int l1, .int (M 134 1)]) (rest := []) hB hw_w rfl (c_U_getBytes (bf_G hB) hF hw_w hr15) ml_A_399 md_U_getBytes rfl rfl (Nat.le_of_ble_eq_true rfl) rm_A_putStringAt_U_getBytes e_A_putStringAt_15) rfl rfl rfl ?_
  cases h
  exact a_vret hB rfl e_A_putStringAt_18 (by decide) (by decide)
set_option maxRecDepth 100000 in
theorem c_A_putStringAt {G : Gt} (hG : GOK G) {φ : Ph} (hF : SF 136 φ) {w : Nat} (hw_w : w < 47) {M : Mm} {l1 : Int32} {M9 : Mm} (h : f_A_putStringAt w l1 M = some M9) : CT G I_A_putStringAt [.ref 134, .int l1, .ref (1000 + w)] M φ (.inl none) M9 φ :=
  ct_of hG (by decide) (Nat.le_of_ble_eq_true rfl) (fun B hB => t_A_putStringAt hB hF hw_w h)
set_option maxRecDepth 100000 in
theorem t_A_append {G : Gt} {φ : Ph} {B : Bag} (hB : BF G I_A_append B) (hF : SF 136 φ) {w : Nat} (hw_w : w < 47)  {M9 : Mm}  {M : Mm} (h : f_A_append w M = some M9) : AW G I_A_append B (QM G I_A_append B (.inl (some (.ref 134))) M9 φ) 0 0 0 [(0, .ref 134), (1, .ref (1000 + w))] [] M φ := by
  unfold f_A_append at h
  refine a_aload_n (j := 1) hB e_A_append_0 rfl rfl ?_
  refine a_ifnn (tgt := 9) hB e_A_append_1 (by decide) ?_
  refine a_aload_n (j := 1) hB e_A_append_9 rfl rfl ?_
  obtain ⟨r10, hr10, h⟩ := bn_i h
  refine a_ret (v := (some (.int r10))) (M1 := M) (φ1 := φ) (st1 := [.int r10]) (j1 := 0) (j2 := 0) (ar_VS (As := []) (rest := []) hB hw_w rfl (c_U_length (bf_G hB) hw_w hr10) ml_A_32 md_U_length rfl rfl (Nat.le_of_ble_eq_true rfl) rm_A_append_U_length e_A_append_10) rfl rfl rfl ?_
  refine a_istore_n (ls' := [(2, .int r10), (0, .ref 134), (1, .ref (1000 + w))]) hB e_A_append_13 rfl (Nat.le_of_ble_eq_true rfl) rfl ?_
  refine a_aload_n (j := 1) hB e_A_append_14 rfl rfl ?_
  refine a_aload_n (j := 1) hB e_A_append_15 rfl rfl ?_
  refine a_getI (k := 3) hB e_A_append_16 fl_A_79 (sf_lt hF (by decide)) kk_134 tt_134_3 ?_
  refine a_iload_n (j := 0) hB e_A_append_19 rfl rfl ?_
  refine a_iadd hB e_A_append_20 ?_
  obtain ⟨M21, hr21, h⟩ := bn_i h
  refine a_ret (v := none) (M1 := M21) (φ1 := φ) (st1 := []) (j1 := 0) (j2 := 0) (ar_VU (T := TJ4) (N := 4) (As := [.int ((M 134 3) + r10)]) (rest := []) hB (c_A_ensureCapacityInternal (bf_G hB) hF hr21) ml_A_100 mu_A_ensureCapacityInternal (by decide) rfl (sf_lt hF (by decide)) kk_134 rfl rfl (Nat.le_of_ble_eq_true rfl) rm_A_append_A_ensureCapacityInternal e_A_append_21) rfl rfl rfl ?_
  refine a_aload_n (j := 1) hB e_A_append_24 rfl rfl ?_
  refine a_aload_n (j := 1) hB e_A_append_25 rfl rfl ?_
  refine a_getI (k := 3) hB e_A_append_26 fl_A_79 (sf_lt hF (by decide)) kk_134 tt_134_3 ?_
  refine a_aload_n (j := 2) hB e_A_append_29 rfl rfl ?_
  obtain ⟨M30, hr30, h⟩ := bn_i h
  refine a_ret (v := none) (M1 := M30) (φ1 := φ) (st1 := []) (j1 := 0) (j2 := 0) (ar_VU (T := TJ4) (N := 4) (As := [.int (M21 134 3), .ref (1000 + w)]) (rest := []) hB (c_A_putStringAt (bf_G hB) hF hw_w hr30) ml_A_208 mu_A_putStringAt (by decide) rfl (sf_lt hF (by decide)) kk_134 rfl rfl (Nat.le_of_ble_eq_true rfl) rm_A_append_A_putStringAt e_A_append_30) rfl rfl rfl ?_
  refine a_aload_n (j := 1) hB e_A_append_33 rfl rfl ?_
  refine a_dup hB e_A_append_34 rfl ?_
  refine a_getI (k := 3) hB e_A_append_35 fl_A_79 (sf_lt hF (by decide)) kk_134 tt_134_3 ?_
  refine a_iload_n (j := 0) hB e_A_append_38 rfl rfl ?_
  refine a_iadd hB e_A_append_39 ?_
  obtain ⟨M40, hM40, h⟩ := bm_i h
  refine a_putI (k := 3) hB e_A_append_40 fw_A_79 (sf_lt hF (by decide)) kk_134 tt_134_3 ?_
  refine a_mem hM40 ?_
  refine a_aload_n (j := 1) hB e_A_append_43 rfl rfl ?_
  cases h
  exact a_aret hB rfl e_A_append_44 (by decide) (by decide)
set_option maxRecDepth 100000 in
theorem c_A_append {G : Gt} (hG : GOK G) {φ : Ph} (hF : SF 136 φ) {w : Nat} (hw_w : w < 47) {M : Mm}  {M9 : Mm} (h : f_A_append w M = some M9) : CT G I_A_append [.ref 134, .ref (1000 + w)] M φ (.inl (some (.ref 134))) M9 φ :=
  ct_of hG (by decide) (Nat.le_of_ble_eq_true rfl) (fun B hB => t_A_append hB hF hw_w h)
set_option maxRecDepth 100000 in
theorem t_B_append {G : Gt} {φ : Ph} {B : Bag} (hB : BF G I_B_append B) (hF : SF 136 φ) {w : Nat} (hw_w : w < 47)  {M9 : Mm}  {M : Mm} (h : f_B_append w M = some M9) : AW G I_B_append B (QM G I_B_append B (.inl (some (.ref 134))) M9 φ) 0 0 0 [(0, .ref 134), (1, .ref (1000 + w))] [] M φ := by
  unfold f_B_append at h
  refine a_aload_n (j := 0) hB e_B_append_0 rfl rfl ?_
  refine a_aload_n (j := 1) hB e_B_append_1 rfl rfl ?_
  obtain ⟨M2, hr2, h⟩ := bn_i h
  refine a_ret (v := (some (.ref 134))) (M1 := M2) (φ1 := φ) (st1 := [.ref 134]) (j1 := 0) (j2 := 0) (ar_SU (C := RJ4) (T := TJ4) (N := 4) (As := [.ref (1000 + w)]) (rest := []) hB (c_A_append (bf_G hB) hF hw_w hr2) ml_B_29 mp_A_append (by decide) rfl (sf_lt hF (by decide)) kk_134 rfl rfl (Nat.le_of_ble_eq_true rfl) rm_B_append_A_append e_B_append_2) rfl rfl rfl ?_
  refine a_pop hB e_B_append_5 rfl ?_
  refine a_aload_n (j := 0) hB e_B_append_6 rfl rfl ?_
  cases h
  exact a_aret hB rfl e_B_append_7 (by decide) (by decide)
set_option maxRecDepth 100000 in
theorem c_B_append {G : Gt} (hG : GOK G) {φ : Ph} (hF : SF 136 φ) {w : Nat} (hw_w : w < 47) {M : Mm}  {M9 : Mm} (h : f_B_append w M = some M9) : CT G I_B_append [.ref 134, .ref (1000 + w)] M φ (.inl (some (.ref 134))) M9 φ :=
  ct_of hG (by decide) (Nat.le_of_ble_eq_true rfl) (fun B hB => t_B_append hB hF hw_w h)
set_option maxRecDepth 100000 in
theorem t_N_stringSize_16 {G : Gt} {φ : Ph} {B : Bag} (hB : BF G I_N_stringSize B) (hF : SF 136 φ)   {M : Mm} {o : Int32} : ∀ (n : Nat) (l0 : Int32) (l1 : Int32) (l2 : Int32) (l3 : Int32), f_N_stringSize_16 n l0 l1 l2 l3 = some o → AW G I_N_stringSize B (QM G I_N_stringSize B (.inl (some (.int o))) M φ) 0 0 16 [(0, .int l0), (1, .int l1), (2, .int l2), (3, .int l3)] [] M φ := by
  intro n
  induction n with
  | zero => intro l0 l1 l2 l3 h; cases h
  | succ n hr16 =>
    intro l0 l1 l2 l3 h
    rw [f_N_stringSize_16] at h
    refine a_iload_n (j := 3) hB e_N_stringSize_16 rfl rfl ?_
    refine a_bipush (v := 10) hB e_N_stringSize_17 bp_10 ?_
    refine a_icmp_ge (tgt := 42) hB e_N_stringSize_19 (by decide) (fun c => ?_) (fun c => ?_)
    · have h := ip c h
      refine a_bipush (v := 10) hB e_N_stringSize_42 bp_10 ?_
      refine a_iload_n (j := 1) hB e_N_stringSize_44 rfl rfl ?_
      refine a_iadd hB e_N_stringSize_45 ?_
      cases h
      exact a_iret hB rfl e_N_stringSize_46 (by decide) (by decide)
    · have h := iq c h
      refine a_iload_n (j := 0) hB e_N_stringSize_22 rfl rfl ?_
      refine a_iload_n (j := 2) hB e_N_stringSize_23 rfl rfl ?_
      refine a_icmp_le (tgt := 31) hB e_N_stringSize_24 (by decide) (fun c => ?_) (fun c => ?_)
      · have h := ip c h
        refine a_bipush (v := 10) hB e_N_stringSize_31 bp_10 ?_
        refine a_iload_n (j := 2) hB e_N_stringSize_33 rfl rfl ?_
        refine a_imul hB e_N_stringSize_34 ?_
        refine a_istore_n (ls' := [(2, .int ((10 : Int32) * l2)), (0, .int l0), (1, .int l1), (3, .int l3)]) hB e_N_stringSize_35 rfl (Nat.le_of_ble_eq_true rfl) rfl ?_
        refine a_iinc (j := 3) (v := l3 + 1) (ls' := [(3, .int (l3 + 1)), (2, .int ((10 : Int32) * l2)), (0, .int l0), (1, .int l1)]) hB e_N_stringSize_36 rfl (inc_1 _) (Nat.le_of_ble_eq_true rfl) rfl ?_
        refine a_goto (tgt := 16) hB e_N_stringSize_39 (by decide) ?_
        refine a_ls [2, 3, 1, 0] (ls' := [(0, .int l0), (1, .int l1), (2, .int ((10 : Int32) * l2)), (3, .int (l3 + 1))]) rfl ?_
        exact hr16 _ _ _ _ h
      · have h := iq c h
        refine a_iload_n (j := 3) hB e_N_stringSize_27 rfl rfl ?_
        refine a_iload_n (j := 1) hB e_N_stringSize_28 rfl rfl ?_
        refine a_iadd hB e_N_stringSize_29 ?_
        cases h
        exact a_iret hB rfl e_N_stringSize_30 (by decide) (by decide)
set_option maxRecDepth 100000 in
theorem t_N_stringSize_11 {G : Gt} {φ : Ph} {B : Bag} (hB : BF G I_N_stringSize B) (hF : SF 136 φ)   {M : Mm} {o : Int32} {l0 : Int32} {l1 : Int32}  (h : f_N_stringSize_11 l0 l1 = some o) : AW G I_N_stringSize B (QM G I_N_stringSize B (.inl (some (.int o))) M φ) 0 0 11 [(0, .int l0), (1, .int l1)] [] M φ := by
  unfold f_N_stringSize_11 at h
  refine a_bipush (v := -10) hB e_N_stringSize_11 bp_m10 ?_
  refine a_istore_n (ls' := [(2, .int (-10 : Int32)), (0, .int l0), (1, .int l1)]) hB e_N_stringSize_13 rfl (Nat.le_of_ble_eq_true rfl) rfl ?_
  refine a_iconst (v := 1) hB e_N_stringSize_14 ic_1 ?_
  refine a_istore_n (ls' := [(3, .int (1 : Int32)), (2, .int (-10 : Int32)), (0, .int l0), (1, .int l1)]) hB e_N_stringSize_15 rfl (Nat.le_of_ble_eq_true rfl) rfl ?_
  refine a_ls [2, 3, 1, 0] (ls' := [(0, .int l0), (1, .int l1), (2, .int (-10 : Int32)), (3, .int (1 : Int32))]) rfl ?_
  exact t_N_stringSize_16 hB hF _ _ _ _ _ h
set_option maxRecDepth 100000 in
theorem t_N_stringSize {G : Gt} {φ : Ph} {B : Bag} (hB : BF G I_N_stringSize B) (hF : SF 136 φ)   {M : Mm} {o : Int32} {l0 : Int32}  (h : f_N_stringSize l0 = some o) : AW G I_N_stringSize B (QM G I_N_stringSize B (.inl (some (.int o))) M φ) 0 0 0 [(0, .int l0)] [] M φ := by
  unfold f_N_stringSize at h
  refine a_iconst (v := 1) hB e_N_stringSize_0 ic_1 ?_
  refine a_istore_n (ls' := [(1, .int (1 : Int32)), (0, .int l0)]) hB e_N_stringSize_1 rfl (Nat.le_of_ble_eq_true rfl) rfl ?_
  refine a_iload_n (j := 1) hB e_N_stringSize_2 rfl rfl ?_
  refine a_if_lt (tgt := 11) hB e_N_stringSize_3 (by decide) (fun c => ?_) (fun c => ?_)
  · have h := ip c h
    refine a_ls [1, 0] (ls' := [(0, .int l0), (1, .int (1 : Int32))]) rfl ?_
    exact t_N_stringSize_11 hB hF h
  · have h := iq c h
    refine a_iconst (v := 0) hB e_N_stringSize_6 ic_0 ?_
    refine a_istore_n (ls' := [(1, .int (0 : Int32)), (0, .int l0)]) hB e_N_stringSize_7 rfl (Nat.le_of_ble_eq_true rfl) rfl ?_
    refine a_iload_n (j := 1) hB e_N_stringSize_8 rfl rfl ?_
    refine a_ineg hB e_N_stringSize_9 ?_
    refine a_istore_n (ls' := [(0, .int (-l0)), (1, .int (0 : Int32))]) hB e_N_stringSize_10 rfl (Nat.le_of_ble_eq_true rfl) rfl ?_
    exact t_N_stringSize_11 hB hF h
set_option maxRecDepth 100000 in
theorem c_N_stringSize {G : Gt} (hG : GOK G) {φ : Ph} (hF : SF 136 φ)   {M : Mm} {l0 : Int32} {o : Int32} (h : f_N_stringSize l0 = some o) : CT G I_N_stringSize [.int l0] M φ (.inl (some (.int o))) M φ :=
  ct_of hG (by decide) (Nat.le_of_ble_eq_true rfl) (fun B hB => t_N_stringSize hB hF  h)
set_option maxRecDepth 100000 in
theorem t_A_isLatin1_17 {G : Gt} {φ : Ph} {B : Bag} (hB : BF G I_A_isLatin1 B) (hF : SBw φ)   {M : Mm} {o : Int32}   (h : f_A_isLatin1_17 M = some o) : AW G I_A_isLatin1 B (QM G I_A_isLatin1 B (.inl (some (.int o))) M φ) 0 0 17 [] [] M φ := by
  unfold f_A_isLatin1_17 at h
  cases h
set_option maxRecDepth 100000 in
theorem t_A_isLatin1 {G : Gt} {φ : Ph} {B : Bag} (hB : BF G I_A_isLatin1 B) (hF : SBw φ)   {M : Mm} {o : Int32}   (h : f_A_isLatin1 M = some o) : AW G I_A_isLatin1 B (QM G I_A_isLatin1 B (.inl (some (.int o))) M φ) 0 0 0 [(0, .ref 134)] [] M φ := by
  unfold f_A_isLatin1 at h
  refine a_gsCmp hB gs_A_18 e_A_isLatin1_0 ?_
  refine a_if_eq (tgt := 17) hB e_A_isLatin1_3 (by decide) (fun c => absurd c (by decide)) (fun c => ?_)
  refine a_aload_n (j := 0) hB e_A_isLatin1_6 rfl rfl ?_
  refine a_getI (k := 1) hB e_A_isLatin1_7 fl_A_22 (sb_lt hF (by decide)) kk_134 tt_134_1 ?_
  refine a_if_ne (tgt := 17) hB e_A_isLatin1_10 (by decide) (fun c => ?_) (fun c => ?_)
  · have h := iq c h
    refine a_ls [] (ls' := []) rfl ?_
    exact t_A_isLatin1_17 hB hF h
  · have h := ip c h
    refine a_iconst (v := 1) hB e_A_isLatin1_13 ic_1 ?_
    refine a_goto (tgt := 18) hB e_A_isLatin1_14 (by decide) ?_
    cases h
    exact a_zret hB rfl (Or.inr rfl) e_A_isLatin1_18 (by decide) (by decide)
set_option maxRecDepth 100000 in
theorem c_A_isLatin1 {G : Gt} (hG : GOK G) {φ : Ph} (hF : SBw φ)   {M : Mm}  {o : Int32} (h : f_A_isLatin1 M = some o) : CT G I_A_isLatin1 [.ref 134] M φ (.inl (some (.int o))) M φ :=
  ct_of hG (by decide) (Nat.le_of_ble_eq_true rfl) (fun B hB => t_A_isLatin1 hB hF  h)
set_option maxRecDepth 100000 in
theorem t_N_getChars_118 {G : Gt} {φ : Ph} {B : Bag} (hB : BF G I_N_getChars B) (hF : SF 136 φ)    {o : Int32} {M9 : Mm} {l5 : Int32} {M : Mm} (h : f_N_getChars_118 l5 M = some (o, M9)) : AW G I_N_getChars B (QM G I_N_getChars B (.inl (some (.int o))) M9 φ) 0 0 118 [(5, .int l5)] [] M φ := by
  unfold f_N_getChars_118 at h
  refine a_iload (j := 0) hB e_N_getChars_118 rfl ?_
  cases h
  exact a_iret hB rfl e_N_getChars_120 (by decide) (by decide)
set_option maxRecDepth 100000 in
theorem t_N_getChars_104 {G : Gt} {φ : Ph} {B : Bag} (hB : BF G I_N_getChars B) (hF : SF 136 φ)    {o : Int32} {M9 : Mm} {l5 : Int32} {l6 : Int32} {M : Mm} (h : f_N_getChars_104 l5 l6 M = some (o, M9)) : AW G I_N_getChars B (QM G I_N_getChars B (.inl (some (.int o))) M9 φ) 0 0 104 [(2, .ref 135), (5, .int l5), (6, .int l6)] [] M φ := by
  unfold f_N_getChars_104 at h
  refine a_iload (j := 2) hB e_N_getChars_104 rfl ?_
  refine a_if_eq (tgt := 118) hB e_N_getChars_106 (by decide) (fun c => ?_) (fun c => ?_)
  · have h := ip c h
    refine a_ls [1] (ls' := [(5, .int l5)]) rfl ?_
    exact t_N_getChars_118 hB hF h
  · have h := iq c h
    refine a_aload_n (j := 0) hB e_N_getChars_109 rfl rfl ?_
    refine a_iinc (j := 1) (v := l5 + (-1)) (ls' := [(5, .int (l5 + (-1))), (2, .ref 135), (6, .int l6)]) hB e_N_getChars_110 rfl (inc_m1 _) (Nat.le_of_ble_eq_true rfl) rfl ?_
    refine a_iload (j := 0) hB e_N_getChars_113 rfl ?_
    refine a_bipush (v := 45) hB e_N_getChars_115 bp_45 ?_
    obtain ⟨c117, h⟩ := chk_i h
    obtain ⟨M117, hM117, h⟩ := bm_i h
    refine a_bast' hB e_N_getChars_117 (sf_lt hF (by decide)) kk_135 ll_135 c117 ?_
    refine a_mem hM117 ?_
    refine a_ls [0] (ls' := [(5, .int (l5 + (-1)))]) rfl ?_
    exact t_N_getChars_118 hB hF h
set_option maxRecDepth 100000 in
theorem t_N_getChars_22 {G : Gt} {φ : Ph} {B : Bag} (hB : BF G I_N_getChars B) (hF : SF 136 φ)    {o : Int32} {M9 : Mm} : ∀ (n : Nat) (l0 : Int32) (l5 : Int32) (l6 : Int32) (M : Mm), f_N_getChars_22 n l0 l5 l6 M = some (o, M9) → AW G I_N_getChars B (QM G I_N_getChars B (.inl (some (.int o))) M9 φ) 0 0 22 [(0, .int l0), (2, .ref 135), (5, .int l5), (6, .int l6)] [] M φ := by
  intro n
  induction n with
  | zero => intro l0 l5 l6 M h; cases h
  | succ n hr22 =>
    intro l0 l5 l6 M h
    rw [f_N_getChars_22] at h
    refine a_iload_n (j := 0) hB e_N_getChars_22 rfl rfl ?_
    refine a_bipush (v := -100) hB e_N_getChars_23 bp_m100 ?_
    refine a_icmp_gt (tgt := 72) hB e_N_getChars_25 (by decide) (fun c => ?_) (fun c => ?_)
    · have h := ip c h
      refine a_aload_n (j := 1) hB e_N_getChars_72 rfl rfl ?_
      refine a_iinc (j := 2) (v := l5 + (-1)) (ls' := [(5, .int (l5 + (-1))), (0, .int l0), (2, .ref 135), (6, .int l6)]) hB e_N_getChars_73 rfl (inc_m1 _) (Nat.le_of_ble_eq_true rfl) rfl ?_
      refine a_iload (j := 0) hB e_N_getChars_76 rfl ?_
      refine a_gsD1 hB gs_N_83 e_N_getChars_78 ?_
      refine a_iload_n (j := 1) hB e_N_getChars_81 rfl rfl ?_
      refine a_ineg hB e_N_getChars_82 ?_
      obtain ⟨c83, h⟩ := chk_i h
      refine a_baldD1 hB c83 e_N_getChars_83 ?_
      obtain ⟨c84, h⟩ := chk_i h
      obtain ⟨M84, hM84, h⟩ := bm_i h
      refine a_bast' hB e_N_getChars_84 (sf_lt hF (by decide)) kk_135 ll_135 c84 ?_
      refine a_mem hM84 ?_
      refine a_iload_n (j := 1) hB e_N_getChars_85 rfl rfl ?_
      refine a_bipush (v := -9) hB e_N_getChars_86 bp_m9 ?_
      refine a_icmp_ge (tgt := 104) hB e_N_getChars_88 (by decide) (fun c => ?_) (fun c => ?_)
      · have h := ip c h
        refine a_ls [2, 0, 3] (ls' := [(2, .ref 135), (5, .int (l5 + (-1))), (6, .int l6)]) rfl ?_
        exact t_N_getChars_104 hB hF h
      · have h := iq c h
        refine a_aload_n (j := 2) hB e_N_getChars_91 rfl rfl ?_
        refine a_iinc (j := 0) (v := (l5 + (-1)) + (-1)) (ls' := [(5, .int ((l5 + (-1)) + (-1))), (0, .int l0), (2, .ref 135), (6, .int l6)]) hB e_N_getChars_92 rfl (inc_m1 _) (Nat.le_of_ble_eq_true rfl) rfl ?_
        refine a_iload (j := 0) hB e_N_getChars_95 rfl ?_
        refine a_gsD10 hB gs_N_87 e_N_getChars_97 ?_
        refine a_iload_n (j := 1) hB e_N_getChars_100 rfl rfl ?_
        refine a_ineg hB e_N_getChars_101 ?_
        refine a_baldD10 hB c83 e_N_getChars_102 ?_
        obtain ⟨c103, h⟩ := chk_i h
        obtain ⟨M103, hM103, h⟩ := bm_i h
        refine a_bast' hB e_N_getChars_103 (sf_lt hF (by decide)) kk_135 ll_135 c103 ?_
        refine a_mem hM103 ?_
        refine a_ls [2, 0, 3] (ls' := [(2, .ref 135), (5, .int ((l5 + (-1)) + (-1))), (6, .int l6)]) rfl ?_
        exact t_N_getChars_104 hB hF h
    · have h := iq c h
      refine a_iload_n (j := 0) hB e_N_getChars_28 rfl rfl ?_
      refine a_bipush (v := 100) hB e_N_getChars_29 bp_100 ?_
      refine a_idiv hB e_N_getChars_31 (by decide) ?_
      refine a_istore_n (ls' := [(3, .int (l0 / (100 : Int32))), (0, .int l0), (2, .ref 135), (5, .int l5), (6, .int l6)]) hB e_N_getChars_32 rfl (Nat.le_of_ble_eq_true rfl) rfl ?_
      refine a_iload_n (j := 0) hB e_N_getChars_33 rfl rfl ?_
      refine a_bipush (v := 100) hB e_N_getChars_34 bp_100 ?_
      refine a_imul hB e_N_getChars_36 ?_
      refine a_iload_n (j := 1) hB e_N_getChars_37 rfl rfl ?_
      refine a_isub hB e_N_getChars_38 ?_
      refine a_istore (ls' := [(4, .int (((l0 / (100 : Int32)) * (100 : Int32)) - l0)), (3, .int (l0 / (100 : Int32))), (0, .int l0), (2, .ref 135), (5, .int l5), (6, .int l6)]) hB e_N_getChars_39 (Nat.le_of_ble_eq_true rfl) rfl ?_
      refine a_iload_n (j := 1) hB e_N_getChars_41 rfl rfl ?_
      refine a_istore_n (ls' := [(0, .int (l0 / (100 : Int32))), (4, .int (((l0 / (100 : Int32)) * (100 : Int32)) - l0)), (3, .int (l0 / (100 : Int32))), (2, .ref 135), (5, .int l5), (6, .int l6)]) hB e_N_getChars_42 rfl (Nat.le_of_ble_eq_true rfl) rfl ?_
      refine a_aload_n (j := 3) hB e_N_getChars_43 rfl rfl ?_
      refine a_iinc (j := 4) (v := l5 + (-1)) (ls' := [(5, .int (l5 + (-1))), (0, .int (l0 / (100 : Int32))), (4, .int (((l0 / (100 : Int32)) * (100 : Int32)) - l0)), (3, .int (l0 / (100 : Int32))), (2, .ref 135), (6, .int l6)]) hB e_N_getChars_44 rfl (inc_m1 _) (Nat.le_of_ble_eq_true rfl) rfl ?_
      refine a_iload (j := 0) hB e_N_getChars_47 rfl ?_
      refine a_gsD1 hB gs_N_83 e_N_getChars_49 ?_
      refine a_iload (j := 2) hB e_N_getChars_52 rfl ?_
      obtain ⟨c54, h⟩ := chk_i h
      refine a_baldD1 hB c54 e_N_getChars_54 ?_
      obtain ⟨c55, h⟩ := chk_i h
      obtain ⟨M55, hM55, h⟩ := bm_i h
      refine a_bast' hB e_N_getChars_55 (sf_lt hF (by decide)) kk_135 ll_135 c55 ?_
      refine a_mem hM55 ?_
      refine a_aload_n (j := 4) hB e_N_getChars_56 rfl rfl ?_
      refine a_iinc (j := 0) (v := (l5 + (-1)) + (-1)) (ls' := [(5, .int ((l5 + (-1)) + (-1))), (0, .int (l0 / (100 : Int32))), (4, .int (((l0 / (100 : Int32)) * (100 : Int32)) - l0)), (3, .int (l0 / (100 : Int32))), (2, .ref 135), (6, .int l6)]) hB e_N_getChars_57 rfl (inc_m1 _) (Nat.le_of_ble_eq_true rfl) rfl ?_
      refine a_iload (j := 0) hB e_N_getChars_60 rfl ?_
      refine a_gsD10 hB gs_N_87 e_N_getChars_62 ?_
      refine a_iload (j := 2) hB e_N_getChars_65 rfl ?_
      refine a_baldD10 hB c54 e_N_getChars_67 ?_
      obtain ⟨c68, h⟩ := chk_i h
      obtain ⟨M68, hM68, h⟩ := bm_i h
      refine a_bast' hB e_N_getChars_68 (sf_lt hF (by decide)) kk_135 ll_135 c68 ?_
      refine a_mem hM68 ?_
      refine a_goto (tgt := 22) hB e_N_getChars_69 (by decide) ?_
      refine a_ls [1, 4, 0, 5] (ls' := [(0, .int (l0 / (100 : Int32))), (2, .ref 135), (5, .int ((l5 + (-1)) + (-1))), (6, .int l6)]) rfl ?_
      exact hr22 _ _ _ _ h
set_option maxRecDepth 100000 in
theorem t_N_getChars_12 {G : Gt} {φ : Ph} {B : Bag} (hB : BF G I_N_getChars B) (hF : SF 136 φ)    {o : Int32} {M9 : Mm} {l0 : Int32} {l5 : Int32} {t0 : Int32} {M : Mm} (h : f_N_getChars_12 l0 l5 t0 M = some (o, M9)) : AW G I_N_getChars B (QM G I_N_getChars B (.inl (some (.int o))) M9 φ) 0 0 12 [(0, .int l0), (2, .ref 135), (5, .int l5)] [.int t0] M φ := by
  unfold f_N_getChars_12 at h
  refine a_istore (ls' := [(6, .int t0), (0, .int l0), (2, .ref 135), (5, .int l5)]) hB e_N_getChars_12 (Nat.le_of_ble_eq_true rfl) rfl ?_
  refine a_iload (j := 0) hB e_N_getChars_14 rfl ?_
  refine a_if_ne (tgt := 22) hB e_N_getChars_16 (by decide) (fun c => ?_) (fun c => ?_)
  · have h := iq c h
    refine a_ls [1, 2, 3, 0] (ls' := [(0, .int l0), (2, .ref 135), (5, .int l5), (6, .int t0)]) rfl ?_
    exact t_N_getChars_22 hB hF _ _ _ _ _ h
  · have h := ip c h
    refine a_iload_n (j := 1) hB e_N_getChars_19 rfl rfl ?_
    refine a_ineg hB e_N_getChars_20 ?_
    refine a_istore_n (ls' := [(0, .int (-l0)), (6, .int t0), (2, .ref 135), (5, .int l5)]) hB e_N_getChars_21 rfl (Nat.le_of_ble_eq_true rfl) rfl ?_
    refine a_ls [0, 2, 3, 1] (ls' := [(0, .int (-l0)), (2, .ref 135), (5, .int l5), (6, .int t0)]) rfl ?_
    exact t_N_getChars_22 hB hF _ _ _ _ _ h
set_option maxRecDepth 100000 in
theorem t_N_getChars {G : Gt} {φ : Ph} {B : Bag} (hB : BF G I_N_getChars B) (hF : SF 136 φ)    {o : Int32} {M9 : Mm} {l0 : Int32} {l1 : Int32} {M : Mm} (h : f_N_getChars l0 l1 M = some (o, M9)) : AW G I_N_getChars B (QM G I_N_getChars B (.inl (some (.int o))) M9 φ) 0 0 0 [(0, .int l0), (1, .int l1), (2, .ref 135)] [] M φ := by
  unfold f_N_getChars at h
  refine a_iload_n (j := 1) hB e_N_getChars_0 rfl rfl ?_
  refine a_istore (ls' := [(5, .int l1), (0, .int l0), (1, .int l1), (2, .ref 135)]) hB e_N_getChars_1 (Nat.le_of_ble_eq_true rfl) rfl ?_
  refine a_iload_n (j := 1) hB e_N_getChars_3 rfl rfl ?_
  refine a_if_ge (tgt := 11) hB e_N_getChars_4 (by decide) (fun c => ?_) (fun c => ?_)
  · have h := ip c h
    refine a_iconst (v := 0) hB e_N_getChars_11 ic_0 ?_
    refine a_ls [1, 3, 0] (ls' := [(0, .int l0), (2, .ref 135), (5, .int l1)]) rfl ?_
    exact t_N_getChars_12 hB hF h
  · have h := iq c h
    refine a_iconst (v := 1) hB e_N_getChars_7 ic_1 ?_
    refine a_goto (tgt := 12) hB e_N_getChars_8 (by decide) ?_
    refine a_ls [1, 3, 0] (ls' := [(0, .int l0), (2, .ref 135), (5, .int l1)]) rfl ?_
    exact t_N_getChars_12 hB hF h
set_option maxRecDepth 100000 in
theorem c_N_getChars {G : Gt} (hG : GOK G) {φ : Ph} (hF : SF 136 φ)   {M : Mm} {l0 : Int32} {l1 : Int32} {o : Int32} {M9 : Mm} (h : f_N_getChars l0 l1 M = some (o, M9)) : CT G I_N_getChars [.int l0, .int l1, .ref 135] M φ (.inl (some (.int o))) M9 φ :=
  ct_of hG (by decide) (Nat.le_of_ble_eq_true rfl) (fun B hB => t_N_getChars hB hF  h)
set_option maxRecDepth 100000 in
theorem t_A_appendI {G : Gt} {φ : Ph} {B : Bag} (hB : BF G I_A_appendI B) (hF : SF 136 φ)    {M9 : Mm} {l1 : Int32} {M : Mm} (h : f_A_appendI l1 M = some M9) : AW G I_A_appendI B (QM G I_A_appendI B (.inl (some (.ref 134))) M9 φ) 0 0 0 [(0, .ref 134), (1, .int l1)] [] M φ := by
  unfold f_A_appendI at h
  refine a_aload_n (j := 0) hB e_A_appendI_0 rfl rfl ?_
  refine a_getI (k := 3) hB e_A_appendI_1 fl_A_79 (sf_lt hF (by decide)) kk_134 tt_134_3 ?_
  refine a_istore_n (ls' := [(2, .int (M 134 3)), (0, .ref 134), (1, .int l1)]) hB e_A_appendI_4 rfl (Nat.le_of_ble_eq_true rfl) rfl ?_
  refine a_iload_n (j := 0) hB e_A_appendI_5 rfl rfl ?_
  refine a_iload_n (j := 2) hB e_A_appendI_6 rfl rfl ?_
  obtain ⟨r7, hr7, h⟩ := bn_i h
  refine a_ret (v := (some (.int r7))) (M1 := M) (φ1 := φ) (st1 := [.int r7, .int (M 134 3)]) (j1 := 0) (j2 := 0) (ar_S (As := [.int l1]) (rest := [.int (M 134 3)]) hB (c_N_stringSize (bf_G hB) hF hr7) ml_A_245 md_N_stringSize rfl rfl (Nat.le_of_ble_eq_true rfl) rm_A_appendI_N_stringSize e_A_appendI_7) rfl rfl rfl ?_
  refine a_iadd hB e_A_appendI_10 ?_
  refine a_istore_n (ls' := [(3, .int ((M 134 3) + r7)), (2, .int (M 134 3)), (0, .ref 134), (1, .int l1)]) hB e_A_appendI_11 rfl (Nat.le_of_ble_eq_true rfl) rfl ?_
  refine a_aload_n (j := 2) hB e_A_appendI_12 rfl rfl ?_
  refine a_iload_n (j := 0) hB e_A_appendI_13 rfl rfl ?_
  obtain ⟨M14, hr14, h⟩ := bn_i h
  refine a_ret (v := none) (M1 := M14) (φ1 := φ) (st1 := []) (j1 := 0) (j2 := 0) (ar_VU (T := TJ4) (N := 4) (As := [.int ((M 134 3) + r7)]) (rest := []) hB (c_A_ensureCapacityInternal (bf_G hB) hF hr14) ml_A_100 mu_A_ensureCapacityInternal (by decide) rfl (sf_lt hF (by decide)) kk_134 rfl rfl (Nat.le_of_ble_eq_true rfl) rm_A_appendI_A_ensureCapacityInternal e_A_appendI_14) rfl rfl rfl ?_
  refine a_aload_n (j := 2) hB e_A_appendI_17 rfl rfl ?_
  obtain ⟨r18, hr18, h⟩ := bn_i h
  refine a_ret (v := (some (.int r18))) (M1 := M14) (φ1 := φ) (st1 := [.int r18]) (j1 := 0) (j2 := 0) (ar_VU (T := TJ4) (N := 4) (As := []) (rest := []) hB (c_A_isLatin1 (bf_G hB) (sb_of hF (by decide)) hr18) ml_A_83 mu_A_isLatin1 (by decide) rfl (sf_lt hF (by decide)) kk_134 rfl rfl (Nat.le_of_ble_eq_true rfl) rm_A_appendI_A_isLatin1 e_A_appendI_18) rfl rfl rfl ?_
  refine a_if_eq (tgt := 37) hB e_A_appendI_21 (by decide) (fun c => ?_) (fun c => ?_)
  · have h := ip c h
    cases h
  · have h := iq c h
    refine a_iload_n (j := 3) hB e_A_appendI_24 rfl rfl ?_
    refine a_iload_n (j := 0) hB e_A_appendI_25 rfl rfl ?_
    refine a_aload_n (j := 2) hB e_A_appendI_26 rfl rfl ?_
    refine a_getR (r := 135) (k := 0) hB e_A_appendI_27 fl_A_15 (sf_lt hF (by decide)) kk_134 tt_134_0 (hF.1 _ _) ?_
    obtain ⟨r30, M30, hr30, h⟩ := bn2_i h
    refine a_ret (v := (some (.int r30))) (M1 := M30) (φ1 := φ) (st1 := [.int r30]) (j1 := 0) (j2 := 0) (ar_S (As := [.int l1, .int ((M 134 3) + r7), .ref 135]) (rest := []) hB (c_N_getChars (bf_G hB) hF hr30) ml_A_248 md_N_getChars rfl rfl (Nat.le_of_ble_eq_true rfl) rm_A_appendI_N_getChars e_A_appendI_30) rfl rfl rfl ?_
    refine a_pop hB e_A_appendI_33 rfl ?_
    refine a_goto (tgt := 48) hB e_A_appendI_34 (by decide) ?_
    refine a_aload_n (j := 2) hB e_A_appendI_48 rfl rfl ?_
    refine a_iload_n (j := 0) hB e_A_appendI_49 rfl rfl ?_
    obtain ⟨M50, hM50, h⟩ := bm_i h
    refine a_putI (k := 3) hB e_A_appendI_50 fw_A_79 (sf_lt hF (by decide)) kk_134 tt_134_3 ?_
    refine a_mem hM50 ?_
    refine a_aload_n (j := 2) hB e_A_appendI_53 rfl rfl ?_
    cases h
    exact a_aret hB rfl e_A_appendI_54 (by decide) (by decide)
set_option maxRecDepth 100000 in
theorem c_A_appendI {G : Gt} (hG : GOK G) {φ : Ph} (hF : SF 136 φ)   {M : Mm} {l1 : Int32} {M9 : Mm} (h : f_A_appendI l1 M = some M9) : CT G I_A_appendI [.ref 134, .int l1] M φ (.inl (some (.ref 134))) M9 φ :=
  ct_of hG (by decide) (Nat.le_of_ble_eq_true rfl) (fun B hB => t_A_appendI hB hF  h)
set_option maxRecDepth 100000 in
theorem t_B_appendI {G : Gt} {φ : Ph} {B : Bag} (hB : BF G I_B_appendI B) (hF : SF 136 φ)    {M9 : Mm} {l1 : Int32} {M : Mm} (h : f_B_appendI l1 M = some M9) : AW G I_B_appendI B (QM G I_B_appendI B (.inl (some (.ref 134))) M9 φ) 0 0 0 [(0, .ref 134), (1, .int l1)] [] M φ := by
  unfold f_B_appendI at h
  refine a_aload_n (j := 0) hB e_B_appendI_0 rfl rfl ?_
  refine a_iload_n (j := 1) hB e_B_appendI_1 rfl rfl ?_
  obtain ⟨M2, hr2, h⟩ := bn_i h
  refine a_ret (v := (some (.ref 134))) (M1 := M2) (φ1 := φ) (st1 := [.ref 134]) (j1 := 0) (j2 := 0) (ar_SU (C := RJ4) (T := TJ4) (N := 4) (As := [.int l1]) (rest := []) hB (c_A_appendI (bf_G hB) hF hr2) ml_B_53 mp_A_appendI (by decide) rfl (sf_lt hF (by decide)) kk_134 rfl rfl (Nat.le_of_ble_eq_true rfl) rm_B_appendI_A_appendI e_B_appendI_2) rfl rfl rfl ?_
  refine a_pop hB e_B_appendI_5 rfl ?_
  refine a_aload_n (j := 0) hB e_B_appendI_6 rfl rfl ?_
  cases h
  exact a_aret hB rfl e_B_appendI_7 (by decide) (by decide)
