/-! their proofs -/
set_option maxRecDepth 100000 in
theorem c_B_appendI {G : Gt} (hG : GOK G) {φ : Ph} (hF : SF 136 φ)   {M : Mm} {l1 : Int32} {M9 : Mm} (h : f_B_appendI l1 M = some M9) : CT G I_B_appendI [.ref 134, .int l1] M φ (.inl (some (.ref 134))) M9 φ :=
  ct_of hG (by decide) (Nat.le_of_ble_eq_true rfl) (fun B hB => t_B_appendI hB hF  h)
set_option maxRecDepth 100000 in
theorem t_A_getValue {G : Gt} {φ : Ph} {B : Bag} (hB : BF G I_A_getValue B) (hF : SBw φ)   {M : Mm}   (h : f_A_getValue M = some ()) : AW G I_A_getValue B (QM G I_A_getValue B (.inl (some (.ref 135))) M φ) 0 0 0 [(0, .ref 134)] [] M φ := by
  unfold f_A_getValue at h
  refine a_aload_n (j := 0) hB e_A_getValue_0 rfl rfl ?_
  refine a_getR (r := 135) (k := 0) hB e_A_getValue_1 fl_A_15 (sb_lt hF (by decide)) kk_134 tt_134_0 hF.1 ?_
  exact a_aretA hB rfl e_A_getValue_4 (by decide) (by decide)
set_option maxRecDepth 100000 in
theorem c_A_getValue {G : Gt} (hG : GOK G) {φ : Ph} (hF : SBw φ)   {M : Mm}  (h : f_A_getValue M = some ()) : CT G I_A_getValue [.ref 134] M φ (.inl (some (.ref 135))) M φ :=
  ct_of hG (by decide) (Nat.le_of_ble_eq_true rfl) (fun B hB => t_A_getValue hB hF  h)
set_option maxRecDepth 100000 in
theorem t_A_length {G : Gt} {φ : Ph} {B : Bag} (hB : BF G I_A_length B) (hF : SBw φ)   {M : Mm} {o : Int32}   (h : f_A_length M = some o) : AW G I_A_length B (QM G I_A_length B (.inl (some (.int o))) M φ) 0 0 0 [(0, .ref 134)] [] M φ := by
  unfold f_A_length at h
  refine a_aload_n (j := 0) hB e_A_length_0 rfl rfl ?_
  refine a_getI (k := 3) hB e_A_length_1 fl_A_79 (sb_lt hF (by decide)) kk_134 tt_134_3 ?_
  cases h
  exact a_iret hB rfl e_A_length_4 (by decide) (by decide)
set_option maxRecDepth 100000 in
theorem c_A_length {G : Gt} (hG : GOK G) {φ : Ph} (hF : SBw φ)   {M : Mm}  {o : Int32} (h : f_A_length M = some o) : CT G I_A_length [.ref 134] M φ (.inl (some (.int o))) M φ :=
  ct_of hG (by decide) (Nat.le_of_ble_eq_true rfl) (fun B hB => t_A_length hB hF  h)
set_option maxRecDepth 100000 in
theorem t_B_length {G : Gt} {φ : Ph} {B : Bag} (hB : BF G I_B_length B) (hF : SBw φ)   {M : Mm} {o : Int32}   (h : f_B_length M = some o) : AW G I_B_length B (QM G I_B_length B (.inl (some (.int o))) M φ) 0 0 0 [(0, .ref 134)] [] M φ := by
  unfold f_B_length at h
  refine a_aload_n (j := 0) hB e_B_length_0 rfl rfl ?_
  obtain ⟨r1, hr1, h⟩ := bn_i h
  refine a_ret (v := (some (.int r1))) (M1 := M) (φ1 := φ) (st1 := [.int r1]) (j1 := 0) (j2 := 0) (ar_SU (C := RJ4) (T := TJ4) (N := 4) (As := []) (rest := []) hB (c_A_length (bf_G hB) hF hr1) ml_B_343 mp_A_length (by decide) rfl (sb_lt hF (by decide)) kk_134 rfl rfl (Nat.le_of_ble_eq_true rfl) rm_B_length_A_length e_B_length_1) rfl rfl rfl ?_
  cases h
  exact a_iret hB rfl e_B_length_4 (by decide) (by decide)
set_option maxRecDepth 100000 in
theorem c_B_length {G : Gt} (hG : GOK G) {φ : Ph} (hF : SBw φ)   {M : Mm}  {o : Int32} (h : f_B_length M = some o) : CT G I_B_length [.ref 134] M φ (.inl (some (.int o))) M φ :=
  ct_of hG (by decide) (Nat.le_of_ble_eq_true rfl) (fun B hB => t_B_length hB hF  h)
set_option maxRecDepth 100000 in
theorem t_R_checkLength {G : Gt} {φ : Ph} {B : Bag} (hB : BF G I_R_checkLength B) (hF : SBw φ)   {M : Mm} {l0 : Int32} {l1 : Int32}  (h : f_R_checkLength l0 l1 = some ()) : AW G I_R_checkLength B (QM G I_R_checkLength B (.inl none) M φ) 0 0 0 [(0, .int l0), (1, .int l1)] [] M φ := by
  unfold f_R_checkLength at h
  refine a_iload_n (j := 1) hB e_R_checkLength_0 rfl rfl ?_
  refine a_iload_n (j := 0) hB e_R_checkLength_1 rfl rfl ?_
  refine a_icmp_ge (tgt := 37) hB e_R_checkLength_2 (by decide) (fun c => ?_) (fun c => ?_)
  · have h := ip c h
    exact a_vret hB rfl e_R_checkLength_37 (by decide) (by decide)
  · have h := iq c h
    cases h
set_option maxRecDepth 100000 in
theorem c_R_checkLength {G : Gt} (hG : GOK G) {φ : Ph} (hF : SBw φ)   {M : Mm} {l0 : Int32} {l1 : Int32} (h : f_R_checkLength l0 l1 = some ()) : CT G I_R_checkLength [.int l0, .int l1] M φ (.inl none) M φ :=
  ct_of hG (by decide) (Nat.le_of_ble_eq_true rfl) (fun B hB => t_R_checkLength hB hF  h)
set_option maxRecDepth 100000 in
theorem t_R_copyOfRangeByte {G : Gt} {B : Bag} (hB : BF G I_R_copyOfRangeByte B)  {T : Nat} (hT_T : gT G = T)  {M9 : Mm} {l1 : Int32} {l2 : Int32} {M : Mm} (h : f_R_copyOfRangeByte T l1 l2 M = some M9) : AW G I_R_copyOfRangeByte B (QM G I_R_copyOfRangeByte B (.inl (some (.ref 137))) M9 (ph [(136, 0)] (138))) 0 0 0 [(0, .ref 135), (1, .int l1), (2, .int l2)] [] M (ph [(136, 0)] (137)) := by
  unfold f_R_copyOfRangeByte at h
  refine a_iload_n (j := 1) hB e_R_copyOfRangeByte_0 rfl rfl ?_
  refine a_iload_n (j := 2) hB e_R_copyOfRangeByte_1 rfl rfl ?_
  obtain ⟨r2, hr2, h⟩ := bn_i h
  refine a_ret (v := none) (M1 := M) (φ1 := (ph [(136, 0)] (137))) (st1 := []) (j1 := 0) (j2 := 0) (ar_S (As := [.int l1, .int l2]) (rest := []) hB (c_R_checkLength (bf_G hB) ⟨by decide, by decide⟩ hr2) ml_R_343 md_R_checkLength rfl rfl (Nat.le_of_ble_eq_true rfl) rm_R_copyOfRangeByte_R_checkLength e_R_copyOfRangeByte_2) rfl rfl rfl ?_
  refine a_iload_n (j := 2) hB e_R_copyOfRangeByte_5 rfl rfl ?_
  refine a_iload_n (j := 1) hB e_R_copyOfRangeByte_6 rfl rfl ?_
  refine a_isub hB e_R_copyOfRangeByte_7 ?_
  refine a_istore_n (ls' := [(3, .int (l2 - l1)), (0, .ref 135), (1, .int l1), (2, .int l2)]) hB e_R_copyOfRangeByte_8 rfl (Nat.le_of_ble_eq_true rfl) rfl ?_
  refine a_iload_n (j := 0) hB e_R_copyOfRangeByte_9 rfl rfl ?_
  obtain ⟨⟨c10a, c10b, c10c⟩, h⟩ := chk_i h
  obtain ⟨M10, hM10, h⟩ := bm_i h
  refine a_newT' (a := 137) hB hT_T e_R_copyOfRangeByte_10 ac_byte rfl rfl (by decide) kk_137 c10a c10b c10c rfl rfl (by decide) (by decide) ?_
  refine a_ph (φ' := (ph [(136, 0)] (138))) (ph_nA0 (no_t 137 (by decide))) rfl ?_
  refine a_mem hM10 ?_
  refine a_astore (ls' := [(4, .ref 137), (3, .int (l2 - l1)), (0, .ref 135), (1, .int l1), (2, .int l2)]) hB e_R_copyOfRangeByte_12 (Nat.le_of_ble_eq_true rfl) rfl ?_
  refine a_aload_n (j := 2) hB e_R_copyOfRangeByte_14 rfl rfl ?_
  refine a_iload_n (j := 3) hB e_R_copyOfRangeByte_15 rfl rfl ?_
  refine a_aload (j := 0) hB e_R_copyOfRangeByte_16 rfl ?_
  refine a_iconst (v := 0) hB e_R_copyOfRangeByte_18 ic_0 ?_
  refine a_aload_n (j := 2) hB e_R_copyOfRangeByte_19 rfl rfl ?_
  refine a_alen (v := 16) (t := 11) hB e_R_copyOfRangeByte_20 (ph_lt (by decide)) kk_135 (by decide) ll_135 rfl ?_
  refine a_iload_n (j := 3) hB e_R_copyOfRangeByte_21 rfl rfl ?_
  refine a_isub hB e_R_copyOfRangeByte_22 ?_
  refine a_iload_n (j := 1) hB e_R_copyOfRangeByte_23 rfl rfl ?_
  refine a_min hB ml_R_304 ms_min ini_math mc_min (by decide) (Nat.le_of_ble_eq_true rfl) (by decide) (by decide) e_R_copyOfRangeByte_24 ?_
  obtain ⟨⟨⟨⟨c27a, c27b, c27c⟩, c27d, c27e⟩, c27f⟩, h⟩ := chk_i h
  obtain ⟨M27, hM27, h⟩ := bm_i h
  refine a_cpyT hB ml_R_150 nat_copy sta_copy ini_sys e_R_copyOfRangeByte_27 (ph_lt (by decide)) kk_135 (ph_lt (by decide)) kk_137 c27a c27b c27c (by rw [ll_135]; exact c27d) (by rw [hT_T]; exact c27e) (fun j hj => fit_B (c27f j hj)) (by decide) (Nat.le_of_ble_eq_true rfl) ?_
  refine a_mem hM27 ?_
  refine a_aload (j := 0) hB e_R_copyOfRangeByte_30 rfl ?_
  cases h
  exact a_aretA hB rfl e_R_copyOfRangeByte_32 (by decide) (by decide)
set_option maxRecDepth 100000 in
theorem c_R_copyOfRangeByte {G : Gt} (hG : GOK G)  {T : Nat} (hT_T : gT G = T) {M : Mm} {l1 : Int32} {l2 : Int32} {M9 : Mm} (h : f_R_copyOfRangeByte T l1 l2 M = some M9) : CT G I_R_copyOfRangeByte [.ref 135, .int l1, .int l2] M (ph [(136, 0)] (137)) (.inl (some (.ref 137))) M9 (ph [(136, 0)] (138)) :=
  ct_of hG (by decide) (Nat.le_of_ble_eq_true rfl) (fun B hB => t_R_copyOfRangeByte hB  hT_T h)
set_option maxRecDepth 100000 in
theorem t_R_copyOfRange_10 {G : Gt} {B : Bag} (hB : BF G I_R_copyOfRange B)  {T : Nat} (hT_T : gT G = T)  {M9 : Mm} {l1 : Int32} {l2 : Int32} {M : Mm} (h : f_R_copyOfRange_10 T l1 l2 M = some M9) : AW G I_R_copyOfRange B (QM G I_R_copyOfRange B (.inl (some (.ref 137))) M9 (ph [(136, 0)] (138))) 0 0 10 [(0, .ref 135), (1, .int l1), (2, .int l2)] [] M (ph [(136, 0)] (137)) := by
  unfold f_R_copyOfRange_10 at h
  refine a_aload_n (j := 0) hB e_R_copyOfRange_10 rfl rfl ?_
  refine a_iload_n (j := 1) hB e_R_copyOfRange_11 rfl rfl ?_
  refine a_iload_n (j := 2) hB e_R_copyOfRange_12 rfl rfl ?_
  obtain ⟨M13, hr13, h⟩ := bn_i h
  refine a_ret (v := (some (.ref 137))) (M1 := M13) (φ1 := (ph [(136, 0)] (138))) (st1 := [.ref 137]) (j1 := 1) (j2 := 16) (ar_S (As := [.ref 135, .int l1, .int l2]) (rest := []) hB (c_R_copyOfRangeByte (bf_G hB) hT_T hr13) ml_R_339 md_R_copyOfRangeByte rfl rfl (Nat.le_of_ble_eq_true rfl) rm_R_copyOfRange_R_copyOfRangeByte e_R_copyOfRange_13) rfl rfl rfl ?_
  cases h
  exact a_aretA hB rfl e_R_copyOfRange_16 (by decide) (by decide)
set_option maxRecDepth 100000 in
theorem t_R_copyOfRange {G : Gt} {B : Bag} (hB : BF G I_R_copyOfRange B)  {T : Nat} (hT_T : gT G = T)  {M9 : Mm} {l1 : Int32} {l2 : Int32} {M : Mm} (h : f_R_copyOfRange T l1 l2 M = some M9) : AW G I_R_copyOfRange B (QM G I_R_copyOfRange B (.inl (some (.ref 137))) M9 (ph [(136, 0)] (138))) 0 0 0 [(0, .ref 135), (1, .int l1), (2, .int l2)] [] M (ph [(136, 0)] (137)) := by
  unfold f_R_copyOfRange at h
  refine a_iload_n (j := 1) hB e_R_copyOfRange_0 rfl rfl ?_
  refine a_if_ne (tgt := 10) hB e_R_copyOfRange_1 (by decide) (fun c => ?_) (fun c => ?_)
  · have h := iq c h
    exact t_R_copyOfRange_10 hB hT_T h
  · have h := ip c h
    refine a_iload_n (j := 2) hB e_R_copyOfRange_4 rfl rfl ?_
    refine a_aload_n (j := 0) hB e_R_copyOfRange_5 rfl rfl ?_
    refine a_alen (v := 16) (t := 11) hB e_R_copyOfRange_6 (ph_lt (by decide)) kk_135 (by decide) ll_135 rfl ?_
    refine a_icmp_eq (tgt := 17) hB e_R_copyOfRange_7 (by decide) (fun c => ?_) (fun c => ?_)
    · have h := ip c h
      cases h
    · have h := iq c h
      exact t_R_copyOfRange_10 hB hT_T h
set_option maxRecDepth 100000 in
theorem c_R_copyOfRange {G : Gt} (hG : GOK G)  {T : Nat} (hT_T : gT G = T) {M : Mm} {l1 : Int32} {l2 : Int32} {M9 : Mm} (h : f_R_copyOfRange T l1 l2 M = some M9) : CT G I_R_copyOfRange [.ref 135, .int l1, .int l2] M (ph [(136, 0)] (137)) (.inl (some (.ref 137))) M9 (ph [(136, 0)] (138)) :=
  ct_of hG (by decide) (Nat.le_of_ble_eq_true rfl) (fun B hB => t_R_copyOfRange hB  hT_T h)
set_option maxRecDepth 100000 in
theorem t_X_init2 {G : Gt} {B : Bag} (hB : BF G I_X_init2 B)  {T : Nat} (hT_T : gT G = T)  {M9 : Mm}  {M : Mm} (h : f_X_init2 T M = some M9) : AW G I_X_init2 B (QM G I_X_init2 B (.inl none) M9 (ph [] (138))) 0 0 0 [(0, .ref 136), (1, .ref 134), (2, .null)] [] M (ph [(136, 0)] (137)) := by
  unfold f_X_init2 at h
  refine a_aload_n (j := 0) hB e_X_init2_0 rfl rfl ?_
  refine a_objInit hB ol_U_1 oi_i oi_c e_X_init2_1 (by decide) (Nat.le_of_ble_eq_true rfl) ?_
  refine a_aload_n (j := 1) hB e_X_init2_4 rfl rfl ?_
  obtain ⟨r5, hr5, h⟩ := bn_i h
  refine a_ret (v := (some (.ref 135))) (M1 := M) (φ1 := (ph [(136, 0)] (137))) (st1 := [.ref 135]) (j1 := 0) (j2 := 0) (ar_VU (T := TJ4) (N := 4) (As := []) (rest := []) hB (c_A_getValue (bf_G hB) ⟨by decide, by decide⟩ hr5) mlx_U_552 mu_A_getValue (by decide) rfl (ph_lt (by decide)) kk_134 rfl rfl (Nat.le_of_ble_eq_true rfl) rm_X_init2_A_getValue e_X_init2_5) rfl rfl rfl ?_
  refine a_astore_n (ls' := [(3, .ref 135), (0, .ref 136), (1, .ref 134), (2, .null)]) hB e_X_init2_8 rfl (Nat.le_of_ble_eq_true rfl) rfl ?_
  refine a_aload_n (j := 2) hB e_X_init2_9 rfl rfl ?_
  obtain ⟨r10, hr10, h⟩ := bn_i h
  refine a_ret (v := (some (.int r10))) (M1 := M) (φ1 := (ph [(136, 0)] (137))) (st1 := [.int r10]) (j1 := 0) (j2 := 0) (ar_VU (T := TJ4) (N := 4) (As := []) (rest := []) hB (c_B_length (bf_G hB) ⟨by decide, by decide⟩ hr10) mlx_U_549 mu_B_length (by decide) rfl (ph_lt (by decide)) kk_134 rfl rfl (Nat.le_of_ble_eq_true rfl) rm_X_init2_B_length e_X_init2_10) rfl rfl rfl ?_
  refine a_istore (ls' := [(4, .int r10), (3, .ref 135), (0, .ref 136), (1, .ref 134), (2, .null)]) hB e_X_init2_13 (Nat.le_of_ble_eq_true rfl) rfl ?_
  refine a_aload_n (j := 3) hB e_X_init2_15 rfl rfl ?_
  obtain ⟨r16, hr16, h⟩ := bn_i h
  refine a_ret (v := (some (.int r16))) (M1 := M) (φ1 := (ph [(136, 0)] (137))) (st1 := [.int r16]) (j1 := 0) (j2 := 0) (ar_VU (T := TJ4) (N := 4) (As := []) (rest := []) hB (c_A_isLatin1 (bf_G hB) ⟨by decide, by decide⟩ hr16) mlx_U_1047 mu_A_isLatin1 (by decide) rfl (ph_lt (by decide)) kk_134 rfl rfl (Nat.le_of_ble_eq_true rfl) rm_X_init2_A_isLatin1 e_X_init2_16) rfl rfl rfl ?_
  refine a_if_eq (tgt := 41) hB e_X_init2_19 (by decide) (fun c => ?_) (fun c => ?_)
  · have h := ip c h
    cases h
  · have h := iq c h
    refine a_aload_n (j := 2) hB e_X_init2_22 rfl rfl ?_
    refine a_iconst (v := 0) hB e_X_init2_23 ic_0 ?_
    obtain ⟨M24, hM24, h⟩ := bm_i h
    refine a_putBF0 (k := 1) hB rfl e_X_init2_24 ff_U_15 (ph_lt (by decide)) kk_136 tt_136_1 ?_
    refine a_mem hM24 ?_
    refine a_aload_n (j := 2) hB e_X_init2_27 rfl rfl ?_
    refine a_aload_n (j := 1) hB e_X_init2_28 rfl rfl ?_
    refine a_iconst (v := 0) hB e_X_init2_29 ic_0 ?_
    refine a_iload (j := 0) hB e_X_init2_30 rfl ?_
    obtain ⟨M32, hr32, h⟩ := bn_i h
    refine a_ret (v := (some (.ref 137))) (M1 := M32) (φ1 := (ph [(136, 0)] (138))) (st1 := [.ref 137, .ref 136]) (j1 := 1) (j2 := 16) (ar_S (As := [.ref 135, .int (0 : Int32), .int r10]) (rest := [.ref 136]) hB (c_R_copyOfRange (bf_G hB) hT_T hr32) mlx_U_54 md_R_copyOfRange rfl rfl (Nat.le_of_ble_eq_true rfl) rm_X_init2_R_copyOfRange e_X_init2_32) rfl rfl rfl ?_
    refine a_putR (r := 137) (k := 0) hB rfl e_X_init2_35 ff_U_9 rfl (ph_lt (by decide)) kk_136 tt_136_0 ?_
    refine a_ph (φ' := (ph [(136, 1)] (138))) (ph_nS (by decide) (by decide) (by decide)) rfl ?_
    refine a_ph (φ' := (ph [] (138))) (ph_done (tg_tl (by decide) (by decide))) rfl ?_
    refine a_goto (tgt := 97) hB e_X_init2_38 (by decide) ?_
    cases h
    exact a_vret hB rfl e_X_init2_97 (by decide) (by decide)
set_option maxRecDepth 100000 in
theorem c_X_init2 {G : Gt} (hG : GOK G)  {T : Nat} (hT_T : gT G = T) {M : Mm}  {M9 : Mm} (h : f_X_init2 T M = some M9) : CT G I_X_init2 [.ref 136, .ref 134, .null] M (ph [(136, 0)] (137)) (.inl none) M9 (ph [] (138)) :=
  ct_of hG (by decide) (Nat.le_of_ble_eq_true rfl) (fun B hB => t_X_init2 hB  hT_T h)
set_option maxRecDepth 100000 in
theorem t_X_init {G : Gt} {B : Bag} (hB : BF G I_X_init B)  {T : Nat} (hT_T : gT G = T)  {M9 : Mm}  {M : Mm} (h : f_X_init T M = some M9) : AW G I_X_init B (QM G I_X_init B (.inl none) M9 (ph [] (138))) 0 0 0 [(0, .ref 136), (1, .ref 134)] [] M (ph [(136, 0)] (137)) := by
  unfold f_X_init at h
  refine a_aload_n (j := 0) hB e_X_init_0 rfl rfl ?_
  refine a_aload_n (j := 1) hB e_X_init_1 rfl rfl ?_
  refine a_null hB e_X_init_2 ?_
  obtain ⟨M3, hr3, h⟩ := bn_i h
  refine a_ret (v := none) (M1 := M3) (φ1 := (ph [] (138))) (st1 := []) (j1 := 1) (j2 := 16) (ar_I (As := [.ref 134, .null]) (rest := []) hB (c_X_init2 (bf_G hB) hT_T hr3) mlx_U_489 md_X_init2 rfl rfl (Nat.le_of_ble_eq_true rfl) rm_X_init_X_init2 e_X_init_3) rfl rfl rfl ?_
  cases h
  exact a_vret hB rfl e_X_init_6 (by decide) (by decide)
set_option maxRecDepth 100000 in
theorem c_X_init {G : Gt} (hG : GOK G)  {T : Nat} (hT_T : gT G = T) {M : Mm}  {M9 : Mm} (h : f_X_init T M = some M9) : CT G I_X_init [.ref 136, .ref 134] M (ph [(136, 0)] (137)) (.inl none) M9 (ph [] (138)) :=
  ct_of hG (by decide) (Nat.le_of_ble_eq_true rfl) (fun B hB => t_X_init hB  hT_T h)
set_option maxRecDepth 100000 in
theorem t_B_toString {G : Gt} {B : Bag} (hB : BF G I_B_toString B)  {T : Nat} (hT_T : gT G = T)  {M9 : Mm}  {M : Mm} (h : f_B_toString T M = some M9) : AW G I_B_toString B (QM G I_B_toString B (.inl (some (.ref 136))) M9 (ph [] (138))) 0 0 0 [(0, .ref 134)] [] M (ph [] (136)) := by
  unfold f_B_toString at h
  obtain ⟨M0, hM0, h⟩ := bm_i h
  refine a_new (a := 136) hB e_B_toString_0 ck_9 cl_B_18 is_9 ic_X9 rfl rfl (by decide) kk_136 hd_9_136 rfl rfl (by decide) (by decide) ?_
  refine a_ph (φ' := (ph [(136, 0)] (137))) ph_nA rfl ?_
  refine a_mem hM0 ?_
  refine a_dup hB e_B_toString_3 rfl ?_
  refine a_aload_n (j := 0) hB e_B_toString_4 rfl rfl ?_
  obtain ⟨M5, hr5, h⟩ := bn_i h
  refine a_ret (v := none) (M1 := M5) (φ1 := (ph [] (138))) (st1 := [.ref 136]) (j1 := 2) (j2 := 20) (ar_I (As := [.ref 134]) (rest := [.ref 136]) hB (c_X_init (bf_G hB) hT_T hr5) ml_B_137 md_X_init rfl rfl (Nat.le_of_ble_eq_true rfl) rm_B_toString_X_init_1_4 e_B_toString_5) rfl rfl rfl ?_
  cases h
  exact a_aret hB rfl e_B_toString_8 (by decide) (by decide)
set_option maxRecDepth 100000 in
theorem c_B_toString {G : Gt} (hG : GOK G)  {T : Nat} (hT_T : gT G = T) {M : Mm}  {M9 : Mm} (h : f_B_toString T M = some M9) : CT G I_B_toString [.ref 134] M (ph [] (136)) (.inl (some (.ref 136))) M9 (ph [] (138)) :=
  ct_of hG (by decide) (Nat.le_of_ble_eq_true rfl) (fun B hB => t_B_toString hB  hT_T h)
set_option maxRecDepth 100000 in
theorem t_X_coder {G : Gt} {φ : Ph} {B : Bag} (hB : BF G I_X_coder B) (hF : SF 138 φ)   {M : Mm} {o : Int32}   (h : f_X_coder M = some o) : AW G I_X_coder B (QM G I_X_coder B (.inl (some (.int o))) M φ) 0 0 0 [(0, .ref 136)] [] M φ := by
  unfold f_X_coder at h
  refine a_gsCmp hB gs_U_38 e_X_coder_0 ?_
  refine a_if_eq (tgt := 13) hB e_X_coder_3 (by decide) (fun c => absurd c (by decide)) (fun c => ?_)
  refine a_aload_n (j := 0) hB e_X_coder_6 rfl rfl ?_
  refine a_getI (k := 1) hB e_X_coder_7 flx_U_15 (sf_lt hF (by decide)) kk_136 tt_136_1 ?_
  refine a_goto (tgt := 14) hB e_X_coder_10 (by decide) ?_
  obtain ⟨z14, h⟩ := chk_i h
  cases h
  exact a_sret hB rfl (nar_B z14) e_X_coder_14 (by decide) (by decide)
set_option maxRecDepth 100000 in
theorem c_X_coder {G : Gt} (hG : GOK G) {φ : Ph} (hF : SF 138 φ)   {M : Mm}  {o : Int32} (h : f_X_coder M = some o) : CT G I_X_coder [.ref 136] M φ (.inl (some (.int o))) M φ :=
  ct_of hG (by decide) (Nat.le_of_ble_eq_true rfl) (fun B hB => t_X_coder hB hF  h)
set_option maxRecDepth 100000 in
theorem t_X_length {G : Gt} {φ : Ph} {B : Bag} (hB : BF G I_X_length B) (hF : SF 138 φ) {T : Nat} (hT_T : gT G = T) {M : Mm} {o : Int32}   (h : f_X_length T M = some o) : AW G I_X_length B (QM G I_X_length B (.inl (some (.int o))) M φ) 0 0 0 [(0, .ref 136)] [] M φ := by
  unfold f_X_length at h
  refine a_aload_n (j := 0) hB e_X_length_0 rfl rfl ?_
  refine a_getR (r := 137) (k := 0) hB e_X_length_1 flx_U_9 (sf_lt hF (by decide)) kk_136 tt_136_0 (hF.1 _ _) ?_
  refine a_alenT' hB hT_T e_X_length_4 (sf_lt hF (by decide)) kk_137 ?_
  refine a_aload_n (j := 0) hB e_X_length_5 rfl rfl ?_
  obtain ⟨r6, hr6, h⟩ := bn_i h
  refine a_ret (v := (some (.int r6))) (M1 := M) (φ1 := φ) (st1 := [.int r6, .int (Int32.ofNat T)]) (j1 := 0) (j2 := 0) (ar_V (As := []) (rest := [.int (Int32.ofNat T)]) hB (c_X_coder (bf_G hB) hF hr6) mlx_U_335 md_X_coder rc_X_coder (sf_lt hF (by decide)) kk_136 rfl rfl (Nat.le_of_ble_eq_true rfl) rm_X_length_X_coder e_X_length_6) rfl rfl rfl ?_
  refine a_ishr hB e_X_length_9 ?_
  cases h
  exact a_iret hB rfl e_X_length_10 (by decide) (by decide)
set_option maxRecDepth 100000 in
theorem c_X_length {G : Gt} (hG : GOK G) {φ : Ph} (hF : SF 138 φ) {T : Nat} (hT_T : gT G = T) {M : Mm}  {o : Int32} (h : f_X_length T M = some o) : CT G I_X_length [.ref 136] M φ (.inl (some (.int o))) M φ :=
  ct_of hG (by decide) (Nat.le_of_ble_eq_true rfl) (fun B hB => t_X_length hB hF hT_T h)
set_option maxRecDepth 100000 in
theorem t_X_isLatin1_17 {G : Gt} {φ : Ph} {B : Bag} (hB : BF G I_X_isLatin1 B) (hF : SF 138 φ)   {M : Mm} {o : Int32}   (h : f_X_isLatin1_17 M = some o) : AW G I_X_isLatin1 B (QM G I_X_isLatin1 B (.inl (some (.int o))) M φ) 0 0 17 [] [] M φ := by
  unfold f_X_isLatin1_17 at h
  cases h
set_option maxRecDepth 100000 in
theorem t_X_isLatin1 {G : Gt} {φ : Ph} {B : Bag} (hB : BF G I_X_isLatin1 B) (hF : SF 138 φ)   {M : Mm} {o : Int32}   (h : f_X_isLatin1 M = some o) : AW G I_X_isLatin1 B (QM G I_X_isLatin1 B (.inl (some (.int o))) M φ) 0 0 0 [(0, .ref 136)] [] M φ := by
  unfold f_X_isLatin1 at h
  refine a_gsCmp hB gs_U_38 e_X_isLatin1_0 ?_
  refine a_if_eq (tgt := 17) hB e_X_isLatin1_3 (by decide) (fun c => absurd c (by decide)) (fun c => ?_)
  refine a_aload_n (j := 0) hB e_X_isLatin1_6 rfl rfl ?_
  refine a_getI (k := 1) hB e_X_isLatin1_7 flx_U_15 (sf_lt hF (by decide)) kk_136 tt_136_1 ?_
  refine a_if_ne (tgt := 17) hB e_X_isLatin1_10 (by decide) (fun c => ?_) (fun c => ?_)
  · have h := iq c h
    refine a_ls [] (ls' := []) rfl ?_
    exact t_X_isLatin1_17 hB hF h
  · have h := ip c h
    refine a_iconst (v := 1) hB e_X_isLatin1_13 ic_1 ?_
    refine a_goto (tgt := 18) hB e_X_isLatin1_14 (by decide) ?_
    cases h
    exact a_zret hB rfl (Or.inr rfl) e_X_isLatin1_18 (by decide) (by decide)
set_option maxRecDepth 100000 in
theorem c_X_isLatin1 {G : Gt} (hG : GOK G) {φ : Ph} (hF : SF 138 φ)   {M : Mm}  {o : Int32} (h : f_X_isLatin1 M = some o) : CT G I_X_isLatin1 [.ref 136] M φ (.inl (some (.int o))) M φ :=
  ct_of hG (by decide) (Nat.le_of_ble_eq_true rfl) (fun B hB => t_X_isLatin1 hB hF  h)
set_option maxRecDepth 100000 in
theorem t_Y_charAt {G : Gt} {φ : Ph} {B : Bag} (hB : BF G I_Y_charAt B) (hF : SF 138 φ) {T : Nat} (hT_T : gT G = T) {M : Mm} {o : Int32} {l1 : Int32}  (h : f_Y_charAt T M l1 = some o) : AW G I_Y_charAt B (QM G I_Y_charAt B (.inl (some (.int o))) M φ) 0 0 0 [(0, .ref 137), (1, .int l1)] [] M φ := by
  unfold f_Y_charAt at h
  refine a_iload_n (j := 1) hB e_Y_charAt_0 rfl rfl ?_
  refine a_aload_n (j := 0) hB e_Y_charAt_1 rfl rfl ?_
  refine a_alenT' hB hT_T e_Y_charAt_2 (sf_lt hF (by decide)) kk_137 ?_
  obtain ⟨r3, hr3, h⟩ := bn_i h
  refine a_ret (v := none) (M1 := M) (φ1 := φ) (st1 := []) (j1 := 0) (j2 := 0) (ar_S (As := [.int l1, .int (Int32.ofNat T)]) (rest := []) hB (c_U_checkIndexF (bf_G hB) hr3) ml_V_9 md_U_checkIndex rfl rfl (Nat.le_of_ble_eq_true rfl) rm_Y_charAt_U_checkIndex e_Y_charAt_3) rfl rfl rfl ?_
  refine a_aload_n (j := 0) hB e_Y_charAt_6 rfl rfl ?_
  refine a_iload_n (j := 1) hB e_Y_charAt_7 rfl rfl ?_
  obtain ⟨c8, h⟩ := chk_i h
  refine a_baldT' hB hT_T e_Y_charAt_8 (sf_lt hF (by decide)) kk_137 c8 ?_
  refine a_sipush (v := 255) hB e_Y_charAt_9 sp_255 ?_
  refine a_iand hB e_Y_charAt_12 ?_
  refine a_i2c hB e_Y_charAt_13 ?_
  obtain ⟨z14, h⟩ := chk_i h
  cases h
  exact a_sret hB rfl (nar_C z14) e_Y_charAt_14 (by decide) (by decide)
set_option maxRecDepth 100000 in
theorem c_Y_charAt {G : Gt} (hG : GOK G) {φ : Ph} (hF : SF 138 φ) {T : Nat} (hT_T : gT G = T) {M : Mm} {l1 : Int32} {o : Int32} (h : f_Y_charAt T M l1 = some o) : CT G I_Y_charAt [.ref 137, .int l1] M φ (.inl (some (.int o))) M φ :=
  ct_of hG (by decide) (Nat.le_of_ble_eq_true rfl) (fun B hB => t_Y_charAt hB hF hT_T h)
set_option maxRecDepth 100000 in
theorem t_X_charAt {G : Gt} {φ : Ph} {B : Bag} (hB : BF G I_X_charAt B) (hF : SF 138 φ) {T : Nat} (hT_T : gT G = T) {M : Mm} {o : Int32} {l1 : Int32}  (h : f_X_charAt T M l1 = some o) : AW G I_X_charAt B (QM G I_X_charAt B (.inl (some (.int o))) M φ) 0 0 0 [(0, .ref 136), (1, .int l1)] [] M φ := by
  unfold f_X_charAt at h
  refine a_aload_n (j := 0) hB e_X_charAt_0 rfl rfl ?_
  obtain ⟨r1, hr1, h⟩ := bn_i h
  refine a_ret (v := (some (.int r1))) (M1 := M) (φ1 := φ) (st1 := [.int r1]) (j1 := 0) (j2 := 0) (ar_V (As := []) (rest := []) hB (c_X_isLatin1 (bf_G hB) hF hr1) mlx_U_492 md_X_isLatin1 rc_X_isLatin1 (sf_lt hF (by decide)) kk_136 rfl rfl (Nat.le_of_ble_eq_true rfl) rm_X_charAt_X_isLatin1 e_X_charAt_1) rfl rfl rfl ?_
  refine a_if_eq (tgt := 16) hB e_X_charAt_4 (by decide) (fun c => ?_) (fun c => ?_)
  · have h := ip c h
    cases h
  · have h := iq c h
    refine a_aload_n (j := 0) hB e_X_charAt_7 rfl rfl ?_
    refine a_getR (r := 137) (k := 0) hB e_X_charAt_8 flx_U_9 (sf_lt hF (by decide)) kk_136 tt_136_0 (hF.1 _ _) ?_
    refine a_iload_n (j := 1) hB e_X_charAt_11 rfl rfl ?_
    obtain ⟨r12, hr12, h⟩ := bn_i h
    refine a_ret (v := (some (.int r12))) (M1 := M) (φ1 := φ) (st1 := [.int r12]) (j1 := 0) (j2 := 0) (ar_S (As := [.ref 137, .int l1]) (rest := []) hB (c_Y_charAt (bf_G hB) hF hT_T hr12) mlx_U_495 md_Y_charAt rfl rfl (Nat.le_of_ble_eq_true rfl) rm_X_charAt_Y_charAt e_X_charAt_12) rfl rfl rfl ?_
    obtain ⟨z15, h⟩ := chk_i h
    cases h
    exact a_sret hB rfl (nar_C z15) e_X_charAt_15 (by decide) (by decide)
set_option maxRecDepth 100000 in
theorem c_X_charAt {G : Gt} (hG : GOK G) {φ : Ph} (hF : SF 138 φ) {T : Nat} (hT_T : gT G = T) {M : Mm} {l1 : Int32} {o : Int32} (h : f_X_charAt T M l1 = some o) : CT G I_X_charAt [.ref 136, .int l1] M φ (.inl (some (.int o))) M φ :=
  ct_of hG (by decide) (Nat.le_of_ble_eq_true rfl) (fun B hB => t_X_charAt hB hF hT_T h)
set_option maxRecDepth 100000 in
theorem t_W_truncateInput {G : Gt} {φ : Ph} {B : Bag} (hB : BF G I_W_truncateInput B) (hF : SF 138 φ) (hd : dirt φ = φ)    {o : Int32} {M9 : Mm} {l1 : Int32} {M : Mm} (h : f_W_truncateInput l1 M = some (o, M9)) : AW G I_W_truncateInput B (QM G I_W_truncateInput B (.inl (some (.int o))) M9 φ) 0 0 0 [(0, .ref 0), (1, .int l1)] [] M φ := by
  unfold f_W_truncateInput at h
  refine a_aload_n (j := 0) hB e_W_truncateInput_0 rfl rfl ?_
  refine a_iload_n (j := 1) hB e_W_truncateInput_1 rfl rfl ?_
  rcases bc2_i h with ⟨e2, M2, hr2, h⟩ | ⟨r2, M2, hr2, h⟩
  · rcases Decidable.em (e2 = 1) with q | q
    · have h := ip q h
      subst q
      refine a_catN (E := "java/lang/IllegalArgumentException") (M1 := M2) (φ1 := dirt φ) (j1 := 1) (j2 := 6) (pc1 := 7) hB (ar_V (As := [.int l1]) (rest := []) hB (c_C_truncateInput (bf_G hB) (sf_m hF (by decide)) hr2) ml_W_7 md_C_truncateInput rc_C_truncateInput (sf_lt hF (by decide)) kk_0 rfl rfl (Nat.le_of_ble_eq_true rfl) rm_W_truncateInput_C_truncateInput e_W_truncateInput_2) rfl rfl [] ⟨0, 5, 6, 13⟩ [] rfl (fun z hz => nomatch hz) (by decide) (by decide) cl_W_13 ca_1 e_W_truncateInput_6 (by decide) rfl ?_
      rw [hd]
      refine a_ldc (v := -1000000018) hB cn_W_15 e_W_truncateInput_7 ?_
      cases h
      exact a_iret hB rfl e_W_truncateInput_9 (by decide) (by decide)
    · have h := iq q h
      cases h
  · refine a_ret (v := (some (.int r2))) (M1 := M2) (φ1 := φ) (st1 := [.int r2]) (j1 := 1) (j2 := 6) (ar_V (As := [.int l1]) (rest := []) hB (c_C_truncateInput (bf_G hB) (sf_m hF (by decide)) hr2) ml_W_7 md_C_truncateInput rc_C_truncateInput (sf_lt hF (by decide)) kk_0 rfl rfl (Nat.le_of_ble_eq_true rfl) rm_W_truncateInput_C_truncateInput e_W_truncateInput_2) rfl rfl rfl ?_
    cases h
    exact a_iret hB rfl e_W_truncateInput_5 (by decide) (by decide)
set_option maxRecDepth 100000 in
theorem c_W_truncateInput {G : Gt} (hG : GOK G) {φ : Ph} (hF : SF 138 φ) (hd : dirt φ = φ)   {M : Mm} {l1 : Int32} {o : Int32} {M9 : Mm} (h : f_W_truncateInput l1 M = some (o, M9)) : CT G I_W_truncateInput [.ref 0, .int l1] M φ (.inl (some (.int o))) M9 φ :=
  ct_of hG (by decide) (Nat.le_of_ble_eq_true rfl) (fun B hB => t_W_truncateInput hB hF hd  h)
set_option maxRecDepth 100000 in
theorem t_W_addLeg {G : Gt} {φ : Ph} {B : Bag} (hB : BF G I_W_addLeg B) (hF : SF 138 φ) (hd : dirt φ = φ)    {o : Int32} {M9 : Mm} {l1 : Int32} {l2 : Int32} {l3 : Int32} {l4 : Int32} {l5 : Int32} {M : Mm} (h : f_W_addLeg l1 l2 l3 l4 l5 M = some (o, M9)) : AW G I_W_addLeg B (QM G I_W_addLeg B (.inl (some (.int o))) M9 φ) 0 0 0 [(0, .ref 0), (1, .int l1), (2, .int l2), (3, .int l3), (4, .int l4), (5, .int l5)] [] M φ := by
  unfold f_W_addLeg at h
  refine a_aload_n (j := 0) hB e_W_addLeg_0 rfl rfl ?_
  refine a_iload_n (j := 1) hB e_W_addLeg_1 rfl rfl ?_
  refine a_iload_n (j := 2) hB e_W_addLeg_2 rfl rfl ?_
  refine a_iload_n (j := 3) hB e_W_addLeg_3 rfl rfl ?_
  refine a_iload (j := 4) hB e_W_addLeg_4 rfl ?_
  refine a_iload (j := 5) hB e_W_addLeg_6 rfl ?_
  rcases bc2_i h with ⟨e8, M8, hr8, h⟩ | ⟨r8, M8, hr8, h⟩
  · rcases Decidable.em (e8 = 1) with q | q
    · have h := ip q h
      subst q
      refine a_cat (E := "java/lang/IllegalArgumentException") (M1 := M8) (φ1 := dirt φ) (j1 := 1) (j2 := 6) (pc1 := 14) hB (ar_V (As := [.int l1, .int l2, .int l3, .int l4, .int l5]) (rest := []) hB (c_C_addLeg (bf_G hB) (sf_m hF (by decide)) hr8) ml_W_16 md_C_addLeg rc_C_addLeg (sf_lt hF (by decide)) kk_0 rfl rfl (Nat.le_of_ble_eq_true rfl) rm_W_addLeg_C_addLeg e_W_addLeg_8) rfl rfl [] ⟨0, 11, 12, 13⟩ [⟨0, 11, 17, 20⟩] rfl (fun z hz => nomatch hz) (by decide) (by decide) cl_W_13 ca_1 e_W_addLeg_12 (by decide) rfl ?_
      rw [hd]
      refine a_ldc (v := -1000000018) hB cn_W_15 e_W_addLeg_14 ?_
      cases h
      exact a_iret hB rfl e_W_addLeg_16 (by decide) (by decide)
    · have h := iq q h
      rcases Decidable.em (e8 = 2) with q | q
      · have h := ip q h
        subst q
        refine a_cat (E := "java/lang/IllegalStateException") (M1 := M8) (φ1 := dirt φ) (j1 := 1) (j2 := 6) (pc1 := 19) hB (ar_V (As := [.int l1, .int l2, .int l3, .int l4, .int l5]) (rest := []) hB (c_C_addLeg (bf_G hB) (sf_m hF (by decide)) hr8) ml_W_16 md_C_addLeg rc_C_addLeg (sf_lt hF (by decide)) kk_0 rfl rfl (Nat.le_of_ble_eq_true rfl) rm_W_addLeg_C_addLeg e_W_addLeg_8) rfl rfl [⟨0, 11, 12, 13⟩] ⟨0, 11, 17, 20⟩ [] rfl (fun z hz => by rcases List.mem_singleton.mp hz with rfl; exact Or.inr ⟨by decide, _, cl_W_13, (bf_G hB).2.2.2.2.2.2.2.2.1 _ (by decide) _ (by decide) (by decide)⟩) (by decide) (by decide) cl_W_20 ca_2 e_W_addLeg_17 (by decide) rfl ?_
        rw [hd]
        refine a_ldc (v := -1000000019) hB cn_W_22 e_W_addLeg_19 ?_
        cases h
        exact a_iret hB rfl e_W_addLeg_21 (by decide) (by decide)
      · have h := iq q h
        cases h
  · refine a_ret (v := (some (.int r8))) (M1 := M8) (φ1 := φ) (st1 := [.int r8]) (j1 := 1) (j2 := 6) (ar_V (As := [.int l1, .int l2, .int l3, .int l4, .int l5]) (rest := []) hB (c_C_addLeg (bf_G hB) (sf_m hF (by decide)) hr8) ml_W_16 md_C_addLeg rc_C_addLeg (sf_lt hF (by decide)) kk_0 rfl rfl (Nat.le_of_ble_eq_true rfl) rm_W_addLeg_C_addLeg e_W_addLeg_8) rfl rfl rfl ?_
    cases h
    exact a_iret hB rfl e_W_addLeg_11 (by decide) (by decide)
set_option maxRecDepth 100000 in
theorem c_W_addLeg {G : Gt} (hG : GOK G) {φ : Ph} (hF : SF 138 φ) (hd : dirt φ = φ)   {M : Mm} {l1 : Int32} {l2 : Int32} {l3 : Int32} {l4 : Int32} {l5 : Int32} {o : Int32} {M9 : Mm} (h : f_W_addLeg l1 l2 l3 l4 l5 M = some (o, M9)) : CT G I_W_addLeg [.ref 0, .int l1, .int l2, .int l3, .int l4, .int l5] M φ (.inl (some (.int o))) M9 φ :=
  ct_of hG (by decide) (Nat.le_of_ble_eq_true rfl) (fun B hB => t_W_addLeg hB hF hd  h)
set_option maxRecDepth 100000 in
theorem t_W_addBog {G : Gt} {φ : Ph} {B : Bag} (hB : BF G I_W_addBog B) (hF : SF 138 φ) (hd : dirt φ = φ)    {o : Int32} {M9 : Mm} {l1 : Int32} {l2 : Int32} {M : Mm} (h : f_W_addBog l1 l2 M = some (o, M9)) : AW G I_W_addBog B (QM G I_W_addBog B (.inl (some (.int o))) M9 φ) 0 0 0 [(0, .ref 0), (1, .int l1), (2, .int l2)] [] M φ := by
  unfold f_W_addBog at h
  refine a_aload_n (j := 0) hB e_W_addBog_0 rfl rfl ?_
  refine a_iload_n (j := 1) hB e_W_addBog_1 rfl rfl ?_
  refine a_iload_n (j := 2) hB e_W_addBog_2 rfl rfl ?_
  rcases bc2_i h with ⟨e3, M3, hr3, h⟩ | ⟨r3, M3, hr3, h⟩
  · rcases Decidable.em (e3 = 1) with q | q
    · have h := ip q h
      subst q
      refine a_catN (E := "java/lang/IllegalArgumentException") (M1 := M3) (φ1 := dirt φ) (j1 := 1) (j2 := 6) (pc1 := 8) hB (ar_V (As := [.int l1, .int l2]) (rest := []) hB (c_C_addBog (bf_G hB) (sf_m hF (by decide)) hr3) ml_W_23 md_C_addBog rc_C_addBog (sf_lt hF (by decide)) kk_0 rfl rfl (Nat.le_of_ble_eq_true rfl) rm_W_addBog_C_addBog e_W_addBog_3) rfl rfl [] ⟨0, 6, 7, 13⟩ [⟨0, 6, 11, 20⟩] rfl (fun z hz => nomatch hz) (by decide) (by decide) cl_W_13 ca_1 e_W_addBog_7 (by decide) rfl ?_
      rw [hd]
      refine a_ldc (v := -1000000018) hB cn_W_15 e_W_addBog_8 ?_
      cases h
      exact a_iret hB rfl e_W_addBog_10 (by decide) (by decide)
    · have h := iq q h
      rcases Decidable.em (e3 = 2) with q | q
      · have h := ip q h
        subst q
        refine a_catN (E := "java/lang/IllegalStateException") (M1 := M3) (φ1 := dirt φ) (j1 := 1) (j2 := 6) (pc1 := 12) hB (ar_V (As := [.int l1, .int l2]) (rest := []) hB (c_C_addBog (bf_G hB) (sf_m hF (by decide)) hr3) ml_W_23 md_C_addBog rc_C_addBog (sf_lt hF (by decide)) kk_0 rfl rfl (Nat.le_of_ble_eq_true rfl) rm_W_addBog_C_addBog e_W_addBog_3) rfl rfl [⟨0, 6, 7, 13⟩] ⟨0, 6, 11, 20⟩ [] rfl (fun z hz => by rcases List.mem_singleton.mp hz with rfl; exact Or.inr ⟨by decide, _, cl_W_13, (bf_G hB).2.2.2.2.2.2.2.2.1 _ (by decide) _ (by decide) (by decide)⟩) (by decide) (by decide) cl_W_20 ca_2 e_W_addBog_11 (by decide) rfl ?_
        rw [hd]
        refine a_ldc (v := -1000000019) hB cn_W_22 e_W_addBog_12 ?_
        cases h
        exact a_iret hB rfl e_W_addBog_14 (by decide) (by decide)
      · have h := iq q h
        cases h
  · refine a_ret (v := (some (.int r3))) (M1 := M3) (φ1 := φ) (st1 := [.int r3]) (j1 := 1) (j2 := 6) (ar_V (As := [.int l1, .int l2]) (rest := []) hB (c_C_addBog (bf_G hB) (sf_m hF (by decide)) hr3) ml_W_23 md_C_addBog rc_C_addBog (sf_lt hF (by decide)) kk_0 rfl rfl (Nat.le_of_ble_eq_true rfl) rm_W_addBog_C_addBog e_W_addBog_3) rfl rfl rfl ?_
    cases h
    exact a_iret hB rfl e_W_addBog_6 (by decide) (by decide)
set_option maxRecDepth 100000 in
theorem c_W_addBog {G : Gt} (hG : GOK G) {φ : Ph} (hF : SF 138 φ) (hd : dirt φ = φ)   {M : Mm} {l1 : Int32} {l2 : Int32} {o : Int32} {M9 : Mm} (h : f_W_addBog l1 l2 M = some (o, M9)) : CT G I_W_addBog [.ref 0, .int l1, .int l2] M φ (.inl (some (.int o))) M9 φ :=
  ct_of hG (by decide) (Nat.le_of_ble_eq_true rfl) (fun B hB => t_W_addBog hB hF hd  h)
set_option maxRecDepth 100000 in
theorem t_W_dropPin {G : Gt} {φ : Ph} {B : Bag} (hB : BF G I_W_dropPin B) (hF : SF 138 φ) (hd : dirt φ = φ)    {o : Int32} {M9 : Mm} {l1 : Int32} {M : Mm} (h : f_W_dropPin l1 M = some (o, M9)) : AW G I_W_dropPin B (QM G I_W_dropPin B (.inl (some (.int o))) M9 φ) 0 0 0 [(0, .ref 0), (1, .int l1)] [] M φ := by
  unfold f_W_dropPin at h
  refine a_aload_n (j := 0) hB e_W_dropPin_0 rfl rfl ?_
  refine a_iload_n (j := 1) hB e_W_dropPin_1 rfl rfl ?_
  rcases bc2_i h with ⟨e2, M2, hr2, h⟩ | ⟨r2, M2, hr2, h⟩
  · rcases Decidable.em (e2 = 3) with q | q
    · have h := ip q h
      subst q
      refine a_catN (E := "java/lang/IndexOutOfBoundsException") (M1 := M2) (φ1 := dirt φ) (j1 := 2) (j2 := 12) (pc1 := 7) hB (ar_V (As := [.int l1]) (rest := []) hB (c_C_dropPin (bf_G hB) (sf_m hF (by decide)) hr2) ml_W_27 md_C_dropPin rc_C_dropPin (sf_lt hF (by decide)) kk_0 rfl rfl (Nat.le_of_ble_eq_true rfl) rm_W_dropPin_C_dropPin e_W_dropPin_2) rfl rfl [] ⟨0, 5, 6, 30⟩ [⟨0, 5, 10, 20⟩] rfl (fun z hz => nomatch hz) (by decide) (by decide) cl_W_30 ca_3 e_W_dropPin_6 (by decide) rfl ?_
      rw [hd]
      refine a_ldc (v := -1000000017) hB cn_W_32 e_W_dropPin_7 ?_
      cases h
      exact a_iret hB rfl e_W_dropPin_9 (by decide) (by decide)
    · have h := iq q h
      rcases Decidable.em (e2 = 2) with q | q
      · have h := ip q h
        subst q
        refine a_catN (E := "java/lang/IllegalStateException") (M1 := M2) (φ1 := dirt φ) (j1 := 2) (j2 := 12) (pc1 := 11) hB (ar_V (As := [.int l1]) (rest := []) hB (c_C_dropPin (bf_G hB) (sf_m hF (by decide)) hr2) ml_W_27 md_C_dropPin rc_C_dropPin (sf_lt hF (by decide)) kk_0 rfl rfl (Nat.le_of_ble_eq_true rfl) rm_W_dropPin_C_dropPin e_W_dropPin_2) rfl rfl [⟨0, 5, 6, 30⟩] ⟨0, 5, 10, 20⟩ [] rfl (fun z hz => by rcases List.mem_singleton.mp hz with rfl; exact Or.inr ⟨by decide, _, cl_W_30, (bf_G hB).2.2.2.2.2.2.2.2.1 _ (by decide) _ (by decide) (by decide)⟩) (by decide) (by decide) cl_W_20 ca_2 e_W_dropPin_10 (by decide) rfl ?_
        rw [hd]
        refine a_ldc (v := -1000000019) hB cn_W_22 e_W_dropPin_11 ?_
        cases h
        exact a_iret hB rfl e_W_dropPin_13 (by decide) (by decide)
      · have h := iq q h
        cases h
  · refine a_ret (v := (some (.int r2))) (M1 := M2) (φ1 := φ) (st1 := [.int r2]) (j1 := 2) (j2 := 12) (ar_V (As := [.int l1]) (rest := []) hB (c_C_dropPin (bf_G hB) (sf_m hF (by decide)) hr2) ml_W_27 md_C_dropPin rc_C_dropPin (sf_lt hF (by decide)) kk_0 rfl rfl (Nat.le_of_ble_eq_true rfl) rm_W_dropPin_C_dropPin e_W_dropPin_2) rfl rfl rfl ?_
    cases h
    exact a_iret hB rfl e_W_dropPin_5 (by decide) (by decide)
set_option maxRecDepth 100000 in
theorem c_W_dropPin {G : Gt} (hG : GOK G) {φ : Ph} (hF : SF 138 φ) (hd : dirt φ = φ)   {M : Mm} {l1 : Int32} {o : Int32} {M9 : Mm} (h : f_W_dropPin l1 M = some (o, M9)) : CT G I_W_dropPin [.ref 0, .int l1] M φ (.inl (some (.int o))) M9 φ :=
  ct_of hG (by decide) (Nat.le_of_ble_eq_true rfl) (fun B hB => t_W_dropPin hB hF hd  h)
set_option maxRecDepth 100000 in
theorem t_W_findPin {G : Gt} {φ : Ph} {B : Bag} (hB : BF G I_W_findPin B) (hF : SF 138 φ) (hd : dirt φ = φ)    {o : Int32} {M9 : Mm} {l1 : Int32} {M : Mm} (h : f_W_findPin l1 M = some (o, M9)) : AW G I_W_findPin B (QM G I_W_findPin B (.inl (some (.int o))) M9 φ) 0 0 0 [(0, .ref 0), (1, .int l1)] [] M φ := by
  unfold f_W_findPin at h
  refine a_aload_n (j := 0) hB e_W_findPin_0 rfl rfl ?_
  refine a_iload_n (j := 1) hB e_W_findPin_1 rfl rfl ?_
  rcases bc2_i h with ⟨e2, M2, hr2, h⟩ | ⟨r2, M2, hr2, h⟩
  · rcases Decidable.em (e2 = 3) with q | q
    · have h := ip q h
      subst q
      refine a_catN (E := "java/lang/IndexOutOfBoundsException") (M1 := M2) (φ1 := dirt φ) (j1 := 2) (j2 := 12) (pc1 := 7) hB (ar_V (As := [.int l1]) (rest := []) hB (c_C_findPin (bf_G hB) (sf_m hF (by decide)) hr2) ml_W_33 md_C_findPin rc_C_findPin (sf_lt hF (by decide)) kk_0 rfl rfl (Nat.le_of_ble_eq_true rfl) rm_W_findPin_C_findPin e_W_findPin_2) rfl rfl [] ⟨0, 5, 6, 30⟩ [⟨0, 5, 10, 20⟩] rfl (fun z hz => nomatch hz) (by decide) (by decide) cl_W_30 ca_3 e_W_findPin_6 (by decide) rfl ?_
      rw [hd]
      refine a_ldc (v := -1000000017) hB cn_W_32 e_W_findPin_7 ?_
      cases h
      exact a_iret hB rfl e_W_findPin_9 (by decide) (by decide)
    · have h := iq q h
      rcases Decidable.em (e2 = 2) with q | q
      · have h := ip q h
        subst q
        refine a_catN (E := "java/lang/IllegalStateException") (M1 := M2) (φ1 := dirt φ) (j1 := 2) (j2 := 12) (pc1 := 11) hB (ar_V (As := [.int l1]) (rest := []) hB (c_C_findPin (bf_G hB) (sf_m hF (by decide)) hr2) ml_W_33 md_C_findPin rc_C_findPin (sf_lt hF (by decide)) kk_0 rfl rfl (Nat.le_of_ble_eq_true rfl) rm_W_findPin_C_findPin e_W_findPin_2) rfl rfl [⟨0, 5, 6, 30⟩] ⟨0, 5, 10, 20⟩ [] rfl (fun z hz => by rcases List.mem_singleton.mp hz with rfl; exact Or.inr ⟨by decide, _, cl_W_30, (bf_G hB).2.2.2.2.2.2.2.2.1 _ (by decide) _ (by decide) (by decide)⟩) (by decide) (by decide) cl_W_20 ca_2 e_W_findPin_10 (by decide) rfl ?_
        rw [hd]
        refine a_ldc (v := -1000000019) hB cn_W_22 e_W_findPin_11 ?_
        cases h
        exact a_iret hB rfl e_W_findPin_13 (by decide) (by decide)
      · have h := iq q h
        cases h
  · refine a_ret (v := (some (.int r2))) (M1 := M2) (φ1 := φ) (st1 := [.int r2]) (j1 := 2) (j2 := 12) (ar_V (As := [.int l1]) (rest := []) hB (c_C_findPin (bf_G hB) (sf_m hF (by decide)) hr2) ml_W_33 md_C_findPin rc_C_findPin (sf_lt hF (by decide)) kk_0 rfl rfl (Nat.le_of_ble_eq_true rfl) rm_W_findPin_C_findPin e_W_findPin_2) rfl rfl rfl ?_
    cases h
    exact a_iret hB rfl e_W_findPin_5 (by decide) (by decide)
set_option maxRecDepth 100000 in
theorem c_W_findPin {G : Gt} (hG : GOK G) {φ : Ph} (hF : SF 138 φ) (hd : dirt φ = φ)   {M : Mm} {l1 : Int32} {o : Int32} {M9 : Mm} (h : f_W_findPin l1 M = some (o, M9)) : CT G I_W_findPin [.ref 0, .int l1] M φ (.inl (some (.int o))) M9 φ :=
  ct_of hG (by decide) (Nat.le_of_ble_eq_true rfl) (fun B hB => t_W_findPin hB hF hd  h)
set_option maxRecDepth 100000 in
theorem t_W_removeLast {G : Gt} {φ : Ph} {B : Bag} (hB : BF G I_W_removeLast B) (hF : SF 138 φ) (hd : dirt φ = φ)    {o : Int32} {M9 : Mm}  {M : Mm} (h : f_W_removeLast M = some (o, M9)) : AW G I_W_removeLast B (QM G I_W_removeLast B (.inl (some (.int o))) M9 φ) 0 0 0 [(0, .ref 0)] [] M φ := by
  unfold f_W_removeLast at h
  refine a_aload_n (j := 0) hB e_W_removeLast_0 rfl rfl ?_
  rcases bc2_i h with ⟨e1, M1, hr1, h⟩ | ⟨r1, M1, hr1, h⟩
  · rcases Decidable.em (e1 = 2) with q | q
    · have h := ip q h
      subst q
      refine a_catN (E := "java/lang/IllegalStateException") (M1 := M1) (φ1 := dirt φ) (j1 := 1) (j2 := 6) (pc1 := 6) hB (ar_V (As := []) (rest := []) hB (c_C_removeLast (bf_G hB) (sf_m hF (by decide)) hr1) ml_W_36 md_C_removeLast rc_C_removeLast (sf_lt hF (by decide)) kk_0 rfl rfl (Nat.le_of_ble_eq_true rfl) rm_W_removeLast_C_removeLast e_W_removeLast_1) rfl rfl [] ⟨0, 4, 5, 20⟩ [] rfl (fun z hz => nomatch hz) (by decide) (by decide) cl_W_20 ca_2 e_W_removeLast_5 (by decide) rfl ?_
      rw [hd]
      refine a_ldc (v := -1000000019) hB cn_W_22 e_W_removeLast_6 ?_
      cases h
      exact a_iret hB rfl e_W_removeLast_8 (by decide) (by decide)
    · have h := iq q h
      cases h
  · refine a_ret (v := (some (.int r1))) (M1 := M1) (φ1 := φ) (st1 := [.int r1]) (j1 := 1) (j2 := 6) (ar_V (As := []) (rest := []) hB (c_C_removeLast (bf_G hB) (sf_m hF (by decide)) hr1) ml_W_36 md_C_removeLast rc_C_removeLast (sf_lt hF (by decide)) kk_0 rfl rfl (Nat.le_of_ble_eq_true rfl) rm_W_removeLast_C_removeLast e_W_removeLast_1) rfl rfl rfl ?_
    cases h
    exact a_iret hB rfl e_W_removeLast_4 (by decide) (by decide)
set_option maxRecDepth 100000 in
theorem c_W_removeLast {G : Gt} (hG : GOK G) {φ : Ph} (hF : SF 138 φ) (hd : dirt φ = φ)   {M : Mm}  {o : Int32} {M9 : Mm} (h : f_W_removeLast M = some (o, M9)) : CT G I_W_removeLast [.ref 0] M φ (.inl (some (.int o))) M9 φ :=
  ct_of hG (by decide) (Nat.le_of_ble_eq_true rfl) (fun B hB => t_W_removeLast hB hF hd  h)
set_option maxRecDepth 100000 in
theorem t_W_setWear {G : Gt} {φ : Ph} {B : Bag} (hB : BF G I_W_setWear B) (hF : SF 138 φ) (hd : dirt φ = φ)    {o : Int32} {M9 : Mm} {l1 : Int32} {M : Mm} (h : f_W_setWear l1 M = some (o, M9)) : AW G I_W_setWear B (QM G I_W_setWear B (.inl (some (.int o))) M9 φ) 0 0 0 [(0, .ref 0), (1, .int l1)] [] M φ := by
  unfold f_W_setWear at h
  refine a_aload_n (j := 0) hB e_W_setWear_0 rfl rfl ?_
  refine a_iload_n (j := 1) hB e_W_setWear_1 rfl rfl ?_
  rcases bc2_i h with ⟨e2, M2, hr2, h⟩ | ⟨r2, M2, hr2, h⟩
  · rcases Decidable.em (e2 = 1) with q | q
    · have h := ip q h
      subst q
      refine a_catN (E := "java/lang/IllegalArgumentException") (M1 := M2) (φ1 := dirt φ) (j1 := 1) (j2 := 6) (pc1 := 7) hB (ar_V (As := [.int l1]) (rest := []) hB (c_C_setWear (bf_G hB) (sf_m hF (by decide)) hr2) ml_W_40 md_C_setWear rc_C_setWear (sf_lt hF (by decide)) kk_0 rfl rfl (Nat.le_of_ble_eq_true rfl) rm_W_setWear_C_setWear e_W_setWear_2) rfl rfl [] ⟨0, 5, 6, 13⟩ [] rfl (fun z hz => nomatch hz) (by decide) (by decide) cl_W_13 ca_1 e_W_setWear_6 (by decide) rfl ?_
      rw [hd]
      refine a_ldc (v := -1000000018) hB cn_W_15 e_W_setWear_7 ?_
      cases h
      exact a_iret hB rfl e_W_setWear_9 (by decide) (by decide)
    · have h := iq q h
      cases h
  · refine a_ret (v := (some (.int r2))) (M1 := M2) (φ1 := φ) (st1 := [.int r2]) (j1 := 1) (j2 := 6) (ar_V (As := [.int l1]) (rest := []) hB (c_C_setWear (bf_G hB) (sf_m hF (by decide)) hr2) ml_W_40 md_C_setWear rc_C_setWear (sf_lt hF (by decide)) kk_0 rfl rfl (Nat.le_of_ble_eq_true rfl) rm_W_setWear_C_setWear e_W_setWear_2) rfl rfl rfl ?_
    cases h
    exact a_iret hB rfl e_W_setWear_5 (by decide) (by decide)
