/-! the functions are what the machine does -/
set_option maxRecDepth 100000 in
theorem t_M_wrong_11 {G : Gt} {φ : Ph} {B : Bag} (hB : BF G I_M_wrong B) (hF : SF 148 φ)    {M9 : Mm}  {M : Mm} (h : f_M_wrong_11 M = some M9) : AW G I_M_wrong B (QM G I_M_wrong B (.inl none) M9 φ) 0 0 11 [] [] M φ := by
  unfold f_M_wrong_11 at h
  cases h
  exact a_vret hB rfl e_M_wrong_11 (by decide) (by decide)
set_option maxRecDepth 100000 in
theorem t_M_wrong {G : Gt} {φ : Ph} {B : Bag} (hB : BF G I_M_wrong B) (hF : SF 148 φ)    {M9 : Mm} {l1 : Int32} {l2 : Int32} {M : Mm} (h : f_M_wrong l1 l2 M = some M9) : AW G I_M_wrong B (QM G I_M_wrong B (.inl none) M9 φ) 0 0 0 [(0, .ref 134), (1, .int l1), (2, .int l2)] [] M φ := by
  unfold f_M_wrong at h
  refine a_aload_n (j := 0) hB e_M_wrong_0 rfl rfl ?_
  refine a_getI (k := 24) hB e_M_wrong_1 fl_M_188 (sf_lt hF (by decide)) kk_134 tt_134_24 ?_
  refine a_if_ne (tgt := 11) hB e_M_wrong_4 (by decide) (fun c => ?_) (fun c => ?_)
  · have h := iq c h
    refine a_ls [] (ls' := []) rfl ?_
    exact t_M_wrong_11 hB hF h
  · have h := ip c h
    refine a_iload_n (j := 1) hB e_M_wrong_7 rfl rfl ?_
    refine a_if_ne (tgt := 12) hB e_M_wrong_8 (by decide) (fun c => ?_) (fun c => ?_)
    · have h := iq c h
      refine a_aload_n (j := 0) hB e_M_wrong_12 rfl rfl ?_
      refine a_iconst (v := 1) hB e_M_wrong_13 ic_1 ?_
      obtain ⟨M14, hM14, h⟩ := bm_i h
      refine a_putZ (k := 24) hB e_M_wrong_14 fw_M_188 (sf_lt hF (by decide)) kk_134 tt_134_24 (Or.inr rfl) ?_
      refine a_mem hM14 ?_
      refine a_aload_n (j := 0) hB e_M_wrong_17 rfl rfl ?_
      refine a_iload_n (j := 2) hB e_M_wrong_18 rfl rfl ?_
      obtain ⟨M19, hM19, h⟩ := bm_i h
      refine a_putI (k := 16) hB e_M_wrong_19 fw_M_192 (sf_lt hF (by decide)) kk_134 tt_134_16 ?_
      refine a_mem hM19 ?_
      refine a_aload_n (j := 0) hB e_M_wrong_22 rfl rfl ?_
      refine a_aload_n (j := 0) hB e_M_wrong_23 rfl rfl ?_
      refine a_getI (k := 21) hB e_M_wrong_24 fl_M_167 (sf_lt hF (by decide)) kk_134 tt_134_21 ?_
      obtain ⟨M27, hM27, h⟩ := bm_i h
      refine a_putI (k := 17) hB e_M_wrong_27 fw_M_47 (sf_lt hF (by decide)) kk_134 tt_134_17 ?_
      refine a_mem hM27 ?_
      cases h
      exact a_vret hB rfl e_M_wrong_30 (by decide) (by decide)
    · have h := ip c h
      refine a_ls [] (ls' := []) rfl ?_
      exact t_M_wrong_11 hB hF h
set_option maxRecDepth 100000 in
theorem c_M_wrong {G : Gt} (hG : GOK G) {φ : Ph} (hF : SF 148 φ)   {M : Mm} {l1 : Int32} {l2 : Int32} {M9 : Mm} (h : f_M_wrong l1 l2 M = some M9) : CT G I_M_wrong [.ref 134, .int l1, .int l2] M φ (.inl none) M9 φ :=
  ct_of hG (by decide) (Nat.le_of_ble_eq_true rfl) (fun B hB => t_M_wrong hB hF  h)
set_option maxRecDepth 100000 in
theorem t_M_go_11 {G : Gt} {φ : Ph} {B : Bag} (hB : BF G I_M_go B) (hF : SF 148 φ)    {M9 : Mm}  {M : Mm} (h : f_M_go_11 M = some M9) : AW G I_M_go B (QM G I_M_go B (.inl none) M9 φ) 0 0 11 [] [] M φ := by
  unfold f_M_go_11 at h
  cases h
  exact a_vret hB rfl e_M_go_11 (by decide) (by decide)
set_option maxRecDepth 100000 in
theorem t_M_go {G : Gt} {φ : Ph} {B : Bag} (hB : BF G I_M_go B) (hF : SF 148 φ)    {M9 : Mm}  {M : Mm} (h : f_M_go M = some M9) : AW G I_M_go B (QM G I_M_go B (.inl none) M9 φ) 0 0 0 [(0, .ref 134)] [] M φ := by
  unfold f_M_go at h
  refine a_aload_n (j := 0) hB e_M_go_0 rfl rfl ?_
  refine a_getI (k := 24) hB e_M_go_1 fl_M_188 (sf_lt hF (by decide)) kk_134 tt_134_24 ?_
  refine a_if_ne (tgt := 11) hB e_M_go_4 (by decide) (fun c => ?_) (fun c => ?_)
  · have h := iq c h
    refine a_ls [] (ls' := []) rfl ?_
    exact t_M_go_11 hB hF h
  · have h := ip c h
    refine a_aload_n (j := 0) hB e_M_go_7 rfl rfl ?_
    obtain ⟨M8, hr8, h⟩ := bn_i h
    refine a_ret (v := none) (M1 := M8) (φ1 := φ) (st1 := []) (j1 := 0) (j2 := 0) (ar_V (As := []) (rest := []) hB (c_M_next (bf_G hB) hF hr8) ml_M_195 md_M_next rc_M_next (sf_lt hF (by decide)) kk_134 rfl rfl (Nat.le_of_ble_eq_true rfl) rm_M_go_M_next e_M_go_8) rfl rfl rfl ?_
    refine a_ls [] (ls' := []) rfl ?_
    exact t_M_go_11 hB hF h
set_option maxRecDepth 100000 in
theorem c_M_go {G : Gt} (hG : GOK G) {φ : Ph} (hF : SF 148 φ)   {M : Mm}  {M9 : Mm} (h : f_M_go M = some M9) : CT G I_M_go [.ref 134] M φ (.inl none) M9 φ :=
  ct_of hG (by decide) (Nat.le_of_ble_eq_true rfl) (fun B hB => t_M_go hB hF  h)
set_option maxRecDepth 100000 in
theorem t_M_number_62 {G : Gt} {φ : Ph} {B : Bag} (hB : BF G I_M_number B) (hF : SF 148 φ)    {o : Int32} {M9 : Mm} {t0 : Int32} {M : Mm} (h : f_M_number_62 t0 M = some (o, M9)) : AW G I_M_number B (QM G I_M_number B (.inl (some (.int o))) M9 φ) 0 0 62 [(0, .ref 134)] [.int t0] M φ := by
  unfold f_M_number_62 at h
  refine a_istore_n (ls' := [(3, .int t0), (0, .ref 134)]) hB e_M_number_62 rfl (Nat.le_of_ble_eq_true rfl) rfl ?_
  refine a_aload_n (j := 1) hB e_M_number_63 rfl rfl ?_
  obtain ⟨M64, hr64, h⟩ := bn_i h
  refine a_ret (v := none) (M1 := M64) (φ1 := φ) (st1 := []) (j1 := 0) (j2 := 0) (ar_V (As := []) (rest := []) hB (c_M_go (bf_G hB) hF hr64) ml_M_202 md_M_go rc_M_go (sf_lt hF (by decide)) kk_134 rfl rfl (Nat.le_of_ble_eq_true rfl) rm_M_number_M_go e_M_number_64) rfl rfl rfl ?_
  refine a_iload_n (j := 0) hB e_M_number_67 rfl rfl ?_
  cases h
  exact a_iret hB rfl e_M_number_68 (by decide) (by decide)
set_option maxRecDepth 100000 in
theorem t_M_number_43 {G : Gt} {φ : Ph} {B : Bag} (hB : BF G I_M_number B) (hF : SF 148 φ)    {o : Int32} {M9 : Mm} {l1 : Int32} {t1 : Int32} {M : Mm} (h : f_M_number_43 l1 t1 M = some (o, M9)) : AW G I_M_number B (QM G I_M_number B (.inl (some (.int o))) M9 φ) 0 0 43 [(0, .ref 134), (1, .int l1)] [.int t1, .ref 134] M φ := by
  unfold f_M_number_43 at h
  refine a_iconst (v := 2) hB e_M_number_43 ic_2 ?_
  obtain ⟨M44, hr44, h⟩ := bn_i h
  refine a_ret (v := none) (M1 := M44) (φ1 := φ) (st1 := []) (j1 := 0) (j2 := 0) (ar_V (As := [.int t1, .int (2 : Int32)]) (rest := []) hB (c_M_wrong (bf_G hB) hF hr44) ml_M_198 md_M_wrong rc_M_wrong (sf_lt hF (by decide)) kk_134 rfl rfl (Nat.le_of_ble_eq_true rfl) rm_M_number_M_wrong e_M_number_44) rfl rfl rfl ?_
  refine a_aload_n (j := 0) hB e_M_number_47 rfl rfl ?_
  refine a_getI (k := 24) hB e_M_number_48 fl_M_188 (sf_lt hF (by decide)) kk_134 tt_134_24 ?_
  refine a_if_eq (tgt := 58) hB e_M_number_51 (by decide) (fun c => ?_) (fun c => ?_)
  · have h := ip c h
    refine a_aload_n (j := 0) hB e_M_number_58 rfl rfl ?_
    refine a_getI (k := 23) hB e_M_number_59 fl_M_179 (sf_lt hF (by decide)) kk_134 tt_134_23 ?_
    refine a_ls [0] (ls' := [(0, .ref 134)]) rfl ?_
    exact t_M_number_62 hB hF h
  · have h := iq c h
    refine a_iload_n (j := 1) hB e_M_number_54 rfl rfl ?_
    refine a_goto (tgt := 62) hB e_M_number_55 (by decide) ?_
    refine a_ls [0] (ls' := [(0, .ref 134)]) rfl ?_
    exact t_M_number_62 hB hF h
set_option maxRecDepth 100000 in
theorem t_M_number_42 {G : Gt} {φ : Ph} {B : Bag} (hB : BF G I_M_number B) (hF : SF 148 φ)    {o : Int32} {M9 : Mm} {l1 : Int32} {M : Mm} (h : f_M_number_42 l1 M = some (o, M9)) : AW G I_M_number B (QM G I_M_number B (.inl (some (.int o))) M9 φ) 0 0 42 [(0, .ref 134), (1, .int l1)] [.ref 134] M φ := by
  unfold f_M_number_42 at h
  refine a_iconst (v := 0) hB e_M_number_42 ic_0 ?_
  exact t_M_number_43 hB hF h
set_option maxRecDepth 100000 in
theorem t_M_number_14 {G : Gt} {φ : Ph} {B : Bag} (hB : BF G I_M_number B) (hF : SF 148 φ)    {o : Int32} {M9 : Mm} {l1 : Int32} {l2 : Int32} {t1 : Int32} {M : Mm} (h : f_M_number_14 l1 l2 t1 M = some (o, M9)) : AW G I_M_number B (QM G I_M_number B (.inl (some (.int o))) M9 φ) 0 0 14 [(0, .ref 134), (1, .int l1), (2, .int l2)] [.int t1, .ref 134] M φ := by
  unfold f_M_number_14 at h
  refine a_iconst (v := 1) hB e_M_number_14 ic_1 ?_
  obtain ⟨M15, hr15, h⟩ := bn_i h
  refine a_ret (v := none) (M1 := M15) (φ1 := φ) (st1 := []) (j1 := 0) (j2 := 0) (ar_V (As := [.int t1, .int (1 : Int32)]) (rest := []) hB (c_M_wrong (bf_G hB) hF hr15) ml_M_198 md_M_wrong rc_M_wrong (sf_lt hF (by decide)) kk_134 rfl rfl (Nat.le_of_ble_eq_true rfl) rm_M_number_M_wrong e_M_number_15) rfl rfl rfl ?_
  refine a_aload_n (j := 0) hB e_M_number_18 rfl rfl ?_
  refine a_aload_n (j := 0) hB e_M_number_19 rfl rfl ?_
  refine a_getI (k := 24) hB e_M_number_20 fl_M_188 (sf_lt hF (by decide)) kk_134 tt_134_24 ?_
  refine a_if_ne (tgt := 42) hB e_M_number_23 (by decide) (fun c => ?_) (fun c => ?_)
  · have h := iq c h
    refine a_ls [0, 1] (ls' := [(0, .ref 134), (1, .int l1)]) rfl ?_
    exact t_M_number_42 hB hF h
  · have h := ip c h
    refine a_aload_n (j := 0) hB e_M_number_26 rfl rfl ?_
    refine a_getI (k := 23) hB e_M_number_27 fl_M_179 (sf_lt hF (by decide)) kk_134 tt_134_23 ?_
    refine a_iload_n (j := 1) hB e_M_number_30 rfl rfl ?_
    refine a_iload_n (j := 2) hB e_M_number_31 rfl rfl ?_
    obtain ⟨r32, hr32, h⟩ := bn_i h
    refine a_ret (v := (some (.int r32))) (M1 := M15) (φ1 := φ) (st1 := [.int r32, .ref 134]) (j1 := 0) (j2 := 0) (ar_S (As := [.int (M15 134 23), .int l1, .int l2]) (rest := [.ref 134]) hB (c_M_isIn (bf_G hB) hF hr32) ml_M_92 md_M_isIn rfl rfl (Nat.le_of_ble_eq_true rfl) rm_M_number_M_isIn e_M_number_32) rfl rfl rfl ?_
    refine a_if_ne (tgt := 42) hB e_M_number_35 (by decide) (fun c => ?_) (fun c => ?_)
    · have h := iq c h
      refine a_ls [0, 1] (ls' := [(0, .ref 134), (1, .int l1)]) rfl ?_
      exact t_M_number_42 hB hF h
    · have h := ip c h
      refine a_iconst (v := 1) hB e_M_number_38 ic_1 ?_
      refine a_goto (tgt := 43) hB e_M_number_39 (by decide) ?_
      refine a_ls [0, 1] (ls' := [(0, .ref 134), (1, .int l1)]) rfl ?_
      exact t_M_number_43 hB hF h
set_option maxRecDepth 100000 in
theorem t_M_number {G : Gt} {φ : Ph} {B : Bag} (hB : BF G I_M_number B) (hF : SF 148 φ)    {o : Int32} {M9 : Mm} {l1 : Int32} {l2 : Int32} {M : Mm} (h : f_M_number l1 l2 M = some (o, M9)) : AW G I_M_number B (QM G I_M_number B (.inl (some (.int o))) M9 φ) 0 0 0 [(0, .ref 134), (1, .int l1), (2, .int l2)] [] M φ := by
  unfold f_M_number at h
  refine a_aload_n (j := 0) hB e_M_number_0 rfl rfl ?_
  refine a_aload_n (j := 0) hB e_M_number_1 rfl rfl ?_
  refine a_getI (k := 20) hB e_M_number_2 fl_M_170 (sf_lt hF (by decide)) kk_134 tt_134_20 ?_
  refine a_iconst (v := 2) hB e_M_number_5 ic_2 ?_
  refine a_icmp_eq (tgt := 13) hB e_M_number_6 (by decide) (fun c => ?_) (fun c => ?_)
  · have h := ip c h
    refine a_iconst (v := 0) hB e_M_number_13 ic_0 ?_
    exact t_M_number_14 hB hF h
  · have h := iq c h
    refine a_iconst (v := 1) hB e_M_number_9 ic_1 ?_
    refine a_goto (tgt := 14) hB e_M_number_10 (by decide) ?_
    exact t_M_number_14 hB hF h
set_option maxRecDepth 100000 in
theorem c_M_number {G : Gt} (hG : GOK G) {φ : Ph} (hF : SF 148 φ)   {M : Mm} {l1 : Int32} {l2 : Int32} {o : Int32} {M9 : Mm} (h : f_M_number l1 l2 M = some (o, M9)) : CT G I_M_number [.ref 134, .int l1, .int l2] M φ (.inl (some (.int o))) M9 φ :=
  ct_of hG (by decide) (Nat.le_of_ble_eq_true rfl) (fun B hB => t_M_number hB hF  h)
set_option maxRecDepth 100000 in
theorem t_M_bearingHere_24 {G : Gt} {φ : Ph} {B : Bag} (hB : BF G I_M_bearingHere B) (hF : SF 148 φ)    {o : Int32} {M9 : Mm} {t1 : Int32} {M : Mm} (h : f_M_bearingHere_24 t1 M = some (o, M9)) : AW G I_M_bearingHere B (QM G I_M_bearingHere B (.inl (some (.int o))) M9 φ) 0 0 24 [(0, .ref 134)] [.int t1, .ref 134] M φ := by
  unfold f_M_bearingHere_24 at h
  refine a_iconst (v := 2) hB e_M_bearingHere_24 ic_2 ?_
  obtain ⟨M25, hr25, h⟩ := bn_i h
  refine a_ret (v := none) (M1 := M25) (φ1 := φ) (st1 := []) (j1 := 0) (j2 := 0) (ar_V (As := [.int t1, .int (2 : Int32)]) (rest := []) hB (c_M_wrong (bf_G hB) hF hr25) ml_M_198 md_M_wrong rc_M_wrong (sf_lt hF (by decide)) kk_134 rfl rfl (Nat.le_of_ble_eq_true rfl) rm_M_bearingHere_M_wrong e_M_bearingHere_25) rfl rfl rfl ?_
  refine a_aload_n (j := 0) hB e_M_bearingHere_28 rfl rfl ?_
  refine a_iconst (v := 0) hB e_M_bearingHere_29 ic_0 ?_
  refine a_sipush (v := 345) hB e_M_bearingHere_30 sp_345 ?_
  obtain ⟨r33, M33, hr33, h⟩ := bn2_i h
  refine a_ret (v := (some (.int r33))) (M1 := M33) (φ1 := φ) (st1 := [.int r33]) (j1 := 0) (j2 := 0) (ar_V (As := [.int (0 : Int32), .int (345 : Int32)]) (rest := []) hB (c_M_number (bf_G hB) hF hr33) ml_M_205 md_M_number rc_M_number (sf_lt hF (by decide)) kk_134 rfl rfl (Nat.le_of_ble_eq_true rfl) rm_M_bearingHere_M_number e_M_bearingHere_33) rfl rfl rfl ?_
  cases h
  exact a_iret hB rfl e_M_bearingHere_36 (by decide) (by decide)
set_option maxRecDepth 100000 in
theorem t_M_bearingHere_23 {G : Gt} {φ : Ph} {B : Bag} (hB : BF G I_M_bearingHere B) (hF : SF 148 φ)    {o : Int32} {M9 : Mm}  {M : Mm} (h : f_M_bearingHere_23 M = some (o, M9)) : AW G I_M_bearingHere B (QM G I_M_bearingHere B (.inl (some (.int o))) M9 φ) 0 0 23 [(0, .ref 134)] [.ref 134] M φ := by
  unfold f_M_bearingHere_23 at h
  refine a_iconst (v := 0) hB e_M_bearingHere_23 ic_0 ?_
  exact t_M_bearingHere_24 hB hF h
set_option maxRecDepth 100000 in
theorem t_M_bearingHere {G : Gt} {φ : Ph} {B : Bag} (hB : BF G I_M_bearingHere B) (hF : SF 148 φ)    {o : Int32} {M9 : Mm}  {M : Mm} (h : f_M_bearingHere M = some (o, M9)) : AW G I_M_bearingHere B (QM G I_M_bearingHere B (.inl (some (.int o))) M9 φ) 0 0 0 [(0, .ref 134)] [] M φ := by
  unfold f_M_bearingHere at h
  refine a_aload_n (j := 0) hB e_M_bearingHere_0 rfl rfl ?_
  refine a_aload_n (j := 0) hB e_M_bearingHere_1 rfl rfl ?_
  refine a_getI (k := 20) hB e_M_bearingHere_2 fl_M_170 (sf_lt hF (by decide)) kk_134 tt_134_20 ?_
  refine a_iconst (v := 2) hB e_M_bearingHere_5 ic_2 ?_
  refine a_icmp_ne (tgt := 23) hB e_M_bearingHere_6 (by decide) (fun c => ?_) (fun c => ?_)
  · have h := iq c h
    exact t_M_bearingHere_23 hB hF h
  · have h := ip c h
    refine a_aload_n (j := 0) hB e_M_bearingHere_9 rfl rfl ?_
    refine a_getI (k := 23) hB e_M_bearingHere_10 fl_M_179 (sf_lt hF (by decide)) kk_134 tt_134_23 ?_
    refine a_bipush (v := 15) hB e_M_bearingHere_13 bp_15 ?_
    refine a_irem hB e_M_bearingHere_15 (by decide) ?_
    refine a_if_eq (tgt := 23) hB e_M_bearingHere_16 (by decide) (fun c => ?_) (fun c => ?_)
    · have h := ip c h
      exact t_M_bearingHere_23 hB hF h
    · have h := iq c h
      refine a_iconst (v := 1) hB e_M_bearingHere_19 ic_1 ?_
      refine a_goto (tgt := 24) hB e_M_bearingHere_20 (by decide) ?_
      exact t_M_bearingHere_24 hB hF h
set_option maxRecDepth 100000 in
theorem c_M_bearingHere {G : Gt} (hG : GOK G) {φ : Ph} (hF : SF 148 φ)   {M : Mm}  {o : Int32} {M9 : Mm} (h : f_M_bearingHere M = some (o, M9)) : CT G I_M_bearingHere [.ref 134] M φ (.inl (some (.int o))) M9 φ :=
  ct_of hG (by decide) (Nat.le_of_ble_eq_true rfl) (fun B hB => t_M_bearingHere hB hF  h)
set_option maxRecDepth 100000 in
theorem t_M_nameHere_55 {G : Gt} {φ : Ph} {B : Bag} (hB : BF G I_M_nameHere B) (hF : SF 148 φ)    {M9 : Mm} : ∀ (n : Nat) (l1 : Int32) (M : Mm), f_M_nameHere_55 n l1 M = some M9 → AW G I_M_nameHere B (QM G I_M_nameHere B (.inl none) M9 φ) 0 0 55 [(0, .ref 134), (1, .int l1)] [] M φ := by
  intro n
  induction n with
  | zero => intro l1 M h; cases h
  | succ n hr55 =>
    intro l1 M h
    rw [f_M_nameHere_55] at h
    refine a_iload_n (j := 1) hB e_M_nameHere_55 rfl rfl ?_
    refine a_aload_n (j := 0) hB e_M_nameHere_56 rfl rfl ?_
    refine a_getI (k := 19) hB e_M_nameHere_57 fl_M_153 (sf_lt hF (by decide)) kk_134 tt_134_19 ?_
    refine a_icmp_ge (tgt := 86) hB e_M_nameHere_60 (by decide) (fun c => ?_) (fun c => ?_)
    · have h := ip c h
      cases h
      exact a_vret hB rfl e_M_nameHere_86 (by decide) (by decide)
    · have h := iq c h
      refine a_aload_n (j := 0) hB e_M_nameHere_63 rfl rfl ?_
      refine a_getR (r := 147) (k := 18) hB e_M_nameHere_64 fl_M_51 (sf_lt hF (by decide)) kk_134 tt_134_18 (hF.1 _ _) ?_
      refine a_iload_n (j := 1) hB e_M_nameHere_67 rfl rfl ?_
      refine a_aload_n (j := 0) hB e_M_nameHere_68 rfl rfl ?_
      refine a_getR (r := 141) (k := 8) hB e_M_nameHere_69 fl_M_29 (sf_lt hF (by decide)) kk_134 tt_134_8 (hF.1 _ _) ?_
      refine a_aload_n (j := 0) hB e_M_nameHere_72 rfl rfl ?_
      refine a_getI (k := 21) hB e_M_nameHere_73 fl_M_167 (sf_lt hF (by decide)) kk_134 tt_134_21 ?_
      refine a_iload_n (j := 1) hB e_M_nameHere_76 rfl rfl ?_
      refine a_iadd hB e_M_nameHere_77 ?_
      obtain ⟨c78, h⟩ := chk_i h
      refine a_iald' hB e_M_nameHere_78 (sf_lt hF (by decide)) kk_141 ll_141 c78 ?_
      obtain ⟨c79, h⟩ := chk_i h
      obtain ⟨M79, hM79, h⟩ := bm_i h
      refine a_iast' hB e_M_nameHere_79 (sf_lt hF (by decide)) kk_147 ll_147 c79 ?_
      refine a_mem hM79 ?_
      refine a_iinc (j := 1) (v := l1 + 1) (ls' := [(1, .int (l1 + 1)), (0, .ref 134)]) hB e_M_nameHere_80 rfl (inc_1 _) (Nat.le_of_ble_eq_true rfl) rfl ?_
      refine a_goto (tgt := 55) hB e_M_nameHere_83 (by decide) ?_
      refine a_ls [1, 0] (ls' := [(0, .ref 134), (1, .int (l1 + 1))]) rfl ?_
      exact hr55 _ _ h
set_option maxRecDepth 100000 in
theorem t_M_nameHere_28 {G : Gt} {φ : Ph} {B : Bag} (hB : BF G I_M_nameHere B) (hF : SF 148 φ)    {M9 : Mm} {t1 : Int32} {M : Mm} (h : f_M_nameHere_28 t1 M = some M9) : AW G I_M_nameHere B (QM G I_M_nameHere B (.inl none) M9 φ) 0 0 28 [(0, .ref 134)] [.int t1, .ref 134] M φ := by
  unfold f_M_nameHere_28 at h
  refine a_iconst (v := 1) hB e_M_nameHere_28 ic_1 ?_
  obtain ⟨M29, hr29, h⟩ := bn_i h
  refine a_ret (v := none) (M1 := M29) (φ1 := φ) (st1 := []) (j1 := 0) (j2 := 0) (ar_V (As := [.int t1, .int (1 : Int32)]) (rest := []) hB (c_M_wrong (bf_G hB) hF hr29) ml_M_198 md_M_wrong rc_M_wrong (sf_lt hF (by decide)) kk_134 rfl rfl (Nat.le_of_ble_eq_true rfl) rm_M_nameHere_M_wrong e_M_nameHere_29) rfl rfl rfl ?_
  refine a_aload_n (j := 0) hB e_M_nameHere_32 rfl rfl ?_
  refine a_getI (k := 24) hB e_M_nameHere_33 fl_M_188 (sf_lt hF (by decide)) kk_134 tt_134_24 ?_
  refine a_if_eq (tgt := 40) hB e_M_nameHere_36 (by decide) (fun c => ?_) (fun c => ?_)
  · have h := ip c h
    refine a_aload_n (j := 0) hB e_M_nameHere_40 rfl rfl ?_
    refine a_aload_n (j := 0) hB e_M_nameHere_41 rfl rfl ?_
    refine a_getI (k := 22) hB e_M_nameHere_42 fl_M_164 (sf_lt hF (by decide)) kk_134 tt_134_22 ?_
    refine a_aload_n (j := 0) hB e_M_nameHere_45 rfl rfl ?_
    refine a_getI (k := 21) hB e_M_nameHere_46 fl_M_167 (sf_lt hF (by decide)) kk_134 tt_134_21 ?_
    refine a_isub hB e_M_nameHere_49 ?_
    obtain ⟨M50, hM50, h⟩ := bm_i h
    refine a_putI (k := 19) hB e_M_nameHere_50 fw_M_153 (sf_lt hF (by decide)) kk_134 tt_134_19 ?_
    refine a_mem hM50 ?_
    refine a_iconst (v := 0) hB e_M_nameHere_53 ic_0 ?_
    refine a_istore_n (ls' := [(1, .int (0 : Int32)), (0, .ref 134)]) hB e_M_nameHere_54 rfl (Nat.le_of_ble_eq_true rfl) rfl ?_
    refine a_ls [1, 0] (ls' := [(0, .ref 134), (1, .int (0 : Int32))]) rfl ?_
    exact t_M_nameHere_55 hB hF _ _ _ h
  · have h := iq c h
    cases h
    exact a_vret hB rfl e_M_nameHere_39 (by decide) (by decide)
set_option maxRecDepth 100000 in
theorem t_M_nameHere_23 {G : Gt} {φ : Ph} {B : Bag} (hB : BF G I_M_nameHere B) (hF : SF 148 φ)    {M9 : Mm}  {M : Mm} (h : f_M_nameHere_23 M = some M9) : AW G I_M_nameHere B (QM G I_M_nameHere B (.inl none) M9 φ) 0 0 23 [(0, .ref 134)] [.ref 134] M φ := by
  unfold f_M_nameHere_23 at h
  refine a_iconst (v := 1) hB e_M_nameHere_23 ic_1 ?_
  refine a_goto (tgt := 28) hB e_M_nameHere_24 (by decide) ?_
  exact t_M_nameHere_28 hB hF h
set_option maxRecDepth 100000 in
theorem t_M_nameHere {G : Gt} {φ : Ph} {B : Bag} (hB : BF G I_M_nameHere B) (hF : SF 148 φ)    {M9 : Mm}  {M : Mm} (h : f_M_nameHere M = some M9) : AW G I_M_nameHere B (QM G I_M_nameHere B (.inl none) M9 φ) 0 0 0 [(0, .ref 134)] [] M φ := by
  unfold f_M_nameHere at h
  refine a_aload_n (j := 0) hB e_M_nameHere_0 rfl rfl ?_
  refine a_aload_n (j := 0) hB e_M_nameHere_1 rfl rfl ?_
  refine a_getI (k := 20) hB e_M_nameHere_2 fl_M_170 (sf_lt hF (by decide)) kk_134 tt_134_20 ?_
  refine a_iconst (v := 1) hB e_M_nameHere_5 ic_1 ?_
  refine a_icmp_ne (tgt := 23) hB e_M_nameHere_6 (by decide) (fun c => ?_) (fun c => ?_)
  · have h := iq c h
    exact t_M_nameHere_23 hB hF h
  · have h := ip c h
    refine a_aload_n (j := 0) hB e_M_nameHere_9 rfl rfl ?_
    refine a_getI (k := 22) hB e_M_nameHere_10 fl_M_164 (sf_lt hF (by decide)) kk_134 tt_134_22 ?_
    refine a_aload_n (j := 0) hB e_M_nameHere_13 rfl rfl ?_
    refine a_getI (k := 21) hB e_M_nameHere_14 fl_M_167 (sf_lt hF (by decide)) kk_134 tt_134_21 ?_
    refine a_isub hB e_M_nameHere_17 ?_
    refine a_bipush (v := 6) hB e_M_nameHere_18 bp_6 ?_
    refine a_icmp_le (tgt := 27) hB e_M_nameHere_20 (by decide) (fun c => ?_) (fun c => ?_)
    · have h := ip c h
      refine a_iconst (v := 0) hB e_M_nameHere_27 ic_0 ?_
      exact t_M_nameHere_28 hB hF h
    · have h := iq c h
      exact t_M_nameHere_23 hB hF h
set_option maxRecDepth 100000 in
theorem c_M_nameHere {G : Gt} (hG : GOK G) {φ : Ph} (hF : SF 148 φ)   {M : Mm}  {M9 : Mm} (h : f_M_nameHere M = some M9) : CT G I_M_nameHere [.ref 134] M φ (.inl none) M9 φ :=
  ct_of hG (by decide) (Nat.le_of_ble_eq_true rfl) (fun B hB => t_M_nameHere hB hF  h)
set_option maxRecDepth 100000 in
theorem t_M_legHere_38 {G : Gt} {φ : Ph} {B : Bag} (hB : BF G I_M_legHere B) (hF : SF 148 φ)    {o : Int32} {M9 : Mm} {l1 : Int32} {t1 : Int32} {M : Mm} (h : f_M_legHere_38 l1 t1 M = some (o, M9)) : AW G I_M_legHere B (QM G I_M_legHere B (.inl (some (.int o))) M9 φ) 0 0 38 [(0, .ref 134), (1, .int l1)] [.int t1, .ref 134] M φ := by
  unfold f_M_legHere_38 at h
  refine a_iconst (v := 3) hB e_M_legHere_38 ic_3 ?_
  obtain ⟨M39, hr39, h⟩ := bn_i h
  refine a_ret (v := none) (M1 := M39) (φ1 := φ) (st1 := []) (j1 := 0) (j2 := 0) (ar_V (As := [.int t1, .int (3 : Int32)]) (rest := []) hB (c_M_wrong (bf_G hB) hF hr39) ml_M_198 md_M_wrong rc_M_wrong (sf_lt hF (by decide)) kk_134 rfl rfl (Nat.le_of_ble_eq_true rfl) rm_M_legHere_M_wrong e_M_legHere_39) rfl rfl rfl ?_
  refine a_aload_n (j := 0) hB e_M_legHere_42 rfl rfl ?_
  obtain ⟨M43, hr43, h⟩ := bn_i h
  refine a_ret (v := none) (M1 := M43) (φ1 := φ) (st1 := []) (j1 := 0) (j2 := 0) (ar_V (As := []) (rest := []) hB (c_M_go (bf_G hB) hF hr43) ml_M_202 md_M_go rc_M_go (sf_lt hF (by decide)) kk_134 rfl rfl (Nat.le_of_ble_eq_true rfl) rm_M_legHere_M_go e_M_legHere_43) rfl rfl rfl ?_
  refine a_iload_n (j := 1) hB e_M_legHere_46 rfl rfl ?_
  cases h
  exact a_iret hB rfl e_M_legHere_47 (by decide) (by decide)
set_option maxRecDepth 100000 in
theorem t_M_legHere_37 {G : Gt} {φ : Ph} {B : Bag} (hB : BF G I_M_legHere B) (hF : SF 148 φ)    {o : Int32} {M9 : Mm} {l1 : Int32} {M : Mm} (h : f_M_legHere_37 l1 M = some (o, M9)) : AW G I_M_legHere B (QM G I_M_legHere B (.inl (some (.int o))) M9 φ) 0 0 37 [(0, .ref 134), (1, .int l1)] [.ref 134] M φ := by
  unfold f_M_legHere_37 at h
  refine a_iconst (v := 0) hB e_M_legHere_37 ic_0 ?_
  exact t_M_legHere_38 hB hF h
set_option maxRecDepth 100000 in
theorem t_M_legHere_19 {G : Gt} {φ : Ph} {B : Bag} (hB : BF G I_M_legHere B) (hF : SF 148 φ)    {o : Int32} {M9 : Mm} {t0 : Int32} {M : Mm} (h : f_M_legHere_19 t0 M = some (o, M9)) : AW G I_M_legHere B (QM G I_M_legHere B (.inl (some (.int o))) M9 φ) 0 0 19 [(0, .ref 134)] [.int t0] M φ := by
  unfold f_M_legHere_19 at h
  refine a_istore_n (ls' := [(1, .int t0), (0, .ref 134)]) hB e_M_legHere_19 rfl (Nat.le_of_ble_eq_true rfl) rfl ?_
  refine a_aload_n (j := 1) hB e_M_legHere_20 rfl rfl ?_
  refine a_aload_n (j := 1) hB e_M_legHere_21 rfl rfl ?_
  refine a_getI (k := 24) hB e_M_legHere_22 fl_M_188 (sf_lt hF (by decide)) kk_134 tt_134_24 ?_
  refine a_if_ne (tgt := 37) hB e_M_legHere_25 (by decide) (fun c => ?_) (fun c => ?_)
  · have h := iq c h
    refine a_ls [1, 0] (ls' := [(0, .ref 134), (1, .int t0)]) rfl ?_
    exact t_M_legHere_37 hB hF h
  · have h := ip c h
    refine a_iload_n (j := 0) hB e_M_legHere_28 rfl rfl ?_
    refine a_iconst (v := -1) hB e_M_legHere_29 ic_m1 ?_
    refine a_icmp_ne (tgt := 37) hB e_M_legHere_30 (by decide) (fun c => ?_) (fun c => ?_)
    · have h := iq c h
      refine a_ls [1, 0] (ls' := [(0, .ref 134), (1, .int t0)]) rfl ?_
      exact t_M_legHere_37 hB hF h
    · have h := ip c h
      refine a_iconst (v := 1) hB e_M_legHere_33 ic_1 ?_
      refine a_goto (tgt := 38) hB e_M_legHere_34 (by decide) ?_
      refine a_ls [1, 0] (ls' := [(0, .ref 134), (1, .int t0)]) rfl ?_
      exact t_M_legHere_38 hB hF h
set_option maxRecDepth 100000 in
theorem t_M_legHere {G : Gt} {φ : Ph} {B : Bag} (hB : BF G I_M_legHere B) (hF : SF 148 φ)    {o : Int32} {M9 : Mm}  {M : Mm} (h : f_M_legHere M = some (o, M9)) : AW G I_M_legHere B (QM G I_M_legHere B (.inl (some (.int o))) M9 φ) 0 0 0 [(0, .ref 134)] [] M φ := by
  unfold f_M_legHere at h
  refine a_aload_n (j := 0) hB e_M_legHere_0 rfl rfl ?_
  obtain ⟨M1, hr1, h⟩ := bn_i h
  refine a_ret (v := none) (M1 := M1) (φ1 := φ) (st1 := []) (j1 := 0) (j2 := 0) (ar_V (As := []) (rest := []) hB (c_M_nameHere (bf_G hB) hF hr1) ml_M_208 md_M_nameHere rc_M_nameHere (sf_lt hF (by decide)) kk_134 rfl rfl (Nat.le_of_ble_eq_true rfl) rm_M_legHere_M_nameHere e_M_legHere_1) rfl rfl rfl ?_
  refine a_aload_n (j := 0) hB e_M_legHere_4 rfl rfl ?_
  refine a_getI (k := 24) hB e_M_legHere_5 fl_M_188 (sf_lt hF (by decide)) kk_134 tt_134_24 ?_
  refine a_if_eq (tgt := 15) hB e_M_legHere_8 (by decide) (fun c => ?_) (fun c => ?_)
  · have h := ip c h
    refine a_aload_n (j := 0) hB e_M_legHere_15 rfl rfl ?_
    obtain ⟨r16, hr16, h⟩ := bn_i h
    refine a_ret (v := (some (.int r16))) (M1 := M1) (φ1 := φ) (st1 := [.int r16]) (j1 := 0) (j2 := 0) (ar_V (As := []) (rest := []) hB (c_M_named (bf_G hB) hF hr16) ml_M_211 md_M_named rc_M_named (sf_lt hF (by decide)) kk_134 rfl rfl (Nat.le_of_ble_eq_true rfl) rm_M_legHere_M_named e_M_legHere_16) rfl rfl rfl ?_
    exact t_M_legHere_19 hB hF h
  · have h := iq c h
    refine a_iconst (v := 0) hB e_M_legHere_11 ic_0 ?_
    refine a_goto (tgt := 19) hB e_M_legHere_12 (by decide) ?_
    exact t_M_legHere_19 hB hF h
set_option maxRecDepth 100000 in
theorem c_M_legHere {G : Gt} (hG : GOK G) {φ : Ph} (hF : SF 148 φ)   {M : Mm}  {o : Int32} {M9 : Mm} (h : f_M_legHere M = some (o, M9)) : CT G I_M_legHere [.ref 134] M φ (.inl (some (.int o))) M9 φ :=
  ct_of hG (by decide) (Nat.le_of_ble_eq_true rfl) (fun B hB => t_M_legHere hB hF  h)
set_option maxRecDepth 100000 in
theorem t_M_ends_52 {G : Gt} {φ : Ph} {B : Bag} (hB : BF G I_M_ends B) (hF : SF 148 φ)    {o : Int32} {M9 : Mm} {t0 : Int32} {M : Mm} (h : f_M_ends_52 t0 M = some (o, M9)) : AW G I_M_ends B (QM G I_M_ends B (.inl (some (.int o))) M9 φ) 0 0 52 [] [.int t0] M φ := by
  unfold f_M_ends_52 at h
  obtain ⟨z52, h⟩ := chk_i h
  cases h
  exact a_zret hB rfl z52 e_M_ends_52 (by decide) (by decide)
set_option maxRecDepth 100000 in
theorem t_M_ends_35 {G : Gt} {φ : Ph} {B : Bag} (hB : BF G I_M_ends B) (hF : SF 148 φ)    {o : Int32} {M9 : Mm} {t1 : Int32} {M : Mm} (h : f_M_ends_35 t1 M = some (o, M9)) : AW G I_M_ends B (QM G I_M_ends B (.inl (some (.int o))) M9 φ) 0 0 35 [(0, .ref 134)] [.int t1, .ref 134] M φ := by
  unfold f_M_ends_35 at h
  refine a_bipush (v := 6) hB e_M_ends_35 bp_6 ?_
  obtain ⟨M37, hr37, h⟩ := bn_i h
  refine a_ret (v := none) (M1 := M37) (φ1 := φ) (st1 := []) (j1 := 0) (j2 := 0) (ar_V (As := [.int t1, .int (6 : Int32)]) (rest := []) hB (c_M_wrong (bf_G hB) hF hr37) ml_M_198 md_M_wrong rc_M_wrong (sf_lt hF (by decide)) kk_134 rfl rfl (Nat.le_of_ble_eq_true rfl) rm_M_ends_M_wrong e_M_ends_37) rfl rfl rfl ?_
  refine a_aload_n (j := 0) hB e_M_ends_40 rfl rfl ?_
  refine a_getI (k := 24) hB e_M_ends_41 fl_M_188 (sf_lt hF (by decide)) kk_134 tt_134_24 ?_
  refine a_if_ne (tgt := 51) hB e_M_ends_44 (by decide) (fun c => ?_) (fun c => ?_)
  · have h := iq c h
    refine a_iconst (v := 0) hB e_M_ends_51 ic_0 ?_
    refine a_ls [] (ls' := []) rfl ?_
    exact t_M_ends_52 hB hF h
  · have h := ip c h
    refine a_iconst (v := 1) hB e_M_ends_47 ic_1 ?_
    refine a_goto (tgt := 52) hB e_M_ends_48 (by decide) ?_
    refine a_ls [] (ls' := []) rfl ?_
    exact t_M_ends_52 hB hF h
set_option maxRecDepth 100000 in
theorem t_M_ends_34 {G : Gt} {φ : Ph} {B : Bag} (hB : BF G I_M_ends B) (hF : SF 148 φ)    {o : Int32} {M9 : Mm}  {M : Mm} (h : f_M_ends_34 M = some (o, M9)) : AW G I_M_ends B (QM G I_M_ends B (.inl (some (.int o))) M9 φ) 0 0 34 [(0, .ref 134)] [.ref 134] M φ := by
  unfold f_M_ends_34 at h
  refine a_iconst (v := 0) hB e_M_ends_34 ic_0 ?_
  exact t_M_ends_35 hB hF h
set_option maxRecDepth 100000 in
theorem t_M_ends_14 {G : Gt} {φ : Ph} {B : Bag} (hB : BF G I_M_ends B) (hF : SF 148 φ)    {o : Int32} {M9 : Mm} {l1 : Int32} {t1 : Int32} {M : Mm} (h : f_M_ends_14 l1 t1 M = some (o, M9)) : AW G I_M_ends B (QM G I_M_ends B (.inl (some (.int o))) M9 φ) 0 0 14 [(0, .ref 134), (1, .int l1)] [.int t1, .ref 134] M φ := by
  unfold f_M_ends_14 at h
  refine a_iconst (v := 1) hB e_M_ends_14 ic_1 ?_
  obtain ⟨M15, hr15, h⟩ := bn_i h
  refine a_ret (v := none) (M1 := M15) (φ1 := φ) (st1 := []) (j1 := 0) (j2 := 0) (ar_V (As := [.int t1, .int (1 : Int32)]) (rest := []) hB (c_M_wrong (bf_G hB) hF hr15) ml_M_198 md_M_wrong rc_M_wrong (sf_lt hF (by decide)) kk_134 rfl rfl (Nat.le_of_ble_eq_true rfl) rm_M_ends_M_wrong e_M_ends_15) rfl rfl rfl ?_
  refine a_aload_n (j := 0) hB e_M_ends_18 rfl rfl ?_
  refine a_aload_n (j := 0) hB e_M_ends_19 rfl rfl ?_
  refine a_getI (k := 24) hB e_M_ends_20 fl_M_188 (sf_lt hF (by decide)) kk_134 tt_134_24 ?_
  refine a_if_ne (tgt := 34) hB e_M_ends_23 (by decide) (fun c => ?_) (fun c => ?_)
  · have h := iq c h
    refine a_ls [0] (ls' := [(0, .ref 134)]) rfl ?_
    exact t_M_ends_34 hB hF h
  · have h := ip c h
    refine a_iload_n (j := 1) hB e_M_ends_26 rfl rfl ?_
    refine a_if_ne (tgt := 34) hB e_M_ends_27 (by decide) (fun c => ?_) (fun c => ?_)
    · have h := iq c h
      refine a_ls [0] (ls' := [(0, .ref 134)]) rfl ?_
      exact t_M_ends_34 hB hF h
    · have h := ip c h
      refine a_iconst (v := 1) hB e_M_ends_30 ic_1 ?_
      refine a_goto (tgt := 35) hB e_M_ends_31 (by decide) ?_
      refine a_ls [0] (ls' := [(0, .ref 134)]) rfl ?_
      exact t_M_ends_35 hB hF h
set_option maxRecDepth 100000 in
theorem t_M_ends {G : Gt} {φ : Ph} {B : Bag} (hB : BF G I_M_ends B) (hF : SF 148 φ)    {o : Int32} {M9 : Mm} {l1 : Int32} {M : Mm} (h : f_M_ends l1 M = some (o, M9)) : AW G I_M_ends B (QM G I_M_ends B (.inl (some (.int o))) M9 φ) 0 0 0 [(0, .ref 134), (1, .int l1)] [] M φ := by
  unfold f_M_ends at h
  refine a_aload_n (j := 0) hB e_M_ends_0 rfl rfl ?_
  refine a_aload_n (j := 0) hB e_M_ends_1 rfl rfl ?_
  refine a_getI (k := 20) hB e_M_ends_2 fl_M_170 (sf_lt hF (by decide)) kk_134 tt_134_20 ?_
  refine a_iconst (v := 3) hB e_M_ends_5 ic_3 ?_
  refine a_icmp_eq (tgt := 13) hB e_M_ends_6 (by decide) (fun c => ?_) (fun c => ?_)
  · have h := ip c h
    refine a_iconst (v := 0) hB e_M_ends_13 ic_0 ?_
    exact t_M_ends_14 hB hF h
  · have h := iq c h
    refine a_iconst (v := 1) hB e_M_ends_9 ic_1 ?_
    refine a_goto (tgt := 14) hB e_M_ends_10 (by decide) ?_
    exact t_M_ends_14 hB hF h
set_option maxRecDepth 100000 in
theorem c_M_ends {G : Gt} (hG : GOK G) {φ : Ph} (hF : SF 148 φ)   {M : Mm} {l1 : Int32} {o : Int32} {M9 : Mm} (h : f_M_ends l1 M = some (o, M9)) : CT G I_M_ends [.ref 134, .int l1] M φ (.inl (some (.int o))) M9 φ :=
  ct_of hG (by decide) (Nat.le_of_ble_eq_true rfl) (fun B hB => t_M_ends hB hF  h)
set_option maxRecDepth 100000 in
theorem t_M_option {G : Gt} {φ : Ph} {B : Bag} (hB : BF G I_M_option B) (hF : SF 148 φ) {w : Nat} (hw_w : w < 43)  {o : Int32} {M9 : Mm} {l2 : Int32} {l3 : Int32} {M : Mm} (h : f_M_option w l2 l3 M = some (o, M9)) : AW G I_M_option B (QM G I_M_option B (.inl (some (.int o))) M9 φ) 0 0 0 [(0, .ref 134), (1, .ref (1000 + w)), (2, .int l2), (3, .int l3)] [] M φ := by
  unfold f_M_option at h
  refine a_aload_n (j := 0) hB e_M_option_0 rfl rfl ?_
  refine a_aload_n (j := 1) hB e_M_option_1 rfl rfl ?_
  obtain ⟨r2, hr2, h⟩ := bn_i h
  refine a_ret (v := (some (.int r2))) (M1 := M) (φ1 := φ) (st1 := [.int r2]) (j1 := 0) (j2 := 0) (ar_V (As := [.ref (1000 + w)]) (rest := []) hB (c_M_is (bf_G hB) hF hw_w hr2) ml_M_214 md_M_is rc_M_is (sf_lt hF (by decide)) kk_134 rfl rfl (Nat.le_of_ble_eq_true rfl) rm_M_option_M_is e_M_option_2) rfl rfl rfl ?_
  refine a_if_ne (tgt := 10) hB e_M_option_5 (by decide) (fun c => ?_) (fun c => ?_)
  · have h := iq c h
    refine a_aload_n (j := 0) hB e_M_option_10 rfl rfl ?_
    obtain ⟨M11, hr11, h⟩ := bn_i h
    refine a_ret (v := none) (M1 := M11) (φ1 := φ) (st1 := []) (j1 := 0) (j2 := 0) (ar_V (As := []) (rest := []) hB (c_M_go (bf_G hB) hF hr11) ml_M_202 md_M_go rc_M_go (sf_lt hF (by decide)) kk_134 rfl rfl (Nat.le_of_ble_eq_true rfl) rm_M_option_M_go e_M_option_11) rfl rfl rfl ?_
    refine a_aload_n (j := 0) hB e_M_option_14 rfl rfl ?_
    refine a_iconst (v := 0) hB e_M_option_15 ic_0 ?_
    refine a_iload_n (j := 2) hB e_M_option_16 rfl rfl ?_
    obtain ⟨r17, M17, hr17, h⟩ := bn2_i h
    refine a_ret (v := (some (.int r17))) (M1 := M17) (φ1 := φ) (st1 := [.int r17]) (j1 := 0) (j2 := 0) (ar_V (As := [.int (0 : Int32), .int l2]) (rest := []) hB (c_M_number (bf_G hB) hF hr17) ml_M_205 md_M_number rc_M_number (sf_lt hF (by decide)) kk_134 rfl rfl (Nat.le_of_ble_eq_true rfl) rm_M_option_M_number e_M_option_17) rfl rfl rfl ?_
    cases h
    exact a_iret hB rfl e_M_option_20 (by decide) (by decide)
  · have h := ip c h
    refine a_iload_n (j := 3) hB e_M_option_8 rfl rfl ?_
    cases h
    exact a_iret hB rfl e_M_option_9 (by decide) (by decide)
set_option maxRecDepth 100000 in
theorem c_M_option {G : Gt} (hG : GOK G) {φ : Ph} (hF : SF 148 φ) {w : Nat} (hw_w : w < 43) {M : Mm} {l2 : Int32} {l3 : Int32} {o : Int32} {M9 : Mm} (h : f_M_option w l2 l3 M = some (o, M9)) : CT G I_M_option [.ref 134, .ref (1000 + w), .int l2, .int l3] M φ (.inl (some (.int o))) M9 φ :=
  ct_of hG (by decide) (Nat.le_of_ble_eq_true rfl) (fun B hB => t_M_option hB hF hw_w h)
set_option maxRecDepth 100000 in
theorem t_M_legTold_241 {G : Gt} {φ : Ph} {B : Bag} (hB : BF G I_M_legTold B) (hF : SF 148 φ)    {M9 : Mm}  {M : Mm} (h : f_M_legTold_241 M = some M9) : AW G I_M_legTold B (QM G I_M_legTold B (.inl none) M9 φ) 0 0 241 [] [] M φ := by
  unfold f_M_legTold_241 at h
  cases h
  exact a_vret hB rfl e_M_legTold_241 (by decide) (by decide)
set_option maxRecDepth 100000 in
theorem t_M_legTold_220 {G : Gt} {φ : Ph} {B : Bag} (hB : BF G I_M_legTold B) (hF : SF 148 φ)    {M9 : Mm} {t1 : Int32} {t2 : Int32} {t3 : Int32} {M : Mm} (h : f_M_legTold_220 t1 t2 t3 M = some M9) : AW G I_M_legTold B (QM G I_M_legTold B (.inl none) M9 φ) 0 0 220 [(0, .ref 134)] [.int t3, .int t2, .int t1, .ref 134] M φ := by
  unfold f_M_legTold_220 at h
  obtain ⟨M220, hr220, h⟩ := bn_i h
  refine a_ret (v := none) (M1 := M220) (φ1 := φ) (st1 := []) (j1 := 0) (j2 := 0) (ar_V (As := [.int t1, .int t2, .int t3]) (rest := []) hB (c_M_put (bf_G hB) hF hr220) ml_M_149 md_M_put rc_M_put (sf_lt hF (by decide)) kk_134 rfl rfl (Nat.le_of_ble_eq_true rfl) rm_M_legTold_M_put e_M_legTold_220) rfl rfl rfl ?_
  refine a_aload_n (j := 0) hB e_M_legTold_223 rfl rfl ?_
  refine a_iconst (v := 1) hB e_M_legTold_224 ic_1 ?_
  obtain ⟨r225, M225, hr225, h⟩ := bn2_i h
  refine a_ret (v := (some (.int r225))) (M1 := M225) (φ1 := φ) (st1 := [.int r225]) (j1 := 0) (j2 := 0) (ar_V (As := [.int (1 : Int32)]) (rest := []) hB (c_M_ends (bf_G hB) hF hr225) ml_M_234 md_M_ends rc_M_ends (sf_lt hF (by decide)) kk_134 rfl rfl (Nat.le_of_ble_eq_true rfl) rm_M_legTold_M_ends e_M_legTold_225) rfl rfl rfl ?_
  refine a_if_eq (tgt := 241) hB e_M_legTold_228 (by decide) (fun c => ?_) (fun c => ?_)
  · have h := ip c h
    refine a_ls [] (ls' := []) rfl ?_
    exact t_M_legTold_241 hB hF h
  · have h := iq c h
    refine a_aload_n (j := 0) hB e_M_legTold_231 rfl rfl ?_
    refine a_getR (r := 135) (k := 0) hB e_M_legTold_232 fl_M_9 (sf_lt hF (by decide)) kk_134 tt_134_0 (hF.1 _ _) ?_
    refine a_iconst (v := 0) hB e_M_legTold_235 ic_0 ?_
    refine a_dup2 hB e_M_legTold_236 rfl rfl ?_
    refine a_iald' hB e_M_legTold_237 (sf_lt hF (by decide)) kk_135 ll_135 (by decide) ?_
    refine a_iconst (v := 1) hB e_M_legTold_238 ic_1 ?_
    refine a_iadd hB e_M_legTold_239 ?_
    obtain ⟨M240, hM240, h⟩ := bm_i h
    refine a_iast' hB e_M_legTold_240 (sf_lt hF (by decide)) kk_135 ll_135 (by decide) ?_
    refine a_mem hM240 ?_
    refine a_ls [] (ls' := []) rfl ?_
    exact t_M_legTold_241 hB hF h
set_option maxRecDepth 100000 in
theorem t_M_legTold_196 {G : Gt} {φ : Ph} {B : Bag} (hB : BF G I_M_legTold B) (hF : SF 148 φ)    {M9 : Mm} {l1 : Int32} {l2 : Int32} {t1 : Int32} {t2 : Int32} {t3 : Int32} {M : Mm} (h : f_M_legTold_196 l1 l2 t1 t2 t3 M = some M9) : AW G I_M_legTold B (QM G I_M_legTold B (.inl none) M9 φ) 0 0 196 [(0, .ref 134), (1, .int l1), (2, .int l2)] [.int t3, .int t2, .int t1, .ref 134] M φ := by
  unfold f_M_legTold_196 at h
  obtain ⟨M196, hr196, h⟩ := bn_i h
  refine a_ret (v := none) (M1 := M196) (φ1 := φ) (st1 := []) (j1 := 0) (j2 := 0) (ar_V (As := [.int t1, .int t2, .int t3]) (rest := []) hB (c_M_put (bf_G hB) hF hr196) ml_M_149 md_M_put rc_M_put (sf_lt hF (by decide)) kk_134 rfl rfl (Nat.le_of_ble_eq_true rfl) rm_M_legTold_M_put e_M_legTold_196) rfl rfl rfl ?_
  refine a_aload_n (j := 0) hB e_M_legTold_199 rfl rfl ?_
  refine a_iload_n (j := 2) hB e_M_legTold_200 rfl rfl ?_
  refine a_iconst (v := 5) hB e_M_legTold_201 ic_5 ?_
  refine a_iload_n (j := 1) hB e_M_legTold_202 rfl rfl ?_
  refine a_if_eq (tgt := 210) hB e_M_legTold_203 (by decide) (fun c => ?_) (fun c => ?_)
  · have h := ip c h
    refine a_aload_n (j := 0) hB e_M_legTold_210 rfl rfl ?_
    refine a_ldcS (i := 34) hB rfl e_M_legTold_211 ?_
    refine a_bipush (v := 50) hB e_M_legTold_213 bp_50 ?_
    refine a_bipush (v := 15) hB e_M_legTold_215 bp_15 ?_
    obtain ⟨r217, M217, hr217, h⟩ := bn2_i h
    refine a_ret (v := (some (.int r217))) (M1 := M217) (φ1 := φ) (st1 := [.int r217, .int (5 : Int32), .int l2, .ref 134]) (j1 := 0) (j2 := 0) (ar_V (As := [.ref (1000 + 34), .int (50 : Int32), .int (15 : Int32)]) (rest := [.int (5 : Int32), .int l2, .ref 134]) hB (c_M_option (bf_G hB) hF (by decide) hr217) ml_M_226 md_M_option rc_M_option (sf_lt hF (by decide)) kk_134 rfl rfl (Nat.le_of_ble_eq_true rfl) rm_M_legTold_M_option e_M_legTold_217) rfl rfl rfl ?_
    refine a_ls [0] (ls' := [(0, .ref 134)]) rfl ?_
    exact t_M_legTold_220 hB hF h
  · have h := iq c h
    refine a_iconst (v := 0) hB e_M_legTold_206 ic_0 ?_
    refine a_goto (tgt := 220) hB e_M_legTold_207 (by decide) ?_
    refine a_ls [0] (ls' := [(0, .ref 134)]) rfl ?_
    exact t_M_legTold_220 hB hF h
set_option maxRecDepth 100000 in
theorem t_M_legTold_172 {G : Gt} {φ : Ph} {B : Bag} (hB : BF G I_M_legTold B) (hF : SF 148 φ)    {M9 : Mm} {l1 : Int32} {l2 : Int32} {t1 : Int32} {t2 : Int32} {t3 : Int32} {M : Mm} (h : f_M_legTold_172 l1 l2 t1 t2 t3 M = some M9) : AW G I_M_legTold B (QM G I_M_legTold B (.inl none) M9 φ) 0 0 172 [(0, .ref 134), (1, .int l1), (2, .int l2)] [.int t3, .int t2, .int t1, .ref 134] M φ := by
  unfold f_M_legTold_172 at h
  obtain ⟨M172, hr172, h⟩ := bn_i h
  refine a_ret (v := none) (M1 := M172) (φ1 := φ) (st1 := []) (j1 := 0) (j2 := 0) (ar_V (As := [.int t1, .int t2, .int t3]) (rest := []) hB (c_M_put (bf_G hB) hF hr172) ml_M_149 md_M_put rc_M_put (sf_lt hF (by decide)) kk_134 rfl rfl (Nat.le_of_ble_eq_true rfl) rm_M_legTold_M_put e_M_legTold_172) rfl rfl rfl ?_
  refine a_aload_n (j := 0) hB e_M_legTold_175 rfl rfl ?_
  refine a_iload_n (j := 2) hB e_M_legTold_176 rfl rfl ?_
  refine a_iconst (v := 4) hB e_M_legTold_177 ic_4 ?_
  refine a_iload_n (j := 1) hB e_M_legTold_178 rfl rfl ?_
  refine a_if_eq (tgt := 186) hB e_M_legTold_179 (by decide) (fun c => ?_) (fun c => ?_)
  · have h := ip c h
    refine a_aload_n (j := 0) hB e_M_legTold_186 rfl rfl ?_
    refine a_ldcS (i := 33) hB rfl e_M_legTold_187 ?_
    refine a_sipush (v := 9999) hB e_M_legTold_189 sp_9999 ?_
    refine a_iconst (v := 0) hB e_M_legTold_192 ic_0 ?_
    obtain ⟨r193, M193, hr193, h⟩ := bn2_i h
    refine a_ret (v := (some (.int r193))) (M1 := M193) (φ1 := φ) (st1 := [.int r193, .int (4 : Int32), .int l2, .ref 134]) (j1 := 0) (j2 := 0) (ar_V (As := [.ref (1000 + 33), .int (9999 : Int32), .int (0 : Int32)]) (rest := [.int (4 : Int32), .int l2, .ref 134]) hB (c_M_option (bf_G hB) hF (by decide) hr193) ml_M_226 md_M_option rc_M_option (sf_lt hF (by decide)) kk_134 rfl rfl (Nat.le_of_ble_eq_true rfl) rm_M_legTold_M_option e_M_legTold_193) rfl rfl rfl ?_
    exact t_M_legTold_196 hB hF h
  · have h := iq c h
    refine a_iconst (v := 0) hB e_M_legTold_182 ic_0 ?_
    refine a_goto (tgt := 196) hB e_M_legTold_183 (by decide) ?_
    exact t_M_legTold_196 hB hF h
set_option maxRecDepth 100000 in
theorem t_M_legTold_149 {G : Gt} {φ : Ph} {B : Bag} (hB : BF G I_M_legTold B) (hF : SF 148 φ)    {M9 : Mm} {l1 : Int32} {l2 : Int32} {t1 : Int32} {t2 : Int32} {t3 : Int32} {M : Mm} (h : f_M_legTold_149 l1 l2 t1 t2 t3 M = some M9) : AW G I_M_legTold B (QM G I_M_legTold B (.inl none) M9 φ) 0 0 149 [(0, .ref 134), (1, .int l1), (2, .int l2)] [.int t3, .int t2, .int t1, .ref 134] M φ := by
  unfold f_M_legTold_149 at h
  obtain ⟨M149, hr149, h⟩ := bn_i h
  refine a_ret (v := none) (M1 := M149) (φ1 := φ) (st1 := []) (j1 := 0) (j2 := 0) (ar_V (As := [.int t1, .int t2, .int t3]) (rest := []) hB (c_M_put (bf_G hB) hF hr149) ml_M_149 md_M_put rc_M_put (sf_lt hF (by decide)) kk_134 rfl rfl (Nat.le_of_ble_eq_true rfl) rm_M_legTold_M_put e_M_legTold_149) rfl rfl rfl ?_
  refine a_aload_n (j := 0) hB e_M_legTold_152 rfl rfl ?_
  refine a_iload_n (j := 2) hB e_M_legTold_153 rfl rfl ?_
  refine a_iconst (v := 3) hB e_M_legTold_154 ic_3 ?_
  refine a_iload_n (j := 1) hB e_M_legTold_155 rfl rfl ?_
  refine a_if_eq (tgt := 163) hB e_M_legTold_156 (by decide) (fun c => ?_) (fun c => ?_)
  · have h := ip c h
    refine a_aload_n (j := 0) hB e_M_legTold_163 rfl rfl ?_
    refine a_ldcS (i := 32) hB rfl e_M_legTold_164 ?_
    refine a_bipush (v := 9) hB e_M_legTold_166 bp_9 ?_
    refine a_iconst (v := 0) hB e_M_legTold_168 ic_0 ?_
    obtain ⟨r169, M169, hr169, h⟩ := bn2_i h
    refine a_ret (v := (some (.int r169))) (M1 := M169) (φ1 := φ) (st1 := [.int r169, .int (3 : Int32), .int l2, .ref 134]) (j1 := 0) (j2 := 0) (ar_V (As := [.ref (1000 + 32), .int (9 : Int32), .int (0 : Int32)]) (rest := [.int (3 : Int32), .int l2, .ref 134]) hB (c_M_option (bf_G hB) hF (by decide) hr169) ml_M_226 md_M_option rc_M_option (sf_lt hF (by decide)) kk_134 rfl rfl (Nat.le_of_ble_eq_true rfl) rm_M_legTold_M_option e_M_legTold_169) rfl rfl rfl ?_
    exact t_M_legTold_172 hB hF h
  · have h := iq c h
    refine a_iconst (v := 0) hB e_M_legTold_159 ic_0 ?_
    refine a_goto (tgt := 172) hB e_M_legTold_160 (by decide) ?_
    exact t_M_legTold_172 hB hF h
set_option maxRecDepth 100000 in
theorem t_M_legTold_126 {G : Gt} {φ : Ph} {B : Bag} (hB : BF G I_M_legTold B) (hF : SF 148 φ)    {M9 : Mm} {l1 : Int32} {l2 : Int32} {t1 : Int32} {t2 : Int32} {t3 : Int32} {M : Mm} (h : f_M_legTold_126 l1 l2 t1 t2 t3 M = some M9) : AW G I_M_legTold B (QM G I_M_legTold B (.inl none) M9 φ) 0 0 126 [(0, .ref 134), (1, .int l1), (2, .int l2)] [.int t3, .int t2, .int t1, .ref 134] M φ := by
  unfold f_M_legTold_126 at h
  obtain ⟨M126, hr126, h⟩ := bn_i h
  refine a_ret (v := none) (M1 := M126) (φ1 := φ) (st1 := []) (j1 := 0) (j2 := 0) (ar_V (As := [.int t1, .int t2, .int t3]) (rest := []) hB (c_M_put (bf_G hB) hF hr126) ml_M_149 md_M_put rc_M_put (sf_lt hF (by decide)) kk_134 rfl rfl (Nat.le_of_ble_eq_true rfl) rm_M_legTold_M_put e_M_legTold_126) rfl rfl rfl ?_
  refine a_aload_n (j := 0) hB e_M_legTold_129 rfl rfl ?_
  refine a_iload_n (j := 2) hB e_M_legTold_130 rfl rfl ?_
  refine a_bipush (v := 6) hB e_M_legTold_131 bp_6 ?_
  refine a_iload_n (j := 1) hB e_M_legTold_133 rfl rfl ?_
  refine a_if_eq (tgt := 148) hB e_M_legTold_134 (by decide) (fun c => ?_) (fun c => ?_)
  · have h := ip c h
    refine a_iconst (v := 0) hB e_M_legTold_148 ic_0 ?_
    exact t_M_legTold_149 hB hF h
  · have h := iq c h
    refine a_aload_n (j := 0) hB e_M_legTold_137 rfl rfl ?_
    refine a_iconst (v := 1) hB e_M_legTold_138 ic_1 ?_
    refine a_sipush (v := 999) hB e_M_legTold_139 sp_999 ?_
    obtain ⟨r142, M142, hr142, h⟩ := bn2_i h
    refine a_ret (v := (some (.int r142))) (M1 := M142) (φ1 := φ) (st1 := [.int r142, .int (6 : Int32), .int l2, .ref 134]) (j1 := 0) (j2 := 0) (ar_V (As := [.int (1 : Int32), .int (999 : Int32)]) (rest := [.int (6 : Int32), .int l2, .ref 134]) hB (c_M_number (bf_G hB) hF hr142) ml_M_205 md_M_number rc_M_number (sf_lt hF (by decide)) kk_134 rfl rfl (Nat.le_of_ble_eq_true rfl) rm_M_legTold_M_number e_M_legTold_142) rfl rfl rfl ?_
    refine a_goto (tgt := 149) hB e_M_legTold_145 (by decide) ?_
    exact t_M_legTold_149 hB hF h
set_option maxRecDepth 100000 in
theorem t_M_legTold_105 {G : Gt} {φ : Ph} {B : Bag} (hB : BF G I_M_legTold B) (hF : SF 148 φ)    {M9 : Mm} {l1 : Int32} {l2 : Int32} {t1 : Int32} {t2 : Int32} {t3 : Int32} {M : Mm} (h : f_M_legTold_105 l1 l2 t1 t2 t3 M = some M9) : AW G I_M_legTold B (QM G I_M_legTold B (.inl none) M9 φ) 0 0 105 [(0, .ref 134), (1, .int l1), (2, .int l2)] [.int t3, .int t2, .int t1, .ref 134] M φ := by
  unfold f_M_legTold_105 at h
  obtain ⟨M105, hr105, h⟩ := bn_i h
  refine a_ret (v := none) (M1 := M105) (φ1 := φ) (st1 := []) (j1 := 0) (j2 := 0) (ar_V (As := [.int t1, .int t2, .int t3]) (rest := []) hB (c_M_put (bf_G hB) hF hr105) ml_M_149 md_M_put rc_M_put (sf_lt hF (by decide)) kk_134 rfl rfl (Nat.le_of_ble_eq_true rfl) rm_M_legTold_M_put e_M_legTold_105) rfl rfl rfl ?_
  refine a_aload_n (j := 0) hB e_M_legTold_108 rfl rfl ?_
  refine a_iload_n (j := 2) hB e_M_legTold_109 rfl rfl ?_
  refine a_iconst (v := 2) hB e_M_legTold_110 ic_2 ?_
  refine a_iload_n (j := 1) hB e_M_legTold_111 rfl rfl ?_
  refine a_if_eq (tgt := 119) hB e_M_legTold_112 (by decide) (fun c => ?_) (fun c => ?_)
  · have h := ip c h
    refine a_aload_n (j := 0) hB e_M_legTold_119 rfl rfl ?_
    refine a_iconst (v := 0) hB e_M_legTold_120 ic_0 ?_
    refine a_bipush (v := 99) hB e_M_legTold_121 bp_99 ?_
    obtain ⟨r123, M123, hr123, h⟩ := bn2_i h
    refine a_ret (v := (some (.int r123))) (M1 := M123) (φ1 := φ) (st1 := [.int r123, .int (2 : Int32), .int l2, .ref 134]) (j1 := 0) (j2 := 0) (ar_V (As := [.int (0 : Int32), .int (99 : Int32)]) (rest := [.int (2 : Int32), .int l2, .ref 134]) hB (c_M_number (bf_G hB) hF hr123) ml_M_205 md_M_number rc_M_number (sf_lt hF (by decide)) kk_134 rfl rfl (Nat.le_of_ble_eq_true rfl) rm_M_legTold_M_number e_M_legTold_123) rfl rfl rfl ?_
    exact t_M_legTold_126 hB hF h
  · have h := iq c h
    refine a_iconst (v := 0) hB e_M_legTold_115 ic_0 ?_
    refine a_goto (tgt := 126) hB e_M_legTold_116 (by decide) ?_
    exact t_M_legTold_126 hB hF h
set_option maxRecDepth 100000 in
theorem t_M_legTold_50 {G : Gt} {φ : Ph} {B : Bag} (hB : BF G I_M_legTold B) (hF : SF 148 φ)    {M9 : Mm} {l1 : Int32} {t1 : Int32} {M : Mm} (h : f_M_legTold_50 l1 t1 M = some M9) : AW G I_M_legTold B (QM G I_M_legTold B (.inl none) M9 φ) 0 0 50 [(0, .ref 134), (1, .int l1)] [.int t1, .ref 134] M φ := by
  unfold f_M_legTold_50 at h
  refine a_iconst (v := 4) hB e_M_legTold_50 ic_4 ?_
  obtain ⟨M51, hr51, h⟩ := bn_i h
  refine a_ret (v := none) (M1 := M51) (φ1 := φ) (st1 := []) (j1 := 0) (j2 := 0) (ar_V (As := [.int t1, .int (4 : Int32)]) (rest := []) hB (c_M_wrong (bf_G hB) hF hr51) ml_M_198 md_M_wrong rc_M_wrong (sf_lt hF (by decide)) kk_134 rfl rfl (Nat.le_of_ble_eq_true rfl) rm_M_legTold_M_wrong e_M_legTold_51) rfl rfl rfl ?_
  refine a_aload_n (j := 0) hB e_M_legTold_54 rfl rfl ?_
  obtain ⟨M55, hr55, h⟩ := bn_i h
  refine a_ret (v := none) (M1 := M55) (φ1 := φ) (st1 := []) (j1 := 0) (j2 := 0) (ar_V (As := []) (rest := []) hB (c_M_go (bf_G hB) hF hr55) ml_M_202 md_M_go rc_M_go (sf_lt hF (by decide)) kk_134 rfl rfl (Nat.le_of_ble_eq_true rfl) rm_M_legTold_M_go e_M_legTold_55) rfl rfl rfl ?_
  refine a_aload_n (j := 0) hB e_M_legTold_58 rfl rfl ?_
  refine a_getI (k := 24) hB e_M_legTold_59 fl_M_188 (sf_lt hF (by decide)) kk_134 tt_134_24 ?_
  refine a_if_eq (tgt := 66) hB e_M_legTold_62 (by decide) (fun c => ?_) (fun c => ?_)
  · have h := ip c h
    refine a_aload_n (j := 0) hB e_M_legTold_66 rfl rfl ?_
    obtain ⟨M67, hr67, h⟩ := bn_i h
    refine a_ret (v := none) (M1 := M67) (φ1 := φ) (st1 := []) (j1 := 0) (j2 := 0) (ar_V (As := []) (rest := []) hB (c_M_layName (bf_G hB) hF hr67) ml_M_218 md_M_layName rc_M_layName (sf_lt hF (by decide)) kk_134 rfl rfl (Nat.le_of_ble_eq_true rfl) rm_M_legTold_M_layName e_M_legTold_67) rfl rfl rfl ?_
    refine a_aload_n (j := 0) hB e_M_legTold_70 rfl rfl ?_
    refine a_getR (r := 135) (k := 0) hB e_M_legTold_71 fl_M_9 (sf_lt hF (by decide)) kk_134 tt_134_0 (hF.1 _ _) ?_
    refine a_iconst (v := 0) hB e_M_legTold_74 ic_0 ?_
    refine a_iald' hB e_M_legTold_75 (sf_lt hF (by decide)) kk_135 ll_135 (by decide) ?_
    refine a_istore_n (ls' := [(2, .int (M67 135 (ix (0 : Int32)))), (0, .ref 134), (1, .int l1)]) hB e_M_legTold_76 rfl (Nat.le_of_ble_eq_true rfl) rfl ?_
    refine a_aload_n (j := 1) hB e_M_legTold_77 rfl rfl ?_
    refine a_iload_n (j := 0) hB e_M_legTold_78 rfl rfl ?_
    refine a_iconst (v := 0) hB e_M_legTold_79 ic_0 ?_
    refine a_aload_n (j := 1) hB e_M_legTold_80 rfl rfl ?_
    obtain ⟨r81, M81, hr81, h⟩ := bn2_i h
    refine a_ret (v := (some (.int r81))) (M1 := M81) (φ1 := φ) (st1 := [.int r81, .int (0 : Int32), .int (M67 135 (ix (0 : Int32))), .ref 134]) (j1 := 0) (j2 := 0) (ar_V (As := []) (rest := [.int (0 : Int32), .int (M67 135 (ix (0 : Int32))), .ref 134]) hB (c_M_bearingHere (bf_G hB) hF hr81) ml_M_221 md_M_bearingHere rc_M_bearingHere (sf_lt hF (by decide)) kk_134 rfl rfl (Nat.le_of_ble_eq_true rfl) rm_M_legTold_M_bearingHere e_M_legTold_81) rfl rfl rfl ?_
    obtain ⟨M84, hr84, h⟩ := bn_i h
    refine a_ret (v := none) (M1 := M84) (φ1 := φ) (st1 := []) (j1 := 0) (j2 := 0) (ar_V (As := [.int (M67 135 (ix (0 : Int32))), .int (0 : Int32), .int r81]) (rest := []) hB (c_M_put (bf_G hB) hF hr84) ml_M_149 md_M_put rc_M_put (sf_lt hF (by decide)) kk_134 rfl rfl (Nat.le_of_ble_eq_true rfl) rm_M_legTold_M_put e_M_legTold_84) rfl rfl rfl ?_
    refine a_aload_n (j := 1) hB e_M_legTold_87 rfl rfl ?_
    refine a_iload_n (j := 0) hB e_M_legTold_88 rfl rfl ?_
    refine a_iconst (v := 1) hB e_M_legTold_89 ic_1 ?_
    refine a_iload_n (j := 2) hB e_M_legTold_90 rfl rfl ?_
    refine a_if_eq (tgt := 98) hB e_M_legTold_91 (by decide) (fun c => ?_) (fun c => ?_)
    · have h := ip c h
      refine a_aload_n (j := 1) hB e_M_legTold_98 rfl rfl ?_
      refine a_iconst (v := 0) hB e_M_legTold_99 ic_0 ?_
      refine a_bipush (v := 99) hB e_M_legTold_100 bp_99 ?_
      obtain ⟨r102, M102, hr102, h⟩ := bn2_i h
      refine a_ret (v := (some (.int r102))) (M1 := M102) (φ1 := φ) (st1 := [.int r102, .int (1 : Int32), .int (M67 135 (ix (0 : Int32))), .ref 134]) (j1 := 0) (j2 := 0) (ar_V (As := [.int (0 : Int32), .int (99 : Int32)]) (rest := [.int (1 : Int32), .int (M67 135 (ix (0 : Int32))), .ref 134]) hB (c_M_number (bf_G hB) hF hr102) ml_M_205 md_M_number rc_M_number (sf_lt hF (by decide)) kk_134 rfl rfl (Nat.le_of_ble_eq_true rfl) rm_M_legTold_M_number e_M_legTold_102) rfl rfl rfl ?_
      refine a_ls [1, 2, 0] (ls' := [(0, .ref 134), (1, .int l1), (2, .int (M67 135 (ix (0 : Int32))))]) rfl ?_
      exact t_M_legTold_105 hB hF h
    · have h := iq c h
      refine a_iconst (v := 0) hB e_M_legTold_94 ic_0 ?_
      refine a_goto (tgt := 105) hB e_M_legTold_95 (by decide) ?_
      refine a_ls [1, 2, 0] (ls' := [(0, .ref 134), (1, .int l1), (2, .int (M67 135 (ix (0 : Int32))))]) rfl ?_
      exact t_M_legTold_105 hB hF h
  · have h := iq c h
    cases h
    exact a_vret hB rfl e_M_legTold_65 (by decide) (by decide)
set_option maxRecDepth 100000 in
theorem t_M_legTold_49 {G : Gt} {φ : Ph} {B : Bag} (hB : BF G I_M_legTold B) (hF : SF 148 φ)    {M9 : Mm} {l1 : Int32} {M : Mm} (h : f_M_legTold_49 l1 M = some M9) : AW G I_M_legTold B (QM G I_M_legTold B (.inl none) M9 φ) 0 0 49 [(0, .ref 134), (1, .int l1)] [.ref 134] M φ := by
  unfold f_M_legTold_49 at h
  refine a_iconst (v := 0) hB e_M_legTold_49 ic_0 ?_
  exact t_M_legTold_50 hB hF h
set_option maxRecDepth 100000 in
theorem t_M_legTold_17 {G : Gt} {φ : Ph} {B : Bag} (hB : BF G I_M_legTold B) (hF : SF 148 φ)    {M9 : Mm} {l1 : Int32} {t1 : Int32} {M : Mm} (h : f_M_legTold_17 l1 t1 M = some M9) : AW G I_M_legTold B (QM G I_M_legTold B (.inl none) M9 φ) 0 0 17 [(0, .ref 134), (1, .int l1)] [.int t1, .ref 134] M φ := by
  unfold f_M_legTold_17 at h
  refine a_iconst (v := 5) hB e_M_legTold_17 ic_5 ?_
  obtain ⟨M18, hr18, h⟩ := bn_i h
  refine a_ret (v := none) (M1 := M18) (φ1 := φ) (st1 := []) (j1 := 0) (j2 := 0) (ar_V (As := [.int t1, .int (5 : Int32)]) (rest := []) hB (c_M_wrong (bf_G hB) hF hr18) ml_M_198 md_M_wrong rc_M_wrong (sf_lt hF (by decide)) kk_134 rfl rfl (Nat.le_of_ble_eq_true rfl) rm_M_legTold_M_wrong e_M_legTold_18) rfl rfl rfl ?_
  refine a_aload_n (j := 0) hB e_M_legTold_21 rfl rfl ?_
  obtain ⟨M22, hr22, h⟩ := bn_i h
  refine a_ret (v := none) (M1 := M22) (φ1 := φ) (st1 := []) (j1 := 0) (j2 := 0) (ar_V (As := []) (rest := []) hB (c_M_go (bf_G hB) hF hr22) ml_M_202 md_M_go rc_M_go (sf_lt hF (by decide)) kk_134 rfl rfl (Nat.le_of_ble_eq_true rfl) rm_M_legTold_M_go e_M_legTold_22) rfl rfl rfl ?_
  refine a_aload_n (j := 0) hB e_M_legTold_25 rfl rfl ?_
  obtain ⟨M26, hr26, h⟩ := bn_i h
  refine a_ret (v := none) (M1 := M26) (φ1 := φ) (st1 := []) (j1 := 0) (j2 := 0) (ar_V (As := []) (rest := []) hB (c_M_nameHere (bf_G hB) hF hr26) ml_M_208 md_M_nameHere rc_M_nameHere (sf_lt hF (by decide)) kk_134 rfl rfl (Nat.le_of_ble_eq_true rfl) rm_M_legTold_M_nameHere e_M_legTold_26) rfl rfl rfl ?_
  refine a_aload_n (j := 0) hB e_M_legTold_29 rfl rfl ?_
  refine a_aload_n (j := 0) hB e_M_legTold_30 rfl rfl ?_
  refine a_getI (k := 24) hB e_M_legTold_31 fl_M_188 (sf_lt hF (by decide)) kk_134 tt_134_24 ?_
  refine a_if_ne (tgt := 49) hB e_M_legTold_34 (by decide) (fun c => ?_) (fun c => ?_)
  · have h := iq c h
    exact t_M_legTold_49 hB hF h
  · have h := ip c h
    refine a_aload_n (j := 0) hB e_M_legTold_37 rfl rfl ?_
    obtain ⟨r38, hr38, h⟩ := bn_i h
    refine a_ret (v := (some (.int r38))) (M1 := M26) (φ1 := φ) (st1 := [.int r38, .ref 134]) (j1 := 0) (j2 := 0) (ar_V (As := []) (rest := [.ref 134]) hB (c_M_named (bf_G hB) hF hr38) ml_M_211 md_M_named rc_M_named (sf_lt hF (by decide)) kk_134 rfl rfl (Nat.le_of_ble_eq_true rfl) rm_M_legTold_M_named e_M_legTold_38) rfl rfl rfl ?_
    refine a_iconst (v := -1) hB e_M_legTold_41 ic_m1 ?_
    refine a_icmp_eq (tgt := 49) hB e_M_legTold_42 (by decide) (fun c => ?_) (fun c => ?_)
    · have h := ip c h
      exact t_M_legTold_49 hB hF h
    · have h := iq c h
      refine a_iconst (v := 1) hB e_M_legTold_45 ic_1 ?_
      refine a_goto (tgt := 50) hB e_M_legTold_46 (by decide) ?_
      exact t_M_legTold_50 hB hF h
set_option maxRecDepth 100000 in
theorem t_M_legTold {G : Gt} {φ : Ph} {B : Bag} (hB : BF G I_M_legTold B) (hF : SF 148 φ)    {M9 : Mm} {l1 : Int32} {M : Mm} (h : f_M_legTold l1 M = some M9) : AW G I_M_legTold B (QM G I_M_legTold B (.inl none) M9 φ) 0 0 0 [(0, .ref 134), (1, .int l1)] [] M φ := by
  unfold f_M_legTold at h
  refine a_aload_n (j := 0) hB e_M_legTold_0 rfl rfl ?_
  refine a_aload_n (j := 0) hB e_M_legTold_1 rfl rfl ?_
  refine a_getR (r := 135) (k := 0) hB e_M_legTold_2 fl_M_9 (sf_lt hF (by decide)) kk_134 tt_134_0 (hF.1 _ _) ?_
  refine a_iconst (v := 0) hB e_M_legTold_5 ic_0 ?_
  refine a_iald' hB e_M_legTold_6 (sf_lt hF (by decide)) kk_135 ll_135 (by decide) ?_
  refine a_bipush (v := 20) hB e_M_legTold_7 bp_20 ?_
  refine a_icmp_ne (tgt := 16) hB e_M_legTold_9 (by decide) (fun c => ?_) (fun c => ?_)
  · have h := iq c h
    refine a_iconst (v := 0) hB e_M_legTold_16 ic_0 ?_
    exact t_M_legTold_17 hB hF h
  · have h := ip c h
    refine a_iconst (v := 1) hB e_M_legTold_12 ic_1 ?_
    refine a_goto (tgt := 17) hB e_M_legTold_13 (by decide) ?_
    exact t_M_legTold_17 hB hF h
set_option maxRecDepth 100000 in
theorem c_M_legTold {G : Gt} (hG : GOK G) {φ : Ph} (hF : SF 148 φ)   {M : Mm} {l1 : Int32} {M9 : Mm} (h : f_M_legTold l1 M = some M9) : CT G I_M_legTold [.ref 134, .int l1] M φ (.inl none) M9 φ :=
  ct_of hG (by decide) (Nat.le_of_ble_eq_true rfl) (fun B hB => t_M_legTold hB hF  h)
set_option maxRecDepth 100000 in
theorem t_M_command_349 {G : Gt} {φ : Ph} {B : Bag} (hB : BF G I_M_command B) (hF : SF 148 φ)    {M9 : Mm}  {M : Mm} (h : f_M_command_349 M = some M9) : AW G I_M_command B (QM G I_M_command B (.inl none) M9 φ) 0 0 349 [(0, .ref 134)] [] M φ := by
  unfold f_M_command_349 at h
  refine a_aload_n (j := 0) hB e_M_command_349 rfl rfl ?_
  obtain ⟨M350, hr350, h⟩ := bn_i h
  refine a_ret (v := none) (M1 := M350) (φ1 := φ) (st1 := []) (j1 := 0) (j2 := 0) (ar_V (As := []) (rest := []) hB (c_M_go (bf_G hB) hF hr350) ml_M_202 md_M_go rc_M_go (sf_lt hF (by decide)) kk_134 rfl rfl (Nat.le_of_ble_eq_true rfl) rm_M_command_M_go e_M_command_350) rfl rfl rfl ?_
  cases h
  exact a_vret hB rfl e_M_command_353 (by decide) (by decide)
set_option maxRecDepth 100000 in
theorem t_M_command_149 {G : Gt} {φ : Ph} {B : Bag} (hB : BF G I_M_command B) (hF : SF 148 φ)    {M9 : Mm}  {M : Mm} (h : f_M_command_149 M = some M9) : AW G I_M_command B (QM G I_M_command B (.inl none) M9 φ) 0 0 149 [(0, .ref 134)] [] M φ := by
  unfold f_M_command_149 at h
  refine a_goto (tgt := 349) hB e_M_command_149 (by decide) ?_
  exact t_M_command_349 hB hF h
set_option maxRecDepth 100000 in
theorem t_M_command_133 {G : Gt} {φ : Ph} {B : Bag} (hB : BF G I_M_command B) (hF : SF 148 φ)    {M9 : Mm} {l1 : Int32} {t1 : Int32} {M : Mm} (h : f_M_command_133 l1 t1 M = some M9) : AW G I_M_command B (QM G I_M_command B (.inl none) M9 φ) 0 0 133 [(0, .ref 134), (1, .int l1)] [.int t1, .ref 134] M φ := by
  unfold f_M_command_133 at h
  obtain ⟨r133, M133, hr133, h⟩ := bn2_i h
  refine a_ret (v := (some (.int r133))) (M1 := M133) (φ1 := φ) (st1 := [.int r133]) (j1 := 0) (j2 := 0) (ar_V (As := [.int t1]) (rest := []) hB (c_M_ends (bf_G hB) hF hr133) ml_M_234 md_M_ends rc_M_ends (sf_lt hF (by decide)) kk_134 rfl rfl (Nat.le_of_ble_eq_true rfl) rm_M_command_M_ends e_M_command_133) rfl rfl rfl ?_
  refine a_if_eq (tgt := 149) hB e_M_command_136 (by decide) (fun c => ?_) (fun c => ?_)
  · have h := ip c h
    refine a_ls [0] (ls' := [(0, .ref 134)]) rfl ?_
    exact t_M_command_149 hB hF h
  · have h := iq c h
    refine a_aload_n (j := 0) hB e_M_command_139 rfl rfl ?_
    refine a_aload_n (j := 0) hB e_M_command_140 rfl rfl ?_
    refine a_iload_n (j := 1) hB e_M_command_141 rfl rfl ?_
    refine a_iconst (v := -1) hB e_M_command_142 ic_m1 ?_
    obtain ⟨r143, M143, hr143, h⟩ := bn2_i h
    refine a_ret (v := (some (.int r143))) (M1 := M143) (φ1 := φ) (st1 := [.int r143, .ref 134]) (j1 := 0) (j2 := 0) (ar_V (As := [.int l1, .int (-1 : Int32)]) (rest := [.ref 134]) hB (c_M_drops (bf_G hB) hF hr143) ml_M_253 md_M_drops rc_M_drops (sf_lt hF (by decide)) kk_134 rfl rfl (Nat.le_of_ble_eq_true rfl) rm_M_command_M_drops e_M_command_143) rfl rfl rfl ?_
    obtain ⟨M146, hM146, h⟩ := bm_i h
    refine a_putI (k := 25) hB e_M_command_146 fw_M_256 (sf_lt hF (by decide)) kk_134 tt_134_25 ?_
    refine a_mem hM146 ?_
    refine a_ls [0] (ls' := [(0, .ref 134)]) rfl ?_
    exact t_M_command_149 hB hF h
set_option maxRecDepth 100000 in
theorem t_M_command_128 {G : Gt} {φ : Ph} {B : Bag} (hB : BF G I_M_command B) (hF : SF 148 φ)    {M9 : Mm} {l1 : Int32} {M : Mm} (h : f_M_command_128 l1 M = some M9) : AW G I_M_command B (QM G I_M_command B (.inl none) M9 φ) 0 0 128 [(0, .ref 134), (1, .int l1)] [.ref 134] M φ := by
  unfold f_M_command_128 at h
  refine a_iconst (v := 1) hB e_M_command_128 ic_1 ?_
  refine a_goto (tgt := 133) hB e_M_command_129 (by decide) ?_
  exact t_M_command_133 hB hF h
set_option maxRecDepth 100000 in
theorem t_M_command_193 {G : Gt} {φ : Ph} {B : Bag} (hB : BF G I_M_command B) (hF : SF 148 φ)    {M9 : Mm}  {M : Mm} (h : f_M_command_193 M = some M9) : AW G I_M_command B (QM G I_M_command B (.inl none) M9 φ) 0 0 193 [(0, .ref 134)] [] M φ := by
  unfold f_M_command_193 at h
  refine a_goto (tgt := 349) hB e_M_command_193 (by decide) ?_
  exact t_M_command_349 hB hF h
set_option maxRecDepth 100000 in
theorem t_M_command_238 {G : Gt} {φ : Ph} {B : Bag} (hB : BF G I_M_command B) (hF : SF 148 φ)    {M9 : Mm}  {M : Mm} (h : f_M_command_238 M = some M9) : AW G I_M_command B (QM G I_M_command B (.inl none) M9 φ) 0 0 238 [(0, .ref 134)] [] M φ := by
  unfold f_M_command_238 at h
  refine a_goto (tgt := 349) hB e_M_command_238 (by decide) ?_
  exact t_M_command_349 hB hF h
set_option maxRecDepth 100000 in
theorem t_M_command_270 {G : Gt} {φ : Ph} {B : Bag} (hB : BF G I_M_command B) (hF : SF 148 φ)    {M9 : Mm} {t1 : Int32} {M : Mm} (h : f_M_command_270 t1 M = some M9) : AW G I_M_command B (QM G I_M_command B (.inl none) M9 φ) 0 0 270 [(0, .ref 134)] [.int t1, .ref 134] M φ := by
  unfold f_M_command_270 at h
  obtain ⟨r270, M270, hr270, h⟩ := bn2_i h
  refine a_ret (v := (some (.int r270))) (M1 := M270) (φ1 := φ) (st1 := [.int r270]) (j1 := 0) (j2 := 0) (ar_V (As := [.int t1]) (rest := []) hB (c_M_ends (bf_G hB) hF hr270) ml_M_234 md_M_ends rc_M_ends (sf_lt hF (by decide)) kk_134 rfl rfl (Nat.le_of_ble_eq_true rfl) rm_M_command_M_ends e_M_command_270) rfl rfl rfl ?_
  refine a_if_eq (tgt := 349) hB e_M_command_273 (by decide) (fun c => ?_) (fun c => ?_)
  · have h := ip c h
    exact t_M_command_349 hB hF h
  · have h := iq c h
    refine a_aload_n (j := 0) hB e_M_command_276 rfl rfl ?_
    refine a_aload_n (j := 0) hB e_M_command_277 rfl rfl ?_
    obtain ⟨r278, M278, hr278, h⟩ := bn2_i h
    refine a_ret (v := (some (.int r278))) (M1 := M278) (φ1 := φ) (st1 := [.int r278, .ref 134]) (j1 := 0) (j2 := 0) (ar_V (As := []) (rest := [.ref 134]) hB (c_M_removes (bf_G hB) hF hr278) ml_M_270 md_M_removes rc_M_removes (sf_lt hF (by decide)) kk_134 rfl rfl (Nat.le_of_ble_eq_true rfl) rm_M_command_M_removes e_M_command_278) rfl rfl rfl ?_
    obtain ⟨M281, hM281, h⟩ := bm_i h
    refine a_putI (k := 25) hB e_M_command_281 fw_M_256 (sf_lt hF (by decide)) kk_134 tt_134_25 ?_
    refine a_mem hM281 ?_
    refine a_goto (tgt := 349) hB e_M_command_284 (by decide) ?_
    exact t_M_command_349 hB hF h
set_option maxRecDepth 100000 in
theorem t_M_command_323 {G : Gt} {φ : Ph} {B : Bag} (hB : BF G I_M_command B) (hF : SF 148 φ)    {M9 : Mm} {l1 : Int32} {t1 : Int32} {M : Mm} (h : f_M_command_323 l1 t1 M = some M9) : AW G I_M_command B (QM G I_M_command B (.inl none) M9 φ) 0 0 323 [(0, .ref 134), (1, .int l1)] [.int t1, .ref 134] M φ := by
  unfold f_M_command_323 at h
  refine a_iconst (v := 1) hB e_M_command_323 ic_1 ?_
  obtain ⟨M324, hr324, h⟩ := bn_i h
  refine a_ret (v := none) (M1 := M324) (φ1 := φ) (st1 := []) (j1 := 0) (j2 := 0) (ar_V (As := [.int t1, .int (1 : Int32)]) (rest := []) hB (c_M_wrong (bf_G hB) hF hr324) ml_M_198 md_M_wrong rc_M_wrong (sf_lt hF (by decide)) kk_134 rfl rfl (Nat.le_of_ble_eq_true rfl) rm_M_command_M_wrong e_M_command_324) rfl rfl rfl ?_
  refine a_aload_n (j := 0) hB e_M_command_327 rfl rfl ?_
  obtain ⟨M328, hr328, h⟩ := bn_i h
  refine a_ret (v := none) (M1 := M328) (φ1 := φ) (st1 := []) (j1 := 0) (j2 := 0) (ar_V (As := []) (rest := []) hB (c_M_go (bf_G hB) hF hr328) ml_M_202 md_M_go rc_M_go (sf_lt hF (by decide)) kk_134 rfl rfl (Nat.le_of_ble_eq_true rfl) rm_M_command_M_go e_M_command_328) rfl rfl rfl ?_
  refine a_aload_n (j := 0) hB e_M_command_331 rfl rfl ?_
  refine a_iconst (v := 1) hB e_M_command_332 ic_1 ?_
  obtain ⟨r333, M333, hr333, h⟩ := bn2_i h
  refine a_ret (v := (some (.int r333))) (M1 := M333) (φ1 := φ) (st1 := [.int r333]) (j1 := 0) (j2 := 0) (ar_V (As := [.int (1 : Int32)]) (rest := []) hB (c_M_ends (bf_G hB) hF hr333) ml_M_234 md_M_ends rc_M_ends (sf_lt hF (by decide)) kk_134 rfl rfl (Nat.le_of_ble_eq_true rfl) rm_M_command_M_ends e_M_command_333) rfl rfl rfl ?_
  refine a_if_eq (tgt := 349) hB e_M_command_336 (by decide) (fun c => ?_) (fun c => ?_)
  · have h := ip c h
    refine a_ls [0] (ls' := [(0, .ref 134)]) rfl ?_
    exact t_M_command_349 hB hF h
  · have h := iq c h
    refine a_aload_n (j := 0) hB e_M_command_339 rfl rfl ?_
    refine a_aload_n (j := 0) hB e_M_command_340 rfl rfl ?_
    refine a_iconst (v := 3) hB e_M_command_341 ic_3 ?_
    refine a_iload_n (j := 1) hB e_M_command_342 rfl rfl ?_
    obtain ⟨r343, M343, hr343, h⟩ := bn2_i h
    refine a_ret (v := (some (.int r343))) (M1 := M343) (φ1 := φ) (st1 := [.int r343, .ref 134]) (j1 := 0) (j2 := 0) (ar_V (As := [.int (3 : Int32), .int l1]) (rest := [.ref 134]) hB (c_M_sets (bf_G hB) hF hr343) ml_M_263 md_M_sets rc_M_sets (sf_lt hF (by decide)) kk_134 rfl rfl (Nat.le_of_ble_eq_true rfl) rm_M_command_M_sets e_M_command_343) rfl rfl rfl ?_
    obtain ⟨M346, hM346, h⟩ := bm_i h
    refine a_putI (k := 25) hB e_M_command_346 fw_M_256 (sf_lt hF (by decide)) kk_134 tt_134_25 ?_
    refine a_mem hM346 ?_
    refine a_ls [0] (ls' := [(0, .ref 134)]) rfl ?_
    exact t_M_command_349 hB hF h
set_option maxRecDepth 100000 in
theorem t_M_command_322 {G : Gt} {φ : Ph} {B : Bag} (hB : BF G I_M_command B) (hF : SF 148 φ)    {M9 : Mm} {l1 : Int32} {M : Mm} (h : f_M_command_322 l1 M = some M9) : AW G I_M_command B (QM G I_M_command B (.inl none) M9 φ) 0 0 322 [(0, .ref 134), (1, .int l1)] [.ref 134] M φ := by
  unfold f_M_command_322 at h
  refine a_iconst (v := 0) hB e_M_command_322 ic_0 ?_
  exact t_M_command_323 hB hF h
set_option maxRecDepth 100000 in
theorem t_M_command_302 {G : Gt} {φ : Ph} {B : Bag} (hB : BF G I_M_command B) (hF : SF 148 φ)    {M9 : Mm} {t0 : Int32} {M : Mm} (h : f_M_command_302 t0 M = some M9) : AW G I_M_command B (QM G I_M_command B (.inl none) M9 φ) 0 0 302 [(0, .ref 134)] [.int t0] M φ := by
  unfold f_M_command_302 at h
  refine a_istore_n (ls' := [(1, .int t0), (0, .ref 134)]) hB e_M_command_302 rfl (Nat.le_of_ble_eq_true rfl) rfl ?_
  refine a_aload_n (j := 1) hB e_M_command_303 rfl rfl ?_
  refine a_iload_n (j := 0) hB e_M_command_304 rfl rfl ?_
  refine a_if_ne (tgt := 322) hB e_M_command_305 (by decide) (fun c => ?_) (fun c => ?_)
  · have h := iq c h
    refine a_ls [1, 0] (ls' := [(0, .ref 134), (1, .int t0)]) rfl ?_
    exact t_M_command_322 hB hF h
  · have h := ip c h
    refine a_aload_n (j := 1) hB e_M_command_308 rfl rfl ?_
    refine a_ldcSW (i := 42) hB rfl e_M_command_309 ?_
    obtain ⟨r312, hr312, h⟩ := bn_i h
    refine a_ret (v := (some (.int r312))) (M1 := M) (φ1 := φ) (st1 := [.int r312, .ref 134]) (j1 := 0) (j2 := 0) (ar_V (As := [.ref (1000 + 42)]) (rest := [.ref 134]) hB (c_M_is (bf_G hB) hF (by decide) hr312) ml_M_214 md_M_is rc_M_is (sf_lt hF (by decide)) kk_134 rfl rfl (Nat.le_of_ble_eq_true rfl) rm_M_command_M_is e_M_command_312) rfl rfl rfl ?_
    refine a_if_ne (tgt := 322) hB e_M_command_315 (by decide) (fun c => ?_) (fun c => ?_)
    · have h := iq c h
      refine a_ls [1, 0] (ls' := [(0, .ref 134), (1, .int t0)]) rfl ?_
      exact t_M_command_322 hB hF h
    · have h := ip c h
      refine a_iconst (v := 1) hB e_M_command_318 ic_1 ?_
      refine a_goto (tgt := 323) hB e_M_command_319 (by decide) ?_
      refine a_ls [1, 0] (ls' := [(0, .ref 134), (1, .int t0)]) rfl ?_
      exact t_M_command_323 hB hF h
set_option maxRecDepth 100000 in
theorem t_M_command_89 {G : Gt} {φ : Ph} {B : Bag} (hB : BF G I_M_command B) (hF : SF 148 φ)    {M9 : Mm}  {M : Mm} (h : f_M_command_89 M = some M9) : AW G I_M_command B (QM G I_M_command B (.inl none) M9 φ) 0 0 89 [(0, .ref 134)] [] M φ := by
  unfold f_M_command_89 at h
  refine a_goto (tgt := 349) hB e_M_command_89 (by decide) ?_
  exact t_M_command_349 hB hF h
set_option maxRecDepth 100000 in
theorem t_M_command_73 {G : Gt} {φ : Ph} {B : Bag} (hB : BF G I_M_command B) (hF : SF 148 φ)    {M9 : Mm} {l1 : Int32} {t1 : Int32} {M : Mm} (h : f_M_command_73 l1 t1 M = some M9) : AW G I_M_command B (QM G I_M_command B (.inl none) M9 φ) 0 0 73 [(0, .ref 134), (1, .int l1)] [.int t1, .ref 134] M φ := by
  unfold f_M_command_73 at h
  obtain ⟨r73, M73, hr73, h⟩ := bn2_i h
  refine a_ret (v := (some (.int r73))) (M1 := M73) (φ1 := φ) (st1 := [.int r73]) (j1 := 0) (j2 := 0) (ar_V (As := [.int t1]) (rest := []) hB (c_M_ends (bf_G hB) hF hr73) ml_M_234 md_M_ends rc_M_ends (sf_lt hF (by decide)) kk_134 rfl rfl (Nat.le_of_ble_eq_true rfl) rm_M_command_M_ends e_M_command_73) rfl rfl rfl ?_
  refine a_if_eq (tgt := 89) hB e_M_command_76 (by decide) (fun c => ?_) (fun c => ?_)
  · have h := ip c h
    refine a_ls [0] (ls' := [(0, .ref 134)]) rfl ?_
    exact t_M_command_89 hB hF h
  · have h := iq c h
    refine a_aload_n (j := 0) hB e_M_command_79 rfl rfl ?_
    refine a_aload_n (j := 0) hB e_M_command_80 rfl rfl ?_
    refine a_iload_n (j := 1) hB e_M_command_81 rfl rfl ?_
    refine a_iconst (v := 1) hB e_M_command_82 ic_1 ?_
    obtain ⟨r83, M83, hr83, h⟩ := bn2_i h
    refine a_ret (v := (some (.int r83))) (M1 := M83) (φ1 := φ) (st1 := [.int r83, .ref 134]) (j1 := 0) (j2 := 0) (ar_V (As := [.int l1, .int (1 : Int32)]) (rest := [.ref 134]) hB (c_M_drops (bf_G hB) hF hr83) ml_M_253 md_M_drops rc_M_drops (sf_lt hF (by decide)) kk_134 rfl rfl (Nat.le_of_ble_eq_true rfl) rm_M_command_M_drops e_M_command_83) rfl rfl rfl ?_
    obtain ⟨M86, hM86, h⟩ := bm_i h
    refine a_putI (k := 25) hB e_M_command_86 fw_M_256 (sf_lt hF (by decide)) kk_134 tt_134_25 ?_
    refine a_mem hM86 ?_
    refine a_ls [0] (ls' := [(0, .ref 134)]) rfl ?_
    exact t_M_command_89 hB hF h
set_option maxRecDepth 100000 in
theorem t_M_command_68 {G : Gt} {φ : Ph} {B : Bag} (hB : BF G I_M_command B) (hF : SF 148 φ)    {M9 : Mm} {l1 : Int32} {M : Mm} (h : f_M_command_68 l1 M = some M9) : AW G I_M_command B (QM G I_M_command B (.inl none) M9 φ) 0 0 68 [(0, .ref 134), (1, .int l1)] [.ref 134] M φ := by
  unfold f_M_command_68 at h
  refine a_iconst (v := 1) hB e_M_command_68 ic_1 ?_
  refine a_goto (tgt := 73) hB e_M_command_69 (by decide) ?_
  exact t_M_command_73 hB hF h
set_option maxRecDepth 100000 in
theorem t_M_command {G : Gt} {φ : Ph} {B : Bag} (hB : BF G I_M_command B) (hF : SF 148 φ)    {M9 : Mm}  {M : Mm} (h : f_M_command M = some M9) : AW G I_M_command B (QM G I_M_command B (.inl none) M9 φ) 0 0 0 [(0, .ref 134)] [] M φ := by
  unfold f_M_command at h
  refine a_aload_n (j := 0) hB e_M_command_0 rfl rfl ?_
  refine a_ldcS (i := 31) hB rfl e_M_command_1 ?_
  obtain ⟨r3, hr3, h⟩ := bn_i h
  refine a_ret (v := (some (.int r3))) (M1 := M) (φ1 := φ) (st1 := [.int r3]) (j1 := 0) (j2 := 0) (ar_V (As := [.ref (1000 + 31)]) (rest := []) hB (c_M_is (bf_G hB) hF (by decide) hr3) ml_M_214 md_M_is rc_M_is (sf_lt hF (by decide)) kk_134 rfl rfl (Nat.le_of_ble_eq_true rfl) rm_M_command_M_is e_M_command_3) rfl rfl rfl ?_
  refine a_if_eq (tgt := 17) hB e_M_command_6 (by decide) (fun c => ?_) (fun c => ?_)
  · have h := ip c h
    refine a_aload_n (j := 0) hB e_M_command_17 rfl rfl ?_
    refine a_ldcS (i := 35) hB rfl e_M_command_18 ?_
    obtain ⟨r20, hr20, h⟩ := bn_i h
    refine a_ret (v := (some (.int r20))) (M1 := M) (φ1 := φ) (st1 := [.int r20]) (j1 := 0) (j2 := 0) (ar_V (As := [.ref (1000 + 35)]) (rest := []) hB (c_M_is (bf_G hB) hF (by decide) hr20) ml_M_214 md_M_is rc_M_is (sf_lt hF (by decide)) kk_134 rfl rfl (Nat.le_of_ble_eq_true rfl) rm_M_command_M_is e_M_command_20) rfl rfl rfl ?_
    refine a_if_eq (tgt := 34) hB e_M_command_23 (by decide) (fun c => ?_) (fun c => ?_)
    · have h := ip c h
      refine a_aload_n (j := 0) hB e_M_command_34 rfl rfl ?_
      refine a_ldcS (i := 36) hB rfl e_M_command_35 ?_
      obtain ⟨r37, hr37, h⟩ := bn_i h
      refine a_ret (v := (some (.int r37))) (M1 := M) (φ1 := φ) (st1 := [.int r37]) (j1 := 0) (j2 := 0) (ar_V (As := [.ref (1000 + 36)]) (rest := []) hB (c_M_is (bf_G hB) hF (by decide) hr37) ml_M_214 md_M_is rc_M_is (sf_lt hF (by decide)) kk_134 rfl rfl (Nat.le_of_ble_eq_true rfl) rm_M_command_M_is e_M_command_37) rfl rfl rfl ?_
      refine a_if_eq (tgt := 92) hB e_M_command_40 (by decide) (fun c => ?_) (fun c => ?_)
      · have h := ip c h
        refine a_aload_n (j := 0) hB e_M_command_92 rfl rfl ?_
        refine a_ldcSW (i := 37) hB rfl e_M_command_93 ?_
        obtain ⟨r96, hr96, h⟩ := bn_i h
        refine a_ret (v := (some (.int r96))) (M1 := M) (φ1 := φ) (st1 := [.int r96]) (j1 := 0) (j2 := 0) (ar_V (As := [.ref (1000 + 37)]) (rest := []) hB (c_M_is (bf_G hB) hF (by decide) hr96) ml_M_214 md_M_is rc_M_is (sf_lt hF (by decide)) kk_134 rfl rfl (Nat.le_of_ble_eq_true rfl) rm_M_command_M_is e_M_command_96) rfl rfl rfl ?_
        refine a_if_eq (tgt := 152) hB e_M_command_99 (by decide) (fun c => ?_) (fun c => ?_)
        · have h := ip c h
          refine a_aload_n (j := 0) hB e_M_command_152 rfl rfl ?_
          refine a_ldcSW (i := 38) hB rfl e_M_command_153 ?_
          obtain ⟨r156, hr156, h⟩ := bn_i h
          refine a_ret (v := (some (.int r156))) (M1 := M) (φ1 := φ) (st1 := [.int r156]) (j1 := 0) (j2 := 0) (ar_V (As := [.ref (1000 + 38)]) (rest := []) hB (c_M_is (bf_G hB) hF (by decide) hr156) ml_M_214 md_M_is rc_M_is (sf_lt hF (by decide)) kk_134 rfl rfl (Nat.le_of_ble_eq_true rfl) rm_M_command_M_is e_M_command_156) rfl rfl rfl ?_
          refine a_if_eq (tgt := 196) hB e_M_command_159 (by decide) (fun c => ?_) (fun c => ?_)
          · have h := ip c h
            refine a_aload_n (j := 0) hB e_M_command_196 rfl rfl ?_
            refine a_ldcSW (i := 39) hB rfl e_M_command_197 ?_
            obtain ⟨r200, hr200, h⟩ := bn_i h
            refine a_ret (v := (some (.int r200))) (M1 := M) (φ1 := φ) (st1 := [.int r200]) (j1 := 0) (j2 := 0) (ar_V (As := [.ref (1000 + 39)]) (rest := []) hB (c_M_is (bf_G hB) hF (by decide) hr200) ml_M_214 md_M_is rc_M_is (sf_lt hF (by decide)) kk_134 rfl rfl (Nat.le_of_ble_eq_true rfl) rm_M_command_M_is e_M_command_200) rfl rfl rfl ?_
            refine a_if_eq (tgt := 241) hB e_M_command_203 (by decide) (fun c => ?_) (fun c => ?_)
            · have h := ip c h
              refine a_aload_n (j := 0) hB e_M_command_241 rfl rfl ?_
              refine a_ldcSW (i := 40) hB rfl e_M_command_242 ?_
              obtain ⟨r245, hr245, h⟩ := bn_i h
              refine a_ret (v := (some (.int r245))) (M1 := M) (φ1 := φ) (st1 := [.int r245]) (j1 := 0) (j2 := 0) (ar_V (As := [.ref (1000 + 40)]) (rest := []) hB (c_M_is (bf_G hB) hF (by decide) hr245) ml_M_214 md_M_is rc_M_is (sf_lt hF (by decide)) kk_134 rfl rfl (Nat.le_of_ble_eq_true rfl) rm_M_command_M_is e_M_command_245) rfl rfl rfl ?_
              refine a_if_eq (tgt := 287) hB e_M_command_248 (by decide) (fun c => ?_) (fun c => ?_)
              · have h := ip c h
                refine a_aload_n (j := 0) hB e_M_command_287 rfl rfl ?_
                refine a_ldcSW (i := 41) hB rfl e_M_command_288 ?_
                obtain ⟨r291, hr291, h⟩ := bn_i h
                refine a_ret (v := (some (.int r291))) (M1 := M) (φ1 := φ) (st1 := [.int r291]) (j1 := 0) (j2 := 0) (ar_V (As := [.ref (1000 + 41)]) (rest := []) hB (c_M_is (bf_G hB) hF (by decide) hr291) ml_M_214 md_M_is rc_M_is (sf_lt hF (by decide)) kk_134 rfl rfl (Nat.le_of_ble_eq_true rfl) rm_M_command_M_is e_M_command_291) rfl rfl rfl ?_
                refine a_if_eq (tgt := 301) hB e_M_command_294 (by decide) (fun c => ?_) (fun c => ?_)
                · have h := ip c h
                  refine a_iconst (v := 0) hB e_M_command_301 ic_0 ?_
                  exact t_M_command_302 hB hF h
                · have h := iq c h
                  refine a_iconst (v := 1) hB e_M_command_297 ic_1 ?_
                  refine a_goto (tgt := 302) hB e_M_command_298 (by decide) ?_
                  exact t_M_command_302 hB hF h
              · have h := iq c h
                refine a_aload_n (j := 0) hB e_M_command_251 rfl rfl ?_
                obtain ⟨M252, hr252, h⟩ := bn_i h
                refine a_ret (v := none) (M1 := M252) (φ1 := φ) (st1 := []) (j1 := 0) (j2 := 0) (ar_V (As := []) (rest := []) hB (c_M_go (bf_G hB) hF hr252) ml_M_202 md_M_go rc_M_go (sf_lt hF (by decide)) kk_134 rfl rfl (Nat.le_of_ble_eq_true rfl) rm_M_command_M_go e_M_command_252) rfl rfl rfl ?_
                refine a_aload_n (j := 0) hB e_M_command_255 rfl rfl ?_
                refine a_aload_n (j := 0) hB e_M_command_256 rfl rfl ?_
                refine a_getR (r := 135) (k := 0) hB e_M_command_257 fl_M_9 (sf_lt hF (by decide)) kk_134 tt_134_0 (hF.1 _ _) ?_
                refine a_iconst (v := 0) hB e_M_command_260 ic_0 ?_
                refine a_iald' hB e_M_command_261 (sf_lt hF (by decide)) kk_135 ll_135 (by decide) ?_
                refine a_if_le (tgt := 269) hB e_M_command_262 (by decide) (fun c => ?_) (fun c => ?_)
                · have h := ip c h
                  refine a_iconst (v := 0) hB e_M_command_269 ic_0 ?_
                  exact t_M_command_270 hB hF h
                · have h := iq c h
                  refine a_iconst (v := 1) hB e_M_command_265 ic_1 ?_
                  refine a_goto (tgt := 270) hB e_M_command_266 (by decide) ?_
                  exact t_M_command_270 hB hF h
            · have h := iq c h
              refine a_aload_n (j := 0) hB e_M_command_206 rfl rfl ?_
              obtain ⟨M207, hr207, h⟩ := bn_i h
              refine a_ret (v := none) (M1 := M207) (φ1 := φ) (st1 := []) (j1 := 0) (j2 := 0) (ar_V (As := []) (rest := []) hB (c_M_go (bf_G hB) hF hr207) ml_M_202 md_M_go rc_M_go (sf_lt hF (by decide)) kk_134 rfl rfl (Nat.le_of_ble_eq_true rfl) rm_M_command_M_go e_M_command_207) rfl rfl rfl ?_
              refine a_aload_n (j := 0) hB e_M_command_210 rfl rfl ?_
              refine a_bipush (v := 100) hB e_M_command_211 bp_100 ?_
              refine a_sipush (v := 999) hB e_M_command_213 sp_999 ?_
              obtain ⟨r216, M216, hr216, h⟩ := bn2_i h
              refine a_ret (v := (some (.int r216))) (M1 := M216) (φ1 := φ) (st1 := [.int r216]) (j1 := 0) (j2 := 0) (ar_V (As := [.int (100 : Int32), .int (999 : Int32)]) (rest := []) hB (c_M_number (bf_G hB) hF hr216) ml_M_205 md_M_number rc_M_number (sf_lt hF (by decide)) kk_134 rfl rfl (Nat.le_of_ble_eq_true rfl) rm_M_command_M_number e_M_command_216) rfl rfl rfl ?_
              refine a_istore_n (ls' := [(1, .int r216), (0, .ref 134)]) hB e_M_command_219 rfl (Nat.le_of_ble_eq_true rfl) rfl ?_
              refine a_aload_n (j := 1) hB e_M_command_220 rfl rfl ?_
              refine a_iconst (v := 1) hB e_M_command_221 ic_1 ?_
              obtain ⟨r222, M222, hr222, h⟩ := bn2_i h
              refine a_ret (v := (some (.int r222))) (M1 := M222) (φ1 := φ) (st1 := [.int r222]) (j1 := 0) (j2 := 0) (ar_V (As := [.int (1 : Int32)]) (rest := []) hB (c_M_ends (bf_G hB) hF hr222) ml_M_234 md_M_ends rc_M_ends (sf_lt hF (by decide)) kk_134 rfl rfl (Nat.le_of_ble_eq_true rfl) rm_M_command_M_ends e_M_command_222) rfl rfl rfl ?_
              refine a_if_eq (tgt := 238) hB e_M_command_225 (by decide) (fun c => ?_) (fun c => ?_)
              · have h := ip c h
                refine a_ls [1] (ls' := [(0, .ref 134)]) rfl ?_
                exact t_M_command_238 hB hF h
              · have h := iq c h
                refine a_aload_n (j := 1) hB e_M_command_228 rfl rfl ?_
                refine a_aload_n (j := 1) hB e_M_command_229 rfl rfl ?_
                refine a_iconst (v := 2) hB e_M_command_230 ic_2 ?_
                refine a_iload_n (j := 0) hB e_M_command_231 rfl rfl ?_
                obtain ⟨r232, M232, hr232, h⟩ := bn2_i h
                refine a_ret (v := (some (.int r232))) (M1 := M232) (φ1 := φ) (st1 := [.int r232, .ref 134]) (j1 := 0) (j2 := 0) (ar_V (As := [.int (2 : Int32), .int r216]) (rest := [.ref 134]) hB (c_M_sets (bf_G hB) hF hr232) ml_M_263 md_M_sets rc_M_sets (sf_lt hF (by decide)) kk_134 rfl rfl (Nat.le_of_ble_eq_true rfl) rm_M_command_M_sets e_M_command_232) rfl rfl rfl ?_
                obtain ⟨M235, hM235, h⟩ := bm_i h
                refine a_putI (k := 25) hB e_M_command_235 fw_M_256 (sf_lt hF (by decide)) kk_134 tt_134_25 ?_
                refine a_mem hM235 ?_
                refine a_ls [1] (ls' := [(0, .ref 134)]) rfl ?_
                exact t_M_command_238 hB hF h
          · have h := iq c h
            refine a_aload_n (j := 0) hB e_M_command_162 rfl rfl ?_
            obtain ⟨M163, hr163, h⟩ := bn_i h
            refine a_ret (v := none) (M1 := M163) (φ1 := φ) (st1 := []) (j1 := 0) (j2 := 0) (ar_V (As := []) (rest := []) hB (c_M_go (bf_G hB) hF hr163) ml_M_202 md_M_go rc_M_go (sf_lt hF (by decide)) kk_134 rfl rfl (Nat.le_of_ble_eq_true rfl) rm_M_command_M_go e_M_command_163) rfl rfl rfl ?_
            refine a_aload_n (j := 0) hB e_M_command_166 rfl rfl ?_
            refine a_iconst (v := 0) hB e_M_command_167 ic_0 ?_
            refine a_sipush (v := 999) hB e_M_command_168 sp_999 ?_
            obtain ⟨r171, M171, hr171, h⟩ := bn2_i h
            refine a_ret (v := (some (.int r171))) (M1 := M171) (φ1 := φ) (st1 := [.int r171]) (j1 := 0) (j2 := 0) (ar_V (As := [.int (0 : Int32), .int (999 : Int32)]) (rest := []) hB (c_M_number (bf_G hB) hF hr171) ml_M_205 md_M_number rc_M_number (sf_lt hF (by decide)) kk_134 rfl rfl (Nat.le_of_ble_eq_true rfl) rm_M_command_M_number e_M_command_171) rfl rfl rfl ?_
            refine a_istore_n (ls' := [(1, .int r171), (0, .ref 134)]) hB e_M_command_174 rfl (Nat.le_of_ble_eq_true rfl) rfl ?_
            refine a_aload_n (j := 1) hB e_M_command_175 rfl rfl ?_
            refine a_iconst (v := 1) hB e_M_command_176 ic_1 ?_
            obtain ⟨r177, M177, hr177, h⟩ := bn2_i h
            refine a_ret (v := (some (.int r177))) (M1 := M177) (φ1 := φ) (st1 := [.int r177]) (j1 := 0) (j2 := 0) (ar_V (As := [.int (1 : Int32)]) (rest := []) hB (c_M_ends (bf_G hB) hF hr177) ml_M_234 md_M_ends rc_M_ends (sf_lt hF (by decide)) kk_134 rfl rfl (Nat.le_of_ble_eq_true rfl) rm_M_command_M_ends e_M_command_177) rfl rfl rfl ?_
            refine a_if_eq (tgt := 193) hB e_M_command_180 (by decide) (fun c => ?_) (fun c => ?_)
            · have h := ip c h
              refine a_ls [1] (ls' := [(0, .ref 134)]) rfl ?_
              exact t_M_command_193 hB hF h
            · have h := iq c h
              refine a_aload_n (j := 1) hB e_M_command_183 rfl rfl ?_
              refine a_aload_n (j := 1) hB e_M_command_184 rfl rfl ?_
              refine a_iconst (v := 1) hB e_M_command_185 ic_1 ?_
              refine a_iload_n (j := 0) hB e_M_command_186 rfl rfl ?_
              obtain ⟨r187, M187, hr187, h⟩ := bn2_i h
              refine a_ret (v := (some (.int r187))) (M1 := M187) (φ1 := φ) (st1 := [.int r187, .ref 134]) (j1 := 0) (j2 := 0) (ar_V (As := [.int (1 : Int32), .int r171]) (rest := [.ref 134]) hB (c_M_sets (bf_G hB) hF hr187) ml_M_263 md_M_sets rc_M_sets (sf_lt hF (by decide)) kk_134 rfl rfl (Nat.le_of_ble_eq_true rfl) rm_M_command_M_sets e_M_command_187) rfl rfl rfl ?_
              obtain ⟨M190, hM190, h⟩ := bm_i h
              refine a_putI (k := 25) hB e_M_command_190 fw_M_256 (sf_lt hF (by decide)) kk_134 tt_134_25 ?_
              refine a_mem hM190 ?_
              refine a_ls [1] (ls' := [(0, .ref 134)]) rfl ?_
              exact t_M_command_193 hB hF h
        · have h := iq c h
          refine a_aload_n (j := 0) hB e_M_command_102 rfl rfl ?_
          obtain ⟨M103, hr103, h⟩ := bn_i h
          refine a_ret (v := none) (M1 := M103) (φ1 := φ) (st1 := []) (j1 := 0) (j2 := 0) (ar_V (As := []) (rest := []) hB (c_M_go (bf_G hB) hF hr103) ml_M_202 md_M_go rc_M_go (sf_lt hF (by decide)) kk_134 rfl rfl (Nat.le_of_ble_eq_true rfl) rm_M_command_M_go e_M_command_103) rfl rfl rfl ?_
          refine a_aload_n (j := 0) hB e_M_command_106 rfl rfl ?_
          obtain ⟨r107, M107, hr107, h⟩ := bn2_i h
          refine a_ret (v := (some (.int r107))) (M1 := M107) (φ1 := φ) (st1 := [.int r107]) (j1 := 0) (j2 := 0) (ar_V (As := []) (rest := []) hB (c_M_legHere (bf_G hB) hF hr107) ml_M_247 md_M_legHere rc_M_legHere (sf_lt hF (by decide)) kk_134 rfl rfl (Nat.le_of_ble_eq_true rfl) rm_M_command_M_legHere e_M_command_107) rfl rfl rfl ?_
          refine a_istore_n (ls' := [(1, .int r107), (0, .ref 134)]) hB e_M_command_110 rfl (Nat.le_of_ble_eq_true rfl) rfl ?_
          refine a_aload_n (j := 1) hB e_M_command_111 rfl rfl ?_
          refine a_aload_n (j := 1) hB e_M_command_112 rfl rfl ?_
          refine a_getI (k := 24) hB e_M_command_113 fl_M_188 (sf_lt hF (by decide)) kk_134 tt_134_24 ?_
          refine a_if_ne (tgt := 128) hB e_M_command_116 (by decide) (fun c => ?_) (fun c => ?_)
          · have h := iq c h
            refine a_ls [1, 0] (ls' := [(0, .ref 134), (1, .int r107)]) rfl ?_
            exact t_M_command_128 hB hF h
          · have h := ip c h
            refine a_aload_n (j := 1) hB e_M_command_119 rfl rfl ?_
            refine a_iload_n (j := 0) hB e_M_command_120 rfl rfl ?_
            refine a_iconst (v := 3) hB e_M_command_121 ic_3 ?_
            obtain ⟨r122, hr122, h⟩ := bn_i h
            refine a_ret (v := (some (.int r122))) (M1 := M107) (φ1 := φ) (st1 := [.int r122, .ref 134]) (j1 := 0) (j2 := 0) (ar_V (As := [.int r107, .int (3 : Int32)]) (rest := [.ref 134]) hB (c_M_of (bf_G hB) hF hr122) ml_M_96 md_M_of rc_M_of (sf_lt hF (by decide)) kk_134 rfl rfl (Nat.le_of_ble_eq_true rfl) rm_M_command_M_of e_M_command_122) rfl rfl rfl ?_
            refine a_if_le (tgt := 132) hB e_M_command_125 (by decide) (fun c => ?_) (fun c => ?_)
            · have h := ip c h
              refine a_iconst (v := 0) hB e_M_command_132 ic_0 ?_
              refine a_ls [1, 0] (ls' := [(0, .ref 134), (1, .int r107)]) rfl ?_
              exact t_M_command_133 hB hF h
            · have h := iq c h
              refine a_ls [1, 0] (ls' := [(0, .ref 134), (1, .int r107)]) rfl ?_
              exact t_M_command_128 hB hF h
      · have h := iq c h
        refine a_aload_n (j := 0) hB e_M_command_43 rfl rfl ?_
        obtain ⟨M44, hr44, h⟩ := bn_i h
        refine a_ret (v := none) (M1 := M44) (φ1 := φ) (st1 := []) (j1 := 0) (j2 := 0) (ar_V (As := []) (rest := []) hB (c_M_go (bf_G hB) hF hr44) ml_M_202 md_M_go rc_M_go (sf_lt hF (by decide)) kk_134 rfl rfl (Nat.le_of_ble_eq_true rfl) rm_M_command_M_go e_M_command_44) rfl rfl rfl ?_
        refine a_aload_n (j := 0) hB e_M_command_47 rfl rfl ?_
        obtain ⟨r48, M48, hr48, h⟩ := bn2_i h
        refine a_ret (v := (some (.int r48))) (M1 := M48) (φ1 := φ) (st1 := [.int r48]) (j1 := 0) (j2 := 0) (ar_V (As := []) (rest := []) hB (c_M_legHere (bf_G hB) hF hr48) ml_M_247 md_M_legHere rc_M_legHere (sf_lt hF (by decide)) kk_134 rfl rfl (Nat.le_of_ble_eq_true rfl) rm_M_command_M_legHere e_M_command_48) rfl rfl rfl ?_
        refine a_istore_n (ls' := [(1, .int r48), (0, .ref 134)]) hB e_M_command_51 rfl (Nat.le_of_ble_eq_true rfl) rfl ?_
        refine a_aload_n (j := 1) hB e_M_command_52 rfl rfl ?_
        refine a_aload_n (j := 1) hB e_M_command_53 rfl rfl ?_
        refine a_getI (k := 24) hB e_M_command_54 fl_M_188 (sf_lt hF (by decide)) kk_134 tt_134_24 ?_
        refine a_if_ne (tgt := 68) hB e_M_command_57 (by decide) (fun c => ?_) (fun c => ?_)
        · have h := iq c h
          refine a_ls [1, 0] (ls' := [(0, .ref 134), (1, .int r48)]) rfl ?_
          exact t_M_command_68 hB hF h
        · have h := ip c h
          refine a_aload_n (j := 1) hB e_M_command_60 rfl rfl ?_
          refine a_iload_n (j := 0) hB e_M_command_61 rfl rfl ?_
          obtain ⟨r62, hr62, h⟩ := bn_i h
          refine a_ret (v := (some (.int r62))) (M1 := M48) (φ1 := φ) (st1 := [.int r62, .ref 134]) (j1 := 0) (j2 := 0) (ar_V (As := [.int r48]) (rest := [.ref 134]) hB (c_M_mayDrop (bf_G hB) hF hr62) ml_M_250 md_M_mayDrop rc_M_mayDrop (sf_lt hF (by decide)) kk_134 rfl rfl (Nat.le_of_ble_eq_true rfl) rm_M_command_M_mayDrop e_M_command_62) rfl rfl rfl ?_
          refine a_if_eq (tgt := 72) hB e_M_command_65 (by decide) (fun c => ?_) (fun c => ?_)
          · have h := ip c h
            refine a_iconst (v := 0) hB e_M_command_72 ic_0 ?_
            refine a_ls [1, 0] (ls' := [(0, .ref 134), (1, .int r48)]) rfl ?_
            exact t_M_command_73 hB hF h
          · have h := iq c h
            refine a_ls [1, 0] (ls' := [(0, .ref 134), (1, .int r48)]) rfl ?_
            exact t_M_command_68 hB hF h
    · have h := iq c h
      refine a_aload_n (j := 0) hB e_M_command_26 rfl rfl ?_
      refine a_iconst (v := 1) hB e_M_command_27 ic_1 ?_
      obtain ⟨M28, hr28, h⟩ := bn_i h
      refine a_ret (v := none) (M1 := M28) (φ1 := φ) (st1 := []) (j1 := 0) (j2 := 0) (ar_V (As := [.int (1 : Int32)]) (rest := []) hB (c_M_legTold (bf_G hB) hF hr28) ml_M_240 md_M_legTold rc_M_legTold (sf_lt hF (by decide)) kk_134 rfl rfl (Nat.le_of_ble_eq_true rfl) rm_M_command_M_legTold e_M_command_28) rfl rfl rfl ?_
      refine a_goto (tgt := 349) hB e_M_command_31 (by decide) ?_
      exact t_M_command_349 hB hF h
  · have h := iq c h
    refine a_aload_n (j := 0) hB e_M_command_9 rfl rfl ?_
    refine a_iconst (v := 0) hB e_M_command_10 ic_0 ?_
    obtain ⟨M11, hr11, h⟩ := bn_i h
    refine a_ret (v := none) (M1 := M11) (φ1 := φ) (st1 := []) (j1 := 0) (j2 := 0) (ar_V (As := [.int (0 : Int32)]) (rest := []) hB (c_M_legTold (bf_G hB) hF hr11) ml_M_240 md_M_legTold rc_M_legTold (sf_lt hF (by decide)) kk_134 rfl rfl (Nat.le_of_ble_eq_true rfl) rm_M_command_M_legTold e_M_command_11) rfl rfl rfl ?_
    refine a_goto (tgt := 349) hB e_M_command_14 (by decide) ?_
    exact t_M_command_349 hB hF h
set_option maxRecDepth 100000 in
theorem c_M_command {G : Gt} (hG : GOK G) {φ : Ph} (hF : SF 148 φ)   {M : Mm}  {M9 : Mm} (h : f_M_command M = some M9) : CT G I_M_command [.ref 134] M φ (.inl none) M9 φ :=
  ct_of hG (by decide) (Nat.le_of_ble_eq_true rfl) (fun B hB => t_M_command hB hF  h)
