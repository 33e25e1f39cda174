/-! the functions are what the machine does -/
set_option maxRecDepth 100000 in
theorem t_C_appendWord_46 {G : Gt} {φ : Ph} {B : Bag} (hB : BF G I_C_appendWord B) (hF : SF 134 φ)    {M9 : Mm}  {M : Mm} (h : f_C_appendWord_46 M = some M9) : AW G I_C_appendWord B (QM G I_C_appendWord B (.inl none) M9 φ) 0 0 46 [] [] M φ := by
  unfold f_C_appendWord_46 at h
  cases h
  exact a_vret hB rfl e_C_appendWord_46 (by decide) (by decide)
set_option maxRecDepth 100000 in
theorem t_C_appendWord_3 {G : Gt} {φ : Ph} {B : Bag} (hB : BF G I_C_appendWord B) (hF : SF 134 φ)    {M9 : Mm} : ∀ (n : Nat) (l1 : Int32) (l2 : Int32) (M : Mm), f_C_appendWord_3 n l1 l2 M = some M9 → AW G I_C_appendWord B (QM G I_C_appendWord B (.inl none) M9 φ) 0 0 3 [(0, .ref 0), (1, .int l1), (2, .int l2)] [] M φ := by
  intro n
  induction n with
  | zero => intro l1 l2 M h; cases h
  | succ n hr3 =>
    intro l1 l2 M h
    rw [f_C_appendWord_3] at h
    refine a_iload_n (j := 2) hB e_C_appendWord_3 rfl rfl ?_
    refine a_if_lt (tgt := 46) hB e_C_appendWord_4 (by decide) (fun c => ?_) (fun c => ?_)
    · have h := ip c h
      refine a_ls [] (ls' := []) rfl ?_
      exact t_C_appendWord_46 hB hF h
    · have h := iq c h
      refine a_aload_n (j := 0) hB e_C_appendWord_7 rfl rfl ?_
      refine a_getI (k := 2) hB e_C_appendWord_8 fl_C_94 (sf_lt hF (by decide)) kk_0 tt_0_2 ?_
      refine a_sipush (v := 900) hB e_C_appendWord_11 sp_900 ?_
      refine a_icmp_ge (tgt := 46) hB e_C_appendWord_14 (by decide) (fun c => ?_) (fun c => ?_)
      · have h := ip c h
        refine a_ls [] (ls' := []) rfl ?_
        exact t_C_appendWord_46 hB hF h
      · have h := iq c h
        refine a_aload_n (j := 0) hB e_C_appendWord_17 rfl rfl ?_
        refine a_getR (r := 3) (k := 1) hB e_C_appendWord_18 fl_C_26 (sf_lt hF (by decide)) kk_0 tt_0_1 (hF.1 _ _) ?_
        refine a_aload_n (j := 0) hB e_C_appendWord_21 rfl rfl ?_
        refine a_getI (k := 2) hB e_C_appendWord_22 fl_C_94 (sf_lt hF (by decide)) kk_0 tt_0_2 ?_
        refine a_iload_n (j := 1) hB e_C_appendWord_25 rfl rfl ?_
        refine a_iload_n (j := 2) hB e_C_appendWord_26 rfl rfl ?_
        refine a_ishr hB e_C_appendWord_27 ?_
        refine a_i2b hB e_C_appendWord_28 ?_
        obtain ⟨c29, h⟩ := chk_i h
        obtain ⟨M29, hM29, h⟩ := bm_i h
        refine a_bast' hB e_C_appendWord_29 (sf_lt hF (by decide)) kk_3 ll_3 c29 ?_
        refine a_mem hM29 ?_
        refine a_aload_n (j := 0) hB e_C_appendWord_30 rfl rfl ?_
        refine a_dup hB e_C_appendWord_31 rfl ?_
        refine a_getI (k := 2) hB e_C_appendWord_32 fl_C_94 (sf_lt hF (by decide)) kk_0 tt_0_2 ?_
        refine a_iconst (v := 1) hB e_C_appendWord_35 ic_1 ?_
        refine a_iadd hB e_C_appendWord_36 ?_
        obtain ⟨M37, hM37, h⟩ := bm_i h
        refine a_putI (k := 2) hB e_C_appendWord_37 fw_C_94 (sf_lt hF (by decide)) kk_0 tt_0_2 ?_
        refine a_mem hM37 ?_
        refine a_iinc (j := 2) (v := l2 + (-8)) (ls' := [(2, .int (l2 + (-8))), (0, .ref 0), (1, .int l1)]) hB e_C_appendWord_40 rfl (inc_m8 _) (Nat.le_of_ble_eq_true rfl) rfl ?_
        refine a_goto (tgt := 3) hB e_C_appendWord_43 (by decide) ?_
        refine a_ls [1, 2, 0] (ls' := [(0, .ref 0), (1, .int l1), (2, .int (l2 + (-8)))]) rfl ?_
        exact hr3 _ _ _ h
set_option maxRecDepth 100000 in
theorem t_C_appendWord {G : Gt} {φ : Ph} {B : Bag} (hB : BF G I_C_appendWord B) (hF : SF 134 φ)    {M9 : Mm} {l1 : Int32} {M : Mm} (h : f_C_appendWord l1 M = some M9) : AW G I_C_appendWord B (QM G I_C_appendWord B (.inl none) M9 φ) 0 0 0 [(0, .ref 0), (1, .int l1)] [] M φ := by
  unfold f_C_appendWord at h
  refine a_bipush (v := 24) hB e_C_appendWord_0 bp_24 ?_
  refine a_istore_n (ls' := [(2, .int (24 : Int32)), (0, .ref 0), (1, .int l1)]) hB e_C_appendWord_2 rfl (Nat.le_of_ble_eq_true rfl) rfl ?_
  refine a_ls [1, 2, 0] (ls' := [(0, .ref 0), (1, .int l1), (2, .int (24 : Int32))]) rfl ?_
  exact t_C_appendWord_3 hB hF _ _ _ _ h
set_option maxRecDepth 100000 in
theorem c_C_appendWord {G : Gt} (hG : GOK G) {φ : Ph} (hF : SF 134 φ)   {M : Mm} {l1 : Int32} {M9 : Mm} (h : f_C_appendWord l1 M = some M9) : CT G I_C_appendWord [.ref 0, .int l1] M φ (.inl none) M9 φ :=
  ct_of hG (by decide) (Nat.le_of_ble_eq_true rfl) (fun B hB => t_C_appendWord hB hF  h)
set_option maxRecDepth 100000 in
theorem t_C_append {G : Gt} {φ : Ph} {B : Bag} (hB : BF G I_C_append B) (hF : SF 134 φ)    {o : Int32} {M9 : Mm} {l1 : Int32} {l2 : Int32} {l3 : Int32} {l4 : Int32} {l5 : Int32} {M : Mm} (h : f_C_append l1 l2 l3 l4 l5 M = some (o, M9)) : AW G I_C_append B (QM G I_C_append B (.inl (some (.int o))) M9 φ) 0 0 0 [(0, .ref 0), (1, .int l1), (2, .int l2), (3, .int l3), (4, .int l4), (5, .int l5)] [] M φ := by
  unfold f_C_append at h
  refine a_aload_n (j := 0) hB e_C_append_0 rfl rfl ?_
  refine a_getI (k := 2) hB e_C_append_1 fl_C_94 (sf_lt hF (by decide)) kk_0 tt_0_2 ?_
  refine a_bipush (v := 20) hB e_C_append_4 bp_20 ?_
  refine a_iadd hB e_C_append_6 ?_
  refine a_sipush (v := 900) hB e_C_append_7 sp_900 ?_
  refine a_icmp_le (tgt := 15) hB e_C_append_10 (by decide) (fun c => ?_) (fun c => ?_)
  · have h := ip c h
    refine a_aload_n (j := 0) hB e_C_append_15 rfl rfl ?_
    refine a_iload_n (j := 1) hB e_C_append_16 rfl rfl ?_
    obtain ⟨M17, hr17, h⟩ := bn_i h
    refine a_ret (v := none) (M1 := M17) (φ1 := φ) (st1 := []) (j1 := 0) (j2 := 0) (ar_V (As := [.int l1]) (rest := []) hB (c_C_appendWord (bf_G hB) hF hr17) ml_C_97 md_C_appendWord rc_C_appendWord (sf_lt hF (by decide)) kk_0 rfl rfl (Nat.le_of_ble_eq_true rfl) rm_C_append_C_appendWord e_C_append_17) rfl rfl rfl ?_
    refine a_aload_n (j := 0) hB e_C_append_20 rfl rfl ?_
    refine a_iload_n (j := 2) hB e_C_append_21 rfl rfl ?_
    obtain ⟨M22, hr22, h⟩ := bn_i h
    refine a_ret (v := none) (M1 := M22) (φ1 := φ) (st1 := []) (j1 := 0) (j2 := 0) (ar_V (As := [.int l2]) (rest := []) hB (c_C_appendWord (bf_G hB) hF hr22) ml_C_97 md_C_appendWord rc_C_appendWord (sf_lt hF (by decide)) kk_0 rfl rfl (Nat.le_of_ble_eq_true rfl) rm_C_append_C_appendWord e_C_append_22) rfl rfl rfl ?_
    refine a_aload_n (j := 0) hB e_C_append_25 rfl rfl ?_
    refine a_iload_n (j := 3) hB e_C_append_26 rfl rfl ?_
    obtain ⟨M27, hr27, h⟩ := bn_i h
    refine a_ret (v := none) (M1 := M27) (φ1 := φ) (st1 := []) (j1 := 0) (j2 := 0) (ar_V (As := [.int l3]) (rest := []) hB (c_C_appendWord (bf_G hB) hF hr27) ml_C_97 md_C_appendWord rc_C_appendWord (sf_lt hF (by decide)) kk_0 rfl rfl (Nat.le_of_ble_eq_true rfl) rm_C_append_C_appendWord e_C_append_27) rfl rfl rfl ?_
    refine a_aload_n (j := 0) hB e_C_append_30 rfl rfl ?_
    refine a_iload (j := 4) hB e_C_append_31 rfl ?_
    obtain ⟨M33, hr33, h⟩ := bn_i h
    refine a_ret (v := none) (M1 := M33) (φ1 := φ) (st1 := []) (j1 := 0) (j2 := 0) (ar_V (As := [.int l4]) (rest := []) hB (c_C_appendWord (bf_G hB) hF hr33) ml_C_97 md_C_appendWord rc_C_appendWord (sf_lt hF (by decide)) kk_0 rfl rfl (Nat.le_of_ble_eq_true rfl) rm_C_append_C_appendWord e_C_append_33) rfl rfl rfl ?_
    refine a_aload_n (j := 0) hB e_C_append_36 rfl rfl ?_
    refine a_iload (j := 5) hB e_C_append_37 rfl ?_
    obtain ⟨M39, hr39, h⟩ := bn_i h
    refine a_ret (v := none) (M1 := M39) (φ1 := φ) (st1 := []) (j1 := 0) (j2 := 0) (ar_V (As := [.int l5]) (rest := []) hB (c_C_appendWord (bf_G hB) hF hr39) ml_C_97 md_C_appendWord rc_C_appendWord (sf_lt hF (by decide)) kk_0 rfl rfl (Nat.le_of_ble_eq_true rfl) rm_C_append_C_appendWord e_C_append_39) rfl rfl rfl ?_
    refine a_aload_n (j := 0) hB e_C_append_42 rfl rfl ?_
    refine a_getI (k := 2) hB e_C_append_43 fl_C_94 (sf_lt hF (by decide)) kk_0 tt_0_2 ?_
    cases h
    exact a_iret hB rfl e_C_append_46 (by decide) (by decide)
  · have h := iq c h
    refine a_iconst (v := -1) hB e_C_append_13 ic_m1 ?_
    cases h
    exact a_iret hB rfl e_C_append_14 (by decide) (by decide)
set_option maxRecDepth 100000 in
theorem c_C_append {G : Gt} (hG : GOK G) {φ : Ph} (hF : SF 134 φ)   {M : Mm} {l1 : Int32} {l2 : Int32} {l3 : Int32} {l4 : Int32} {l5 : Int32} {o : Int32} {M9 : Mm} (h : f_C_append l1 l2 l3 l4 l5 M = some (o, M9)) : CT G I_C_append [.ref 0, .int l1, .int l2, .int l3, .int l4, .int l5] M φ (.inl (some (.int o))) M9 φ :=
  ct_of hG (by decide) (Nat.le_of_ble_eq_true rfl) (fun B hB => t_C_append hB hF  h)
set_option maxRecDepth 100000 in
theorem t_C_truncateInput {G : Gt} {φ : Ph} {B : Bag} (hB : BF G I_C_truncateInput B) (hF : SF 134 φ)    {o : Nat ⊕ Int32} {M9 : Mm} {l1 : Int32} {M : Mm} (h : f_C_truncateInput l1 M = some (o, M9)) : AW G I_C_truncateInput B (QM G I_C_truncateInput B (oSi o) M9 (pS o φ)) 0 0 0 [(0, .ref 0), (1, .int l1)] [] M φ := by
  unfold f_C_truncateInput at h
  refine a_iload_n (j := 1) hB e_C_truncateInput_0 rfl rfl ?_
  refine a_iconst (v := 0) hB e_C_truncateInput_1 ic_0 ?_
  refine a_aload_n (j := 0) hB e_C_truncateInput_2 rfl rfl ?_
  refine a_getI (k := 2) hB e_C_truncateInput_3 fl_C_94 (sf_lt hF (by decide)) kk_0 tt_0_2 ?_
  obtain ⟨r6, hr6, h⟩ := bn_i h
  refine a_ret (v := (some (.int r6))) (M1 := M) (φ1 := φ) (st1 := [.int r6]) (j1 := 0) (j2 := 0) (ar_S (As := [.int l1, .int (0 : Int32), .int (M 0 2)]) (rest := []) hB (c_C_isBetween (bf_G hB) hF hr6) ml_C_100 md_C_isBetween rfl rfl (Nat.le_of_ble_eq_true rfl) rm_C_truncateInput_C_isBetween e_C_truncateInput_6) rfl rfl rfl ?_
  refine a_if_ne (tgt := 22) hB e_C_truncateInput_9 (by decide) (fun c => ?_) (fun c => ?_)
  · have h := iq c h
    refine a_aload_n (j := 0) hB e_C_truncateInput_22 rfl rfl ?_
    refine a_iload_n (j := 1) hB e_C_truncateInput_23 rfl rfl ?_
    obtain ⟨M24, hM24, h⟩ := bm_i h
    refine a_putI (k := 2) hB e_C_truncateInput_24 fw_C_94 (sf_lt hF (by decide)) kk_0 tt_0_2 ?_
    refine a_mem hM24 ?_
    refine a_aload_n (j := 0) hB e_C_truncateInput_27 rfl rfl ?_
    refine a_getI (k := 2) hB e_C_truncateInput_28 fl_C_94 (sf_lt hF (by decide)) kk_0 tt_0_2 ?_
    cases h
    exact a_iret hB rfl e_C_truncateInput_31 (by decide) (by decide)
  · have h := ip c h
    cases h
    exact a_throwS (E := "java/lang/IllegalArgumentException") (i := 14) hB (by decide) cl_C_104 ini_1 rfl at_C_108 rfl e_C_truncateInput_12 e_C_truncateInput_15 e_C_truncateInput_16 e_C_truncateInput_18 e_C_truncateInput_21 (by decide) (by decide) (by decide) (by decide)
set_option maxRecDepth 100000 in
theorem c_C_truncateInput {G : Gt} (hG : GOK G) {φ : Ph} (hF : SF 134 φ)   {M : Mm} {l1 : Int32} {o : Nat ⊕ Int32} {M9 : Mm} (h : f_C_truncateInput l1 M = some (o, M9)) : CT G I_C_truncateInput [.ref 0, .int l1] M φ (oSi o) M9 (pS o φ) :=
  ct_of hG (by decide) (Nat.le_of_ble_eq_true rfl) (fun B hB => t_C_truncateInput hB hF  h)
set_option maxRecDepth 100000 in
theorem t_C_remember_36 {G : Gt} {φ : Ph} {B : Bag} (hB : BF G I_C_remember B) (hF : SF 134 φ)    {M9 : Mm} {t1 : Int32} {M : Mm} (h : f_C_remember_36 t1 M = some M9) : AW G I_C_remember B (QM G I_C_remember B (.inl none) M9 φ) 0 0 36 [(0, .ref 0)] [.int t1, .ref 0] M φ := by
  unfold f_C_remember_36 at h
  obtain ⟨M36, hM36, h⟩ := bm_i h
  refine a_putI (k := 11) hB e_C_remember_36 fw_C_201 (sf_lt hF (by decide)) kk_0 tt_0_11 ?_
  refine a_mem hM36 ?_
  refine a_aload_n (j := 0) hB e_C_remember_39 rfl rfl ?_
  refine a_aload_n (j := 0) hB e_C_remember_40 rfl rfl ?_
  refine a_getI (k := 12) hB e_C_remember_41 fl_C_196 (sf_lt hF (by decide)) kk_0 tt_0_12 ?_
  refine a_iconst (v := 1) hB e_C_remember_44 ic_1 ?_
  refine a_iadd hB e_C_remember_45 ?_
  refine a_bipush (v := 8) hB e_C_remember_46 bp_8 ?_
  refine a_min hB ml_C_204 ms_min ini_math mc_min (by decide) (Nat.le_of_ble_eq_true rfl) (by decide) (by decide) e_C_remember_48 ?_
  obtain ⟨M51, hM51, h⟩ := bm_i h
  refine a_putI (k := 12) hB e_C_remember_51 fw_C_196 (sf_lt hF (by decide)) kk_0 tt_0_12 ?_
  refine a_mem hM51 ?_
  cases h
  exact a_vret hB rfl e_C_remember_54 (by decide) (by decide)
set_option maxRecDepth 100000 in
theorem t_C_remember {G : Gt} {φ : Ph} {B : Bag} (hB : BF G I_C_remember B) (hF : SF 134 φ)    {M9 : Mm}  {M : Mm} (h : f_C_remember M = some M9) : AW G I_C_remember B (QM G I_C_remember B (.inl none) M9 φ) 0 0 0 [(0, .ref 0)] [] M φ := by
  unfold f_C_remember at h
  refine a_aload_n (j := 0) hB e_C_remember_0 rfl rfl ?_
  refine a_getR (r := 31) (k := 10) hB e_C_remember_1 fl_C_56 (sf_lt hF (by decide)) kk_0 tt_0_10 (hF.1 _ _) ?_
  refine a_aload_n (j := 0) hB e_C_remember_4 rfl rfl ?_
  refine a_getI (k := 11) hB e_C_remember_5 fl_C_201 (sf_lt hF (by decide)) kk_0 tt_0_11 ?_
  obtain ⟨c8, h⟩ := chk_i h
  refine a_aald' (r := 34 + 10 * ix (M 0 11)) hB e_C_remember_8 (sf_lt hF (by decide)) kk_31 ll_31 c8 (hF.1 _ _) (tg_past c8) ?_
  refine a_aload_n (j := 0) hB e_C_remember_9 rfl rfl ?_
  refine a_getR (r := 15) (k := 7) hB e_C_remember_10 fl_C_39 (sf_lt hF (by decide)) kk_0 tt_0_7 (hF.1 _ _) ?_
  obtain ⟨M13, hr13, h⟩ := bn_i h
  refine a_ret (v := none) (M1 := M13) (φ1 := φ) (st1 := []) (j1 := 0) (j2 := 0) (ar_V (As := [.ref 15]) (rest := []) hB (c_S_copyFrom (bf_G hB) hF (sv_past c8) sv_15 hr13) ml_C_90 md_S_copyFrom rc_S_copyFrom (sv_lt (sv_past c8) hF (by decide)) (sv_kd (sv_past c8)) rfl rfl (Nat.le_of_ble_eq_true rfl) rm_C_remember_S_copyFrom e_C_remember_13) rfl rfl rfl ?_
  refine a_aload_n (j := 0) hB e_C_remember_16 rfl rfl ?_
  refine a_aload_n (j := 0) hB e_C_remember_17 rfl rfl ?_
  refine a_getI (k := 11) hB e_C_remember_18 fl_C_201 (sf_lt hF (by decide)) kk_0 tt_0_11 ?_
  refine a_bipush (v := 7) hB e_C_remember_21 bp_7 ?_
  refine a_icmp_ne (tgt := 30) hB e_C_remember_23 (by decide) (fun c => ?_) (fun c => ?_)
  · have h := iq c h
    refine a_aload_n (j := 0) hB e_C_remember_30 rfl rfl ?_
    refine a_getI (k := 11) hB e_C_remember_31 fl_C_201 (sf_lt hF (by decide)) kk_0 tt_0_11 ?_
    refine a_iconst (v := 1) hB e_C_remember_34 ic_1 ?_
    refine a_iadd hB e_C_remember_35 ?_
    exact t_C_remember_36 hB hF h
  · have h := ip c h
    refine a_iconst (v := 0) hB e_C_remember_26 ic_0 ?_
    refine a_goto (tgt := 36) hB e_C_remember_27 (by decide) ?_
    exact t_C_remember_36 hB hF h
set_option maxRecDepth 100000 in
theorem c_C_remember {G : Gt} (hG : GOK G) {φ : Ph} (hF : SF 134 φ)   {M : Mm}  {M9 : Mm} (h : f_C_remember M = some M9) : CT G I_C_remember [.ref 0] M φ (.inl none) M9 φ :=
  ct_of hG (by decide) (Nat.le_of_ble_eq_true rfl) (fun B hB => t_C_remember hB hF  h)
set_option maxRecDepth 100000 in
theorem t_C_settleText_46 {G : Gt} {φ : Ph} {B : Bag} (hB : BF G I_C_settleText B) (hF : SF 134 φ)    {o : Int32} {M9 : Mm} {l1 : Int32} {M : Mm} (h : f_C_settleText_46 l1 M = some (o, M9)) : AW G I_C_settleText B (QM G I_C_settleText B (.inl (some (.int o))) M9 φ) 0 0 46 [(1, .int l1)] [] M φ := by
  unfold f_C_settleText_46 at h
  refine a_iload_n (j := 0) hB e_C_settleText_46 rfl rfl ?_
  obtain ⟨z47, h⟩ := chk_i h
  cases h
  exact a_zret hB rfl z47 e_C_settleText_47 (by decide) (by decide)
set_option maxRecDepth 100000 in
theorem t_C_settleText {G : Gt} {φ : Ph} {B : Bag} (hB : BF G I_C_settleText B) (hF : SF 134 φ)    {o : Int32} {M9 : Mm} {l1 : Int32} {M : Mm} (h : f_C_settleText l1 M = some (o, M9)) : AW G I_C_settleText B (QM G I_C_settleText B (.inl (some (.int o))) M9 φ) 0 0 0 [(0, .ref 0), (1, .int l1)] [] M φ := by
  unfold f_C_settleText at h
  refine a_aload_n (j := 0) hB e_C_settleText_0 rfl rfl ?_
  refine a_iconst (v := 0) hB e_C_settleText_1 ic_0 ?_
  obtain ⟨M2, hM2, h⟩ := bm_i h
  refine a_putI (k := 2) hB e_C_settleText_2 fw_C_94 (sf_lt hF (by decide)) kk_0 tt_0_2 ?_
  refine a_mem hM2 ?_
  refine a_aload_n (j := 0) hB e_C_settleText_5 rfl rfl ?_
  refine a_aload_n (j := 0) hB e_C_settleText_6 rfl rfl ?_
  refine a_getR (r := 1) (k := 0) hB e_C_settleText_7 fl_C_10 (sf_lt hF (by decide)) kk_0 tt_0_0 (hF.1 _ _) ?_
  refine a_getI (k := 3) hB e_C_settleText_10 fl_C_121 (sf_lt hF (by decide)) kk_1 tt_1_3 ?_
  obtain ⟨M13, hM13, h⟩ := bm_i h
  refine a_putI (k := 3) hB e_C_settleText_13 fw_C_124 (sf_lt hF (by decide)) kk_0 tt_0_3 ?_
  refine a_mem hM13 ?_
  refine a_aload_n (j := 0) hB e_C_settleText_16 rfl rfl ?_
  refine a_aload_n (j := 0) hB e_C_settleText_17 rfl rfl ?_
  refine a_getR (r := 1) (k := 0) hB e_C_settleText_18 fl_C_10 (sf_lt hF (by decide)) kk_0 tt_0_0 (hF.1 _ _) ?_
  refine a_getI (k := 4) hB e_C_settleText_21 fl_C_127 (sf_lt hF (by decide)) kk_1 tt_1_4 ?_
  obtain ⟨M24, hM24, h⟩ := bm_i h
  refine a_putI (k := 4) hB e_C_settleText_24 fw_C_29 (sf_lt hF (by decide)) kk_0 tt_0_4 ?_
  refine a_mem hM24 ?_
  refine a_iload_n (j := 1) hB e_C_settleText_27 rfl rfl ?_
  refine a_if_eq (tgt := 46) hB e_C_settleText_28 (by decide) (fun c => ?_) (fun c => ?_)
  · have h := ip c h
    refine a_ls [1] (ls' := [(1, .int l1)]) rfl ?_
    exact t_C_settleText_46 hB hF h
  · have h := iq c h
    refine a_aload_n (j := 0) hB e_C_settleText_31 rfl rfl ?_
    obtain ⟨M32, hr32, h⟩ := bn_i h
    refine a_ret (v := none) (M1 := M32) (φ1 := φ) (st1 := []) (j1 := 0) (j2 := 0) (ar_V (As := []) (rest := []) hB (c_C_remember (bf_G hB) hF hr32) ml_C_130 md_C_remember rc_C_remember (sf_lt hF (by decide)) kk_0 rfl rfl (Nat.le_of_ble_eq_true rfl) rm_C_settleText_C_remember e_C_settleText_32) rfl rfl rfl ?_
    refine a_aload_n (j := 0) hB e_C_settleText_35 rfl rfl ?_
    refine a_getR (r := 15) (k := 7) hB e_C_settleText_36 fl_C_39 (sf_lt hF (by decide)) kk_0 tt_0_7 (hF.1 _ _) ?_
    refine a_aload_n (j := 0) hB e_C_settleText_39 rfl rfl ?_
    refine a_getR (r := 4) (k := 8) hB e_C_settleText_40 fl_C_46 (sf_lt hF (by decide)) kk_0 tt_0_8 (hF.1 _ _) ?_
    obtain ⟨M43, hr43, h⟩ := bn_i h
    refine a_ret (v := none) (M1 := M43) (φ1 := φ) (st1 := []) (j1 := 0) (j2 := 0) (ar_V (As := [.ref 4]) (rest := []) hB (c_S_copyFrom (bf_G hB) hF sv_15 sv_4 hr43) ml_C_90 md_S_copyFrom rc_S_copyFrom (sf_lt hF (by decide)) kk_15 rfl rfl (Nat.le_of_ble_eq_true rfl) rm_C_settleText_S_copyFrom e_C_settleText_43) rfl rfl rfl ?_
    refine a_ls [1] (ls' := [(1, .int l1)]) rfl ?_
    exact t_C_settleText_46 hB hF h
set_option maxRecDepth 100000 in
theorem c_C_settleText {G : Gt} (hG : GOK G) {φ : Ph} (hF : SF 134 φ)   {M : Mm} {l1 : Int32} {o : Int32} {M9 : Mm} (h : f_C_settleText l1 M = some (o, M9)) : CT G I_C_settleText [.ref 0, .int l1] M φ (.inl (some (.int o))) M9 φ :=
  ct_of hG (by decide) (Nat.le_of_ble_eq_true rfl) (fun B hB => t_C_settleText hB hF  h)
set_option maxRecDepth 100000 in
theorem t_C_load_56 {G : Gt} {φ : Ph} {B : Bag} (hB : BF G I_C_load B) (hF : SF 134 φ)    {o : Int32} {M9 : Mm} {t0 : Int32} {M : Mm} (h : f_C_load_56 t0 M = some (o, M9)) : AW G I_C_load B (QM G I_C_load B (.inl (some (.int o))) M9 φ) 0 0 56 [] [.int t0] M φ := by
  unfold f_C_load_56 at h
  cases h
  exact a_iret hB rfl e_C_load_56 (by decide) (by decide)
set_option maxRecDepth 100000 in
theorem t_C_load_36 {G : Gt} {φ : Ph} {B : Bag} (hB : BF G I_C_load B) (hF : SF 134 φ)    {o : Int32} {M9 : Mm} {t0 : Int32} {M : Mm} (h : f_C_load_36 t0 M = some (o, M9)) : AW G I_C_load B (QM G I_C_load B (.inl (some (.int o))) M9 φ) 0 0 36 [(0, .ref 0)] [.int t0] M φ := by
  unfold f_C_load_36 at h
  refine a_istore_n (ls' := [(1, .int t0), (0, .ref 0)]) hB e_C_load_36 rfl (Nat.le_of_ble_eq_true rfl) rfl ?_
  refine a_aload_n (j := 1) hB e_C_load_37 rfl rfl ?_
  refine a_iload_n (j := 0) hB e_C_load_38 rfl rfl ?_
  obtain ⟨r39, M39, hr39, h⟩ := bn2_i h
  refine a_ret (v := (some (.int r39))) (M1 := M39) (φ1 := φ) (st1 := [.int r39]) (j1 := 0) (j2 := 0) (ar_V (As := [.int t0]) (rest := []) hB (c_C_settleText (bf_G hB) hF hr39) ml_C_111 md_C_settleText rc_C_settleText (sf_lt hF (by decide)) kk_0 rfl rfl (Nat.le_of_ble_eq_true rfl) rm_C_load_C_settleText e_C_load_39) rfl rfl rfl ?_
  refine a_if_eq (tgt := 55) hB e_C_load_42 (by decide) (fun c => ?_) (fun c => ?_)
  · have h := ip c h
    refine a_iconst (v := -1) hB e_C_load_55 ic_m1 ?_
    refine a_ls [] (ls' := []) rfl ?_
    exact t_C_load_56 hB hF h
  · have h := iq c h
    refine a_aload_n (j := 1) hB e_C_load_45 rfl rfl ?_
    refine a_getR (r := 15) (k := 7) hB e_C_load_46 fl_C_39 (sf_lt hF (by decide)) kk_0 tt_0_7 (hF.1 _ _) ?_
    refine a_getI (k := 9) hB e_C_load_49 fl_C_115 (sf_lt hF (by decide)) kk_15 tt_15_9 ?_
    refine a_goto (tgt := 56) hB e_C_load_52 (by decide) ?_
    refine a_ls [] (ls' := []) rfl ?_
    exact t_C_load_56 hB hF h
set_option maxRecDepth 100000 in
theorem t_C_load_35 {G : Gt} {φ : Ph} {B : Bag} (hB : BF G I_C_load B) (hF : SF 134 φ)    {o : Int32} {M9 : Mm}  {M : Mm} (h : f_C_load_35 M = some (o, M9)) : AW G I_C_load B (QM G I_C_load B (.inl (some (.int o))) M9 φ) 0 0 35 [(0, .ref 0)] [] M φ := by
  unfold f_C_load_35 at h
  refine a_iconst (v := 0) hB e_C_load_35 ic_0 ?_
  exact t_C_load_36 hB hF h
set_option maxRecDepth 100000 in
theorem t_C_load {G : Gt} {φ : Ph} {B : Bag} (hB : BF G I_C_load B) (hF : SF 134 φ)    {o : Int32} {M9 : Mm}  {M : Mm} (h : f_C_load M = some (o, M9)) : AW G I_C_load B (QM G I_C_load B (.inl (some (.int o))) M9 φ) 0 0 0 [(0, .ref 0)] [] M φ := by
  unfold f_C_load at h
  refine a_aload_n (j := 0) hB e_C_load_0 rfl rfl ?_
  refine a_getR (r := 1) (k := 0) hB e_C_load_1 fl_C_10 (sf_lt hF (by decide)) kk_0 tt_0_0 (hF.1 _ _) ?_
  refine a_aload_n (j := 0) hB e_C_load_4 rfl rfl ?_
  refine a_getI (k := 2) hB e_C_load_5 fl_C_94 (sf_lt hF (by decide)) kk_0 tt_0_2 ?_
  obtain ⟨M8, hr8, h⟩ := bn_i h
  refine a_ret (v := none) (M1 := M8) (φ1 := φ) (st1 := []) (j1 := 0) (j2 := 0) (ar_V (As := [.int (M 0 2)]) (rest := []) hB (c_I_begin (bf_G hB) hF hr8) ml_C_79 md_I_begin rc_I_begin (sf_lt hF (by decide)) kk_1 rfl rfl (Nat.le_of_ble_eq_true rfl) rm_C_load_I_begin e_C_load_8) rfl rfl rfl ?_
  refine a_aload_n (j := 0) hB e_C_load_11 rfl rfl ?_
  refine a_getR (r := 1) (k := 0) hB e_C_load_12 fl_C_10 (sf_lt hF (by decide)) kk_0 tt_0_0 (hF.1 _ _) ?_
  obtain ⟨r15, M15, hr15, h⟩ := bn2_i h
  refine a_ret (v := (some (.int r15))) (M1 := M15) (φ1 := φ) (st1 := [.int r15]) (j1 := 0) (j2 := 0) (ar_V (As := []) (rest := []) hB (c_I_readsHead (bf_G hB) hF hr15) ml_C_83 md_I_readsHead rc_I_readsHead (sf_lt hF (by decide)) kk_1 rfl rfl (Nat.le_of_ble_eq_true rfl) rm_C_load_I_readsHead e_C_load_15) rfl rfl rfl ?_
  refine a_if_eq (tgt := 35) hB e_C_load_18 (by decide) (fun c => ?_) (fun c => ?_)
  · have h := ip c h
    exact t_C_load_35 hB hF h
  · have h := iq c h
    refine a_aload_n (j := 0) hB e_C_load_21 rfl rfl ?_
    refine a_getR (r := 1) (k := 0) hB e_C_load_22 fl_C_10 (sf_lt hF (by decide)) kk_0 tt_0_0 (hF.1 _ _) ?_
    obtain ⟨r25, M25, hr25, h⟩ := bn2_i h
    refine a_ret (v := (some (.int r25))) (M1 := M25) (φ1 := φ) (st1 := [.int r25]) (j1 := 0) (j2 := 0) (ar_V (As := []) (rest := []) hB (c_I_readsCommands (bf_G hB) hF hr25) ml_C_87 md_I_readsCommands rc_I_readsCommands (sf_lt hF (by decide)) kk_1 rfl rfl (Nat.le_of_ble_eq_true rfl) rm_C_load_I_readsCommands e_C_load_25) rfl rfl rfl ?_
    refine a_if_eq (tgt := 35) hB e_C_load_28 (by decide) (fun c => ?_) (fun c => ?_)
    · have h := ip c h
      exact t_C_load_35 hB hF h
    · have h := iq c h
      refine a_iconst (v := 1) hB e_C_load_31 ic_1 ?_
      refine a_goto (tgt := 36) hB e_C_load_32 (by decide) ?_
      exact t_C_load_36 hB hF h
set_option maxRecDepth 100000 in
theorem c_C_load {G : Gt} (hG : GOK G) {φ : Ph} (hF : SF 134 φ)   {M : Mm}  {o : Int32} {M9 : Mm} (h : f_C_load M = some (o, M9)) : CT G I_C_load [.ref 0] M φ (.inl (some (.int o))) M9 φ :=
  ct_of hG (by decide) (Nat.le_of_ble_eq_true rfl) (fun B hB => t_C_load hB hF  h)
set_option maxRecDepth 100000 in
theorem t_C_play_49 {G : Gt} {φ : Ph} {B : Bag} (hB : BF G I_C_play B) (hF : SF 134 φ)    {o : Int32} {M9 : Mm} {t0 : Int32} {M : Mm} (h : f_C_play_49 t0 M = some (o, M9)) : AW G I_C_play B (QM G I_C_play B (.inl (some (.int o))) M9 φ) 0 0 49 [] [.int t0] M φ := by
  unfold f_C_play_49 at h
  cases h
  exact a_iret hB rfl e_C_play_49 (by decide) (by decide)
set_option maxRecDepth 100000 in
theorem t_C_play {G : Gt} {φ : Ph} {B : Bag} (hB : BF G I_C_play B) (hF : SF 134 φ)    {o : Int32} {M9 : Mm}  {M : Mm} (h : f_C_play M = some (o, M9)) : AW G I_C_play B (QM G I_C_play B (.inl (some (.int o))) M9 φ) 0 0 0 [(0, .ref 0)] [] M φ := by
  unfold f_C_play at h
  refine a_aload_n (j := 0) hB e_C_play_0 rfl rfl ?_
  refine a_getR (r := 4) (k := 8) hB e_C_play_1 fl_C_46 (sf_lt hF (by decide)) kk_0 tt_0_8 (hF.1 _ _) ?_
  refine a_aload_n (j := 0) hB e_C_play_4 rfl rfl ?_
  refine a_getR (r := 15) (k := 7) hB e_C_play_5 fl_C_39 (sf_lt hF (by decide)) kk_0 tt_0_7 (hF.1 _ _) ?_
  obtain ⟨M8, hr8, h⟩ := bn_i h
  refine a_ret (v := none) (M1 := M8) (φ1 := φ) (st1 := []) (j1 := 0) (j2 := 0) (ar_V (As := [.ref 15]) (rest := []) hB (c_S_copyFrom (bf_G hB) hF sv_4 sv_15 hr8) ml_C_90 md_S_copyFrom rc_S_copyFrom (sf_lt hF (by decide)) kk_4 rfl rfl (Nat.le_of_ble_eq_true rfl) rm_C_play_S_copyFrom e_C_play_8) rfl rfl rfl ?_
  refine a_aload_n (j := 0) hB e_C_play_11 rfl rfl ?_
  refine a_getR (r := 1) (k := 0) hB e_C_play_12 fl_C_10 (sf_lt hF (by decide)) kk_0 tt_0_0 (hF.1 _ _) ?_
  refine a_aload_n (j := 0) hB e_C_play_15 rfl rfl ?_
  refine a_getI (k := 2) hB e_C_play_16 fl_C_94 (sf_lt hF (by decide)) kk_0 tt_0_2 ?_
  obtain ⟨M19, hr19, h⟩ := bn_i h
  refine a_ret (v := none) (M1 := M19) (φ1 := φ) (st1 := []) (j1 := 0) (j2 := 0) (ar_V (As := [.int (M8 0 2)]) (rest := []) hB (c_I_begin (bf_G hB) hF hr19) ml_C_79 md_I_begin rc_I_begin (sf_lt hF (by decide)) kk_1 rfl rfl (Nat.le_of_ble_eq_true rfl) rm_C_play_I_begin e_C_play_19) rfl rfl rfl ?_
  refine a_aload_n (j := 0) hB e_C_play_22 rfl rfl ?_
  refine a_getR (r := 1) (k := 0) hB e_C_play_23 fl_C_10 (sf_lt hF (by decide)) kk_0 tt_0_0 (hF.1 _ _) ?_
  obtain ⟨r26, M26, hr26, h⟩ := bn2_i h
  refine a_ret (v := (some (.int r26))) (M1 := M26) (φ1 := φ) (st1 := [.int r26]) (j1 := 0) (j2 := 0) (ar_V (As := []) (rest := []) hB (c_I_readsCommands (bf_G hB) hF hr26) ml_C_87 md_I_readsCommands rc_I_readsCommands (sf_lt hF (by decide)) kk_1 rfl rfl (Nat.le_of_ble_eq_true rfl) rm_C_play_I_readsCommands e_C_play_26) rfl rfl rfl ?_
  refine a_istore_n (ls' := [(1, .int r26), (0, .ref 0)]) hB e_C_play_29 rfl (Nat.le_of_ble_eq_true rfl) rfl ?_
  refine a_aload_n (j := 1) hB e_C_play_30 rfl rfl ?_
  refine a_iload_n (j := 0) hB e_C_play_31 rfl rfl ?_
  obtain ⟨r32, M32, hr32, h⟩ := bn2_i h
  refine a_ret (v := (some (.int r32))) (M1 := M32) (φ1 := φ) (st1 := [.int r32]) (j1 := 0) (j2 := 0) (ar_V (As := [.int r26]) (rest := []) hB (c_C_settleText (bf_G hB) hF hr32) ml_C_111 md_C_settleText rc_C_settleText (sf_lt hF (by decide)) kk_0 rfl rfl (Nat.le_of_ble_eq_true rfl) rm_C_play_C_settleText e_C_play_32) rfl rfl rfl ?_
  refine a_if_eq (tgt := 48) hB e_C_play_35 (by decide) (fun c => ?_) (fun c => ?_)
  · have h := ip c h
    refine a_iconst (v := -1) hB e_C_play_48 ic_m1 ?_
    refine a_ls [] (ls' := []) rfl ?_
    exact t_C_play_49 hB hF h
  · have h := iq c h
    refine a_aload_n (j := 1) hB e_C_play_38 rfl rfl ?_
    refine a_getR (r := 1) (k := 0) hB e_C_play_39 fl_C_10 (sf_lt hF (by decide)) kk_0 tt_0_0 (hF.1 _ _) ?_
    refine a_getI (k := 2) hB e_C_play_42 fl_C_118 (sf_lt hF (by decide)) kk_1 tt_1_2 ?_
    refine a_goto (tgt := 49) hB e_C_play_45 (by decide) ?_
    refine a_ls [] (ls' := []) rfl ?_
    exact t_C_play_49 hB hF h
set_option maxRecDepth 100000 in
theorem c_C_play {G : Gt} (hG : GOK G) {φ : Ph} (hF : SF 134 φ)   {M : Mm}  {o : Int32} {M9 : Mm} (h : f_C_play M = some (o, M9)) : CT G I_C_play [.ref 0] M φ (.inl (some (.int o))) M9 φ :=
  ct_of hG (by decide) (Nat.le_of_ble_eq_true rfl) (fun B hB => t_C_play hB hF  h)
set_option maxRecDepth 100000 in
theorem t_C_errorCode {G : Gt} {φ : Ph} {B : Bag} (hB : BF G I_C_errorCode B) (hF : SF 134 φ)   {M : Mm} {o : Int32}   (h : f_C_errorCode M = some o) : AW G I_C_errorCode B (QM G I_C_errorCode B (.inl (some (.int o))) M φ) 0 0 0 [(0, .ref 0)] [] M φ := by
  unfold f_C_errorCode at h
  refine a_aload_n (j := 0) hB e_C_errorCode_0 rfl rfl ?_
  refine a_getI (k := 3) hB e_C_errorCode_1 fl_C_124 (sf_lt hF (by decide)) kk_0 tt_0_3 ?_
  cases h
  exact a_iret hB rfl e_C_errorCode_4 (by decide) (by decide)
set_option maxRecDepth 100000 in
theorem c_C_errorCode {G : Gt} (hG : GOK G) {φ : Ph} (hF : SF 134 φ)   {M : Mm}  {o : Int32} (h : f_C_errorCode M = some o) : CT G I_C_errorCode [.ref 0] M φ (.inl (some (.int o))) M φ :=
  ct_of hG (by decide) (Nat.le_of_ble_eq_true rfl) (fun B hB => t_C_errorCode hB hF  h)
set_option maxRecDepth 100000 in
theorem t_C_errorOffset {G : Gt} {φ : Ph} {B : Bag} (hB : BF G I_C_errorOffset B) (hF : SF 134 φ)   {M : Mm} {o : Int32}   (h : f_C_errorOffset M = some o) : AW G I_C_errorOffset B (QM G I_C_errorOffset B (.inl (some (.int o))) M φ) 0 0 0 [(0, .ref 0)] [] M φ := by
  unfold f_C_errorOffset at h
  refine a_aload_n (j := 0) hB e_C_errorOffset_0 rfl rfl ?_
  refine a_getI (k := 4) hB e_C_errorOffset_1 fl_C_29 (sf_lt hF (by decide)) kk_0 tt_0_4 ?_
  cases h
  exact a_iret hB rfl e_C_errorOffset_4 (by decide) (by decide)
set_option maxRecDepth 100000 in
theorem c_C_errorOffset {G : Gt} (hG : GOK G) {φ : Ph} (hF : SF 134 φ)   {M : Mm}  {o : Int32} (h : f_C_errorOffset M = some o) : CT G I_C_errorOffset [.ref 0] M φ (.inl (some (.int o))) M φ :=
  ct_of hG (by decide) (Nat.le_of_ble_eq_true rfl) (fun B hB => t_C_errorOffset hB hF  h)
set_option maxRecDepth 100000 in
theorem t_C_nameForNextLeg {G : Gt} {φ : Ph} {B : Bag} (hB : BF G I_C_nameForNextLeg B) (hF : SF 134 φ)   {M : Mm} {o : Nat ⊕ Int32}   (h : f_C_nameForNextLeg M = some o) : AW G I_C_nameForNextLeg B (QM G I_C_nameForNextLeg B (oSi o) M (pS o φ)) 0 0 0 [(0, .ref 0)] [] M φ := by
  unfold f_C_nameForNextLeg at h
  refine a_aload_n (j := 0) hB e_C_nameForNextLeg_0 rfl rfl ?_
  refine a_getR (r := 15) (k := 7) hB e_C_nameForNextLeg_1 fl_C_39 (sf_lt hF (by decide)) kk_0 tt_0_7 (hF.1 _ _) ?_
  refine a_getI (k := 9) hB e_C_nameForNextLeg_4 fl_C_115 (sf_lt hF (by decide)) kk_15 tt_15_9 ?_
  refine a_bipush (v := 20) hB e_C_nameForNextLeg_7 bp_20 ?_
  refine a_icmp_lt (tgt := 22) hB e_C_nameForNextLeg_9 (by decide) (fun c => ?_) (fun c => ?_)
  · have h := ip c h
    refine a_sipush (v := 544) hB e_C_nameForNextLeg_22 sp_544 ?_
    refine a_aload_n (j := 0) hB e_C_nameForNextLeg_25 rfl rfl ?_
    refine a_getR (r := 15) (k := 7) hB e_C_nameForNextLeg_26 fl_C_39 (sf_lt hF (by decide)) kk_0 tt_0_7 (hF.1 _ _) ?_
    refine a_getI (k := 9) hB e_C_nameForNextLeg_29 fl_C_115 (sf_lt hF (by decide)) kk_15 tt_15_9 ?_
    refine a_iadd hB e_C_nameForNextLeg_32 ?_
    refine a_iconst (v := 1) hB e_C_nameForNextLeg_33 ic_1 ?_
    refine a_iadd hB e_C_nameForNextLeg_34 ?_
    refine a_istore_n (ls' := [(1, .int (((544 : Int32) + (M 15 9)) + (1 : Int32))), (0, .ref 0)]) hB e_C_nameForNextLeg_35 rfl (Nat.le_of_ble_eq_true rfl) rfl ?_
    refine a_aload_n (j := 1) hB e_C_nameForNextLeg_36 rfl rfl ?_
    refine a_getR (r := 15) (k := 7) hB e_C_nameForNextLeg_37 fl_C_39 (sf_lt hF (by decide)) kk_0 tt_0_7 (hF.1 _ _) ?_
    refine a_iload_n (j := 0) hB e_C_nameForNextLeg_40 rfl rfl ?_
    obtain ⟨r41, hr41, h⟩ := bn_i h
    refine a_ret (v := (some (.int r41))) (M1 := M) (φ1 := φ) (st1 := [.int r41]) (j1 := 0) (j2 := 0) (ar_V (As := [.int (((544 : Int32) + (M 15 9)) + (1 : Int32))]) (rest := []) hB (c_S_legNamed (bf_G hB) hF sv_15 hr41) ml_C_157 md_S_legNamed rc_S_legNamed (sf_lt hF (by decide)) kk_15 rfl rfl (Nat.le_of_ble_eq_true rfl) rm_C_nameForNextLeg_S_legNamed e_C_nameForNextLeg_41) rfl rfl rfl ?_
    refine a_iconst (v := -1) hB e_C_nameForNextLeg_44 ic_m1 ?_
    refine a_icmp_eq (tgt := 58) hB e_C_nameForNextLeg_45 (by decide) (fun c => ?_) (fun c => ?_)
    · have h := ip c h
      refine a_iload_n (j := 0) hB e_C_nameForNextLeg_58 rfl rfl ?_
      cases h
      exact a_iret hB rfl e_C_nameForNextLeg_59 (by decide) (by decide)
    · have h := iq c h
      cases h
      exact a_throwS (E := "java/lang/IllegalStateException") (i := 17) hB (by decide) cl_C_152 ini_2 rfl at_C_156 rfl e_C_nameForNextLeg_48 e_C_nameForNextLeg_51 e_C_nameForNextLeg_52 e_C_nameForNextLeg_54 e_C_nameForNextLeg_57 (by decide) (by decide) (by decide) (by decide)
  · have h := iq c h
    cases h
    exact a_throwS (E := "java/lang/IllegalStateException") (i := 16) hB (by decide) cl_C_152 ini_2 rfl at_C_156 rfl e_C_nameForNextLeg_12 e_C_nameForNextLeg_15 e_C_nameForNextLeg_16 e_C_nameForNextLeg_18 e_C_nameForNextLeg_21 (by decide) (by decide) (by decide) (by decide)
set_option maxRecDepth 100000 in
theorem c_C_nameForNextLeg {G : Gt} (hG : GOK G) {φ : Ph} (hF : SF 134 φ)   {M : Mm}  {o : Nat ⊕ Int32} (h : f_C_nameForNextLeg M = some o) : CT G I_C_nameForNextLeg [.ref 0] M φ (oSi o) M (pS o φ) :=
  ct_of hG (by decide) (Nat.le_of_ble_eq_true rfl) (fun B hB => t_C_nameForNextLeg hB hF  h)
set_option maxRecDepth 100000 in
theorem t_C_addLeg_55 {G : Gt} {φ : Ph} {B : Bag} (hB : BF G I_C_addLeg B) (hF : SF 134 φ)    {o : Nat ⊕ Int32} {M9 : Mm} {l1 : Int32} {l2 : Int32} {l3 : Int32} {l4 : Int32} {l5 : Int32} {t0 : Int32} {M : Mm} (h : f_C_addLeg_55 l1 l2 l3 l4 l5 t0 M = some (o, M9)) : AW G I_C_addLeg B (QM G I_C_addLeg B (oSi o) M9 (pS o φ)) 0 0 55 [(0, .ref 0), (1, .int l1), (2, .int l2), (3, .int l3), (4, .int l4), (5, .int l5)] [.int t0] M φ := by
  unfold f_C_addLeg_55 at h
  refine a_istore (ls' := [(6, .int t0), (0, .ref 0), (1, .int l1), (2, .int l2), (3, .int l3), (4, .int l4), (5, .int l5)]) hB e_C_addLeg_55 (Nat.le_of_ble_eq_true rfl) rfl ?_
  refine a_iload (j := 0) hB e_C_addLeg_57 rfl ?_
  refine a_if_ne (tgt := 72) hB e_C_addLeg_59 (by decide) (fun c => ?_) (fun c => ?_)
  · have h := iq c h
    refine a_aload_n (j := 1) hB e_C_addLeg_72 rfl rfl ?_
    rcases bti_i h with ⟨e73, hr73, rfl, hz⟩ | ⟨r73, hr73, h⟩
    · obtain rfl := hz.symm
      exact a_thr (E := exS e73) (M1 := M) (φ1 := dirt φ) hB (ar_V (As := []) (rest := []) hB (c_C_nameForNextLeg (bf_G hB) hF hr73) ml_C_139 md_C_nameForNextLeg rc_C_nameForNextLeg (sf_lt hF (by decide)) kk_0 rfl rfl (Nat.le_of_ble_eq_true rfl) rm_C_addLeg_C_nameForNextLeg e_C_addLeg_73) rfl (by decide) (by decide)
    · refine a_ret (v := (some (.int r73))) (M1 := M) (φ1 := φ) (st1 := [.int r73]) (j1 := 1) (j2 := 6) (ar_V (As := []) (rest := []) hB (c_C_nameForNextLeg (bf_G hB) hF hr73) ml_C_139 md_C_nameForNextLeg rc_C_nameForNextLeg (sf_lt hF (by decide)) kk_0 rfl rfl (Nat.le_of_ble_eq_true rfl) rm_C_addLeg_C_nameForNextLeg e_C_addLeg_73) rfl rfl rfl ?_
      refine a_istore (ls' := [(7, .int r73), (6, .int t0), (0, .ref 0), (1, .int l1), (2, .int l2), (3, .int l3), (4, .int l4), (5, .int l5)]) hB e_C_addLeg_76 (Nat.le_of_ble_eq_true rfl) rfl ?_
      refine a_aload_n (j := 2) hB e_C_addLeg_78 rfl rfl ?_
      obtain ⟨M79, hr79, h⟩ := bn_i h
      refine a_ret (v := none) (M1 := M79) (φ1 := φ) (st1 := []) (j1 := 1) (j2 := 6) (ar_V (As := []) (rest := []) hB (c_C_remember (bf_G hB) hF hr79) ml_C_130 md_C_remember rc_C_remember (sf_lt hF (by decide)) kk_0 rfl rfl (Nat.le_of_ble_eq_true rfl) rm_C_addLeg_C_remember_1_6 e_C_addLeg_79) rfl rfl rfl ?_
      refine a_aload_n (j := 2) hB e_C_addLeg_82 rfl rfl ?_
      refine a_getR (r := 15) (k := 7) hB e_C_addLeg_83 fl_C_39 (sf_lt hF (by decide)) kk_0 tt_0_7 (hF.1 _ _) ?_
      refine a_iload (j := 0) hB e_C_addLeg_86 rfl ?_
      refine a_iload_n (j := 3) hB e_C_addLeg_88 rfl rfl ?_
      refine a_iload_n (j := 4) hB e_C_addLeg_89 rfl rfl ?_
      refine a_iload_n (j := 5) hB e_C_addLeg_90 rfl rfl ?_
      refine a_iconst (v := 0) hB e_C_addLeg_91 ic_0 ?_
      refine a_iload (j := 6) hB e_C_addLeg_92 rfl ?_
      refine a_iload (j := 7) hB e_C_addLeg_94 rfl ?_
      obtain ⟨M96, hr96, h⟩ := bn_i h
      refine a_ret (v := none) (M1 := M96) (φ1 := φ) (st1 := []) (j1 := 1) (j2 := 6) (ar_V (As := [.int r73, .int l1, .int l2, .int l3, .int (0 : Int32), .int l4, .int l5]) (rest := []) hB (c_S_addChained (bf_G hB) hF sv_15 hr96) ml_C_142 md_S_addChained rc_S_addChained (sf_lt hF (by decide)) kk_15 rfl rfl (Nat.le_of_ble_eq_true rfl) rm_C_addLeg_S_addChained_1_6 e_C_addLeg_96) rfl rfl rfl ?_
      refine a_aload_n (j := 2) hB e_C_addLeg_99 rfl rfl ?_
      refine a_getR (r := 15) (k := 7) hB e_C_addLeg_100 fl_C_39 (sf_lt hF (by decide)) kk_0 tt_0_7 (hF.1 _ _) ?_
      refine a_getI (k := 9) hB e_C_addLeg_103 fl_C_115 (sf_lt hF (by decide)) kk_15 tt_15_9 ?_
      refine a_iconst (v := 1) hB e_C_addLeg_106 ic_1 ?_
      refine a_isub hB e_C_addLeg_107 ?_
      cases h
      exact a_iret hB rfl e_C_addLeg_108 (by decide) (by decide)
  · have h := ip c h
    cases h
    exact a_throwS (E := "java/lang/IllegalArgumentException") (i := 15) hB (by decide) cl_C_104 ini_1 rfl at_C_108 rfl e_C_addLeg_62 e_C_addLeg_65 e_C_addLeg_66 e_C_addLeg_68 e_C_addLeg_71 (by decide) (by decide) (by decide) (by decide)
set_option maxRecDepth 100000 in
theorem t_C_addLeg_54 {G : Gt} {φ : Ph} {B : Bag} (hB : BF G I_C_addLeg B) (hF : SF 134 φ)    {o : Nat ⊕ Int32} {M9 : Mm} {l1 : Int32} {l2 : Int32} {l3 : Int32} {l4 : Int32} {l5 : Int32} {M : Mm} (h : f_C_addLeg_54 l1 l2 l3 l4 l5 M = some (o, M9)) : AW G I_C_addLeg B (QM G I_C_addLeg B (oSi o) M9 (pS o φ)) 0 0 54 [(0, .ref 0), (1, .int l1), (2, .int l2), (3, .int l3), (4, .int l4), (5, .int l5)] [] M φ := by
  unfold f_C_addLeg_54 at h
  refine a_iconst (v := 0) hB e_C_addLeg_54 ic_0 ?_
  exact t_C_addLeg_55 hB hF h
set_option maxRecDepth 100000 in
theorem t_C_addLeg {G : Gt} {φ : Ph} {B : Bag} (hB : BF G I_C_addLeg B) (hF : SF 134 φ)    {o : Nat ⊕ Int32} {M9 : Mm} {l1 : Int32} {l2 : Int32} {l3 : Int32} {l4 : Int32} {l5 : Int32} {M : Mm} (h : f_C_addLeg l1 l2 l3 l4 l5 M = some (o, M9)) : AW G I_C_addLeg B (QM G I_C_addLeg B (oSi o) M9 (pS o φ)) 0 0 0 [(0, .ref 0), (1, .int l1), (2, .int l2), (3, .int l3), (4, .int l4), (5, .int l5)] [] M φ := by
  unfold f_C_addLeg at h
  refine a_iload_n (j := 1) hB e_C_addLeg_0 rfl rfl ?_
  obtain ⟨r1, hr1, h⟩ := bn_i h
  refine a_ret (v := (some (.int r1))) (M1 := M) (φ1 := φ) (st1 := [.int r1]) (j1 := 0) (j2 := 0) (ar_S (As := [.int l1]) (rest := []) hB (c_C_isBearing (bf_G hB) hF hr1) ml_C_133 md_C_isBearing rfl rfl (Nat.le_of_ble_eq_true rfl) rm_C_addLeg_C_isBearing e_C_addLeg_1) rfl rfl rfl ?_
  refine a_if_eq (tgt := 54) hB e_C_addLeg_4 (by decide) (fun c => ?_) (fun c => ?_)
  · have h := ip c h
    exact t_C_addLeg_54 hB hF h
  · have h := iq c h
    refine a_iload_n (j := 2) hB e_C_addLeg_7 rfl rfl ?_
    refine a_iconst (v := 0) hB e_C_addLeg_8 ic_0 ?_
    refine a_bipush (v := 99) hB e_C_addLeg_9 bp_99 ?_
    obtain ⟨r11, hr11, h⟩ := bn_i h
    refine a_ret (v := (some (.int r11))) (M1 := M) (φ1 := φ) (st1 := [.int r11]) (j1 := 0) (j2 := 0) (ar_S (As := [.int l2, .int (0 : Int32), .int (99 : Int32)]) (rest := []) hB (c_C_isBetween (bf_G hB) hF hr11) ml_C_100 md_C_isBetween rfl rfl (Nat.le_of_ble_eq_true rfl) rm_C_addLeg_C_isBetween e_C_addLeg_11) rfl rfl rfl ?_
    refine a_if_eq (tgt := 54) hB e_C_addLeg_14 (by decide) (fun c => ?_) (fun c => ?_)
    · have h := ip c h
      exact t_C_addLeg_54 hB hF h
    · have h := iq c h
      refine a_iload_n (j := 3) hB e_C_addLeg_17 rfl rfl ?_
      refine a_iconst (v := 0) hB e_C_addLeg_18 ic_0 ?_
      refine a_bipush (v := 99) hB e_C_addLeg_19 bp_99 ?_
      obtain ⟨r21, hr21, h⟩ := bn_i h
      refine a_ret (v := (some (.int r21))) (M1 := M) (φ1 := φ) (st1 := [.int r21]) (j1 := 0) (j2 := 0) (ar_S (As := [.int l3, .int (0 : Int32), .int (99 : Int32)]) (rest := []) hB (c_C_isBetween (bf_G hB) hF hr21) ml_C_100 md_C_isBetween rfl rfl (Nat.le_of_ble_eq_true rfl) rm_C_addLeg_C_isBetween e_C_addLeg_21) rfl rfl rfl ?_
      refine a_if_eq (tgt := 54) hB e_C_addLeg_24 (by decide) (fun c => ?_) (fun c => ?_)
      · have h := ip c h
        exact t_C_addLeg_54 hB hF h
      · have h := iq c h
        refine a_iload (j := 4) hB e_C_addLeg_27 rfl ?_
        refine a_iconst (v := 0) hB e_C_addLeg_29 ic_0 ?_
        refine a_sipush (v := 9999) hB e_C_addLeg_30 sp_9999 ?_
        obtain ⟨r33, hr33, h⟩ := bn_i h
        refine a_ret (v := (some (.int r33))) (M1 := M) (φ1 := φ) (st1 := [.int r33]) (j1 := 0) (j2 := 0) (ar_S (As := [.int l4, .int (0 : Int32), .int (9999 : Int32)]) (rest := []) hB (c_C_isBetween (bf_G hB) hF hr33) ml_C_100 md_C_isBetween rfl rfl (Nat.le_of_ble_eq_true rfl) rm_C_addLeg_C_isBetween e_C_addLeg_33) rfl rfl rfl ?_
        refine a_if_eq (tgt := 54) hB e_C_addLeg_36 (by decide) (fun c => ?_) (fun c => ?_)
        · have h := ip c h
          exact t_C_addLeg_54 hB hF h
        · have h := iq c h
          refine a_iload (j := 5) hB e_C_addLeg_39 rfl ?_
          refine a_iconst (v := 0) hB e_C_addLeg_41 ic_0 ?_
          refine a_bipush (v := 50) hB e_C_addLeg_42 bp_50 ?_
          obtain ⟨r44, hr44, h⟩ := bn_i h
          refine a_ret (v := (some (.int r44))) (M1 := M) (φ1 := φ) (st1 := [.int r44]) (j1 := 0) (j2 := 0) (ar_S (As := [.int l5, .int (0 : Int32), .int (50 : Int32)]) (rest := []) hB (c_C_isBetween (bf_G hB) hF hr44) ml_C_100 md_C_isBetween rfl rfl (Nat.le_of_ble_eq_true rfl) rm_C_addLeg_C_isBetween e_C_addLeg_44) rfl rfl rfl ?_
          refine a_if_eq (tgt := 54) hB e_C_addLeg_47 (by decide) (fun c => ?_) (fun c => ?_)
          · have h := ip c h
            exact t_C_addLeg_54 hB hF h
          · have h := iq c h
            refine a_iconst (v := 1) hB e_C_addLeg_50 ic_1 ?_
            refine a_goto (tgt := 55) hB e_C_addLeg_51 (by decide) ?_
            exact t_C_addLeg_55 hB hF h
set_option maxRecDepth 100000 in
theorem c_C_addLeg {G : Gt} (hG : GOK G) {φ : Ph} (hF : SF 134 φ)   {M : Mm} {l1 : Int32} {l2 : Int32} {l3 : Int32} {l4 : Int32} {l5 : Int32} {o : Nat ⊕ Int32} {M9 : Mm} (h : f_C_addLeg l1 l2 l3 l4 l5 M = some (o, M9)) : CT G I_C_addLeg [.ref 0, .int l1, .int l2, .int l3, .int l4, .int l5] M φ (oSi o) M9 (pS o φ) :=
  ct_of hG (by decide) (Nat.le_of_ble_eq_true rfl) (fun B hB => t_C_addLeg hB hF  h)
set_option maxRecDepth 100000 in
theorem t_C_addBog_18 {G : Gt} {φ : Ph} {B : Bag} (hB : BF G I_C_addBog B) (hF : SF 134 φ)    {o : Nat ⊕ Int32} {M9 : Mm}  {M : Mm} (h : f_C_addBog_18 M = some (o, M9)) : AW G I_C_addBog B (QM G I_C_addBog B (oSi o) M9 (pS o φ)) 0 0 18 [] [] M φ := by
  unfold f_C_addBog_18 at h
  cases h
  exact a_throwS (E := "java/lang/IllegalArgumentException") (i := 18) hB (by decide) cl_C_104 ini_1 rfl at_C_108 rfl e_C_addBog_18 e_C_addBog_21 e_C_addBog_22 e_C_addBog_24 e_C_addBog_27 (by decide) (by decide) (by decide) (by decide)
set_option maxRecDepth 100000 in
theorem t_C_addBog {G : Gt} {φ : Ph} {B : Bag} (hB : BF G I_C_addBog B) (hF : SF 134 φ)    {o : Nat ⊕ Int32} {M9 : Mm} {l1 : Int32} {l2 : Int32} {M : Mm} (h : f_C_addBog l1 l2 M = some (o, M9)) : AW G I_C_addBog B (QM G I_C_addBog B (oSi o) M9 (pS o φ)) 0 0 0 [(0, .ref 0), (1, .int l1), (2, .int l2)] [] M φ := by
  unfold f_C_addBog at h
  refine a_iload_n (j := 1) hB e_C_addBog_0 rfl rfl ?_
  obtain ⟨r1, hr1, h⟩ := bn_i h
  refine a_ret (v := (some (.int r1))) (M1 := M) (φ1 := φ) (st1 := [.int r1]) (j1 := 0) (j2 := 0) (ar_S (As := [.int l1]) (rest := []) hB (c_C_isBearing (bf_G hB) hF hr1) ml_C_133 md_C_isBearing rfl rfl (Nat.le_of_ble_eq_true rfl) rm_C_addBog_C_isBearing e_C_addBog_1) rfl rfl rfl ?_
  refine a_if_eq (tgt := 18) hB e_C_addBog_4 (by decide) (fun c => ?_) (fun c => ?_)
  · have h := ip c h
    refine a_ls [] (ls' := []) rfl ?_
    exact t_C_addBog_18 hB hF h
  · have h := iq c h
    refine a_iload_n (j := 2) hB e_C_addBog_7 rfl rfl ?_
    refine a_iconst (v := 1) hB e_C_addBog_8 ic_1 ?_
    refine a_sipush (v := 999) hB e_C_addBog_9 sp_999 ?_
    obtain ⟨r12, hr12, h⟩ := bn_i h
    refine a_ret (v := (some (.int r12))) (M1 := M) (φ1 := φ) (st1 := [.int r12]) (j1 := 0) (j2 := 0) (ar_S (As := [.int l2, .int (1 : Int32), .int (999 : Int32)]) (rest := []) hB (c_C_isBetween (bf_G hB) hF hr12) ml_C_100 md_C_isBetween rfl rfl (Nat.le_of_ble_eq_true rfl) rm_C_addBog_C_isBetween e_C_addBog_12) rfl rfl rfl ?_
    refine a_if_ne (tgt := 28) hB e_C_addBog_15 (by decide) (fun c => ?_) (fun c => ?_)
    · have h := iq c h
      refine a_aload_n (j := 0) hB e_C_addBog_28 rfl rfl ?_
      rcases bti_i h with ⟨e29, hr29, rfl, hz⟩ | ⟨r29, hr29, h⟩
      · obtain rfl := hz.symm
        exact a_thr (E := exS e29) (M1 := M) (φ1 := dirt φ) hB (ar_V (As := []) (rest := []) hB (c_C_nameForNextLeg (bf_G hB) hF hr29) ml_C_139 md_C_nameForNextLeg rc_C_nameForNextLeg (sf_lt hF (by decide)) kk_0 rfl rfl (Nat.le_of_ble_eq_true rfl) rm_C_addBog_C_nameForNextLeg e_C_addBog_29) rfl (by decide) (by decide)
      · refine a_ret (v := (some (.int r29))) (M1 := M) (φ1 := φ) (st1 := [.int r29]) (j1 := 1) (j2 := 6) (ar_V (As := []) (rest := []) hB (c_C_nameForNextLeg (bf_G hB) hF hr29) ml_C_139 md_C_nameForNextLeg rc_C_nameForNextLeg (sf_lt hF (by decide)) kk_0 rfl rfl (Nat.le_of_ble_eq_true rfl) rm_C_addBog_C_nameForNextLeg e_C_addBog_29) rfl rfl rfl ?_
        refine a_istore_n (ls' := [(3, .int r29), (0, .ref 0), (1, .int l1), (2, .int l2)]) hB e_C_addBog_32 rfl (Nat.le_of_ble_eq_true rfl) rfl ?_
        refine a_aload_n (j := 1) hB e_C_addBog_33 rfl rfl ?_
        obtain ⟨M34, hr34, h⟩ := bn_i h
        refine a_ret (v := none) (M1 := M34) (φ1 := φ) (st1 := []) (j1 := 1) (j2 := 6) (ar_V (As := []) (rest := []) hB (c_C_remember (bf_G hB) hF hr34) ml_C_130 md_C_remember rc_C_remember (sf_lt hF (by decide)) kk_0 rfl rfl (Nat.le_of_ble_eq_true rfl) rm_C_addBog_C_remember_1_6 e_C_addBog_34) rfl rfl rfl ?_
        refine a_aload_n (j := 1) hB e_C_addBog_37 rfl rfl ?_
        refine a_getR (r := 15) (k := 7) hB e_C_addBog_38 fl_C_39 (sf_lt hF (by decide)) kk_0 tt_0_7 (hF.1 _ _) ?_
        refine a_iload_n (j := 0) hB e_C_addBog_41 rfl rfl ?_
        refine a_iload_n (j := 2) hB e_C_addBog_42 rfl rfl ?_
        refine a_iload_n (j := 3) hB e_C_addBog_43 rfl rfl ?_
        obtain ⟨M44, hr44, h⟩ := bn_i h
        refine a_ret (v := none) (M1 := M44) (φ1 := φ) (st1 := []) (j1 := 1) (j2 := 6) (ar_V (As := [.int r29, .int l1, .int l2]) (rest := []) hB (c_S_addPaced (bf_G hB) hF sv_15 hr44) ml_C_148 md_S_addPaced rc_S_addPaced (sf_lt hF (by decide)) kk_15 rfl rfl (Nat.le_of_ble_eq_true rfl) rm_C_addBog_S_addPaced_1_6 e_C_addBog_44) rfl rfl rfl ?_
        refine a_aload_n (j := 1) hB e_C_addBog_47 rfl rfl ?_
        refine a_getR (r := 15) (k := 7) hB e_C_addBog_48 fl_C_39 (sf_lt hF (by decide)) kk_0 tt_0_7 (hF.1 _ _) ?_
        refine a_getI (k := 9) hB e_C_addBog_51 fl_C_115 (sf_lt hF (by decide)) kk_15 tt_15_9 ?_
        refine a_iconst (v := 1) hB e_C_addBog_54 ic_1 ?_
        refine a_isub hB e_C_addBog_55 ?_
        cases h
        exact a_iret hB rfl e_C_addBog_56 (by decide) (by decide)
    · have h := ip c h
      refine a_ls [] (ls' := []) rfl ?_
      exact t_C_addBog_18 hB hF h
set_option maxRecDepth 100000 in
theorem c_C_addBog {G : Gt} (hG : GOK G) {φ : Ph} (hF : SF 134 φ)   {M : Mm} {l1 : Int32} {l2 : Int32} {o : Nat ⊕ Int32} {M9 : Mm} (h : f_C_addBog l1 l2 M = some (o, M9)) : CT G I_C_addBog [.ref 0, .int l1, .int l2] M φ (oSi o) M9 (pS o φ) :=
  ct_of hG (by decide) (Nat.le_of_ble_eq_true rfl) (fun B hB => t_C_addBog hB hF  h)
set_option maxRecDepth 100000 in
theorem t_C_requireLeg {G : Gt} {φ : Ph} {B : Bag} (hB : BF G I_C_requireLeg B) (hF : SF 134 φ)   {M : Mm} {o : Nat ⊕ Unit} {l1 : Int32}  (h : f_C_requireLeg M l1 = some o) : AW G I_C_requireLeg B (QM G I_C_requireLeg B (oSv o) M (pS o φ)) 0 0 0 [(0, .ref 0), (1, .int l1)] [] M φ := by
  unfold f_C_requireLeg at h
  refine a_iload_n (j := 1) hB e_C_requireLeg_0 rfl rfl ?_
  refine a_iconst (v := 0) hB e_C_requireLeg_1 ic_0 ?_
  refine a_aload_n (j := 0) hB e_C_requireLeg_2 rfl rfl ?_
  refine a_getR (r := 15) (k := 7) hB e_C_requireLeg_3 fl_C_39 (sf_lt hF (by decide)) kk_0 tt_0_7 (hF.1 _ _) ?_
  refine a_getI (k := 9) hB e_C_requireLeg_6 fl_C_115 (sf_lt hF (by decide)) kk_15 tt_15_9 ?_
  refine a_iconst (v := 1) hB e_C_requireLeg_9 ic_1 ?_
  refine a_isub hB e_C_requireLeg_10 ?_
  obtain ⟨r11, hr11, h⟩ := bn_i h
  refine a_ret (v := (some (.int r11))) (M1 := M) (φ1 := φ) (st1 := [.int r11]) (j1 := 0) (j2 := 0) (ar_S (As := [.int l1, .int (0 : Int32), .int ((M 15 9) - (1 : Int32))]) (rest := []) hB (c_C_isBetween (bf_G hB) hF hr11) ml_C_100 md_C_isBetween rfl rfl (Nat.le_of_ble_eq_true rfl) rm_C_requireLeg_C_isBetween e_C_requireLeg_11) rfl rfl rfl ?_
  refine a_if_ne (tgt := 28) hB e_C_requireLeg_14 (by decide) (fun c => ?_) (fun c => ?_)
  · have h := iq c h
    cases h
    exact a_vret hB rfl e_C_requireLeg_28 (by decide) (by decide)
  · have h := ip c h
    cases h
    exact a_throwSW (E := "java/lang/IndexOutOfBoundsException") (i := 19) hB (by decide) cl_C_336 ini_3 rfl at_C_340 rfl e_C_requireLeg_17 e_C_requireLeg_20 e_C_requireLeg_21 e_C_requireLeg_24 e_C_requireLeg_27 (by decide) (by decide) (by decide) (by decide)
set_option maxRecDepth 100000 in
theorem c_C_requireLeg {G : Gt} (hG : GOK G) {φ : Ph} (hF : SF 134 φ)   {M : Mm} {l1 : Int32} {o : Nat ⊕ Unit} (h : f_C_requireLeg M l1 = some o) : CT G I_C_requireLeg [.ref 0, .int l1] M φ (oSv o) M (pS o φ) :=
  ct_of hG (by decide) (Nat.le_of_ble_eq_true rfl) (fun B hB => t_C_requireLeg hB hF  h)
set_option maxRecDepth 100000 in
theorem t_C_dropPin {G : Gt} {φ : Ph} {B : Bag} (hB : BF G I_C_dropPin B) (hF : SF 134 φ)    {o : Nat ⊕ Int32} {M9 : Mm} {l1 : Int32} {M : Mm} (h : f_C_dropPin l1 M = some (o, M9)) : AW G I_C_dropPin B (QM G I_C_dropPin B (oSi o) M9 (pS o φ)) 0 0 0 [(0, .ref 0), (1, .int l1)] [] M φ := by
  unfold f_C_dropPin at h
  refine a_aload_n (j := 0) hB e_C_dropPin_0 rfl rfl ?_
  refine a_iload_n (j := 1) hB e_C_dropPin_1 rfl rfl ?_
  rcases bti_i h with ⟨e2, hr2, rfl, hz⟩ | ⟨r2, hr2, h⟩
  · obtain rfl := hz.symm
    exact a_thr (E := exS e2) (M1 := M) (φ1 := dirt φ) hB (ar_V (As := [.int l1]) (rest := []) hB (c_C_requireLeg (bf_G hB) hF hr2) ml_C_163 md_C_requireLeg rc_C_requireLeg (sf_lt hF (by decide)) kk_0 rfl rfl (Nat.le_of_ble_eq_true rfl) rm_C_dropPin_C_requireLeg e_C_dropPin_2) rfl (by decide) (by decide)
  · refine a_ret (v := none) (M1 := M) (φ1 := φ) (st1 := []) (j1 := 1) (j2 := 6) (ar_V (As := [.int l1]) (rest := []) hB (c_C_requireLeg (bf_G hB) hF hr2) ml_C_163 md_C_requireLeg rc_C_requireLeg (sf_lt hF (by decide)) kk_0 rfl rfl (Nat.le_of_ble_eq_true rfl) rm_C_dropPin_C_requireLeg e_C_dropPin_2) rfl rfl rfl ?_
    refine a_aload_n (j := 0) hB e_C_dropPin_5 rfl rfl ?_
    refine a_getR (r := 15) (k := 7) hB e_C_dropPin_6 fl_C_39 (sf_lt hF (by decide)) kk_0 tt_0_7 (hF.1 _ _) ?_
    refine a_iload_n (j := 1) hB e_C_dropPin_9 rfl rfl ?_
    obtain ⟨r10, hr10, h⟩ := bn_i h
    refine a_ret (v := (some (.int r10))) (M1 := M) (φ1 := φ) (st1 := [.int r10]) (j1 := 1) (j2 := 6) (ar_V (As := [.int l1]) (rest := []) hB (c_S_canDrop (bf_G hB) hF sv_15 hr10) ml_C_166 md_S_canDrop rc_S_canDrop (sf_lt hF (by decide)) kk_15 rfl rfl (Nat.le_of_ble_eq_true rfl) rm_C_dropPin_S_canDrop_1_6 e_C_dropPin_10) rfl rfl rfl ?_
    refine a_if_ne (tgt := 26) hB e_C_dropPin_13 (by decide) (fun c => ?_) (fun c => ?_)
    · have h := iq c h
      refine a_aload_n (j := 0) hB e_C_dropPin_26 rfl rfl ?_
      obtain ⟨M27, hr27, h⟩ := bn_i h
      refine a_ret (v := none) (M1 := M27) (φ1 := φ) (st1 := []) (j1 := 1) (j2 := 6) (ar_V (As := []) (rest := []) hB (c_C_remember (bf_G hB) hF hr27) ml_C_130 md_C_remember rc_C_remember (sf_lt hF (by decide)) kk_0 rfl rfl (Nat.le_of_ble_eq_true rfl) rm_C_dropPin_C_remember_1_6 e_C_dropPin_27) rfl rfl rfl ?_
      refine a_aload_n (j := 0) hB e_C_dropPin_30 rfl rfl ?_
      refine a_getR (r := 15) (k := 7) hB e_C_dropPin_31 fl_C_39 (sf_lt hF (by decide)) kk_0 tt_0_7 (hF.1 _ _) ?_
      refine a_getR (r := 22) (k := 6) hB e_C_dropPin_34 fl_C_171 (sf_lt hF (by decide)) kk_15 tt_15_6 (hF.1 _ _) ?_
      refine a_iload_n (j := 1) hB e_C_dropPin_37 rfl rfl ?_
      refine a_dup2 hB e_C_dropPin_38 rfl rfl ?_
      obtain ⟨c39, h⟩ := chk_i h
      refine a_iald' hB e_C_dropPin_39 (sf_lt hF (by decide)) kk_22 ll_22 c39 ?_
      refine a_iconst (v := 1) hB e_C_dropPin_40 ic_1 ?_
      refine a_iadd hB e_C_dropPin_41 ?_
      obtain ⟨M42, hM42, h⟩ := bm_i h
      refine a_iast' hB e_C_dropPin_42 (sf_lt hF (by decide)) kk_22 ll_22 c39 ?_
      refine a_mem hM42 ?_
      refine a_aload_n (j := 0) hB e_C_dropPin_43 rfl rfl ?_
      refine a_getR (r := 15) (k := 7) hB e_C_dropPin_44 fl_C_39 (sf_lt hF (by decide)) kk_0 tt_0_7 (hF.1 _ _) ?_
      refine a_getR (r := 22) (k := 6) hB e_C_dropPin_47 fl_C_171 (sf_lt hF (by decide)) kk_15 tt_15_6 (hF.1 _ _) ?_
      refine a_iload_n (j := 1) hB e_C_dropPin_50 rfl rfl ?_
      refine a_iald' hB e_C_dropPin_51 (sf_lt hF (by decide)) kk_22 ll_22 c39 ?_
      cases h
      exact a_iret hB rfl e_C_dropPin_52 (by decide) (by decide)
    · have h := ip c h
      cases h
      exact a_throwS (E := "java/lang/IllegalStateException") (i := 20) hB (by decide) cl_C_152 ini_2 rfl at_C_156 rfl e_C_dropPin_16 e_C_dropPin_19 e_C_dropPin_20 e_C_dropPin_22 e_C_dropPin_25 (by decide) (by decide) (by decide) (by decide)
set_option maxRecDepth 100000 in
theorem c_C_dropPin {G : Gt} (hG : GOK G) {φ : Ph} (hF : SF 134 φ)   {M : Mm} {l1 : Int32} {o : Nat ⊕ Int32} {M9 : Mm} (h : f_C_dropPin l1 M = some (o, M9)) : CT G I_C_dropPin [.ref 0, .int l1] M φ (oSi o) M9 (pS o φ) :=
  ct_of hG (by decide) (Nat.le_of_ble_eq_true rfl) (fun B hB => t_C_dropPin hB hF  h)
set_option maxRecDepth 100000 in
theorem t_C_findPin {G : Gt} {φ : Ph} {B : Bag} (hB : BF G I_C_findPin B) (hF : SF 134 φ)    {o : Nat ⊕ Int32} {M9 : Mm} {l1 : Int32} {M : Mm} (h : f_C_findPin l1 M = some (o, M9)) : AW G I_C_findPin B (QM G I_C_findPin B (oSi o) M9 (pS o φ)) 0 0 0 [(0, .ref 0), (1, .int l1)] [] M φ := by
  unfold f_C_findPin at h
  refine a_aload_n (j := 0) hB e_C_findPin_0 rfl rfl ?_
  refine a_iload_n (j := 1) hB e_C_findPin_1 rfl rfl ?_
  rcases bti_i h with ⟨e2, hr2, rfl, hz⟩ | ⟨r2, hr2, h⟩
  · obtain rfl := hz.symm
    exact a_thr (E := exS e2) (M1 := M) (φ1 := dirt φ) hB (ar_V (As := [.int l1]) (rest := []) hB (c_C_requireLeg (bf_G hB) hF hr2) ml_C_163 md_C_requireLeg rc_C_requireLeg (sf_lt hF (by decide)) kk_0 rfl rfl (Nat.le_of_ble_eq_true rfl) rm_C_findPin_C_requireLeg e_C_findPin_2) rfl (by decide) (by decide)
  · refine a_ret (v := none) (M1 := M) (φ1 := φ) (st1 := []) (j1 := 1) (j2 := 6) (ar_V (As := [.int l1]) (rest := []) hB (c_C_requireLeg (bf_G hB) hF hr2) ml_C_163 md_C_requireLeg rc_C_requireLeg (sf_lt hF (by decide)) kk_0 rfl rfl (Nat.le_of_ble_eq_true rfl) rm_C_findPin_C_requireLeg e_C_findPin_2) rfl rfl rfl ?_
    refine a_aload_n (j := 0) hB e_C_findPin_5 rfl rfl ?_
    refine a_getR (r := 15) (k := 7) hB e_C_findPin_6 fl_C_39 (sf_lt hF (by decide)) kk_0 tt_0_7 (hF.1 _ _) ?_
    refine a_iload_n (j := 1) hB e_C_findPin_9 rfl rfl ?_
    obtain ⟨r10, hr10, h⟩ := bn_i h
    refine a_ret (v := (some (.int r10))) (M1 := M) (φ1 := φ) (st1 := [.int r10]) (j1 := 1) (j2 := 6) (ar_V (As := [.int l1]) (rest := []) hB (c_S_canFind (bf_G hB) hF sv_15 hr10) ml_C_175 md_S_canFind rc_S_canFind (sf_lt hF (by decide)) kk_15 rfl rfl (Nat.le_of_ble_eq_true rfl) rm_C_findPin_S_canFind_1_6 e_C_findPin_10) rfl rfl rfl ?_
    refine a_if_ne (tgt := 26) hB e_C_findPin_13 (by decide) (fun c => ?_) (fun c => ?_)
    · have h := iq c h
      refine a_aload_n (j := 0) hB e_C_findPin_26 rfl rfl ?_
      obtain ⟨M27, hr27, h⟩ := bn_i h
      refine a_ret (v := none) (M1 := M27) (φ1 := φ) (st1 := []) (j1 := 1) (j2 := 6) (ar_V (As := []) (rest := []) hB (c_C_remember (bf_G hB) hF hr27) ml_C_130 md_C_remember rc_C_remember (sf_lt hF (by decide)) kk_0 rfl rfl (Nat.le_of_ble_eq_true rfl) rm_C_findPin_C_remember_1_6 e_C_findPin_27) rfl rfl rfl ?_
      refine a_aload_n (j := 0) hB e_C_findPin_30 rfl rfl ?_
      refine a_getR (r := 15) (k := 7) hB e_C_findPin_31 fl_C_39 (sf_lt hF (by decide)) kk_0 tt_0_7 (hF.1 _ _) ?_
      refine a_getR (r := 22) (k := 6) hB e_C_findPin_34 fl_C_171 (sf_lt hF (by decide)) kk_15 tt_15_6 (hF.1 _ _) ?_
      refine a_iload_n (j := 1) hB e_C_findPin_37 rfl rfl ?_
      refine a_dup2 hB e_C_findPin_38 rfl rfl ?_
      obtain ⟨c39, h⟩ := chk_i h
      refine a_iald' hB e_C_findPin_39 (sf_lt hF (by decide)) kk_22 ll_22 c39 ?_
      refine a_iconst (v := 1) hB e_C_findPin_40 ic_1 ?_
      refine a_isub hB e_C_findPin_41 ?_
      obtain ⟨M42, hM42, h⟩ := bm_i h
      refine a_iast' hB e_C_findPin_42 (sf_lt hF (by decide)) kk_22 ll_22 c39 ?_
      refine a_mem hM42 ?_
      refine a_aload_n (j := 0) hB e_C_findPin_43 rfl rfl ?_
      refine a_getR (r := 15) (k := 7) hB e_C_findPin_44 fl_C_39 (sf_lt hF (by decide)) kk_0 tt_0_7 (hF.1 _ _) ?_
      refine a_getR (r := 22) (k := 6) hB e_C_findPin_47 fl_C_171 (sf_lt hF (by decide)) kk_15 tt_15_6 (hF.1 _ _) ?_
      refine a_iload_n (j := 1) hB e_C_findPin_50 rfl rfl ?_
      refine a_iald' hB e_C_findPin_51 (sf_lt hF (by decide)) kk_22 ll_22 c39 ?_
      cases h
      exact a_iret hB rfl e_C_findPin_52 (by decide) (by decide)
    · have h := ip c h
      cases h
      exact a_throwS (E := "java/lang/IllegalStateException") (i := 21) hB (by decide) cl_C_152 ini_2 rfl at_C_156 rfl e_C_findPin_16 e_C_findPin_19 e_C_findPin_20 e_C_findPin_22 e_C_findPin_25 (by decide) (by decide) (by decide) (by decide)
set_option maxRecDepth 100000 in
theorem c_C_findPin {G : Gt} (hG : GOK G) {φ : Ph} (hF : SF 134 φ)   {M : Mm} {l1 : Int32} {o : Nat ⊕ Int32} {M9 : Mm} (h : f_C_findPin l1 M = some (o, M9)) : CT G I_C_findPin [.ref 0, .int l1] M φ (oSi o) M9 (pS o φ) :=
  ct_of hG (by decide) (Nat.le_of_ble_eq_true rfl) (fun B hB => t_C_findPin hB hF  h)
set_option maxRecDepth 100000 in
theorem t_C_removeLast {G : Gt} {φ : Ph} {B : Bag} (hB : BF G I_C_removeLast B) (hF : SF 134 φ)    {o : Nat ⊕ Int32} {M9 : Mm}  {M : Mm} (h : f_C_removeLast M = some (o, M9)) : AW G I_C_removeLast B (QM G I_C_removeLast B (oSi o) M9 (pS o φ)) 0 0 0 [(0, .ref 0)] [] M φ := by
  unfold f_C_removeLast at h
  refine a_aload_n (j := 0) hB e_C_removeLast_0 rfl rfl ?_
  refine a_getR (r := 15) (k := 7) hB e_C_removeLast_1 fl_C_39 (sf_lt hF (by decide)) kk_0 tt_0_7 (hF.1 _ _) ?_
  refine a_getI (k := 9) hB e_C_removeLast_4 fl_C_115 (sf_lt hF (by decide)) kk_15 tt_15_9 ?_
  refine a_if_ne (tgt := 20) hB e_C_removeLast_7 (by decide) (fun c => ?_) (fun c => ?_)
  · have h := iq c h
    refine a_aload_n (j := 0) hB e_C_removeLast_20 rfl rfl ?_
    obtain ⟨M21, hr21, h⟩ := bn_i h
    refine a_ret (v := none) (M1 := M21) (φ1 := φ) (st1 := []) (j1 := 0) (j2 := 0) (ar_V (As := []) (rest := []) hB (c_C_remember (bf_G hB) hF hr21) ml_C_130 md_C_remember rc_C_remember (sf_lt hF (by decide)) kk_0 rfl rfl (Nat.le_of_ble_eq_true rfl) rm_C_removeLast_C_remember e_C_removeLast_21) rfl rfl rfl ?_
    refine a_aload_n (j := 0) hB e_C_removeLast_24 rfl rfl ?_
    refine a_getR (r := 15) (k := 7) hB e_C_removeLast_25 fl_C_39 (sf_lt hF (by decide)) kk_0 tt_0_7 (hF.1 _ _) ?_
    refine a_dup hB e_C_removeLast_28 rfl ?_
    refine a_getI (k := 9) hB e_C_removeLast_29 fl_C_115 (sf_lt hF (by decide)) kk_15 tt_15_9 ?_
    refine a_iconst (v := 1) hB e_C_removeLast_32 ic_1 ?_
    refine a_isub hB e_C_removeLast_33 ?_
    obtain ⟨M34, hM34, h⟩ := bm_i h
    refine a_putI (k := 9) hB e_C_removeLast_34 fw_C_115 (sf_lt hF (by decide)) kk_15 tt_15_9 ?_
    refine a_mem hM34 ?_
    refine a_aload_n (j := 0) hB e_C_removeLast_37 rfl rfl ?_
    refine a_getR (r := 15) (k := 7) hB e_C_removeLast_38 fl_C_39 (sf_lt hF (by decide)) kk_0 tt_0_7 (hF.1 _ _) ?_
    refine a_getI (k := 9) hB e_C_removeLast_41 fl_C_115 (sf_lt hF (by decide)) kk_15 tt_15_9 ?_
    cases h
    exact a_iret hB rfl e_C_removeLast_44 (by decide) (by decide)
  · have h := ip c h
    cases h
    exact a_throwS (E := "java/lang/IllegalStateException") (i := 22) hB (by decide) cl_C_152 ini_2 rfl at_C_156 rfl e_C_removeLast_10 e_C_removeLast_13 e_C_removeLast_14 e_C_removeLast_16 e_C_removeLast_19 (by decide) (by decide) (by decide) (by decide)
set_option maxRecDepth 100000 in
theorem c_C_removeLast {G : Gt} (hG : GOK G) {φ : Ph} (hF : SF 134 φ)   {M : Mm}  {o : Nat ⊕ Int32} {M9 : Mm} (h : f_C_removeLast M = some (o, M9)) : CT G I_C_removeLast [.ref 0] M φ (oSi o) M9 (pS o φ) :=
  ct_of hG (by decide) (Nat.le_of_ble_eq_true rfl) (fun B hB => t_C_removeLast hB hF  h)
set_option maxRecDepth 100000 in
theorem t_C_setWear {G : Gt} {φ : Ph} {B : Bag} (hB : BF G I_C_setWear B) (hF : SF 134 φ)    {o : Nat ⊕ Int32} {M9 : Mm} {l1 : Int32} {M : Mm} (h : f_C_setWear l1 M = some (o, M9)) : AW G I_C_setWear B (QM G I_C_setWear B (oSi o) M9 (pS o φ)) 0 0 0 [(0, .ref 0), (1, .int l1)] [] M φ := by
  unfold f_C_setWear at h
  refine a_iload_n (j := 1) hB e_C_setWear_0 rfl rfl ?_
  refine a_iconst (v := 0) hB e_C_setWear_1 ic_0 ?_
  refine a_sipush (v := 999) hB e_C_setWear_2 sp_999 ?_
  obtain ⟨r5, hr5, h⟩ := bn_i h
  refine a_ret (v := (some (.int r5))) (M1 := M) (φ1 := φ) (st1 := [.int r5]) (j1 := 0) (j2 := 0) (ar_S (As := [.int l1, .int (0 : Int32), .int (999 : Int32)]) (rest := []) hB (c_C_isBetween (bf_G hB) hF hr5) ml_C_100 md_C_isBetween rfl rfl (Nat.le_of_ble_eq_true rfl) rm_C_setWear_C_isBetween e_C_setWear_5) rfl rfl rfl ?_
  refine a_if_ne (tgt := 21) hB e_C_setWear_8 (by decide) (fun c => ?_) (fun c => ?_)
  · have h := iq c h
    refine a_aload_n (j := 0) hB e_C_setWear_21 rfl rfl ?_
    refine a_getR (r := 15) (k := 7) hB e_C_setWear_22 fl_C_39 (sf_lt hF (by decide)) kk_0 tt_0_7 (hF.1 _ _) ?_
    refine a_getI (k := 10) hB e_C_setWear_25 fl_C_184 (sf_lt hF (by decide)) kk_15 tt_15_10 ?_
    refine a_istore_n (ls' := [(2, .int (M 15 10)), (0, .ref 0), (1, .int l1)]) hB e_C_setWear_28 rfl (Nat.le_of_ble_eq_true rfl) rfl ?_
    refine a_aload_n (j := 1) hB e_C_setWear_29 rfl rfl ?_
    obtain ⟨M30, hr30, h⟩ := bn_i h
    refine a_ret (v := none) (M1 := M30) (φ1 := φ) (st1 := []) (j1 := 0) (j2 := 0) (ar_V (As := []) (rest := []) hB (c_C_remember (bf_G hB) hF hr30) ml_C_130 md_C_remember rc_C_remember (sf_lt hF (by decide)) kk_0 rfl rfl (Nat.le_of_ble_eq_true rfl) rm_C_setWear_C_remember e_C_setWear_30) rfl rfl rfl ?_
    refine a_aload_n (j := 1) hB e_C_setWear_33 rfl rfl ?_
    refine a_getR (r := 15) (k := 7) hB e_C_setWear_34 fl_C_39 (sf_lt hF (by decide)) kk_0 tt_0_7 (hF.1 _ _) ?_
    refine a_iload_n (j := 2) hB e_C_setWear_37 rfl rfl ?_
    obtain ⟨M38, hM38, h⟩ := bm_i h
    refine a_putI (k := 10) hB e_C_setWear_38 fw_C_184 (sf_lt hF (by decide)) kk_15 tt_15_10 ?_
    refine a_mem hM38 ?_
    refine a_iload_n (j := 0) hB e_C_setWear_41 rfl rfl ?_
    cases h
    exact a_iret hB rfl e_C_setWear_42 (by decide) (by decide)
  · have h := ip c h
    cases h
    exact a_throwS (E := "java/lang/IllegalArgumentException") (i := 23) hB (by decide) cl_C_104 ini_1 rfl at_C_108 rfl e_C_setWear_11 e_C_setWear_14 e_C_setWear_15 e_C_setWear_17 e_C_setWear_20 (by decide) (by decide) (by decide) (by decide)
set_option maxRecDepth 100000 in
theorem c_C_setWear {G : Gt} (hG : GOK G) {φ : Ph} (hF : SF 134 φ)   {M : Mm} {l1 : Int32} {o : Nat ⊕ Int32} {M9 : Mm} (h : f_C_setWear l1 M = some (o, M9)) : CT G I_C_setWear [.ref 0, .int l1] M φ (oSi o) M9 (pS o φ) :=
  ct_of hG (by decide) (Nat.le_of_ble_eq_true rfl) (fun B hB => t_C_setWear hB hF  h)
