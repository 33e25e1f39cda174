/-! the functions are what the machine does -/
set_option maxRecDepth 100000 in
theorem t_I_readsHead {G : Gt} {φ : Ph} {B : Bag} (hB : BF G I_I_readsHead B) (hF : SF 134 φ)    {o : Int32} {M9 : Mm}  {M : Mm} (h : f_I_readsHead M = some (o, M9)) : AW G I_I_readsHead B (QM G I_I_readsHead B (.inl (some (.int o))) M9 φ) 0 0 0 [(0, .ref 1)] [] M φ := by
  unfold f_I_readsHead at h
  refine a_aload_n (j := 0) hB e_I_readsHead_0 rfl rfl ?_
  refine a_getR (r := 4) (k := 1) hB e_I_readsHead_1 fl_I_21 (sf_lt hF (by decide)) kk_1 tt_1_1 (hF.1 _ _) ?_
  obtain ⟨M4, hr4, h⟩ := bn_i h
  refine a_ret (v := none) (M1 := M4) (φ1 := φ) (st1 := []) (j1 := 0) (j2 := 0) (ar_V (As := []) (rest := []) hB (c_S_clear (bf_G hB) hF sv_4 hr4) ml_I_39 md_S_clear rc_S_clear (sf_lt hF (by decide)) kk_4 rfl rfl (Nat.le_of_ble_eq_true rfl) rm_I_readsHead_S_clear e_I_readsHead_4) rfl rfl rfl ?_
  refine a_aload_n (j := 0) hB e_I_readsHead_7 rfl rfl ?_
  refine a_getR (r := 2) (k := 0) hB e_I_readsHead_8 fl_I_12 (sf_lt hF (by decide)) kk_1 tt_1_0 (hF.1 _ _) ?_
  refine a_ldcS (i := 1) hB rfl e_I_readsHead_11 ?_
  obtain ⟨r13, hr13, h⟩ := bn_i h
  refine a_ret (v := (some (.int r13))) (M1 := M4) (φ1 := φ) (st1 := [.int r13]) (j1 := 0) (j2 := 0) (ar_V (As := [.ref (1000 + 1)]) (rest := []) hB (c_L_isAt (bf_G hB) hF (by decide) hr13) ml_I_43 md_L_isAt rc_L_isAt (sf_lt hF (by decide)) kk_2 rfl rfl (Nat.le_of_ble_eq_true rfl) rm_I_readsHead_L_isAt e_I_readsHead_13) rfl rfl rfl ?_
  refine a_if_ne (tgt := 25) hB e_I_readsHead_16 (by decide) (fun c => ?_) (fun c => ?_)
  · have h := iq c h
    refine a_aload_n (j := 0) hB e_I_readsHead_25 rfl rfl ?_
    refine a_getR (r := 2) (k := 0) hB e_I_readsHead_26 fl_I_12 (sf_lt hF (by decide)) kk_1 tt_1_0 (hF.1 _ _) ?_
    obtain ⟨M29, hr29, h⟩ := bn_i h
    refine a_ret (v := none) (M1 := M29) (φ1 := φ) (st1 := []) (j1 := 0) (j2 := 0) (ar_V (As := []) (rest := []) hB (c_L_advance (bf_G hB) hF hr29) ml_I_51 md_L_advance rc_L_advance (sf_lt hF (by decide)) kk_2 rfl rfl (Nat.le_of_ble_eq_true rfl) rm_I_readsHead_L_advance e_I_readsHead_29) rfl rfl rfl ?_
    refine a_aload_n (j := 0) hB e_I_readsHead_32 rfl rfl ?_
    obtain ⟨r33, M33, hr33, h⟩ := bn2_i h
    refine a_ret (v := (some (.int r33))) (M1 := M33) (φ1 := φ) (st1 := [.int r33]) (j1 := 0) (j2 := 0) (ar_V (As := []) (rest := []) hB (c_I_readsWear (bf_G hB) hF hr33) ml_I_54 md_I_readsWear rc_I_readsWear (sf_lt hF (by decide)) kk_1 rfl rfl (Nat.le_of_ble_eq_true rfl) rm_I_readsHead_I_readsWear e_I_readsHead_33) rfl rfl rfl ?_
    refine a_if_eq (tgt := 57) hB e_I_readsHead_36 (by decide) (fun c => ?_) (fun c => ?_)
    · have h := ip c h
      refine a_ls [] (ls' := []) rfl ?_
      exact t_I_readsHead_57 hB hF h
    · have h := iq c h
      refine a_aload_n (j := 0) hB e_I_readsHead_39 rfl rfl ?_
      obtain ⟨r40, M40, hr40, h⟩ := bn2_i h
      refine a_ret (v := (some (.int r40))) (M1 := M40) (φ1 := φ) (st1 := [.int r40]) (j1 := 0) (j2 := 0) (ar_V (As := []) (rest := []) hB (c_I_readsPace (bf_G hB) hF hr40) ml_I_58 md_I_readsPace rc_I_readsPace (sf_lt hF (by decide)) kk_1 rfl rfl (Nat.le_of_ble_eq_true rfl) rm_I_readsHead_I_readsPace e_I_readsHead_40) rfl rfl rfl ?_
      refine a_if_eq (tgt := 57) hB e_I_readsHead_43 (by decide) (fun c => ?_) (fun c => ?_)
      · have h := ip c h
        refine a_ls [] (ls' := []) rfl ?_
        exact t_I_readsHead_57 hB hF h
      · have h := iq c h
        refine a_aload_n (j := 0) hB e_I_readsHead_46 rfl rfl ?_
        obtain ⟨r47, M47, hr47, h⟩ := bn2_i h
        refine a_ret (v := (some (.int r47))) (M1 := M47) (φ1 := φ) (st1 := [.int r47]) (j1 := 0) (j2 := 0) (ar_V (As := []) (rest := []) hB (c_I_readsSemicolon (bf_G hB) hF hr47) ml_I_61 md_I_readsSemicolon rc_I_readsSemicolon (sf_lt hF (by decide)) kk_1 rfl rfl (Nat.le_of_ble_eq_true rfl) rm_I_readsHead_I_readsSemicolon e_I_readsHead_47) rfl rfl rfl ?_
        refine a_if_eq (tgt := 57) hB e_I_readsHead_50 (by decide) (fun c => ?_) (fun c => ?_)
        · have h := ip c h
          refine a_ls [] (ls' := []) rfl ?_
          exact t_I_readsHead_57 hB hF h
        · have h := iq c h
          refine a_iconst (v := 1) hB e_I_readsHead_53 ic_1 ?_
          refine a_goto (tgt := 58) hB e_I_readsHead_54 (by decide) ?_
          refine a_ls [] (ls' := []) rfl ?_
          exact t_I_readsHead_58 hB hF h
  · have h := ip c h
    refine a_aload_n (j := 0) hB e_I_readsHead_19 rfl rfl ?_
    refine a_iconst (v := 1) hB e_I_readsHead_20 ic_1 ?_
    obtain ⟨r21, M21, hr21, h⟩ := bn2_i h
    refine a_ret (v := (some (.int r21))) (M1 := M21) (φ1 := φ) (st1 := [.int r21]) (j1 := 0) (j2 := 0) (ar_V (As := [.int (1 : Int32)]) (rest := []) hB (c_I_fail (bf_G hB) hF hr21) ml_I_47 md_I_fail rc_I_fail (sf_lt hF (by decide)) kk_1 rfl rfl (Nat.le_of_ble_eq_true rfl) rm_I_readsHead_I_fail e_I_readsHead_21) rfl rfl rfl ?_
    obtain ⟨z24, h⟩ := chk_i h
    cases h
    exact a_zret hB rfl z24 e_I_readsHead_24 (by decide) (by decide)
set_option maxRecDepth 100000 in
theorem c_I_readsHead {G : Gt} (hG : GOK G) {φ : Ph} (hF : SF 134 φ)   {M : Mm}  {o : Int32} {M9 : Mm} (h : f_I_readsHead M = some (o, M9)) : CT G I_I_readsHead [.ref 1] M φ (.inl (some (.int o))) M9 φ :=
  ct_of hG (by decide) (Nat.le_of_ble_eq_true rfl) (fun B hB => t_I_readsHead hB hF  h)
set_option maxRecDepth 100000 in
theorem t_C_packedName_13 {G : Gt} {φ : Ph} {B : Bag} (hB : BF G I_C_packedName B) (hF : SF 134 φ)   {M : Mm} {o : Int32}   (h : f_C_packedName_13 M = some o) : AW G I_C_packedName B (QM G I_C_packedName B (.inl (some (.int o))) M φ) 0 0 13 [] [] M φ := by
  unfold f_C_packedName_13 at h
  refine a_iconst (v := -1) hB e_C_packedName_13 ic_m1 ?_
  cases h
  exact a_iret hB rfl e_C_packedName_14 (by decide) (by decide)
set_option maxRecDepth 100000 in
theorem t_C_packedName_48 {G : Gt} {φ : Ph} {B : Bag} (hB : BF G I_C_packedName B) (hF : SF 134 φ)   {M : Mm} {o : Int32}   (h : f_C_packedName_48 M = some o) : AW G I_C_packedName B (QM G I_C_packedName B (.inl (some (.int o))) M φ) 0 0 48 [] [] M φ := by
  unfold f_C_packedName_48 at h
  refine a_iconst (v := -1) hB e_C_packedName_48 ic_m1 ?_
  cases h
  exact a_iret hB rfl e_C_packedName_49 (by decide) (by decide)
set_option maxRecDepth 100000 in
theorem t_C_packedName_20 {G : Gt} {φ : Ph} {B : Bag} (hB : BF G I_C_packedName B) (hF : SF 134 φ)   {M : Mm} {o : Int32} : ∀ (n : Nat) (l2 : Int32) (l3 : Int32) (l4 : Int32), f_C_packedName_20 M n l2 l3 l4 = some o → AW G I_C_packedName B (QM G I_C_packedName B (.inl (some (.int o))) M φ) 0 0 20 [(0, .ref 3), (2, .int l2), (3, .int l3), (4, .int l4)] [] M φ := by
  intro n
  induction n with
  | zero => intro l2 l3 l4 h; cases h
  | succ n hr20 =>
    intro l2 l3 l4 h
    rw [f_C_packedName_20] at h
    refine a_iload (j := 3) hB e_C_packedName_20 rfl ?_
    refine a_iload_n (j := 1) hB e_C_packedName_22 rfl rfl ?_
    refine a_icmp_ge (tgt := 63) hB e_C_packedName_23 (by decide) (fun c => ?_) (fun c => ?_)
    · have h := ip c h
      refine a_iload_n (j := 2) hB e_C_packedName_63 rfl rfl ?_
      cases h
      exact a_iret hB rfl e_C_packedName_64 (by decide) (by decide)
    · have h := iq c h
      refine a_aload_n (j := 0) hB e_C_packedName_26 rfl rfl ?_
      refine a_iload (j := 3) hB e_C_packedName_27 rfl ?_
      obtain ⟨c29, h⟩ := chk_i h
      refine a_bald' hB e_C_packedName_29 (sf_lt hF (by decide)) kk_3 ll_3 c29 ?_
      refine a_bipush (v := 96) hB e_C_packedName_30 bp_96 ?_
      refine a_isub hB e_C_packedName_32 ?_
      refine a_istore (ls' := [(5, .int ((M 3 (ix l4)) - (96 : Int32))), (0, .ref 3), (2, .int l2), (3, .int l3), (4, .int l4)]) hB e_C_packedName_33 (Nat.le_of_ble_eq_true rfl) rfl ?_
      refine a_iload (j := 0) hB e_C_packedName_35 rfl ?_
      refine a_iconst (v := 1) hB e_C_packedName_37 ic_1 ?_
      refine a_icmp_lt (tgt := 48) hB e_C_packedName_38 (by decide) (fun c => ?_) (fun c => ?_)
      · have h := ip c h
        refine a_ls [] (ls' := []) rfl ?_
        exact t_C_packedName_48 hB hF h
      · have h := iq c h
        refine a_iload (j := 0) hB e_C_packedName_41 rfl ?_
        refine a_bipush (v := 26) hB e_C_packedName_43 bp_26 ?_
        refine a_icmp_le (tgt := 50) hB e_C_packedName_45 (by decide) (fun c => ?_) (fun c => ?_)
        · have h := ip c h
          refine a_iload_n (j := 3) hB e_C_packedName_50 rfl rfl ?_
          refine a_iconst (v := 5) hB e_C_packedName_51 ic_5 ?_
          refine a_ishl hB e_C_packedName_52 ?_
          refine a_iload (j := 0) hB e_C_packedName_53 rfl ?_
          refine a_iadd hB e_C_packedName_55 ?_
          refine a_istore_n (ls' := [(3, .int ((l3 <<< ((5 : Int32) &&& 31)) + ((M 3 (ix l4)) - (96 : Int32)))), (5, .int ((M 3 (ix l4)) - (96 : Int32))), (0, .ref 3), (2, .int l2), (4, .int l4)]) hB e_C_packedName_56 rfl (Nat.le_of_ble_eq_true rfl) rfl ?_
          refine a_iinc (j := 4) (v := l4 + 1) (ls' := [(4, .int (l4 + 1)), (3, .int ((l3 <<< ((5 : Int32) &&& 31)) + ((M 3 (ix l4)) - (96 : Int32)))), (5, .int ((M 3 (ix l4)) - (96 : Int32))), (0, .ref 3), (2, .int l2)]) hB e_C_packedName_57 rfl (inc_1 _) (Nat.le_of_ble_eq_true rfl) rfl ?_
          refine a_goto (tgt := 20) hB e_C_packedName_60 (by decide) ?_
          refine a_ls [3, 4, 1, 0] (ls' := [(0, .ref 3), (2, .int l2), (3, .int ((l3 <<< ((5 : Int32) &&& 31)) + ((M 3 (ix l4)) - (96 : Int32)))), (4, .int (l4 + 1))]) rfl ?_
          exact hr20 _ _ _ h
        · have h := iq c h
          refine a_ls [] (ls' := []) rfl ?_
          exact t_C_packedName_48 hB hF h
set_option maxRecDepth 100000 in
theorem t_C_packedName {G : Gt} {φ : Ph} {B : Bag} (hB : BF G I_C_packedName B) (hF : SF 134 φ)   {M : Mm} {o : Int32} {l1 : Int32} {l2 : Int32}  (h : f_C_packedName M l1 l2 = some o) : AW G I_C_packedName B (QM G I_C_packedName B (.inl (some (.int o))) M φ) 0 0 0 [(0, .ref 3), (1, .int l1), (2, .int l2)] [] M φ := by
  unfold f_C_packedName at h
  refine a_iload_n (j := 1) hB e_C_packedName_0 rfl rfl ?_
  refine a_iload_n (j := 2) hB e_C_packedName_1 rfl rfl ?_
  refine a_icmp_ge (tgt := 13) hB e_C_packedName_2 (by decide) (fun c => ?_) (fun c => ?_)
  · have h := ip c h
    refine a_ls [] (ls' := []) rfl ?_
    exact t_C_packedName_13 hB hF h
  · have h := iq c h
    refine a_iload_n (j := 2) hB e_C_packedName_5 rfl rfl ?_
    refine a_iload_n (j := 1) hB e_C_packedName_6 rfl rfl ?_
    refine a_isub hB e_C_packedName_7 ?_
    refine a_bipush (v := 6) hB e_C_packedName_8 bp_6 ?_
    refine a_icmp_le (tgt := 15) hB e_C_packedName_10 (by decide) (fun c => ?_) (fun c => ?_)
    · have h := ip c h
      refine a_iconst (v := 0) hB e_C_packedName_15 ic_0 ?_
      refine a_istore_n (ls' := [(3, .int (0 : Int32)), (0, .ref 3), (1, .int l1), (2, .int l2)]) hB e_C_packedName_16 rfl (Nat.le_of_ble_eq_true rfl) rfl ?_
      refine a_iload_n (j := 2) hB e_C_packedName_17 rfl rfl ?_
      refine a_istore (ls' := [(4, .int l1), (3, .int (0 : Int32)), (0, .ref 3), (1, .int l1), (2, .int l2)]) hB e_C_packedName_18 (Nat.le_of_ble_eq_true rfl) rfl ?_
      refine a_ls [2, 4, 1, 0] (ls' := [(0, .ref 3), (2, .int l2), (3, .int (0 : Int32)), (4, .int l1)]) rfl ?_
      exact t_C_packedName_20 hB hF _ _ _ _ h
    · have h := iq c h
      refine a_ls [] (ls' := []) rfl ?_
      exact t_C_packedName_13 hB hF h
set_option maxRecDepth 100000 in
theorem c_C_packedName {G : Gt} (hG : GOK G) {φ : Ph} (hF : SF 134 φ)   {M : Mm} {l1 : Int32} {l2 : Int32} {o : Int32} (h : f_C_packedName M l1 l2 = some o) : CT G I_C_packedName [.ref 3, .int l1, .int l2] M φ (.inl (some (.int o))) M φ :=
  ct_of hG (by decide) (Nat.le_of_ble_eq_true rfl) (fun B hB => t_C_packedName hB hF  h)
set_option maxRecDepth 100000 in
theorem t_I_nameHere_51 {G : Gt} {φ : Ph} {B : Bag} (hB : BF G I_I_nameHere B) (hF : SF 134 φ)    {o : Int32} {M9 : Mm} {l1 : Int32} {M : Mm} (h : f_I_nameHere_51 l1 M = some (o, M9)) : AW G I_I_nameHere B (QM G I_I_nameHere B (.inl (some (.int o))) M9 φ) 0 0 51 [(1, .int l1)] [] M φ := by
  unfold f_I_nameHere_51 at h
  refine a_iload_n (j := 0) hB e_I_nameHere_51 rfl rfl ?_
  cases h
  exact a_iret hB rfl e_I_nameHere_52 (by decide) (by decide)
set_option maxRecDepth 100000 in
theorem t_I_nameHere_39 {G : Gt} {φ : Ph} {B : Bag} (hB : BF G I_I_nameHere B) (hF : SF 134 φ)    {o : Int32} {M9 : Mm} {t0 : Int32} {M : Mm} (h : f_I_nameHere_39 t0 M = some (o, M9)) : AW G I_I_nameHere B (QM G I_I_nameHere B (.inl (some (.int o))) M9 φ) 0 0 39 [(0, .ref 1)] [.int t0] M φ := by
  unfold f_I_nameHere_39 at h
  refine a_istore_n (ls' := [(1, .int t0), (0, .ref 1)]) hB e_I_nameHere_39 rfl (Nat.le_of_ble_eq_true rfl) rfl ?_
  refine a_iload_n (j := 0) hB e_I_nameHere_40 rfl rfl ?_
  refine a_iconst (v := -1) hB e_I_nameHere_41 ic_m1 ?_
  refine a_icmp_ne (tgt := 51) hB e_I_nameHere_42 (by decide) (fun c => ?_) (fun c => ?_)
  · have h := iq c h
    refine a_ls [0] (ls' := [(1, .int t0)]) rfl ?_
    exact t_I_nameHere_51 hB hF h
  · have h := ip c h
    refine a_aload_n (j := 1) hB e_I_nameHere_45 rfl rfl ?_
    refine a_iconst (v := 1) hB e_I_nameHere_46 ic_1 ?_
    obtain ⟨r47, M47, hr47, h⟩ := bn2_i h
    refine a_ret (v := (some (.int r47))) (M1 := M47) (φ1 := φ) (st1 := [.int r47]) (j1 := 0) (j2 := 0) (ar_V (As := [.int (1 : Int32)]) (rest := []) hB (c_I_fail (bf_G hB) hF hr47) ml_I_47 md_I_fail rc_I_fail (sf_lt hF (by decide)) kk_1 rfl rfl (Nat.le_of_ble_eq_true rfl) rm_I_nameHere_I_fail e_I_nameHere_47) rfl rfl rfl ?_
    refine a_pop hB e_I_nameHere_50 rfl ?_
    refine a_ls [0] (ls' := [(1, .int t0)]) rfl ?_
    exact t_I_nameHere_51 hB hF h
set_option maxRecDepth 100000 in
theorem t_I_nameHere {G : Gt} {φ : Ph} {B : Bag} (hB : BF G I_I_nameHere B) (hF : SF 134 φ)    {o : Int32} {M9 : Mm}  {M : Mm} (h : f_I_nameHere M = some (o, M9)) : AW G I_I_nameHere B (QM G I_I_nameHere B (.inl (some (.int o))) M9 φ) 0 0 0 [(0, .ref 1)] [] M φ := by
  unfold f_I_nameHere at h
  refine a_aload_n (j := 0) hB e_I_nameHere_0 rfl rfl ?_
  refine a_getR (r := 2) (k := 0) hB e_I_nameHere_1 fl_I_12 (sf_lt hF (by decide)) kk_1 tt_1_0 (hF.1 _ _) ?_
  refine a_getI (k := 2) hB e_I_nameHere_4 fl_I_67 (sf_lt hF (by decide)) kk_2 tt_2_2 ?_
  refine a_iconst (v := 1) hB e_I_nameHere_7 ic_1 ?_
  refine a_icmp_ne (tgt := 38) hB e_I_nameHere_8 (by decide) (fun c => ?_) (fun c => ?_)
  · have h := iq c h
    refine a_iconst (v := -1) hB e_I_nameHere_38 ic_m1 ?_
    exact t_I_nameHere_39 hB hF h
  · have h := ip c h
    refine a_aload_n (j := 0) hB e_I_nameHere_11 rfl rfl ?_
    refine a_getR (r := 2) (k := 0) hB e_I_nameHere_12 fl_I_12 (sf_lt hF (by decide)) kk_1 tt_1_0 (hF.1 _ _) ?_
    refine a_getR (r := 3) (k := 0) hB e_I_nameHere_15 fl_I_165 (sf_lt hF (by decide)) kk_2 tt_2_0 (hF.1 _ _) ?_
    refine a_aload_n (j := 0) hB e_I_nameHere_18 rfl rfl ?_
    refine a_getR (r := 2) (k := 0) hB e_I_nameHere_19 fl_I_12 (sf_lt hF (by decide)) kk_1 tt_1_0 (hF.1 _ _) ?_
    refine a_getI (k := 3) hB e_I_nameHere_22 fl_I_36 (sf_lt hF (by decide)) kk_2 tt_2_3 ?_
    refine a_aload_n (j := 0) hB e_I_nameHere_25 rfl rfl ?_
    refine a_getR (r := 2) (k := 0) hB e_I_nameHere_26 fl_I_12 (sf_lt hF (by decide)) kk_1 tt_1_0 (hF.1 _ _) ?_
    refine a_getI (k := 4) hB e_I_nameHere_29 fl_I_169 (sf_lt hF (by decide)) kk_2 tt_2_4 ?_
    obtain ⟨r32, hr32, h⟩ := bn_i h
    refine a_ret (v := (some (.int r32))) (M1 := M) (φ1 := φ) (st1 := [.int r32]) (j1 := 0) (j2 := 0) (ar_SN (As := [.ref 3, .int (M 2 3), .int (M 2 4)]) (rest := []) hB (c_C_packedName (bf_G hB) hF hr32) mn_I_172 md_C_packedName rfl rfl (Nat.le_of_ble_eq_true rfl) rm_I_nameHere_C_packedName e_I_nameHere_32) rfl rfl rfl ?_
    refine a_goto (tgt := 39) hB e_I_nameHere_35 (by decide) ?_
    exact t_I_nameHere_39 hB hF h
set_option maxRecDepth 100000 in
theorem c_I_nameHere {G : Gt} (hG : GOK G) {φ : Ph} (hF : SF 134 φ)   {M : Mm}  {o : Int32} {M9 : Mm} (h : f_I_nameHere M = some (o, M9)) : CT G I_I_nameHere [.ref 1] M φ (.inl (some (.int o))) M9 φ :=
  ct_of hG (by decide) (Nat.le_of_ble_eq_true rfl) (fun B hB => t_I_nameHere hB hF  h)
set_option maxRecDepth 100000 in
theorem t_S_legNamed_2 {G : Gt} {φ : Ph} {B : Bag} (hB : BF G I_S_legNamed B) (hF : SF 134 φ) {a : Nat} (hs_a : isSv a) {M : Mm} {o : Int32} : ∀ (n : Nat) (l1 : Int32) (l2 : Int32), f_S_legNamed_2 a M n l1 l2 = some o → AW G I_S_legNamed B (QM G I_S_legNamed B (.inl (some (.int o))) M φ) 0 0 2 [(0, .ref a), (1, .int l1), (2, .int l2)] [] M φ := by
  intro n
  induction n with
  | zero => intro l1 l2 h; cases h
  | succ n hr2 =>
    intro l1 l2 h
    rw [f_S_legNamed_2] at h
    refine a_iload_n (j := 2) hB e_S_legNamed_2 rfl rfl ?_
    refine a_aload_n (j := 0) hB e_S_legNamed_3 rfl rfl ?_
    refine a_getI (k := 9) hB e_S_legNamed_4 fl_S_44 (sv_lt hs_a hF (by decide)) (sv_kd hs_a) (sv_t0 hs_a 0 (by decide)) ?_
    refine a_icmp_ge (tgt := 28) hB e_S_legNamed_7 (by decide) (fun c => ?_) (fun c => ?_)
    · have h := ip c h
      refine a_iconst (v := -1) hB e_S_legNamed_28 ic_m1 ?_
      cases h
      exact a_iret hB rfl e_S_legNamed_29 (by decide) (by decide)
    · have h := iq c h
      refine a_aload_n (j := 0) hB e_S_legNamed_10 rfl rfl ?_
      refine a_getR (r := a + 1 + 0) (k := 0) hB e_S_legNamed_11 fl_S_9 (sv_lt hs_a hF (by decide)) (sv_kd hs_a) (sv_t hs_a 0 (by decide)) (hF.1 _ _) ?_
      refine a_iload_n (j := 2) hB e_S_legNamed_14 rfl rfl ?_
      obtain ⟨c15, h⟩ := chk_i h
      refine a_iald' hB e_S_legNamed_15 (sv_la hs_a hF (by decide) 0 (by decide)) (sv_ki hs_a 0 (by decide) (by decide)) (sv_ln hs_a 0 (by decide)) c15 ?_
      refine a_iload_n (j := 1) hB e_S_legNamed_16 rfl rfl ?_
      refine a_icmp_ne (tgt := 22) hB e_S_legNamed_17 (by decide) (fun c => ?_) (fun c => ?_)
      · have h := iq c h
        refine a_iinc (j := 2) (v := l2 + 1) (ls' := [(2, .int (l2 + 1)), (0, .ref a), (1, .int l1)]) hB e_S_legNamed_22 rfl (inc_1 _) (Nat.le_of_ble_eq_true rfl) rfl ?_
        refine a_goto (tgt := 2) hB e_S_legNamed_25 (by decide) ?_
        refine a_ls [1, 2, 0] (ls' := [(0, .ref a), (1, .int l1), (2, .int (l2 + 1))]) rfl ?_
        exact hr2 _ _ h
      · have h := ip c h
        refine a_iload_n (j := 2) hB e_S_legNamed_20 rfl rfl ?_
        cases h
        exact a_iret hB rfl e_S_legNamed_21 (by decide) (by decide)
set_option maxRecDepth 100000 in
theorem t_S_legNamed {G : Gt} {φ : Ph} {B : Bag} (hB : BF G I_S_legNamed B) (hF : SF 134 φ) {a : Nat} (hs_a : isSv a) {M : Mm} {o : Int32} {l1 : Int32}  (h : f_S_legNamed a M l1 = some o) : AW G I_S_legNamed B (QM G I_S_legNamed B (.inl (some (.int o))) M φ) 0 0 0 [(0, .ref a), (1, .int l1)] [] M φ := by
  unfold f_S_legNamed at h
  refine a_iconst (v := 0) hB e_S_legNamed_0 ic_0 ?_
  refine a_istore_n (ls' := [(2, .int (0 : Int32)), (0, .ref a), (1, .int l1)]) hB e_S_legNamed_1 rfl (Nat.le_of_ble_eq_true rfl) rfl ?_
  refine a_ls [1, 2, 0] (ls' := [(0, .ref a), (1, .int l1), (2, .int (0 : Int32))]) rfl ?_
  exact t_S_legNamed_2 hB hF hs_a _ _ _ h
set_option maxRecDepth 100000 in
theorem c_S_legNamed {G : Gt} (hG : GOK G) {φ : Ph} (hF : SF 134 φ) {a : Nat} (hs_a : isSv a) {M : Mm} {l1 : Int32} {o : Int32} (h : f_S_legNamed a M l1 = some o) : CT G I_S_legNamed [.ref a, .int l1] M φ (.inl (some (.int o))) M φ :=
  ct_of hG (by decide) (Nat.le_of_ble_eq_true rfl) (fun B hB => t_S_legNamed hB hF hs_a h)
set_option maxRecDepth 100000 in
theorem t_I_newName_69 {G : Gt} {φ : Ph} {B : Bag} (hB : BF G I_I_newName B) (hF : SF 134 φ)    {o : Int32} {M9 : Mm} {l1 : Int32} {M : Mm} (h : f_I_newName_69 l1 M = some (o, M9)) : AW G I_I_newName B (QM G I_I_newName B (.inl (some (.int o))) M9 φ) 0 0 69 [(1, .int l1)] [] M φ := by
  unfold f_I_newName_69 at h
  refine a_iload_n (j := 0) hB e_I_newName_69 rfl rfl ?_
  cases h
  exact a_iret hB rfl e_I_newName_70 (by decide) (by decide)
set_option maxRecDepth 100000 in
theorem t_I_newName_57 {G : Gt} {φ : Ph} {B : Bag} (hB : BF G I_I_newName B) (hF : SF 134 φ)    {o : Int32} {M9 : Mm} {l1 : Int32} {M : Mm} (h : f_I_newName_57 l1 M = some (o, M9)) : AW G I_I_newName B (QM G I_I_newName B (.inl (some (.int o))) M9 φ) 0 0 57 [(0, .ref 1), (1, .int l1)] [] M φ := by
  unfold f_I_newName_57 at h
  refine a_iload_n (j := 1) hB e_I_newName_57 rfl rfl ?_
  refine a_iconst (v := -1) hB e_I_newName_58 ic_m1 ?_
  refine a_icmp_eq (tgt := 69) hB e_I_newName_59 (by decide) (fun c => ?_) (fun c => ?_)
  · have h := ip c h
    refine a_ls [1] (ls' := [(1, .int l1)]) rfl ?_
    exact t_I_newName_69 hB hF h
  · have h := iq c h
    refine a_aload_n (j := 0) hB e_I_newName_62 rfl rfl ?_
    refine a_getR (r := 2) (k := 0) hB e_I_newName_63 fl_I_12 (sf_lt hF (by decide)) kk_1 tt_1_0 (hF.1 _ _) ?_
    obtain ⟨M66, hr66, h⟩ := bn_i h
    refine a_ret (v := none) (M1 := M66) (φ1 := φ) (st1 := []) (j1 := 0) (j2 := 0) (ar_V (As := []) (rest := []) hB (c_L_advance (bf_G hB) hF hr66) ml_I_51 md_L_advance rc_L_advance (sf_lt hF (by decide)) kk_2 rfl rfl (Nat.le_of_ble_eq_true rfl) rm_I_newName_L_advance e_I_newName_66) rfl rfl rfl ?_
    refine a_ls [1] (ls' := [(1, .int l1)]) rfl ?_
    exact t_I_newName_69 hB hF h
set_option maxRecDepth 100000 in
theorem t_I_newName {G : Gt} {φ : Ph} {B : Bag} (hB : BF G I_I_newName B) (hF : SF 134 φ)    {o : Int32} {M9 : Mm}  {M : Mm} (h : f_I_newName M = some (o, M9)) : AW G I_I_newName B (QM G I_I_newName B (.inl (some (.int o))) M9 φ) 0 0 0 [(0, .ref 1)] [] M φ := by
  unfold f_I_newName at h
  refine a_aload_n (j := 0) hB e_I_newName_0 rfl rfl ?_
  refine a_getR (r := 4) (k := 1) hB e_I_newName_1 fl_I_21 (sf_lt hF (by decide)) kk_1 tt_1_1 (hF.1 _ _) ?_
  refine a_getI (k := 9) hB e_I_newName_4 fl_I_155 (sf_lt hF (by decide)) kk_4 tt_4_9 ?_
  refine a_bipush (v := 20) hB e_I_newName_7 bp_20 ?_
  refine a_icmp_lt (tgt := 20) hB e_I_newName_9 (by decide) (fun c => ?_) (fun c => ?_)
  · have h := ip c h
    refine a_aload_n (j := 0) hB e_I_newName_20 rfl rfl ?_
    refine a_getR (r := 2) (k := 0) hB e_I_newName_21 fl_I_12 (sf_lt hF (by decide)) kk_1 tt_1_0 (hF.1 _ _) ?_
    obtain ⟨M24, hr24, h⟩ := bn_i h
    refine a_ret (v := none) (M1 := M24) (φ1 := φ) (st1 := []) (j1 := 0) (j2 := 0) (ar_V (As := []) (rest := []) hB (c_L_advance (bf_G hB) hF hr24) ml_I_51 md_L_advance rc_L_advance (sf_lt hF (by decide)) kk_2 rfl rfl (Nat.le_of_ble_eq_true rfl) rm_I_newName_L_advance e_I_newName_24) rfl rfl rfl ?_
    refine a_aload_n (j := 0) hB e_I_newName_27 rfl rfl ?_
    obtain ⟨r28, M28, hr28, h⟩ := bn2_i h
    refine a_ret (v := (some (.int r28))) (M1 := M28) (φ1 := φ) (st1 := [.int r28]) (j1 := 0) (j2 := 0) (ar_V (As := []) (rest := []) hB (c_I_nameHere (bf_G hB) hF hr28) ml_I_158 md_I_nameHere rc_I_nameHere (sf_lt hF (by decide)) kk_1 rfl rfl (Nat.le_of_ble_eq_true rfl) rm_I_newName_I_nameHere e_I_newName_28) rfl rfl rfl ?_
    refine a_istore_n (ls' := [(1, .int r28), (0, .ref 1)]) hB e_I_newName_31 rfl (Nat.le_of_ble_eq_true rfl) rfl ?_
    refine a_iload_n (j := 0) hB e_I_newName_32 rfl rfl ?_
    refine a_iconst (v := -1) hB e_I_newName_33 ic_m1 ?_
    refine a_icmp_eq (tgt := 57) hB e_I_newName_34 (by decide) (fun c => ?_) (fun c => ?_)
    · have h := ip c h
      refine a_ls [1, 0] (ls' := [(0, .ref 1), (1, .int r28)]) rfl ?_
      exact t_I_newName_57 hB hF h
    · have h := iq c h
      refine a_aload_n (j := 1) hB e_I_newName_37 rfl rfl ?_
      refine a_getR (r := 4) (k := 1) hB e_I_newName_38 fl_I_21 (sf_lt hF (by decide)) kk_1 tt_1_1 (hF.1 _ _) ?_
      refine a_iload_n (j := 0) hB e_I_newName_41 rfl rfl ?_
      obtain ⟨r42, hr42, h⟩ := bn_i h
      refine a_ret (v := (some (.int r42))) (M1 := M28) (φ1 := φ) (st1 := [.int r42]) (j1 := 0) (j2 := 0) (ar_V (As := [.int r28]) (rest := []) hB (c_S_legNamed (bf_G hB) hF sv_4 hr42) ml_I_161 md_S_legNamed rc_S_legNamed (sf_lt hF (by decide)) kk_4 rfl rfl (Nat.le_of_ble_eq_true rfl) rm_I_newName_S_legNamed e_I_newName_42) rfl rfl rfl ?_
      refine a_iconst (v := -1) hB e_I_newName_45 ic_m1 ?_
      refine a_icmp_eq (tgt := 57) hB e_I_newName_46 (by decide) (fun c => ?_) (fun c => ?_)
      · have h := ip c h
        refine a_ls [1, 0] (ls' := [(0, .ref 1), (1, .int r28)]) rfl ?_
        exact t_I_newName_57 hB hF h
      · have h := iq c h
        refine a_aload_n (j := 1) hB e_I_newName_49 rfl rfl ?_
        refine a_iconst (v := 4) hB e_I_newName_50 ic_4 ?_
        obtain ⟨r51, M51, hr51, h⟩ := bn2_i h
        refine a_ret (v := (some (.int r51))) (M1 := M51) (φ1 := φ) (st1 := [.int r51]) (j1 := 0) (j2 := 0) (ar_V (As := [.int (4 : Int32)]) (rest := []) hB (c_I_fail (bf_G hB) hF hr51) ml_I_47 md_I_fail rc_I_fail (sf_lt hF (by decide)) kk_1 rfl rfl (Nat.le_of_ble_eq_true rfl) rm_I_newName_I_fail e_I_newName_51) rfl rfl rfl ?_
        refine a_pop hB e_I_newName_54 rfl ?_
        refine a_iconst (v := -1) hB e_I_newName_55 ic_m1 ?_
        cases h
        exact a_iret hB rfl e_I_newName_56 (by decide) (by decide)
  · have h := iq c h
    refine a_aload_n (j := 0) hB e_I_newName_12 rfl rfl ?_
    refine a_iconst (v := 5) hB e_I_newName_13 ic_5 ?_
    obtain ⟨r14, M14, hr14, h⟩ := bn2_i h
    refine a_ret (v := (some (.int r14))) (M1 := M14) (φ1 := φ) (st1 := [.int r14]) (j1 := 0) (j2 := 0) (ar_V (As := [.int (5 : Int32)]) (rest := []) hB (c_I_fail (bf_G hB) hF hr14) ml_I_47 md_I_fail rc_I_fail (sf_lt hF (by decide)) kk_1 rfl rfl (Nat.le_of_ble_eq_true rfl) rm_I_newName_I_fail e_I_newName_14) rfl rfl rfl ?_
    refine a_pop hB e_I_newName_17 rfl ?_
    refine a_iconst (v := -1) hB e_I_newName_18 ic_m1 ?_
    cases h
    exact a_iret hB rfl e_I_newName_19 (by decide) (by decide)
set_option maxRecDepth 100000 in
theorem c_I_newName {G : Gt} (hG : GOK G) {φ : Ph} (hF : SF 134 φ)   {M : Mm}  {o : Int32} {M9 : Mm} (h : f_I_newName M = some (o, M9)) : CT G I_I_newName [.ref 1] M φ (.inl (some (.int o))) M9 φ :=
  ct_of hG (by decide) (Nat.le_of_ble_eq_true rfl) (fun B hB => t_I_newName hB hF  h)
set_option maxRecDepth 100000 in
theorem t_C_isBearing_23 {G : Gt} {φ : Ph} {B : Bag} (hB : BF G I_C_isBearing B) (hF : SF 134 φ)   {M : Mm} {o : Int32} {t0 : Int32}  (h : f_C_isBearing_23 t0 = some o) : AW G I_C_isBearing B (QM G I_C_isBearing B (.inl (some (.int o))) M φ) 0 0 23 [] [.int t0] M φ := by
  unfold f_C_isBearing_23 at h
  obtain ⟨z23, h⟩ := chk_i h
  cases h
  exact a_zret hB rfl z23 e_C_isBearing_23 (by decide) (by decide)
set_option maxRecDepth 100000 in
theorem t_C_isBearing_22 {G : Gt} {φ : Ph} {B : Bag} (hB : BF G I_C_isBearing B) (hF : SF 134 φ)   {M : Mm} {o : Int32}   (h : f_C_isBearing_22 = some o) : AW G I_C_isBearing B (QM G I_C_isBearing B (.inl (some (.int o))) M φ) 0 0 22 [] [] M φ := by
  unfold f_C_isBearing_22 at h
  refine a_iconst (v := 0) hB e_C_isBearing_22 ic_0 ?_
  exact t_C_isBearing_23 hB hF h
set_option maxRecDepth 100000 in
theorem t_C_isBearing {G : Gt} {φ : Ph} {B : Bag} (hB : BF G I_C_isBearing B) (hF : SF 134 φ)   {M : Mm} {o : Int32} {l0 : Int32}  (h : f_C_isBearing l0 = some o) : AW G I_C_isBearing B (QM G I_C_isBearing B (.inl (some (.int o))) M φ) 0 0 0 [(0, .int l0)] [] M φ := by
  unfold f_C_isBearing at h
  refine a_iload_n (j := 0) hB e_C_isBearing_0 rfl rfl ?_
  refine a_iconst (v := 0) hB e_C_isBearing_1 ic_0 ?_
  refine a_sipush (v := 345) hB e_C_isBearing_2 sp_345 ?_
  obtain ⟨r5, hr5, h⟩ := bn_i h
  refine a_ret (v := (some (.int r5))) (M1 := M) (φ1 := φ) (st1 := [.int r5]) (j1 := 0) (j2 := 0) (ar_S (As := [.int l0, .int (0 : Int32), .int (345 : Int32)]) (rest := []) hB (c_C_isBetween (bf_G hB) hF hr5) ml_C_100 md_C_isBetween rfl rfl (Nat.le_of_ble_eq_true rfl) rm_C_isBearing_C_isBetween e_C_isBearing_5) rfl rfl rfl ?_
  refine a_if_eq (tgt := 22) hB e_C_isBearing_8 (by decide) (fun c => ?_) (fun c => ?_)
  · have h := ip c h
    refine a_ls [] (ls' := []) rfl ?_
    exact t_C_isBearing_22 hB hF h
  · have h := iq c h
    refine a_iload_n (j := 0) hB e_C_isBearing_11 rfl rfl ?_
    refine a_bipush (v := 15) hB e_C_isBearing_12 bp_15 ?_
    refine a_irem hB e_C_isBearing_14 (by decide) ?_
    refine a_if_ne (tgt := 22) hB e_C_isBearing_15 (by decide) (fun c => ?_) (fun c => ?_)
    · have h := iq c h
      refine a_ls [] (ls' := []) rfl ?_
      exact t_C_isBearing_22 hB hF h
    · have h := ip c h
      refine a_iconst (v := 1) hB e_C_isBearing_18 ic_1 ?_
      refine a_goto (tgt := 23) hB e_C_isBearing_19 (by decide) ?_
      refine a_ls [] (ls' := []) rfl ?_
      exact t_C_isBearing_23 hB hF h
set_option maxRecDepth 100000 in
theorem c_C_isBearing {G : Gt} (hG : GOK G) {φ : Ph} (hF : SF 134 φ)   {M : Mm} {l0 : Int32} {o : Int32} (h : f_C_isBearing l0 = some o) : CT G I_C_isBearing [.int l0] M φ (.inl (some (.int o))) M φ :=
  ct_of hG (by decide) (Nat.le_of_ble_eq_true rfl) (fun B hB => t_C_isBearing hB hF  h)
set_option maxRecDepth 100000 in
theorem t_I_mayTurnHere_37 {G : Gt} {φ : Ph} {B : Bag} (hB : BF G I_I_mayTurnHere B) (hF : SF 134 φ)    {o : Int32} {M9 : Mm} {t0 : Int32} {M : Mm} (h : f_I_mayTurnHere_37 t0 M = some (o, M9)) : AW G I_I_mayTurnHere B (QM G I_I_mayTurnHere B (.inl (some (.int o))) M9 φ) 0 0 37 [] [.int t0] M φ := by
  unfold f_I_mayTurnHere_37 at h
  obtain ⟨z37, h⟩ := chk_i h
  cases h
  exact a_zret hB rfl z37 e_I_mayTurnHere_37 (by decide) (by decide)
set_option maxRecDepth 100000 in
theorem t_I_mayTurnHere_32 {G : Gt} {φ : Ph} {B : Bag} (hB : BF G I_I_mayTurnHere B) (hF : SF 134 φ)    {o : Int32} {M9 : Mm}  {M : Mm} (h : f_I_mayTurnHere_32 M = some (o, M9)) : AW G I_I_mayTurnHere B (QM G I_I_mayTurnHere B (.inl (some (.int o))) M9 φ) 0 0 32 [] [] M φ := by
  unfold f_I_mayTurnHere_32 at h
  refine a_iconst (v := 1) hB e_I_mayTurnHere_32 ic_1 ?_
  refine a_goto (tgt := 37) hB e_I_mayTurnHere_33 (by decide) ?_
  exact t_I_mayTurnHere_37 hB hF h
set_option maxRecDepth 100000 in
theorem t_I_mayTurnHere {G : Gt} {φ : Ph} {B : Bag} (hB : BF G I_I_mayTurnHere B) (hF : SF 134 φ)    {o : Int32} {M9 : Mm}  {M : Mm} (h : f_I_mayTurnHere M = some (o, M9)) : AW G I_I_mayTurnHere B (QM G I_I_mayTurnHere B (.inl (some (.int o))) M9 φ) 0 0 0 [(0, .ref 1)] [] M φ := by
  unfold f_I_mayTurnHere at h
  refine a_aload_n (j := 0) hB e_I_mayTurnHere_0 rfl rfl ?_
  refine a_getR (r := 2) (k := 0) hB e_I_mayTurnHere_1 fl_I_12 (sf_lt hF (by decide)) kk_1 tt_1_0 (hF.1 _ _) ?_
  refine a_getI (k := 2) hB e_I_mayTurnHere_4 fl_I_67 (sf_lt hF (by decide)) kk_2 tt_2_2 ?_
  refine a_iconst (v := 2) hB e_I_mayTurnHere_7 ic_2 ?_
  refine a_icmp_ne (tgt := 32) hB e_I_mayTurnHere_8 (by decide) (fun c => ?_) (fun c => ?_)
  · have h := iq c h
    refine a_ls [] (ls' := []) rfl ?_
    exact t_I_mayTurnHere_32 hB hF h
  · have h := ip c h
    refine a_aload_n (j := 0) hB e_I_mayTurnHere_11 rfl rfl ?_
    refine a_getR (r := 2) (k := 0) hB e_I_mayTurnHere_12 fl_I_12 (sf_lt hF (by decide)) kk_1 tt_1_0 (hF.1 _ _) ?_
    refine a_getI (k := 5) hB e_I_mayTurnHere_15 fl_I_176 (sf_lt hF (by decide)) kk_2 tt_2_5 ?_
    obtain ⟨r18, hr18, h⟩ := bn_i h
    refine a_ret (v := (some (.int r18))) (M1 := M) (φ1 := φ) (st1 := [.int r18]) (j1 := 0) (j2 := 0) (ar_SN (As := [.int (M 2 5)]) (rest := []) hB (c_C_isBearing (bf_G hB) hF hr18) mn_I_179 md_C_isBearing rfl rfl (Nat.le_of_ble_eq_true rfl) rm_I_mayTurnHere_C_isBearing e_I_mayTurnHere_18) rfl rfl rfl ?_
    refine a_if_ne (tgt := 32) hB e_I_mayTurnHere_21 (by decide) (fun c => ?_) (fun c => ?_)
    · have h := iq c h
      refine a_ls [] (ls' := []) rfl ?_
      exact t_I_mayTurnHere_32 hB hF h
    · have h := ip c h
      refine a_aload_n (j := 0) hB e_I_mayTurnHere_24 rfl rfl ?_
      refine a_iconst (v := 2) hB e_I_mayTurnHere_25 ic_2 ?_
      obtain ⟨r26, M26, hr26, h⟩ := bn2_i h
      refine a_ret (v := (some (.int r26))) (M1 := M26) (φ1 := φ) (st1 := [.int r26]) (j1 := 0) (j2 := 0) (ar_V (As := [.int (2 : Int32)]) (rest := []) hB (c_I_fail (bf_G hB) hF hr26) ml_I_47 md_I_fail rc_I_fail (sf_lt hF (by decide)) kk_1 rfl rfl (Nat.le_of_ble_eq_true rfl) rm_I_mayTurnHere_I_fail e_I_mayTurnHere_26) rfl rfl rfl ?_
      refine a_if_eq (tgt := 36) hB e_I_mayTurnHere_29 (by decide) (fun c => ?_) (fun c => ?_)
      · have h := ip c h
        refine a_iconst (v := 0) hB e_I_mayTurnHere_36 ic_0 ?_
        refine a_ls [] (ls' := []) rfl ?_
        exact t_I_mayTurnHere_37 hB hF h
      · have h := iq c h
        refine a_ls [] (ls' := []) rfl ?_
        exact t_I_mayTurnHere_32 hB hF h
set_option maxRecDepth 100000 in
theorem c_I_mayTurnHere {G : Gt} (hG : GOK G) {φ : Ph} (hF : SF 134 φ)   {M : Mm}  {o : Int32} {M9 : Mm} (h : f_I_mayTurnHere M = some (o, M9)) : CT G I_I_mayTurnHere [.ref 1] M φ (.inl (some (.int o))) M9 φ :=
  ct_of hG (by decide) (Nat.le_of_ble_eq_true rfl) (fun B hB => t_I_mayTurnHere hB hF  h)
set_option maxRecDepth 100000 in
theorem t_I_passes {G : Gt} {φ : Ph} {B : Bag} (hB : BF G I_I_passes B) (hF : SF 134 φ) {w : Nat} (hw_w : w < 47)  {o : Int32} {M9 : Mm}  {M : Mm} (h : f_I_passes w M = some (o, M9)) : AW G I_I_passes B (QM G I_I_passes B (.inl (some (.int o))) M9 φ) 0 0 0 [(0, .ref 1), (1, .ref (1000 + w))] [] M φ := by
  unfold f_I_passes at h
  refine a_aload_n (j := 0) hB e_I_passes_0 rfl rfl ?_
  refine a_getR (r := 2) (k := 0) hB e_I_passes_1 fl_I_12 (sf_lt hF (by decide)) kk_1 tt_1_0 (hF.1 _ _) ?_
  refine a_aload_n (j := 1) hB e_I_passes_4 rfl rfl ?_
  obtain ⟨r5, hr5, h⟩ := bn_i h
  refine a_ret (v := (some (.int r5))) (M1 := M) (φ1 := φ) (st1 := [.int r5]) (j1 := 0) (j2 := 0) (ar_V (As := [.ref (1000 + w)]) (rest := []) hB (c_L_isAt (bf_G hB) hF hw_w hr5) ml_I_43 md_L_isAt rc_L_isAt (sf_lt hF (by decide)) kk_2 rfl rfl (Nat.le_of_ble_eq_true rfl) rm_I_passes_L_isAt e_I_passes_5) rfl rfl rfl ?_
  refine a_if_ne (tgt := 13) hB e_I_passes_8 (by decide) (fun c => ?_) (fun c => ?_)
  · have h := iq c h
    refine a_aload_n (j := 0) hB e_I_passes_13 rfl rfl ?_
    refine a_getR (r := 2) (k := 0) hB e_I_passes_14 fl_I_12 (sf_lt hF (by decide)) kk_1 tt_1_0 (hF.1 _ _) ?_
    obtain ⟨M17, hr17, h⟩ := bn_i h
    refine a_ret (v := none) (M1 := M17) (φ1 := φ) (st1 := []) (j1 := 0) (j2 := 0) (ar_V (As := []) (rest := []) hB (c_L_advance (bf_G hB) hF hr17) ml_I_51 md_L_advance rc_L_advance (sf_lt hF (by decide)) kk_2 rfl rfl (Nat.le_of_ble_eq_true rfl) rm_I_passes_L_advance e_I_passes_17) rfl rfl rfl ?_
    refine a_iconst (v := 1) hB e_I_passes_20 ic_1 ?_
    cases h
    exact a_zret hB rfl (Or.inr rfl) e_I_passes_21 (by decide) (by decide)
  · have h := ip c h
    refine a_iconst (v := 0) hB e_I_passes_11 ic_0 ?_
    cases h
    exact a_zret hB rfl (Or.inl rfl) e_I_passes_12 (by decide) (by decide)
set_option maxRecDepth 100000 in
theorem c_I_passes {G : Gt} (hG : GOK G) {φ : Ph} (hF : SF 134 φ) {w : Nat} (hw_w : w < 47) {M : Mm}  {o : Int32} {M9 : Mm} (h : f_I_passes w M = some (o, M9)) : CT G I_I_passes [.ref 1, .ref (1000 + w)] M φ (.inl (some (.int o))) M9 φ :=
  ct_of hG (by decide) (Nat.le_of_ble_eq_true rfl) (fun B hB => t_I_passes hB hF hw_w h)
set_option maxRecDepth 100000 in
theorem t_S_addChained {G : Gt} {φ : Ph} {B : Bag} (hB : BF G I_S_addChained B) (hF : SF 134 φ) {a : Nat} (hs_a : isSv a)  {M9 : Mm} {l1 : Int32} {l2 : Int32} {l3 : Int32} {l4 : Int32} {l5 : Int32} {l6 : Int32} {l7 : Int32} {M : Mm} (h : f_S_addChained a l1 l2 l3 l4 l5 l6 l7 M = some M9) : AW G I_S_addChained B (QM G I_S_addChained B (.inl none) M9 φ) 0 0 0 [(0, .ref a), (1, .int l1), (2, .int l2), (3, .int l3), (4, .int l4), (5, .int l5), (6, .int l6), (7, .int l7)] [] M φ := by
  unfold f_S_addChained at h
  refine a_aload_n (j := 0) hB e_S_addChained_0 rfl rfl ?_
  refine a_getI (k := 9) hB e_S_addChained_1 fl_S_44 (sv_lt hs_a hF (by decide)) (sv_kd hs_a) (sv_t0 hs_a 0 (by decide)) ?_
  refine a_bipush (v := 20) hB e_S_addChained_4 bp_20 ?_
  refine a_icmp_lt (tgt := 10) hB e_S_addChained_6 (by decide) (fun c => ?_) (fun c => ?_)
  · have h := ip c h
    refine a_aload_n (j := 0) hB e_S_addChained_10 rfl rfl ?_
    refine a_getR (r := a + 1 + 0) (k := 0) hB e_S_addChained_11 fl_S_9 (sv_lt hs_a hF (by decide)) (sv_kd hs_a) (sv_t hs_a 0 (by decide)) (hF.1 _ _) ?_
    refine a_aload_n (j := 0) hB e_S_addChained_14 rfl rfl ?_
    refine a_getI (k := 9) hB e_S_addChained_15 fl_S_44 (sv_lt hs_a hF (by decide)) (sv_kd hs_a) (sv_t0 hs_a 0 (by decide)) ?_
    refine a_iload_n (j := 1) hB e_S_addChained_18 rfl rfl ?_
    obtain ⟨c19, h⟩ := chk_i h
    obtain ⟨M19, hM19, h⟩ := bm_i h
    refine a_iast' hB e_S_addChained_19 (sv_la hs_a hF (by decide) 0 (by decide)) (sv_ki hs_a 0 (by decide) (by decide)) (sv_ln hs_a 0 (by decide)) c19 ?_
    refine a_mem hM19 ?_
    refine a_aload_n (j := 0) hB e_S_addChained_20 rfl rfl ?_
    refine a_getR (r := a + 1 + 1) (k := 1) hB e_S_addChained_21 fl_S_15 (sv_lt hs_a hF (by decide)) (sv_kd hs_a) (sv_t hs_a 1 (by decide)) (hF.1 _ _) ?_
    refine a_aload_n (j := 0) hB e_S_addChained_24 rfl rfl ?_
    refine a_getI (k := 9) hB e_S_addChained_25 fl_S_44 (sv_lt hs_a hF (by decide)) (sv_kd hs_a) (sv_t0 hs_a 0 (by decide)) ?_
    refine a_iload_n (j := 2) hB e_S_addChained_28 rfl rfl ?_
    obtain ⟨c29, h⟩ := chk_i h
    obtain ⟨M29, hM29, h⟩ := bm_i h
    refine a_iast' hB e_S_addChained_29 (sv_la hs_a hF (by decide) 1 (by decide)) (sv_ki hs_a 1 (by decide) (by decide)) (sv_ln hs_a 1 (by decide)) c29 ?_
    refine a_mem hM29 ?_
    refine a_aload_n (j := 0) hB e_S_addChained_30 rfl rfl ?_
    refine a_getR (r := a + 1 + 2) (k := 2) hB e_S_addChained_31 fl_S_18 (sv_lt hs_a hF (by decide)) (sv_kd hs_a) (sv_t hs_a 2 (by decide)) (hF.1 _ _) ?_
    refine a_aload_n (j := 0) hB e_S_addChained_34 rfl rfl ?_
    refine a_getI (k := 9) hB e_S_addChained_35 fl_S_44 (sv_lt hs_a hF (by decide)) (sv_kd hs_a) (sv_t0 hs_a 0 (by decide)) ?_
    refine a_iconst (v := 0) hB e_S_addChained_38 ic_0 ?_
    obtain ⟨c39, h⟩ := chk_i h
    obtain ⟨M39, hM39, h⟩ := bm_i h
    refine a_zast' hB e_S_addChained_39 (sv_la hs_a hF (by decide) 2 (by decide)) (sv_kz hs_a) (sv_ln hs_a 2 (by decide)) c39 (Or.inl rfl) ?_
    refine a_mem hM39 ?_
    refine a_aload_n (j := 0) hB e_S_addChained_40 rfl rfl ?_
    refine a_getR (r := a + 1 + 3) (k := 3) hB e_S_addChained_41 fl_S_22 (sv_lt hs_a hF (by decide)) (sv_kd hs_a) (sv_t hs_a 3 (by decide)) (hF.1 _ _) ?_
    refine a_aload_n (j := 0) hB e_S_addChained_44 rfl rfl ?_
    refine a_getI (k := 9) hB e_S_addChained_45 fl_S_44 (sv_lt hs_a hF (by decide)) (sv_kd hs_a) (sv_t0 hs_a 0 (by decide)) ?_
    refine a_iconst (v := 0) hB e_S_addChained_48 ic_0 ?_
    obtain ⟨c49, h⟩ := chk_i h
    obtain ⟨M49, hM49, h⟩ := bm_i h
    refine a_iast' hB e_S_addChained_49 (sv_la hs_a hF (by decide) 3 (by decide)) (sv_ki hs_a 3 (by decide) (by decide)) (sv_ln hs_a 3 (by decide)) c49 ?_
    refine a_mem hM49 ?_
    refine a_aload_n (j := 0) hB e_S_addChained_50 rfl rfl ?_
    refine a_getR (r := a + 1 + 4) (k := 4) hB e_S_addChained_51 fl_S_25 (sv_lt hs_a hF (by decide)) (sv_kd hs_a) (sv_t hs_a 4 (by decide)) (hF.1 _ _) ?_
    refine a_aload_n (j := 0) hB e_S_addChained_54 rfl rfl ?_
    refine a_getI (k := 9) hB e_S_addChained_55 fl_S_44 (sv_lt hs_a hF (by decide)) (sv_kd hs_a) (sv_t0 hs_a 0 (by decide)) ?_
    refine a_iload_n (j := 3) hB e_S_addChained_58 rfl rfl ?_
    obtain ⟨c59, h⟩ := chk_i h
    obtain ⟨M59, hM59, h⟩ := bm_i h
    refine a_iast' hB e_S_addChained_59 (sv_la hs_a hF (by decide) 4 (by decide)) (sv_ki hs_a 4 (by decide) (by decide)) (sv_ln hs_a 4 (by decide)) c59 ?_
    refine a_mem hM59 ?_
    refine a_aload_n (j := 0) hB e_S_addChained_60 rfl rfl ?_
    refine a_getR (r := a + 1 + 5) (k := 5) hB e_S_addChained_61 fl_S_28 (sv_lt hs_a hF (by decide)) (sv_kd hs_a) (sv_t hs_a 5 (by decide)) (hF.1 _ _) ?_
    refine a_aload_n (j := 0) hB e_S_addChained_64 rfl rfl ?_
    refine a_getI (k := 9) hB e_S_addChained_65 fl_S_44 (sv_lt hs_a hF (by decide)) (sv_kd hs_a) (sv_t0 hs_a 0 (by decide)) ?_
    refine a_iload (j := 4) hB e_S_addChained_68 rfl ?_
    obtain ⟨c70, h⟩ := chk_i h
    obtain ⟨M70, hM70, h⟩ := bm_i h
    refine a_iast' hB e_S_addChained_70 (sv_la hs_a hF (by decide) 5 (by decide)) (sv_ki hs_a 5 (by decide) (by decide)) (sv_ln hs_a 5 (by decide)) c70 ?_
    refine a_mem hM70 ?_
    refine a_aload_n (j := 0) hB e_S_addChained_71 rfl rfl ?_
    refine a_getR (r := a + 1 + 6) (k := 6) hB e_S_addChained_72 fl_S_31 (sv_lt hs_a hF (by decide)) (sv_kd hs_a) (sv_t hs_a 6 (by decide)) (hF.1 _ _) ?_
    refine a_aload_n (j := 0) hB e_S_addChained_75 rfl rfl ?_
    refine a_getI (k := 9) hB e_S_addChained_76 fl_S_44 (sv_lt hs_a hF (by decide)) (sv_kd hs_a) (sv_t0 hs_a 0 (by decide)) ?_
    refine a_iload (j := 5) hB e_S_addChained_79 rfl ?_
    obtain ⟨c81, h⟩ := chk_i h
    obtain ⟨M81, hM81, h⟩ := bm_i h
    refine a_iast' hB e_S_addChained_81 (sv_la hs_a hF (by decide) 6 (by decide)) (sv_ki hs_a 6 (by decide) (by decide)) (sv_ln hs_a 6 (by decide)) c81 ?_
    refine a_mem hM81 ?_
    refine a_aload_n (j := 0) hB e_S_addChained_82 rfl rfl ?_
    refine a_getR (r := a + 1 + 7) (k := 7) hB e_S_addChained_83 fl_S_34 (sv_lt hs_a hF (by decide)) (sv_kd hs_a) (sv_t hs_a 7 (by decide)) (hF.1 _ _) ?_
    refine a_aload_n (j := 0) hB e_S_addChained_86 rfl rfl ?_
    refine a_getI (k := 9) hB e_S_addChained_87 fl_S_44 (sv_lt hs_a hF (by decide)) (sv_kd hs_a) (sv_t0 hs_a 0 (by decide)) ?_
    refine a_iload (j := 6) hB e_S_addChained_90 rfl ?_
    obtain ⟨c92, h⟩ := chk_i h
    obtain ⟨M92, hM92, h⟩ := bm_i h
    refine a_iast' hB e_S_addChained_92 (sv_la hs_a hF (by decide) 7 (by decide)) (sv_ki hs_a 7 (by decide) (by decide)) (sv_ln hs_a 7 (by decide)) c92 ?_
    refine a_mem hM92 ?_
    refine a_aload_n (j := 0) hB e_S_addChained_93 rfl rfl ?_
    refine a_getR (r := a + 1 + 8) (k := 8) hB e_S_addChained_94 fl_S_37 (sv_lt hs_a hF (by decide)) (sv_kd hs_a) (sv_t hs_a 8 (by decide)) (hF.1 _ _) ?_
    refine a_aload_n (j := 0) hB e_S_addChained_97 rfl rfl ?_
    refine a_getI (k := 9) hB e_S_addChained_98 fl_S_44 (sv_lt hs_a hF (by decide)) (sv_kd hs_a) (sv_t0 hs_a 0 (by decide)) ?_
    refine a_iload (j := 7) hB e_S_addChained_101 rfl ?_
    obtain ⟨c103, h⟩ := chk_i h
    obtain ⟨M103, hM103, h⟩ := bm_i h
    refine a_iast' hB e_S_addChained_103 (sv_la hs_a hF (by decide) 8 (by decide)) (sv_ki hs_a 8 (by decide) (by decide)) (sv_ln hs_a 8 (by decide)) c103 ?_
    refine a_mem hM103 ?_
    refine a_aload_n (j := 0) hB e_S_addChained_104 rfl rfl ?_
    refine a_dup hB e_S_addChained_105 rfl ?_
    refine a_getI (k := 9) hB e_S_addChained_106 fl_S_44 (sv_lt hs_a hF (by decide)) (sv_kd hs_a) (sv_t0 hs_a 0 (by decide)) ?_
    refine a_iconst (v := 1) hB e_S_addChained_109 ic_1 ?_
    refine a_iadd hB e_S_addChained_110 ?_
    obtain ⟨M111, hM111, h⟩ := bm_i h
    refine a_putI (k := 9) hB e_S_addChained_111 fw_S_44 (sv_lt hs_a hF (by decide)) (sv_kd hs_a) (sv_t0 hs_a 0 (by decide)) ?_
    refine a_mem hM111 ?_
    cases h
    exact a_vret hB rfl e_S_addChained_114 (by decide) (by decide)
  · have h := iq c h
    cases h
    exact a_vret hB rfl e_S_addChained_9 (by decide) (by decide)
set_option maxRecDepth 100000 in
theorem c_S_addChained {G : Gt} (hG : GOK G) {φ : Ph} (hF : SF 134 φ) {a : Nat} (hs_a : isSv a) {M : Mm} {l1 : Int32} {l2 : Int32} {l3 : Int32} {l4 : Int32} {l5 : Int32} {l6 : Int32} {l7 : Int32} {M9 : Mm} (h : f_S_addChained a l1 l2 l3 l4 l5 l6 l7 M = some M9) : CT G I_S_addChained [.ref a, .int l1, .int l2, .int l3, .int l4, .int l5, .int l6, .int l7] M φ (.inl none) M9 φ :=
  ct_of hG (by decide) (Nat.le_of_ble_eq_true rfl) (fun B hB => t_S_addChained hB hF hs_a h)
set_option maxRecDepth 100000 in
theorem t_I_readsChained_170 {G : Gt} {φ : Ph} {B : Bag} (hB : BF G I_I_readsChained B) (hF : SF 134 φ)    {o : Int32} {M9 : Mm}  {M : Mm} (h : f_I_readsChained_170 M = some (o, M9)) : AW G I_I_readsChained B (QM G I_I_readsChained B (.inl (some (.int o))) M9 φ) 0 0 170 [] [] M φ := by
  unfold f_I_readsChained_170 at h
  refine a_iconst (v := 0) hB e_I_readsChained_170 ic_0 ?_
  cases h
  exact a_zret hB rfl (Or.inl rfl) e_I_readsChained_171 (by decide) (by decide)
set_option maxRecDepth 100000 in
theorem t_I_readsChained_155 {G : Gt} {φ : Ph} {B : Bag} (hB : BF G I_I_readsChained B) (hF : SF 134 φ)    {o : Int32} {M9 : Mm} {l1 : Int32} {l2 : Int32} {l3 : Int32} {l4 : Int32} {l5 : Int32} {l6 : Int32} {t0 : Int32} {M : Mm} (h : f_I_readsChained_155 l1 l2 l3 l4 l5 l6 t0 M = some (o, M9)) : AW G I_I_readsChained B (QM G I_I_readsChained B (.inl (some (.int o))) M9 φ) 0 0 155 [(0, .ref 1), (1, .int l1), (2, .int l2), (3, .int l3), (4, .int l4), (5, .int l5), (6, .int l6)] [.int t0] M φ := by
  unfold f_I_readsChained_155 at h
  refine a_istore (ls' := [(7, .int t0), (0, .ref 1), (1, .int l1), (2, .int l2), (3, .int l3), (4, .int l4), (5, .int l5), (6, .int l6)]) hB e_I_readsChained_155 (Nat.le_of_ble_eq_true rfl) rfl ?_
  refine a_iload (j := 0) hB e_I_readsChained_157 rfl ?_
  refine a_iconst (v := -1) hB e_I_readsChained_159 ic_m1 ?_
  refine a_icmp_eq (tgt := 170) hB e_I_readsChained_160 (by decide) (fun c => ?_) (fun c => ?_)
  · have h := ip c h
    refine a_ls [] (ls' := []) rfl ?_
    exact t_I_readsChained_170 hB hF h
  · have h := iq c h
    refine a_aload_n (j := 1) hB e_I_readsChained_163 rfl rfl ?_
    obtain ⟨r164, M164, hr164, h⟩ := bn2_i h
    refine a_ret (v := (some (.int r164))) (M1 := M164) (φ1 := φ) (st1 := [.int r164]) (j1 := 0) (j2 := 0) (ar_V (As := []) (rest := []) hB (c_I_readsSemicolon (bf_G hB) hF hr164) ml_I_61 md_I_readsSemicolon rc_I_readsSemicolon (sf_lt hF (by decide)) kk_1 rfl rfl (Nat.le_of_ble_eq_true rfl) rm_I_readsChained_I_readsSemicolon e_I_readsChained_164) rfl rfl rfl ?_
    refine a_if_ne (tgt := 172) hB e_I_readsChained_167 (by decide) (fun c => ?_) (fun c => ?_)
    · have h := iq c h
      refine a_aload_n (j := 1) hB e_I_readsChained_172 rfl rfl ?_
      refine a_getR (r := 4) (k := 1) hB e_I_readsChained_173 fl_I_21 (sf_lt hF (by decide)) kk_1 tt_1_1 (hF.1 _ _) ?_
      refine a_iload_n (j := 2) hB e_I_readsChained_176 rfl rfl ?_
      refine a_iload_n (j := 3) hB e_I_readsChained_177 rfl rfl ?_
      refine a_iload_n (j := 4) hB e_I_readsChained_178 rfl rfl ?_
      refine a_iload (j := 5) hB e_I_readsChained_179 rfl ?_
      refine a_iload (j := 6) hB e_I_readsChained_181 rfl ?_
      refine a_iload (j := 7) hB e_I_readsChained_183 rfl ?_
      refine a_iload (j := 0) hB e_I_readsChained_185 rfl ?_
      obtain ⟨M187, hr187, h⟩ := bn_i h
      refine a_ret (v := none) (M1 := M187) (φ1 := φ) (st1 := []) (j1 := 0) (j2 := 0) (ar_V (As := [.int l1, .int l2, .int l3, .int l4, .int l5, .int l6, .int t0]) (rest := []) hB (c_S_addChained (bf_G hB) hF sv_4 hr187) ml_I_127 md_S_addChained rc_S_addChained (sf_lt hF (by decide)) kk_4 rfl rfl (Nat.le_of_ble_eq_true rfl) rm_I_readsChained_S_addChained e_I_readsChained_187) rfl rfl rfl ?_
      refine a_iconst (v := 1) hB e_I_readsChained_190 ic_1 ?_
      cases h
      exact a_zret hB rfl (Or.inr rfl) e_I_readsChained_191 (by decide) (by decide)
    · have h := ip c h
      refine a_ls [] (ls' := []) rfl ?_
      exact t_I_readsChained_170 hB hF h
set_option maxRecDepth 100000 in
theorem t_I_readsChained_124 {G : Gt} {φ : Ph} {B : Bag} (hB : BF G I_I_readsChained B) (hF : SF 134 φ)    {o : Int32} {M9 : Mm} {l1 : Int32} {l2 : Int32} {l3 : Int32} {l4 : Int32} {l5 : Int32} {t0 : Int32} {M : Mm} (h : f_I_readsChained_124 l1 l2 l3 l4 l5 t0 M = some (o, M9)) : AW G I_I_readsChained B (QM G I_I_readsChained B (.inl (some (.int o))) M9 φ) 0 0 124 [(0, .ref 1), (1, .int l1), (2, .int l2), (3, .int l3), (4, .int l4), (5, .int l5)] [.int t0] M φ := by
  unfold f_I_readsChained_124 at h
  refine a_istore (ls' := [(6, .int t0), (0, .ref 1), (1, .int l1), (2, .int l2), (3, .int l3), (4, .int l4), (5, .int l5)]) hB e_I_readsChained_124 (Nat.le_of_ble_eq_true rfl) rfl ?_
  refine a_iload (j := 0) hB e_I_readsChained_126 rfl ?_
  refine a_iconst (v := -1) hB e_I_readsChained_128 ic_m1 ?_
  refine a_icmp_ne (tgt := 134) hB e_I_readsChained_129 (by decide) (fun c => ?_) (fun c => ?_)
  · have h := iq c h
    refine a_aload_n (j := 1) hB e_I_readsChained_134 rfl rfl ?_
    refine a_ldcS (i := 5) hB rfl e_I_readsChained_135 ?_
    obtain ⟨r137, M137, hr137, h⟩ := bn2_i h
    refine a_ret (v := (some (.int r137))) (M1 := M137) (φ1 := φ) (st1 := [.int r137]) (j1 := 0) (j2 := 0) (ar_V (As := [.ref (1000 + 5)]) (rest := []) hB (c_I_passes (bf_G hB) hF (by decide) hr137) ml_I_120 md_I_passes rc_I_passes (sf_lt hF (by decide)) kk_1 rfl rfl (Nat.le_of_ble_eq_true rfl) rm_I_readsChained_I_passes e_I_readsChained_137) rfl rfl rfl ?_
    refine a_if_eq (tgt := 153) hB e_I_readsChained_140 (by decide) (fun c => ?_) (fun c => ?_)
    · have h := ip c h
      refine a_bipush (v := 15) hB e_I_readsChained_153 bp_15 ?_
      refine a_ls [1, 2, 3, 4, 5, 6, 0] (ls' := [(0, .ref 1), (1, .int l1), (2, .int l2), (3, .int l3), (4, .int l4), (5, .int l5), (6, .int t0)]) rfl ?_
      exact t_I_readsChained_155 hB hF h
    · have h := iq c h
      refine a_aload_n (j := 1) hB e_I_readsChained_143 rfl rfl ?_
      refine a_iconst (v := 0) hB e_I_readsChained_144 ic_0 ?_
      refine a_bipush (v := 50) hB e_I_readsChained_145 bp_50 ?_
      obtain ⟨r147, M147, hr147, h⟩ := bn2_i h
      refine a_ret (v := (some (.int r147))) (M1 := M147) (φ1 := φ) (st1 := [.int r147]) (j1 := 0) (j2 := 0) (ar_V (As := [.int (0 : Int32), .int (50 : Int32)]) (rest := []) hB (c_I_numberHere (bf_G hB) hF hr147) ml_I_114 md_I_numberHere rc_I_numberHere (sf_lt hF (by decide)) kk_1 rfl rfl (Nat.le_of_ble_eq_true rfl) rm_I_readsChained_I_numberHere e_I_readsChained_147) rfl rfl rfl ?_
      refine a_goto (tgt := 155) hB e_I_readsChained_150 (by decide) ?_
      refine a_ls [1, 2, 3, 4, 5, 6, 0] (ls' := [(0, .ref 1), (1, .int l1), (2, .int l2), (3, .int l3), (4, .int l4), (5, .int l5), (6, .int t0)]) rfl ?_
      exact t_I_readsChained_155 hB hF h
  · have h := ip c h
    refine a_iconst (v := 0) hB e_I_readsChained_132 ic_0 ?_
    cases h
    exact a_zret hB rfl (Or.inl rfl) e_I_readsChained_133 (by decide) (by decide)
set_option maxRecDepth 100000 in
theorem t_I_readsChained_93 {G : Gt} {φ : Ph} {B : Bag} (hB : BF G I_I_readsChained B) (hF : SF 134 φ)    {o : Int32} {M9 : Mm} {l1 : Int32} {l2 : Int32} {l3 : Int32} {l4 : Int32} {t0 : Int32} {M : Mm} (h : f_I_readsChained_93 l1 l2 l3 l4 t0 M = some (o, M9)) : AW G I_I_readsChained B (QM G I_I_readsChained B (.inl (some (.int o))) M9 φ) 0 0 93 [(0, .ref 1), (1, .int l1), (2, .int l2), (3, .int l3), (4, .int l4)] [.int t0] M φ := by
  unfold f_I_readsChained_93 at h
  refine a_istore (ls' := [(5, .int t0), (0, .ref 1), (1, .int l1), (2, .int l2), (3, .int l3), (4, .int l4)]) hB e_I_readsChained_93 (Nat.le_of_ble_eq_true rfl) rfl ?_
  refine a_iload (j := 0) hB e_I_readsChained_95 rfl ?_
  refine a_iconst (v := -1) hB e_I_readsChained_97 ic_m1 ?_
  refine a_icmp_ne (tgt := 103) hB e_I_readsChained_98 (by decide) (fun c => ?_) (fun c => ?_)
  · have h := iq c h
    refine a_aload_n (j := 1) hB e_I_readsChained_103 rfl rfl ?_
    refine a_ldcS (i := 4) hB rfl e_I_readsChained_104 ?_
    obtain ⟨r106, M106, hr106, h⟩ := bn2_i h
    refine a_ret (v := (some (.int r106))) (M1 := M106) (φ1 := φ) (st1 := [.int r106]) (j1 := 0) (j2 := 0) (ar_V (As := [.ref (1000 + 4)]) (rest := []) hB (c_I_passes (bf_G hB) hF (by decide) hr106) ml_I_120 md_I_passes rc_I_passes (sf_lt hF (by decide)) kk_1 rfl rfl (Nat.le_of_ble_eq_true rfl) rm_I_readsChained_I_passes e_I_readsChained_106) rfl rfl rfl ?_
    refine a_if_eq (tgt := 123) hB e_I_readsChained_109 (by decide) (fun c => ?_) (fun c => ?_)
    · have h := ip c h
      refine a_iconst (v := 0) hB e_I_readsChained_123 ic_0 ?_
      refine a_ls [1, 2, 3, 4, 5, 0] (ls' := [(0, .ref 1), (1, .int l1), (2, .int l2), (3, .int l3), (4, .int l4), (5, .int t0)]) rfl ?_
      exact t_I_readsChained_124 hB hF h
    · have h := iq c h
      refine a_aload_n (j := 1) hB e_I_readsChained_112 rfl rfl ?_
      refine a_iconst (v := 0) hB e_I_readsChained_113 ic_0 ?_
      refine a_sipush (v := 9999) hB e_I_readsChained_114 sp_9999 ?_
      obtain ⟨r117, M117, hr117, h⟩ := bn2_i h
      refine a_ret (v := (some (.int r117))) (M1 := M117) (φ1 := φ) (st1 := [.int r117]) (j1 := 0) (j2 := 0) (ar_V (As := [.int (0 : Int32), .int (9999 : Int32)]) (rest := []) hB (c_I_numberHere (bf_G hB) hF hr117) ml_I_114 md_I_numberHere rc_I_numberHere (sf_lt hF (by decide)) kk_1 rfl rfl (Nat.le_of_ble_eq_true rfl) rm_I_readsChained_I_numberHere e_I_readsChained_117) rfl rfl rfl ?_
      refine a_goto (tgt := 124) hB e_I_readsChained_120 (by decide) ?_
      refine a_ls [1, 2, 3, 4, 5, 0] (ls' := [(0, .ref 1), (1, .int l1), (2, .int l2), (3, .int l3), (4, .int l4), (5, .int t0)]) rfl ?_
      exact t_I_readsChained_124 hB hF h
  · have h := ip c h
    refine a_iconst (v := 0) hB e_I_readsChained_101 ic_0 ?_
    cases h
    exact a_zret hB rfl (Or.inl rfl) e_I_readsChained_102 (by decide) (by decide)
set_option maxRecDepth 100000 in
theorem t_I_readsChained_63 {G : Gt} {φ : Ph} {B : Bag} (hB : BF G I_I_readsChained B) (hF : SF 134 φ)    {o : Int32} {M9 : Mm} {l1 : Int32} {l2 : Int32} {l3 : Int32} {t0 : Int32} {M : Mm} (h : f_I_readsChained_63 l1 l2 l3 t0 M = some (o, M9)) : AW G I_I_readsChained B (QM G I_I_readsChained B (.inl (some (.int o))) M9 φ) 0 0 63 [(0, .ref 1), (1, .int l1), (2, .int l2), (3, .int l3)] [.int t0] M φ := by
  unfold f_I_readsChained_63 at h
  refine a_istore (ls' := [(4, .int t0), (0, .ref 1), (1, .int l1), (2, .int l2), (3, .int l3)]) hB e_I_readsChained_63 (Nat.le_of_ble_eq_true rfl) rfl ?_
  refine a_iload (j := 0) hB e_I_readsChained_65 rfl ?_
  refine a_iconst (v := -1) hB e_I_readsChained_67 ic_m1 ?_
  refine a_icmp_ne (tgt := 73) hB e_I_readsChained_68 (by decide) (fun c => ?_) (fun c => ?_)
  · have h := iq c h
    refine a_aload_n (j := 1) hB e_I_readsChained_73 rfl rfl ?_
    refine a_ldcS (i := 3) hB rfl e_I_readsChained_74 ?_
    obtain ⟨r76, M76, hr76, h⟩ := bn2_i h
    refine a_ret (v := (some (.int r76))) (M1 := M76) (φ1 := φ) (st1 := [.int r76]) (j1 := 0) (j2 := 0) (ar_V (As := [.ref (1000 + 3)]) (rest := []) hB (c_I_passes (bf_G hB) hF (by decide) hr76) ml_I_120 md_I_passes rc_I_passes (sf_lt hF (by decide)) kk_1 rfl rfl (Nat.le_of_ble_eq_true rfl) rm_I_readsChained_I_passes e_I_readsChained_76) rfl rfl rfl ?_
    refine a_if_eq (tgt := 92) hB e_I_readsChained_79 (by decide) (fun c => ?_) (fun c => ?_)
    · have h := ip c h
      refine a_iconst (v := 0) hB e_I_readsChained_92 ic_0 ?_
      refine a_ls [1, 2, 3, 4, 0] (ls' := [(0, .ref 1), (1, .int l1), (2, .int l2), (3, .int l3), (4, .int t0)]) rfl ?_
      exact t_I_readsChained_93 hB hF h
    · have h := iq c h
      refine a_aload_n (j := 1) hB e_I_readsChained_82 rfl rfl ?_
      refine a_iconst (v := 0) hB e_I_readsChained_83 ic_0 ?_
      refine a_bipush (v := 9) hB e_I_readsChained_84 bp_9 ?_
      obtain ⟨r86, M86, hr86, h⟩ := bn2_i h
      refine a_ret (v := (some (.int r86))) (M1 := M86) (φ1 := φ) (st1 := [.int r86]) (j1 := 0) (j2 := 0) (ar_V (As := [.int (0 : Int32), .int (9 : Int32)]) (rest := []) hB (c_I_numberHere (bf_G hB) hF hr86) ml_I_114 md_I_numberHere rc_I_numberHere (sf_lt hF (by decide)) kk_1 rfl rfl (Nat.le_of_ble_eq_true rfl) rm_I_readsChained_I_numberHere e_I_readsChained_86) rfl rfl rfl ?_
      refine a_goto (tgt := 93) hB e_I_readsChained_89 (by decide) ?_
      refine a_ls [1, 2, 3, 4, 0] (ls' := [(0, .ref 1), (1, .int l1), (2, .int l2), (3, .int l3), (4, .int t0)]) rfl ?_
      exact t_I_readsChained_93 hB hF h
  · have h := ip c h
    refine a_iconst (v := 0) hB e_I_readsChained_71 ic_0 ?_
    cases h
    exact a_zret hB rfl (Or.inl rfl) e_I_readsChained_72 (by decide) (by decide)
set_option maxRecDepth 100000 in
theorem t_I_readsChained_46 {G : Gt} {φ : Ph} {B : Bag} (hB : BF G I_I_readsChained B) (hF : SF 134 φ)    {o : Int32} {M9 : Mm} {l1 : Int32} {l2 : Int32} {t0 : Int32} {M : Mm} (h : f_I_readsChained_46 l1 l2 t0 M = some (o, M9)) : AW G I_I_readsChained B (QM G I_I_readsChained B (.inl (some (.int o))) M9 φ) 0 0 46 [(0, .ref 1), (1, .int l1), (2, .int l2)] [.int t0] M φ := by
  unfold f_I_readsChained_46 at h
  refine a_istore_n (ls' := [(3, .int t0), (0, .ref 1), (1, .int l1), (2, .int l2)]) hB e_I_readsChained_46 rfl (Nat.le_of_ble_eq_true rfl) rfl ?_
  refine a_iload_n (j := 0) hB e_I_readsChained_47 rfl rfl ?_
  refine a_iconst (v := -1) hB e_I_readsChained_48 ic_m1 ?_
  refine a_icmp_ne (tgt := 56) hB e_I_readsChained_49 (by decide) (fun c => ?_) (fun c => ?_)
  · have h := iq c h
    refine a_aload_n (j := 1) hB e_I_readsChained_56 rfl rfl ?_
    refine a_iconst (v := 0) hB e_I_readsChained_57 ic_0 ?_
    refine a_bipush (v := 99) hB e_I_readsChained_58 bp_99 ?_
    obtain ⟨r60, M60, hr60, h⟩ := bn2_i h
    refine a_ret (v := (some (.int r60))) (M1 := M60) (φ1 := φ) (st1 := [.int r60]) (j1 := 0) (j2 := 0) (ar_V (As := [.int (0 : Int32), .int (99 : Int32)]) (rest := []) hB (c_I_numberHere (bf_G hB) hF hr60) ml_I_114 md_I_numberHere rc_I_numberHere (sf_lt hF (by decide)) kk_1 rfl rfl (Nat.le_of_ble_eq_true rfl) rm_I_readsChained_I_numberHere e_I_readsChained_60) rfl rfl rfl ?_
    refine a_ls [1, 2, 3, 0] (ls' := [(0, .ref 1), (1, .int l1), (2, .int l2), (3, .int t0)]) rfl ?_
    exact t_I_readsChained_63 hB hF h
  · have h := ip c h
    refine a_iconst (v := -1) hB e_I_readsChained_52 ic_m1 ?_
    refine a_goto (tgt := 63) hB e_I_readsChained_53 (by decide) ?_
    refine a_ls [1, 2, 3, 0] (ls' := [(0, .ref 1), (1, .int l1), (2, .int l2), (3, .int t0)]) rfl ?_
    exact t_I_readsChained_63 hB hF h
