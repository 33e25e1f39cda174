/-! the functions are what the machine does -/
set_option maxRecDepth 100000 in
theorem c_C_tallies {G : Gt} (hG : GOK G) {φ : Ph} (hF : SF 134 φ)   {M : Mm} {l1 : Int32} {o : Nat ⊕ Int32} (h : f_C_tallies M l1 = some o) : CT G I_C_tallies [.ref 0, .int l1] M φ (oSi o) M (pS o φ) :=
  ct_of hG (by decide) (Nat.le_of_ble_eq_true rfl) (fun B hB => t_C_tallies hB hF  h)
set_option maxRecDepth 100000 in
theorem t_C_isBog {G : Gt} {φ : Ph} {B : Bag} (hB : BF G I_C_isBog B) (hF : SF 134 φ)   {M : Mm} {o : Nat ⊕ Int32} {l1 : Int32}  (h : f_C_isBog M l1 = some o) : AW G I_C_isBog B (QM G I_C_isBog B (oSi o) M (pS o φ)) 0 0 0 [(0, .ref 0), (1, .int l1)] [] M φ := by
  unfold f_C_isBog at h
  refine a_aload_n (j := 0) hB e_C_isBog_0 rfl rfl ?_
  refine a_iload_n (j := 1) hB e_C_isBog_1 rfl rfl ?_
  rcases bt_i h with ⟨e2, hr2, rfl⟩ | ⟨r2, hr2, h⟩
  · exact a_thr (E := exS e2) (M1 := M) (φ1 := dirt φ) hB (ar_V (As := [.int l1]) (rest := []) hB (c_C_requireLeg (bf_G hB) hF hr2) ml_C_163 md_C_requireLeg rc_C_requireLeg (sf_lt hF (by decide)) kk_0 rfl rfl (Nat.le_of_ble_eq_true rfl) rm_C_isBog_C_requireLeg e_C_isBog_2) rfl (by decide) (by decide)
  · refine a_ret (v := none) (M1 := M) (φ1 := φ) (st1 := []) (j1 := 1) (j2 := 6) (ar_V (As := [.int l1]) (rest := []) hB (c_C_requireLeg (bf_G hB) hF hr2) ml_C_163 md_C_requireLeg rc_C_requireLeg (sf_lt hF (by decide)) kk_0 rfl rfl (Nat.le_of_ble_eq_true rfl) rm_C_isBog_C_requireLeg e_C_isBog_2) rfl rfl rfl ?_
    refine a_aload_n (j := 0) hB e_C_isBog_5 rfl rfl ?_
    refine a_getR (r := 15) (k := 7) hB e_C_isBog_6 fl_C_39 (sf_lt hF (by decide)) kk_0 tt_0_7 (hF.1 _ _) ?_
    refine a_getR (r := 18) (k := 2) hB e_C_isBog_9 fl_C_239 (sf_lt hF (by decide)) kk_15 tt_15_2 (hF.1 _ _) ?_
    refine a_iload_n (j := 1) hB e_C_isBog_12 rfl rfl ?_
    obtain ⟨c13, h⟩ := chk_i h
    refine a_zald' hB e_C_isBog_13 (sf_lt hF (by decide)) kk_18 ll_18 c13 ?_
    obtain ⟨z14, h⟩ := chk_i h
    cases h
    exact a_zret hB rfl z14 e_C_isBog_14 (by decide) (by decide)
set_option maxRecDepth 100000 in
theorem c_C_isBog {G : Gt} (hG : GOK G) {φ : Ph} (hF : SF 134 φ)   {M : Mm} {l1 : Int32} {o : Nat ⊕ Int32} (h : f_C_isBog M l1 = some o) : CT G I_C_isBog [.ref 0, .int l1] M φ (oSi o) M (pS o φ) :=
  ct_of hG (by decide) (Nat.le_of_ble_eq_true rfl) (fun B hB => t_C_isBog hB hF  h)
set_option maxRecDepth 100000 in
theorem t_C_nameLength_4 {G : Gt} {φ : Ph} {B : Bag} (hB : BF G I_C_nameLength B) (hF : SF 134 φ)   {M : Mm} {o : Int32} : ∀ (n : Nat) (l1 : Int32) (l2 : Int32), f_C_nameLength_4 n l1 l2 = some o → AW G I_C_nameLength B (QM G I_C_nameLength B (.inl (some (.int o))) M φ) 0 0 4 [(1, .int l1), (2, .int l2)] [] M φ := by
  intro n
  induction n with
  | zero => intro l1 l2 h; cases h
  | succ n hr4 =>
    intro l1 l2 h
    rw [f_C_nameLength_4] at h
    refine a_iload_n (j := 1) hB e_C_nameLength_4 rfl rfl ?_
    refine a_if_le (tgt := 18) hB e_C_nameLength_5 (by decide) (fun c => ?_) (fun c => ?_)
    · have h := ip c h
      refine a_iload_n (j := 0) hB e_C_nameLength_18 rfl rfl ?_
      cases h
      exact a_iret hB rfl e_C_nameLength_19 (by decide) (by decide)
    · have h := iq c h
      refine a_iinc (j := 0) (v := l1 + 1) (ls' := [(1, .int (l1 + 1)), (2, .int l2)]) hB e_C_nameLength_8 rfl (inc_1 _) (Nat.le_of_ble_eq_true rfl) rfl ?_
      refine a_iload_n (j := 1) hB e_C_nameLength_11 rfl rfl ?_
      refine a_iconst (v := 5) hB e_C_nameLength_12 ic_5 ?_
      refine a_ishr hB e_C_nameLength_13 ?_
      refine a_istore_n (ls' := [(2, .int (l2 >>> ((5 : Int32) &&& 31))), (1, .int (l1 + 1))]) hB e_C_nameLength_14 rfl (Nat.le_of_ble_eq_true rfl) rfl ?_
      refine a_goto (tgt := 4) hB e_C_nameLength_15 (by decide) ?_
      refine a_ls [1, 0] (ls' := [(1, .int (l1 + 1)), (2, .int (l2 >>> ((5 : Int32) &&& 31)))]) rfl ?_
      exact hr4 _ _ h
set_option maxRecDepth 100000 in
theorem t_C_nameLength {G : Gt} {φ : Ph} {B : Bag} (hB : BF G I_C_nameLength B) (hF : SF 134 φ)   {M : Mm} {o : Int32} {l0 : Int32}  (h : f_C_nameLength l0 = some o) : AW G I_C_nameLength B (QM G I_C_nameLength B (.inl (some (.int o))) M φ) 0 0 0 [(0, .int l0)] [] M φ := by
  unfold f_C_nameLength at h
  refine a_iconst (v := 0) hB e_C_nameLength_0 ic_0 ?_
  refine a_istore_n (ls' := [(1, .int (0 : Int32)), (0, .int l0)]) hB e_C_nameLength_1 rfl (Nat.le_of_ble_eq_true rfl) rfl ?_
  refine a_iload_n (j := 1) hB e_C_nameLength_2 rfl rfl ?_
  refine a_istore_n (ls' := [(2, .int l0), (1, .int (0 : Int32)), (0, .int l0)]) hB e_C_nameLength_3 rfl (Nat.le_of_ble_eq_true rfl) rfl ?_
  refine a_ls [1, 0] (ls' := [(1, .int (0 : Int32)), (2, .int l0)]) rfl ?_
  exact t_C_nameLength_4 hB hF _ _ _ h
set_option maxRecDepth 100000 in
theorem c_C_nameLength {G : Gt} (hG : GOK G) {φ : Ph} (hF : SF 134 φ)   {M : Mm} {l0 : Int32} {o : Int32} (h : f_C_nameLength l0 = some o) : CT G I_C_nameLength [.int l0] M φ (.inl (some (.int o))) M φ :=
  ct_of hG (by decide) (Nat.le_of_ble_eq_true rfl) (fun B hB => t_C_nameLength hB hF  h)
set_option maxRecDepth 100000 in
theorem t_C_nameByte {G : Gt} {φ : Ph} {B : Bag} (hB : BF G I_C_nameByte B) (hF : SF 134 φ)   {M : Mm} {o : Nat ⊕ Int32} {l1 : Int32} {l2 : Int32}  (h : f_C_nameByte M l1 l2 = some o) : AW G I_C_nameByte B (QM G I_C_nameByte B (oSi o) M (pS o φ)) 0 0 0 [(0, .ref 0), (1, .int l1), (2, .int l2)] [] M φ := by
  unfold f_C_nameByte at h
  refine a_aload_n (j := 0) hB e_C_nameByte_0 rfl rfl ?_
  refine a_iload_n (j := 1) hB e_C_nameByte_1 rfl rfl ?_
  rcases bt_i h with ⟨e2, hr2, rfl⟩ | ⟨r2, hr2, h⟩
  · exact a_thr (E := exS e2) (M1 := M) (φ1 := dirt φ) hB (ar_V (As := [.int l1]) (rest := []) hB (c_C_requireLeg (bf_G hB) hF hr2) ml_C_163 md_C_requireLeg rc_C_requireLeg (sf_lt hF (by decide)) kk_0 rfl rfl (Nat.le_of_ble_eq_true rfl) rm_C_nameByte_C_requireLeg e_C_nameByte_2) rfl (by decide) (by decide)
  · refine a_ret (v := none) (M1 := M) (φ1 := φ) (st1 := []) (j1 := 1) (j2 := 6) (ar_V (As := [.int l1]) (rest := []) hB (c_C_requireLeg (bf_G hB) hF hr2) ml_C_163 md_C_requireLeg rc_C_requireLeg (sf_lt hF (by decide)) kk_0 rfl rfl (Nat.le_of_ble_eq_true rfl) rm_C_nameByte_C_requireLeg e_C_nameByte_2) rfl rfl rfl ?_
    refine a_aload_n (j := 0) hB e_C_nameByte_5 rfl rfl ?_
    refine a_getR (r := 15) (k := 7) hB e_C_nameByte_6 fl_C_39 (sf_lt hF (by decide)) kk_0 tt_0_7 (hF.1 _ _) ?_
    refine a_getR (r := 16) (k := 0) hB e_C_nameByte_9 fl_C_242 (sf_lt hF (by decide)) kk_15 tt_15_0 (hF.1 _ _) ?_
    refine a_iload_n (j := 1) hB e_C_nameByte_12 rfl rfl ?_
    obtain ⟨c13, h⟩ := chk_i h
    refine a_iald' hB e_C_nameByte_13 (sf_lt hF (by decide)) kk_16 ll_16 c13 ?_
    refine a_istore_n (ls' := [(3, .int (M 16 (ix l1))), (0, .ref 0), (1, .int l1), (2, .int l2)]) hB e_C_nameByte_14 rfl (Nat.le_of_ble_eq_true rfl) rfl ?_
    refine a_iload_n (j := 0) hB e_C_nameByte_15 rfl rfl ?_
    obtain ⟨r16, hr16, h⟩ := bn_i h
    refine a_ret (v := (some (.int r16))) (M1 := M) (φ1 := φ) (st1 := [.int r16]) (j1 := 1) (j2 := 6) (ar_S (As := [.int (M 16 (ix l1))]) (rest := []) hB (c_C_nameLength (bf_G hB) hF hr16) ml_C_245 md_C_nameLength rfl rfl (Nat.le_of_ble_eq_true rfl) rm_C_nameByte_C_nameLength_1_6 e_C_nameByte_16) rfl rfl rfl ?_
    refine a_istore (ls' := [(4, .int r16), (3, .int (M 16 (ix l1))), (0, .ref 0), (1, .int l1), (2, .int l2)]) hB e_C_nameByte_19 (Nat.le_of_ble_eq_true rfl) rfl ?_
    refine a_iload_n (j := 4) hB e_C_nameByte_21 rfl rfl ?_
    refine a_iconst (v := 0) hB e_C_nameByte_22 ic_0 ?_
    refine a_iload (j := 0) hB e_C_nameByte_23 rfl ?_
    refine a_iconst (v := 1) hB e_C_nameByte_25 ic_1 ?_
    refine a_isub hB e_C_nameByte_26 ?_
    obtain ⟨r27, hr27, h⟩ := bn_i h
    refine a_ret (v := (some (.int r27))) (M1 := M) (φ1 := φ) (st1 := [.int r27]) (j1 := 1) (j2 := 6) (ar_S (As := [.int l2, .int (0 : Int32), .int (r16 - (1 : Int32))]) (rest := []) hB (c_C_isBetween (bf_G hB) hF hr27) ml_C_100 md_C_isBetween rfl rfl (Nat.le_of_ble_eq_true rfl) rm_C_nameByte_C_isBetween_1_6 e_C_nameByte_27) rfl rfl rfl ?_
    refine a_if_ne (tgt := 35) hB e_C_nameByte_30 (by decide) (fun c => ?_) (fun c => ?_)
    · have h := iq c h
      refine a_iconst (v := 5) hB e_C_nameByte_35 ic_5 ?_
      refine a_iload (j := 0) hB e_C_nameByte_36 rfl ?_
      refine a_iconst (v := 1) hB e_C_nameByte_38 ic_1 ?_
      refine a_isub hB e_C_nameByte_39 ?_
      refine a_iload_n (j := 4) hB e_C_nameByte_40 rfl rfl ?_
      refine a_isub hB e_C_nameByte_41 ?_
      refine a_imul hB e_C_nameByte_42 ?_
      refine a_istore (ls' := [(5, .int ((5 : Int32) * ((r16 - (1 : Int32)) - l2))), (4, .int r16), (3, .int (M 16 (ix l1))), (0, .ref 0), (1, .int l1), (2, .int l2)]) hB e_C_nameByte_43 (Nat.le_of_ble_eq_true rfl) rfl ?_
      refine a_bipush (v := 96) hB e_C_nameByte_45 bp_96 ?_
      refine a_iload_n (j := 2) hB e_C_nameByte_47 rfl rfl ?_
      refine a_iload (j := 0) hB e_C_nameByte_48 rfl ?_
      refine a_ishr hB e_C_nameByte_50 ?_
      refine a_bipush (v := 31) hB e_C_nameByte_51 bp_31 ?_
      refine a_iand hB e_C_nameByte_53 ?_
      refine a_iadd hB e_C_nameByte_54 ?_
      cases h
      exact a_iret hB rfl e_C_nameByte_55 (by decide) (by decide)
    · have h := ip c h
      refine a_iconst (v := -1) hB e_C_nameByte_33 ic_m1 ?_
      cases h
      exact a_iret hB rfl e_C_nameByte_34 (by decide) (by decide)
set_option maxRecDepth 100000 in
theorem c_C_nameByte {G : Gt} (hG : GOK G) {φ : Ph} (hF : SF 134 φ)   {M : Mm} {l1 : Int32} {l2 : Int32} {o : Nat ⊕ Int32} (h : f_C_nameByte M l1 l2 = some o) : CT G I_C_nameByte [.ref 0, .int l1, .int l2] M φ (oSi o) M (pS o φ) :=
  ct_of hG (by decide) (Nat.le_of_ble_eq_true rfl) (fun B hB => t_C_nameByte hB hF  h)
set_option maxRecDepth 100000 in
theorem t_C_requireStation {G : Gt} {φ : Ph} {B : Bag} (hB : BF G I_C_requireStation B) (hF : SF 134 φ)   {M : Mm} {o : Nat ⊕ Unit} {l1 : Int32}  (h : f_C_requireStation M l1 = some o) : AW G I_C_requireStation B (QM G I_C_requireStation B (oSv o) M (pS o φ)) 0 0 0 [(0, .ref 0), (1, .int l1)] [] M φ := by
  unfold f_C_requireStation at h
  refine a_iload_n (j := 1) hB e_C_requireStation_0 rfl rfl ?_
  refine a_iconst (v := 0) hB e_C_requireStation_1 ic_0 ?_
  refine a_aload_n (j := 0) hB e_C_requireStation_2 rfl rfl ?_
  refine a_getR (r := 15) (k := 7) hB e_C_requireStation_3 fl_C_39 (sf_lt hF (by decide)) kk_0 tt_0_7 (hF.1 _ _) ?_
  refine a_getI (k := 9) hB e_C_requireStation_6 fl_C_115 (sf_lt hF (by decide)) kk_15 tt_15_9 ?_
  obtain ⟨r9, hr9, h⟩ := bn_i h
  refine a_ret (v := (some (.int r9))) (M1 := M) (φ1 := φ) (st1 := [.int r9]) (j1 := 0) (j2 := 0) (ar_S (As := [.int l1, .int (0 : Int32), .int (M 15 9)]) (rest := []) hB (c_C_isBetween (bf_G hB) hF hr9) ml_C_100 md_C_isBetween rfl rfl (Nat.le_of_ble_eq_true rfl) rm_C_requireStation_C_isBetween e_C_requireStation_9) rfl rfl rfl ?_
  refine a_if_ne (tgt := 26) hB e_C_requireStation_12 (by decide) (fun c => ?_) (fun c => ?_)
  · have h := iq c h
    cases h
    exact a_vret hB rfl e_C_requireStation_26 (by decide) (by decide)
  · have h := ip c h
    cases h
    exact a_throwSW (E := "java/lang/IndexOutOfBoundsException") (i := 28) hB (by decide) cl_C_336 ini_3 rfl at_C_340 rfl e_C_requireStation_15 e_C_requireStation_18 e_C_requireStation_19 e_C_requireStation_22 e_C_requireStation_25 (by decide) (by decide) (by decide) (by decide)
set_option maxRecDepth 100000 in
theorem c_C_requireStation {G : Gt} (hG : GOK G) {φ : Ph} (hF : SF 134 φ)   {M : Mm} {l1 : Int32} {o : Nat ⊕ Unit} (h : f_C_requireStation M l1 = some o) : CT G I_C_requireStation [.ref 0, .int l1] M φ (oSv o) M (pS o φ) :=
  ct_of hG (by decide) (Nat.le_of_ble_eq_true rfl) (fun B hB => t_C_requireStation hB hF  h)
set_option maxRecDepth 100000 in
theorem t_C_followed {G : Gt} {φ : Ph} {B : Bag} (hB : BF G I_C_followed B) (hF : SF 134 φ)    {M9 : Mm}  {M : Mm} (h : f_C_followed M = some M9) : AW G I_C_followed B (QM G I_C_followed B (.inl (some (.ref 25))) M9 φ) 0 0 0 [(0, .ref 0)] [] M φ := by
  unfold f_C_followed at h
  refine a_aload_n (j := 0) hB e_C_followed_0 rfl rfl ?_
  refine a_getR (r := 25) (k := 9) hB e_C_followed_1 fl_C_52 (sf_lt hF (by decide)) kk_0 tt_0_9 (hF.1 _ _) ?_
  refine a_aload_n (j := 0) hB e_C_followed_4 rfl rfl ?_
  refine a_getR (r := 15) (k := 7) hB e_C_followed_5 fl_C_39 (sf_lt hF (by decide)) kk_0 tt_0_7 (hF.1 _ _) ?_
  obtain ⟨M8, hr8, h⟩ := bn_i h
  refine a_ret (v := none) (M1 := M8) (φ1 := φ) (st1 := []) (j1 := 0) (j2 := 0) (ar_V (As := [.ref 15]) (rest := []) hB (c_T_follow (bf_G hB) hF sv_15 hr8) ml_C_301 md_T_follow rc_T_follow (sf_lt hF (by decide)) kk_25 rfl rfl (Nat.le_of_ble_eq_true rfl) rm_C_followed_T_follow e_C_followed_8) rfl rfl rfl ?_
  refine a_aload_n (j := 0) hB e_C_followed_11 rfl rfl ?_
  refine a_getR (r := 25) (k := 9) hB e_C_followed_12 fl_C_52 (sf_lt hF (by decide)) kk_0 tt_0_9 (hF.1 _ _) ?_
  cases h
  exact a_aret hB rfl e_C_followed_15 (by decide) (by decide)
set_option maxRecDepth 100000 in
theorem c_C_followed {G : Gt} (hG : GOK G) {φ : Ph} (hF : SF 134 φ)   {M : Mm}  {M9 : Mm} (h : f_C_followed M = some M9) : CT G I_C_followed [.ref 0] M φ (.inl (some (.ref 25))) M9 φ :=
  ct_of hG (by decide) (Nat.le_of_ble_eq_true rfl) (fun B hB => t_C_followed hB hF  h)
set_option maxRecDepth 100000 in
theorem t_C_rawEast {G : Gt} {φ : Ph} {B : Bag} (hB : BF G I_C_rawEast B) (hF : SF 134 φ)    {o : Nat ⊕ Int32} {M9 : Mm} {l1 : Int32} {M : Mm} (h : f_C_rawEast l1 M = some (o, M9)) : AW G I_C_rawEast B (QM G I_C_rawEast B (oSi o) M9 (pS o φ)) 0 0 0 [(0, .ref 0), (1, .int l1)] [] M φ := by
  unfold f_C_rawEast at h
  refine a_aload_n (j := 0) hB e_C_rawEast_0 rfl rfl ?_
  refine a_iload_n (j := 1) hB e_C_rawEast_1 rfl rfl ?_
  rcases bti_i h with ⟨e2, hr2, rfl, hz⟩ | ⟨r2, hr2, h⟩
  · obtain rfl := hz.symm
    exact a_thr (E := exS e2) (M1 := M) (φ1 := dirt φ) hB (ar_V (As := [.int l1]) (rest := []) hB (c_C_requireStation (bf_G hB) hF hr2) ml_C_252 md_C_requireStation rc_C_requireStation (sf_lt hF (by decide)) kk_0 rfl rfl (Nat.le_of_ble_eq_true rfl) rm_C_rawEast_C_requireStation e_C_rawEast_2) rfl (by decide) (by decide)
  · refine a_ret (v := none) (M1 := M) (φ1 := φ) (st1 := []) (j1 := 1) (j2 := 6) (ar_V (As := [.int l1]) (rest := []) hB (c_C_requireStation (bf_G hB) hF hr2) ml_C_252 md_C_requireStation rc_C_requireStation (sf_lt hF (by decide)) kk_0 rfl rfl (Nat.le_of_ble_eq_true rfl) rm_C_rawEast_C_requireStation e_C_rawEast_2) rfl rfl rfl ?_
    refine a_aload_n (j := 0) hB e_C_rawEast_5 rfl rfl ?_
    obtain ⟨M6, hr6, h⟩ := bn_i h
    refine a_ret (v := (some (.ref 25))) (M1 := M6) (φ1 := φ) (st1 := [.ref 25]) (j1 := 1) (j2 := 6) (ar_V (As := []) (rest := []) hB (c_C_followed (bf_G hB) hF hr6) ml_C_255 md_C_followed rc_C_followed (sf_lt hF (by decide)) kk_0 rfl rfl (Nat.le_of_ble_eq_true rfl) rm_C_rawEast_C_followed_1_6 e_C_rawEast_6) rfl rfl rfl ?_
    refine a_getR (r := 27) (k := 1) hB e_C_rawEast_9 fl_C_259 (sf_lt hF (by decide)) kk_25 tt_25_1 (hF.1 _ _) ?_
    refine a_iload_n (j := 1) hB e_C_rawEast_12 rfl rfl ?_
    obtain ⟨c13, h⟩ := chk_i h
    refine a_iald' hB e_C_rawEast_13 (sf_lt hF (by decide)) kk_27 ll_27 c13 ?_
    cases h
    exact a_iret hB rfl e_C_rawEast_14 (by decide) (by decide)
set_option maxRecDepth 100000 in
theorem c_C_rawEast {G : Gt} (hG : GOK G) {φ : Ph} (hF : SF 134 φ)   {M : Mm} {l1 : Int32} {o : Nat ⊕ Int32} {M9 : Mm} (h : f_C_rawEast l1 M = some (o, M9)) : CT G I_C_rawEast [.ref 0, .int l1] M φ (oSi o) M9 (pS o φ) :=
  ct_of hG (by decide) (Nat.le_of_ble_eq_true rfl) (fun B hB => t_C_rawEast hB hF  h)
set_option maxRecDepth 100000 in
theorem t_C_rawNorth {G : Gt} {φ : Ph} {B : Bag} (hB : BF G I_C_rawNorth B) (hF : SF 134 φ)    {o : Nat ⊕ Int32} {M9 : Mm} {l1 : Int32} {M : Mm} (h : f_C_rawNorth l1 M = some (o, M9)) : AW G I_C_rawNorth B (QM G I_C_rawNorth B (oSi o) M9 (pS o φ)) 0 0 0 [(0, .ref 0), (1, .int l1)] [] M φ := by
  unfold f_C_rawNorth at h
  refine a_aload_n (j := 0) hB e_C_rawNorth_0 rfl rfl ?_
  refine a_iload_n (j := 1) hB e_C_rawNorth_1 rfl rfl ?_
  rcases bti_i h with ⟨e2, hr2, rfl, hz⟩ | ⟨r2, hr2, h⟩
  · obtain rfl := hz.symm
    exact a_thr (E := exS e2) (M1 := M) (φ1 := dirt φ) hB (ar_V (As := [.int l1]) (rest := []) hB (c_C_requireStation (bf_G hB) hF hr2) ml_C_252 md_C_requireStation rc_C_requireStation (sf_lt hF (by decide)) kk_0 rfl rfl (Nat.le_of_ble_eq_true rfl) rm_C_rawNorth_C_requireStation e_C_rawNorth_2) rfl (by decide) (by decide)
  · refine a_ret (v := none) (M1 := M) (φ1 := φ) (st1 := []) (j1 := 1) (j2 := 6) (ar_V (As := [.int l1]) (rest := []) hB (c_C_requireStation (bf_G hB) hF hr2) ml_C_252 md_C_requireStation rc_C_requireStation (sf_lt hF (by decide)) kk_0 rfl rfl (Nat.le_of_ble_eq_true rfl) rm_C_rawNorth_C_requireStation e_C_rawNorth_2) rfl rfl rfl ?_
    refine a_aload_n (j := 0) hB e_C_rawNorth_5 rfl rfl ?_
    obtain ⟨M6, hr6, h⟩ := bn_i h
    refine a_ret (v := (some (.ref 25))) (M1 := M6) (φ1 := φ) (st1 := [.ref 25]) (j1 := 1) (j2 := 6) (ar_V (As := []) (rest := []) hB (c_C_followed (bf_G hB) hF hr6) ml_C_255 md_C_followed rc_C_followed (sf_lt hF (by decide)) kk_0 rfl rfl (Nat.le_of_ble_eq_true rfl) rm_C_rawNorth_C_followed_1_6 e_C_rawNorth_6) rfl rfl rfl ?_
    refine a_getR (r := 28) (k := 2) hB e_C_rawNorth_9 fl_C_262 (sf_lt hF (by decide)) kk_25 tt_25_2 (hF.1 _ _) ?_
    refine a_iload_n (j := 1) hB e_C_rawNorth_12 rfl rfl ?_
    obtain ⟨c13, h⟩ := chk_i h
    refine a_iald' hB e_C_rawNorth_13 (sf_lt hF (by decide)) kk_28 ll_28 c13 ?_
    cases h
    exact a_iret hB rfl e_C_rawNorth_14 (by decide) (by decide)
set_option maxRecDepth 100000 in
theorem c_C_rawNorth {G : Gt} (hG : GOK G) {φ : Ph} (hF : SF 134 φ)   {M : Mm} {l1 : Int32} {o : Nat ⊕ Int32} {M9 : Mm} (h : f_C_rawNorth l1 M = some (o, M9)) : CT G I_C_rawNorth [.ref 0, .int l1] M φ (oSi o) M9 (pS o φ) :=
  ct_of hG (by decide) (Nat.le_of_ble_eq_true rfl) (fun B hB => t_C_rawNorth hB hF  h)
set_option maxRecDepth 100000 in
theorem t_C_east {G : Gt} {φ : Ph} {B : Bag} (hB : BF G I_C_east B) (hF : SF 134 φ)    {o : Nat ⊕ Int32} {M9 : Mm} {l1 : Int32} {M : Mm} (h : f_C_east l1 M = some (o, M9)) : AW G I_C_east B (QM G I_C_east B (oSi o) M9 (pS o φ)) 0 0 0 [(0, .ref 0), (1, .int l1)] [] M φ := by
  unfold f_C_east at h
  refine a_aload_n (j := 0) hB e_C_east_0 rfl rfl ?_
  refine a_iload_n (j := 1) hB e_C_east_1 rfl rfl ?_
  rcases bti_i h with ⟨e2, hr2, rfl, hz⟩ | ⟨r2, hr2, h⟩
  · obtain rfl := hz.symm
    exact a_thr (E := exS e2) (M1 := M) (φ1 := dirt φ) hB (ar_V (As := [.int l1]) (rest := []) hB (c_C_requireStation (bf_G hB) hF hr2) ml_C_252 md_C_requireStation rc_C_requireStation (sf_lt hF (by decide)) kk_0 rfl rfl (Nat.le_of_ble_eq_true rfl) rm_C_east_C_requireStation e_C_east_2) rfl (by decide) (by decide)
  · refine a_ret (v := none) (M1 := M) (φ1 := φ) (st1 := []) (j1 := 1) (j2 := 6) (ar_V (As := [.int l1]) (rest := []) hB (c_C_requireStation (bf_G hB) hF hr2) ml_C_252 md_C_requireStation rc_C_requireStation (sf_lt hF (by decide)) kk_0 rfl rfl (Nat.le_of_ble_eq_true rfl) rm_C_east_C_requireStation e_C_east_2) rfl rfl rfl ?_
    refine a_aload_n (j := 0) hB e_C_east_5 rfl rfl ?_
    obtain ⟨M6, hr6, h⟩ := bn_i h
    refine a_ret (v := (some (.ref 25))) (M1 := M6) (φ1 := φ) (st1 := [.ref 25]) (j1 := 1) (j2 := 6) (ar_V (As := []) (rest := []) hB (c_C_followed (bf_G hB) hF hr6) ml_C_255 md_C_followed rc_C_followed (sf_lt hF (by decide)) kk_0 rfl rfl (Nat.le_of_ble_eq_true rfl) rm_C_east_C_followed_1_6 e_C_east_6) rfl rfl rfl ?_
    refine a_getR (r := 29) (k := 3) hB e_C_east_9 fl_C_265 (sf_lt hF (by decide)) kk_25 tt_25_3 (hF.1 _ _) ?_
    refine a_iload_n (j := 1) hB e_C_east_12 rfl rfl ?_
    obtain ⟨c13, h⟩ := chk_i h
    refine a_iald' hB e_C_east_13 (sf_lt hF (by decide)) kk_29 ll_29 c13 ?_
    cases h
    exact a_iret hB rfl e_C_east_14 (by decide) (by decide)
set_option maxRecDepth 100000 in
theorem c_C_east {G : Gt} (hG : GOK G) {φ : Ph} (hF : SF 134 φ)   {M : Mm} {l1 : Int32} {o : Nat ⊕ Int32} {M9 : Mm} (h : f_C_east l1 M = some (o, M9)) : CT G I_C_east [.ref 0, .int l1] M φ (oSi o) M9 (pS o φ) :=
  ct_of hG (by decide) (Nat.le_of_ble_eq_true rfl) (fun B hB => t_C_east hB hF  h)
set_option maxRecDepth 100000 in
theorem t_C_north {G : Gt} {φ : Ph} {B : Bag} (hB : BF G I_C_north B) (hF : SF 134 φ)    {o : Nat ⊕ Int32} {M9 : Mm} {l1 : Int32} {M : Mm} (h : f_C_north l1 M = some (o, M9)) : AW G I_C_north B (QM G I_C_north B (oSi o) M9 (pS o φ)) 0 0 0 [(0, .ref 0), (1, .int l1)] [] M φ := by
  unfold f_C_north at h
  refine a_aload_n (j := 0) hB e_C_north_0 rfl rfl ?_
  refine a_iload_n (j := 1) hB e_C_north_1 rfl rfl ?_
  rcases bti_i h with ⟨e2, hr2, rfl, hz⟩ | ⟨r2, hr2, h⟩
  · obtain rfl := hz.symm
    exact a_thr (E := exS e2) (M1 := M) (φ1 := dirt φ) hB (ar_V (As := [.int l1]) (rest := []) hB (c_C_requireStation (bf_G hB) hF hr2) ml_C_252 md_C_requireStation rc_C_requireStation (sf_lt hF (by decide)) kk_0 rfl rfl (Nat.le_of_ble_eq_true rfl) rm_C_north_C_requireStation e_C_north_2) rfl (by decide) (by decide)
  · refine a_ret (v := none) (M1 := M) (φ1 := φ) (st1 := []) (j1 := 1) (j2 := 6) (ar_V (As := [.int l1]) (rest := []) hB (c_C_requireStation (bf_G hB) hF hr2) ml_C_252 md_C_requireStation rc_C_requireStation (sf_lt hF (by decide)) kk_0 rfl rfl (Nat.le_of_ble_eq_true rfl) rm_C_north_C_requireStation e_C_north_2) rfl rfl rfl ?_
    refine a_aload_n (j := 0) hB e_C_north_5 rfl rfl ?_
    obtain ⟨M6, hr6, h⟩ := bn_i h
    refine a_ret (v := (some (.ref 25))) (M1 := M6) (φ1 := φ) (st1 := [.ref 25]) (j1 := 1) (j2 := 6) (ar_V (As := []) (rest := []) hB (c_C_followed (bf_G hB) hF hr6) ml_C_255 md_C_followed rc_C_followed (sf_lt hF (by decide)) kk_0 rfl rfl (Nat.le_of_ble_eq_true rfl) rm_C_north_C_followed_1_6 e_C_north_6) rfl rfl rfl ?_
    refine a_getR (r := 30) (k := 4) hB e_C_north_9 fl_C_268 (sf_lt hF (by decide)) kk_25 tt_25_4 (hF.1 _ _) ?_
    refine a_iload_n (j := 1) hB e_C_north_12 rfl rfl ?_
    obtain ⟨c13, h⟩ := chk_i h
    refine a_iald' hB e_C_north_13 (sf_lt hF (by decide)) kk_30 ll_30 c13 ?_
    cases h
    exact a_iret hB rfl e_C_north_14 (by decide) (by decide)
set_option maxRecDepth 100000 in
theorem c_C_north {G : Gt} (hG : GOK G) {φ : Ph} (hF : SF 134 φ)   {M : Mm} {l1 : Int32} {o : Nat ⊕ Int32} {M9 : Mm} (h : f_C_north l1 M = some (o, M9)) : CT G I_C_north [.ref 0, .int l1] M φ (oSi o) M9 (pS o φ) :=
  ct_of hG (by decide) (Nat.le_of_ble_eq_true rfl) (fun B hB => t_C_north hB hF  h)
set_option maxRecDepth 100000 in
theorem t_C_run {G : Gt} {φ : Ph} {B : Bag} (hB : BF G I_C_run B) (hF : SF 134 φ)    {o : Nat ⊕ Int32} {M9 : Mm} {l1 : Int32} {M : Mm} (h : f_C_run l1 M = some (o, M9)) : AW G I_C_run B (QM G I_C_run B (oSi o) M9 (pS o φ)) 0 0 0 [(0, .ref 0), (1, .int l1)] [] M φ := by
  unfold f_C_run at h
  refine a_aload_n (j := 0) hB e_C_run_0 rfl rfl ?_
  refine a_iload_n (j := 1) hB e_C_run_1 rfl rfl ?_
  rcases bti_i h with ⟨e2, hr2, rfl, hz⟩ | ⟨r2, hr2, h⟩
  · obtain rfl := hz.symm
    exact a_thr (E := exS e2) (M1 := M) (φ1 := dirt φ) hB (ar_V (As := [.int l1]) (rest := []) hB (c_C_requireStation (bf_G hB) hF hr2) ml_C_252 md_C_requireStation rc_C_requireStation (sf_lt hF (by decide)) kk_0 rfl rfl (Nat.le_of_ble_eq_true rfl) rm_C_run_C_requireStation e_C_run_2) rfl (by decide) (by decide)
  · refine a_ret (v := none) (M1 := M) (φ1 := φ) (st1 := []) (j1 := 1) (j2 := 6) (ar_V (As := [.int l1]) (rest := []) hB (c_C_requireStation (bf_G hB) hF hr2) ml_C_252 md_C_requireStation rc_C_requireStation (sf_lt hF (by decide)) kk_0 rfl rfl (Nat.le_of_ble_eq_true rfl) rm_C_run_C_requireStation e_C_run_2) rfl rfl rfl ?_
    refine a_aload_n (j := 0) hB e_C_run_5 rfl rfl ?_
    obtain ⟨M6, hr6, h⟩ := bn_i h
    refine a_ret (v := (some (.ref 25))) (M1 := M6) (φ1 := φ) (st1 := [.ref 25]) (j1 := 1) (j2 := 6) (ar_V (As := []) (rest := []) hB (c_C_followed (bf_G hB) hF hr6) ml_C_255 md_C_followed rc_C_followed (sf_lt hF (by decide)) kk_0 rfl rfl (Nat.le_of_ble_eq_true rfl) rm_C_run_C_followed_1_6 e_C_run_6) rfl rfl rfl ?_
    refine a_getR (r := 26) (k := 0) hB e_C_run_9 fl_C_271 (sf_lt hF (by decide)) kk_25 tt_25_0 (hF.1 _ _) ?_
    refine a_iload_n (j := 1) hB e_C_run_12 rfl rfl ?_
    obtain ⟨c13, h⟩ := chk_i h
    refine a_iald' hB e_C_run_13 (sf_lt hF (by decide)) kk_26 ll_26 c13 ?_
    cases h
    exact a_iret hB rfl e_C_run_14 (by decide) (by decide)
set_option maxRecDepth 100000 in
theorem c_C_run {G : Gt} (hG : GOK G) {φ : Ph} (hF : SF 134 φ)   {M : Mm} {l1 : Int32} {o : Nat ⊕ Int32} {M9 : Mm} (h : f_C_run l1 M = some (o, M9)) : CT G I_C_run [.ref 0, .int l1] M φ (oSi o) M9 (pS o φ) :=
  ct_of hG (by decide) (Nat.le_of_ble_eq_true rfl) (fun B hB => t_C_run hB hF  h)
set_option maxRecDepth 100000 in
theorem t_C_distanceFromStart {G : Gt} {φ : Ph} {B : Bag} (hB : BF G I_C_distanceFromStart B) (hF : SF 134 φ)    {o : Nat ⊕ Int32} {M9 : Mm} {l1 : Int32} {M : Mm} (h : f_C_distanceFromStart l1 M = some (o, M9)) : AW G I_C_distanceFromStart B (QM G I_C_distanceFromStart B (oSi o) M9 (pS o φ)) 0 0 0 [(0, .ref 0), (1, .int l1)] [] M φ := by
  unfold f_C_distanceFromStart at h
  refine a_aload_n (j := 0) hB e_C_distanceFromStart_0 rfl rfl ?_
  refine a_iload_n (j := 1) hB e_C_distanceFromStart_1 rfl rfl ?_
  rcases bti_i h with ⟨e2, hr2, rfl, hz⟩ | ⟨r2, hr2, h⟩
  · obtain rfl := hz.symm
    exact a_thr (E := exS e2) (M1 := M) (φ1 := dirt φ) hB (ar_V (As := [.int l1]) (rest := []) hB (c_C_requireStation (bf_G hB) hF hr2) ml_C_252 md_C_requireStation rc_C_requireStation (sf_lt hF (by decide)) kk_0 rfl rfl (Nat.le_of_ble_eq_true rfl) rm_C_distanceFromStart_C_requireStation e_C_distanceFromStart_2) rfl (by decide) (by decide)
  · refine a_ret (v := none) (M1 := M) (φ1 := φ) (st1 := []) (j1 := 1) (j2 := 6) (ar_V (As := [.int l1]) (rest := []) hB (c_C_requireStation (bf_G hB) hF hr2) ml_C_252 md_C_requireStation rc_C_requireStation (sf_lt hF (by decide)) kk_0 rfl rfl (Nat.le_of_ble_eq_true rfl) rm_C_distanceFromStart_C_requireStation e_C_distanceFromStart_2) rfl rfl rfl ?_
    refine a_aload_n (j := 0) hB e_C_distanceFromStart_5 rfl rfl ?_
    obtain ⟨M6, hr6, h⟩ := bn_i h
    refine a_ret (v := (some (.ref 25))) (M1 := M6) (φ1 := φ) (st1 := [.ref 25]) (j1 := 1) (j2 := 6) (ar_V (As := []) (rest := []) hB (c_C_followed (bf_G hB) hF hr6) ml_C_255 md_C_followed rc_C_followed (sf_lt hF (by decide)) kk_0 rfl rfl (Nat.le_of_ble_eq_true rfl) rm_C_distanceFromStart_C_followed_1_6 e_C_distanceFromStart_6) rfl rfl rfl ?_
    refine a_iload_n (j := 1) hB e_C_distanceFromStart_9 rfl rfl ?_
    obtain ⟨r10, hr10, h⟩ := bn_i h
    refine a_ret (v := (some (.int r10))) (M1 := M6) (φ1 := φ) (st1 := [.int r10]) (j1 := 1) (j2 := 6) (ar_V (As := [.int l1]) (rest := []) hB (c_T_distanceOf (bf_G hB) hF hr10) ml_C_274 md_T_distanceOf rc_T_distanceOf (sf_lt hF (by decide)) kk_25 rfl rfl (Nat.le_of_ble_eq_true rfl) rm_C_distanceFromStart_T_distanceOf_1_6 e_C_distanceFromStart_10) rfl rfl rfl ?_
    cases h
    exact a_iret hB rfl e_C_distanceFromStart_13 (by decide) (by decide)
set_option maxRecDepth 100000 in
theorem c_C_distanceFromStart {G : Gt} (hG : GOK G) {φ : Ph} (hF : SF 134 φ)   {M : Mm} {l1 : Int32} {o : Nat ⊕ Int32} {M9 : Mm} (h : f_C_distanceFromStart l1 M = some (o, M9)) : CT G I_C_distanceFromStart [.ref 0, .int l1] M φ (oSi o) M9 (pS o φ) :=
  ct_of hG (by decide) (Nat.le_of_ble_eq_true rfl) (fun B hB => t_C_distanceFromStart hB hF  h)
set_option maxRecDepth 100000 in
theorem t_C_perimeter {G : Gt} {φ : Ph} {B : Bag} (hB : BF G I_C_perimeter B) (hF : SF 134 φ)    {o : Int32} {M9 : Mm}  {M : Mm} (h : f_C_perimeter M = some (o, M9)) : AW G I_C_perimeter B (QM G I_C_perimeter B (.inl (some (.int o))) M9 φ) 0 0 0 [(0, .ref 0)] [] M φ := by
  unfold f_C_perimeter at h
  refine a_aload_n (j := 0) hB e_C_perimeter_0 rfl rfl ?_
  obtain ⟨M1, hr1, h⟩ := bn_i h
  refine a_ret (v := (some (.ref 25))) (M1 := M1) (φ1 := φ) (st1 := [.ref 25]) (j1 := 0) (j2 := 0) (ar_V (As := []) (rest := []) hB (c_C_followed (bf_G hB) hF hr1) ml_C_255 md_C_followed rc_C_followed (sf_lt hF (by decide)) kk_0 rfl rfl (Nat.le_of_ble_eq_true rfl) rm_C_perimeter_C_followed e_C_perimeter_1) rfl rfl rfl ?_
  obtain ⟨r4, hr4, h⟩ := bn_i h
  refine a_ret (v := (some (.int r4))) (M1 := M1) (φ1 := φ) (st1 := [.int r4]) (j1 := 0) (j2 := 0) (ar_V (As := []) (rest := []) hB (c_T_totalRun (bf_G hB) hF hr4) ml_C_277 md_T_totalRun rc_T_totalRun (sf_lt hF (by decide)) kk_25 rfl rfl (Nat.le_of_ble_eq_true rfl) rm_C_perimeter_T_totalRun e_C_perimeter_4) rfl rfl rfl ?_
  cases h
  exact a_iret hB rfl e_C_perimeter_7 (by decide) (by decide)
set_option maxRecDepth 100000 in
theorem c_C_perimeter {G : Gt} (hG : GOK G) {φ : Ph} (hF : SF 134 φ)   {M : Mm}  {o : Int32} {M9 : Mm} (h : f_C_perimeter M = some (o, M9)) : CT G I_C_perimeter [.ref 0] M φ (.inl (some (.int o))) M9 φ :=
  ct_of hG (by decide) (Nat.le_of_ble_eq_true rfl) (fun B hB => t_C_perimeter hB hF  h)
set_option maxRecDepth 100000 in
theorem t_C_closingEast {G : Gt} {φ : Ph} {B : Bag} (hB : BF G I_C_closingEast B) (hF : SF 134 φ)    {o : Int32} {M9 : Mm}  {M : Mm} (h : f_C_closingEast M = some (o, M9)) : AW G I_C_closingEast B (QM G I_C_closingEast B (.inl (some (.int o))) M9 φ) 0 0 0 [(0, .ref 0)] [] M φ := by
  unfold f_C_closingEast at h
  refine a_aload_n (j := 0) hB e_C_closingEast_0 rfl rfl ?_
  obtain ⟨M1, hr1, h⟩ := bn_i h
  refine a_ret (v := (some (.ref 25))) (M1 := M1) (φ1 := φ) (st1 := [.ref 25]) (j1 := 0) (j2 := 0) (ar_V (As := []) (rest := []) hB (c_C_followed (bf_G hB) hF hr1) ml_C_255 md_C_followed rc_C_followed (sf_lt hF (by decide)) kk_0 rfl rfl (Nat.le_of_ble_eq_true rfl) rm_C_closingEast_C_followed e_C_closingEast_1) rfl rfl rfl ?_
  obtain ⟨r4, hr4, h⟩ := bn_i h
  refine a_ret (v := (some (.int r4))) (M1 := M1) (φ1 := φ) (st1 := [.int r4]) (j1 := 0) (j2 := 0) (ar_V (As := []) (rest := []) hB (c_T_endEast (bf_G hB) hF hr4) ml_C_280 md_T_endEast rc_T_endEast (sf_lt hF (by decide)) kk_25 rfl rfl (Nat.le_of_ble_eq_true rfl) rm_C_closingEast_T_endEast e_C_closingEast_4) rfl rfl rfl ?_
  cases h
  exact a_iret hB rfl e_C_closingEast_7 (by decide) (by decide)
set_option maxRecDepth 100000 in
theorem c_C_closingEast {G : Gt} (hG : GOK G) {φ : Ph} (hF : SF 134 φ)   {M : Mm}  {o : Int32} {M9 : Mm} (h : f_C_closingEast M = some (o, M9)) : CT G I_C_closingEast [.ref 0] M φ (.inl (some (.int o))) M9 φ :=
  ct_of hG (by decide) (Nat.le_of_ble_eq_true rfl) (fun B hB => t_C_closingEast hB hF  h)
set_option maxRecDepth 100000 in
theorem t_C_closingNorth {G : Gt} {φ : Ph} {B : Bag} (hB : BF G I_C_closingNorth B) (hF : SF 134 φ)    {o : Int32} {M9 : Mm}  {M : Mm} (h : f_C_closingNorth M = some (o, M9)) : AW G I_C_closingNorth B (QM G I_C_closingNorth B (.inl (some (.int o))) M9 φ) 0 0 0 [(0, .ref 0)] [] M φ := by
  unfold f_C_closingNorth at h
  refine a_aload_n (j := 0) hB e_C_closingNorth_0 rfl rfl ?_
  obtain ⟨M1, hr1, h⟩ := bn_i h
  refine a_ret (v := (some (.ref 25))) (M1 := M1) (φ1 := φ) (st1 := [.ref 25]) (j1 := 0) (j2 := 0) (ar_V (As := []) (rest := []) hB (c_C_followed (bf_G hB) hF hr1) ml_C_255 md_C_followed rc_C_followed (sf_lt hF (by decide)) kk_0 rfl rfl (Nat.le_of_ble_eq_true rfl) rm_C_closingNorth_C_followed e_C_closingNorth_1) rfl rfl rfl ?_
  obtain ⟨r4, hr4, h⟩ := bn_i h
  refine a_ret (v := (some (.int r4))) (M1 := M1) (φ1 := φ) (st1 := [.int r4]) (j1 := 0) (j2 := 0) (ar_V (As := []) (rest := []) hB (c_T_endNorth (bf_G hB) hF hr4) ml_C_283 md_T_endNorth rc_T_endNorth (sf_lt hF (by decide)) kk_25 rfl rfl (Nat.le_of_ble_eq_true rfl) rm_C_closingNorth_T_endNorth e_C_closingNorth_4) rfl rfl rfl ?_
  cases h
  exact a_iret hB rfl e_C_closingNorth_7 (by decide) (by decide)
set_option maxRecDepth 100000 in
theorem c_C_closingNorth {G : Gt} (hG : GOK G) {φ : Ph} (hF : SF 134 φ)   {M : Mm}  {o : Int32} {M9 : Mm} (h : f_C_closingNorth M = some (o, M9)) : CT G I_C_closingNorth [.ref 0] M φ (.inl (some (.int o))) M9 φ :=
  ct_of hG (by decide) (Nat.le_of_ble_eq_true rfl) (fun B hB => t_C_closingNorth hB hF  h)
set_option maxRecDepth 100000 in
theorem t_C_misclosure {G : Gt} {φ : Ph} {B : Bag} (hB : BF G I_C_misclosure B) (hF : SF 134 φ)    {o : Int32} {M9 : Mm}  {M : Mm} (h : f_C_misclosure M = some (o, M9)) : AW G I_C_misclosure B (QM G I_C_misclosure B (.inl (some (.int o))) M9 φ) 0 0 0 [(0, .ref 0)] [] M φ := by
  unfold f_C_misclosure at h
  refine a_aload_n (j := 0) hB e_C_misclosure_0 rfl rfl ?_
  obtain ⟨M1, hr1, h⟩ := bn_i h
  refine a_ret (v := (some (.ref 25))) (M1 := M1) (φ1 := φ) (st1 := [.ref 25]) (j1 := 0) (j2 := 0) (ar_V (As := []) (rest := []) hB (c_C_followed (bf_G hB) hF hr1) ml_C_255 md_C_followed rc_C_followed (sf_lt hF (by decide)) kk_0 rfl rfl (Nat.le_of_ble_eq_true rfl) rm_C_misclosure_C_followed e_C_misclosure_1) rfl rfl rfl ?_
  obtain ⟨r4, hr4, h⟩ := bn_i h
  refine a_ret (v := (some (.int r4))) (M1 := M1) (φ1 := φ) (st1 := [.int r4]) (j1 := 0) (j2 := 0) (ar_V (As := []) (rest := []) hB (c_T_closingDistance (bf_G hB) hF hr4) ml_C_286 md_T_closingDistance rc_T_closingDistance (sf_lt hF (by decide)) kk_25 rfl rfl (Nat.le_of_ble_eq_true rfl) rm_C_misclosure_T_closingDistance e_C_misclosure_4) rfl rfl rfl ?_
  cases h
  exact a_iret hB rfl e_C_misclosure_7 (by decide) (by decide)
set_option maxRecDepth 100000 in
theorem c_C_misclosure {G : Gt} (hG : GOK G) {φ : Ph} (hF : SF 134 φ)   {M : Mm}  {o : Int32} {M9 : Mm} (h : f_C_misclosure M = some (o, M9)) : CT G I_C_misclosure [.ref 0] M φ (.inl (some (.int o))) M9 φ :=
  ct_of hG (by decide) (Nat.le_of_ble_eq_true rfl) (fun B hB => t_C_misclosure hB hF  h)
set_option maxRecDepth 100000 in
theorem t_C_precision_24 {G : Gt} {φ : Ph} {B : Bag} (hB : BF G I_C_precision B) (hF : SF 134 φ)    {o : Int32} {M9 : Mm} {t0 : Int32} {M : Mm} (h : f_C_precision_24 t0 M = some (o, M9)) : AW G I_C_precision B (QM G I_C_precision B (.inl (some (.int o))) M9 φ) 0 0 24 [] [.int t0] M φ := by
  unfold f_C_precision_24 at h
  cases h
  exact a_iret hB rfl e_C_precision_24 (by decide) (by decide)
set_option maxRecDepth 100000 in
theorem t_C_precision {G : Gt} {φ : Ph} {B : Bag} (hB : BF G I_C_precision B) (hF : SF 134 φ)    {o : Int32} {M9 : Mm}  {M : Mm} (h : f_C_precision M = some (o, M9)) : AW G I_C_precision B (QM G I_C_precision B (.inl (some (.int o))) M9 φ) 0 0 0 [(0, .ref 0)] [] M φ := by
  unfold f_C_precision at h
  refine a_aload_n (j := 0) hB e_C_precision_0 rfl rfl ?_
  obtain ⟨M1, hr1, h⟩ := bn_i h
  refine a_ret (v := (some (.ref 25))) (M1 := M1) (φ1 := φ) (st1 := [.ref 25]) (j1 := 0) (j2 := 0) (ar_V (As := []) (rest := []) hB (c_C_followed (bf_G hB) hF hr1) ml_C_255 md_C_followed rc_C_followed (sf_lt hF (by decide)) kk_0 rfl rfl (Nat.le_of_ble_eq_true rfl) rm_C_precision_C_followed e_C_precision_1) rfl rfl rfl ?_
  refine a_astore_n (ls' := [(1, .ref 25), (0, .ref 0)]) hB e_C_precision_4 rfl (Nat.le_of_ble_eq_true rfl) rfl ?_
  refine a_aload_n (j := 0) hB e_C_precision_5 rfl rfl ?_
  obtain ⟨r6, hr6, h⟩ := bn_i h
  refine a_ret (v := (some (.int r6))) (M1 := M1) (φ1 := φ) (st1 := [.int r6]) (j1 := 0) (j2 := 0) (ar_V (As := []) (rest := []) hB (c_T_closingDistance (bf_G hB) hF hr6) ml_C_286 md_T_closingDistance rc_T_closingDistance (sf_lt hF (by decide)) kk_25 rfl rfl (Nat.le_of_ble_eq_true rfl) rm_C_precision_T_closingDistance e_C_precision_6) rfl rfl rfl ?_
  refine a_istore_n (ls' := [(2, .int r6), (1, .ref 25), (0, .ref 0)]) hB e_C_precision_9 rfl (Nat.le_of_ble_eq_true rfl) rfl ?_
  refine a_iload_n (j := 0) hB e_C_precision_10 rfl rfl ?_
  refine a_if_ne (tgt := 18) hB e_C_precision_11 (by decide) (fun c => ?_) (fun c => ?_)
  · have h := iq c h
    refine a_aload_n (j := 1) hB e_C_precision_18 rfl rfl ?_
    obtain ⟨r19, hr19, h⟩ := bn_i h
    refine a_ret (v := (some (.int r19))) (M1 := M1) (φ1 := φ) (st1 := [.int r19]) (j1 := 0) (j2 := 0) (ar_V (As := []) (rest := []) hB (c_T_totalRun (bf_G hB) hF hr19) ml_C_277 md_T_totalRun rc_T_totalRun (sf_lt hF (by decide)) kk_25 rfl rfl (Nat.le_of_ble_eq_true rfl) rm_C_precision_T_totalRun e_C_precision_19) rfl rfl rfl ?_
    refine a_iload_n (j := 0) hB e_C_precision_22 rfl rfl ?_
    obtain ⟨c23, h⟩ := chk_i h
    refine a_idiv hB e_C_precision_23 c23 ?_
    refine a_ls [] (ls' := []) rfl ?_
    exact t_C_precision_24 hB hF h
  · have h := ip c h
    refine a_iconst (v := -1) hB e_C_precision_14 ic_m1 ?_
    refine a_goto (tgt := 24) hB e_C_precision_15 (by decide) ?_
    refine a_ls [] (ls' := []) rfl ?_
    exact t_C_precision_24 hB hF h
set_option maxRecDepth 100000 in
theorem c_C_precision {G : Gt} (hG : GOK G) {φ : Ph} (hF : SF 134 φ)   {M : Mm}  {o : Int32} {M9 : Mm} (h : f_C_precision M = some (o, M9)) : CT G I_C_precision [.ref 0] M φ (.inl (some (.int o))) M9 φ :=
  ct_of hG (by decide) (Nat.le_of_ble_eq_true rfl) (fun B hB => t_C_precision hB hF  h)
set_option maxRecDepth 100000 in
theorem t_C_spread_44 {G : Gt} {φ : Ph} {B : Bag} (hB : BF G I_C_spread B) (hF : SF 134 φ) {a : Nat} (hk_a : kd a = 10) (ha_a : a < 134) (hn_a : ln a = 21) {M : Mm} {o : Int32} {l2 : Int32} {l3 : Int32}  (h : f_C_spread_44 a M l2 l3 = some o) : AW G I_C_spread B (QM G I_C_spread B (.inl (some (.int o))) M φ) 0 0 44 [(2, .int l2), (3, .int l3)] [] M φ := by
  unfold f_C_spread_44 at h
  refine a_iload_n (j := 1) hB e_C_spread_44 rfl rfl ?_
  refine a_iload_n (j := 0) hB e_C_spread_45 rfl rfl ?_
  refine a_isub hB e_C_spread_46 ?_
  cases h
  exact a_iret hB rfl e_C_spread_47 (by decide) (by decide)
set_option maxRecDepth 100000 in
theorem t_C_spread_7 {G : Gt} {φ : Ph} {B : Bag} (hB : BF G I_C_spread B) (hF : SF 134 φ) {a : Nat} (hk_a : kd a = 10) (ha_a : a < 134) (hn_a : ln a = 21) {M : Mm} {o : Int32} : ∀ (n : Nat) (l1 : Int32) (l2 : Int32) (l3 : Int32) (l4 : Int32), f_C_spread_7 a M n l1 l2 l3 l4 = some o → AW G I_C_spread B (QM G I_C_spread B (.inl (some (.int o))) M φ) 0 0 7 [(0, .ref a), (1, .int l1), (2, .int l2), (3, .int l3), (4, .int l4)] [] M φ := by
  intro n
  induction n with
  | zero => intro l1 l2 l3 l4 h; cases h
  | succ n hr7 =>
    intro l1 l2 l3 l4 h
    rw [f_C_spread_7] at h
    refine a_iload (j := 4) hB e_C_spread_7 rfl ?_
    refine a_iload_n (j := 1) hB e_C_spread_9 rfl rfl ?_
    refine a_icmp_ge (tgt := 44) hB e_C_spread_10 (by decide) (fun c => ?_) (fun c => ?_)
    · have h := ip c h
      refine a_ls [2, 3] (ls' := [(2, .int l2), (3, .int l3)]) rfl ?_
      exact t_C_spread_44 hB hF hk_a ha_a hn_a h
    · have h := iq c h
      refine a_iload (j := 4) hB e_C_spread_13 rfl ?_
      refine a_aload_n (j := 0) hB e_C_spread_15 rfl rfl ?_
      refine a_alen (v := 21) (t := 10) hB e_C_spread_16 (sf_lt2 hF ha_a (by decide)) hk_a (by decide) hn_a rfl ?_
      refine a_icmp_ge (tgt := 44) hB e_C_spread_17 (by decide) (fun c => ?_) (fun c => ?_)
      · have h := ip c h
        refine a_ls [2, 3] (ls' := [(2, .int l2), (3, .int l3)]) rfl ?_
        exact t_C_spread_44 hB hF hk_a ha_a hn_a h
      · have h := iq c h
        refine a_iload_n (j := 2) hB e_C_spread_20 rfl rfl ?_
        refine a_aload_n (j := 0) hB e_C_spread_21 rfl rfl ?_
        refine a_iload (j := 4) hB e_C_spread_22 rfl ?_
        obtain ⟨c24, h⟩ := chk_i h
        refine a_iald' hB e_C_spread_24 (sf_lt2 hF ha_a (by decide)) hk_a hn_a c24 ?_
        refine a_min hB ml_C_204 ms_min ini_math mc_min (by decide) (Nat.le_of_ble_eq_true rfl) (by decide) (by decide) e_C_spread_25 ?_
        refine a_istore_n (ls' := [(2, .int (if (M a (ix l4)) < l2 then (M a (ix l4)) else l2)), (0, .ref a), (1, .int l1), (3, .int l3), (4, .int l4)]) hB e_C_spread_28 rfl (Nat.le_of_ble_eq_true rfl) rfl ?_
        refine a_iload_n (j := 3) hB e_C_spread_29 rfl rfl ?_
        refine a_aload_n (j := 1) hB e_C_spread_30 rfl rfl ?_
        refine a_iload (j := 4) hB e_C_spread_31 rfl ?_
        refine a_iald' hB e_C_spread_33 (sf_lt2 hF ha_a (by decide)) hk_a hn_a c24 ?_
        refine a_max hB ml_C_358 ms_max ini_math mc_max (by decide) (Nat.le_of_ble_eq_true rfl) (by decide) (by decide) e_C_spread_34 ?_
        refine a_istore_n (ls' := [(3, .int (if l3 < (M a (ix l4)) then (M a (ix l4)) else l3)), (2, .int (if (M a (ix l4)) < l2 then (M a (ix l4)) else l2)), (0, .ref a), (1, .int l1), (4, .int l4)]) hB e_C_spread_37 rfl (Nat.le_of_ble_eq_true rfl) rfl ?_
        refine a_iinc (j := 4) (v := l4 + 1) (ls' := [(4, .int (l4 + 1)), (3, .int (if l3 < (M a (ix l4)) then (M a (ix l4)) else l3)), (2, .int (if (M a (ix l4)) < l2 then (M a (ix l4)) else l2)), (0, .ref a), (1, .int l1)]) hB e_C_spread_38 rfl (inc_1 _) (Nat.le_of_ble_eq_true rfl) rfl ?_
        refine a_goto (tgt := 7) hB e_C_spread_41 (by decide) ?_
        refine a_ls [3, 4, 2, 1, 0] (ls' := [(0, .ref a), (1, .int l1), (2, .int (if (M a (ix l4)) < l2 then (M a (ix l4)) else l2)), (3, .int (if l3 < (M a (ix l4)) then (M a (ix l4)) else l3)), (4, .int (l4 + 1))]) rfl ?_
        exact hr7 _ _ _ _ h
set_option maxRecDepth 100000 in
theorem t_C_spread {G : Gt} {φ : Ph} {B : Bag} (hB : BF G I_C_spread B) (hF : SF 134 φ) {a : Nat} (hk_a : kd a = 10) (ha_a : a < 134) (hn_a : ln a = 21) {M : Mm} {o : Int32} {l1 : Int32}  (h : f_C_spread a M l1 = some o) : AW G I_C_spread B (QM G I_C_spread B (.inl (some (.int o))) M φ) 0 0 0 [(0, .ref a), (1, .int l1)] [] M φ := by
  unfold f_C_spread at h
  refine a_iconst (v := 0) hB e_C_spread_0 ic_0 ?_
  refine a_istore_n (ls' := [(2, .int (0 : Int32)), (0, .ref a), (1, .int l1)]) hB e_C_spread_1 rfl (Nat.le_of_ble_eq_true rfl) rfl ?_
  refine a_iconst (v := 0) hB e_C_spread_2 ic_0 ?_
  refine a_istore_n (ls' := [(3, .int (0 : Int32)), (2, .int (0 : Int32)), (0, .ref a), (1, .int l1)]) hB e_C_spread_3 rfl (Nat.le_of_ble_eq_true rfl) rfl ?_
  refine a_iconst (v := 0) hB e_C_spread_4 ic_0 ?_
  refine a_istore (ls' := [(4, .int (0 : Int32)), (3, .int (0 : Int32)), (2, .int (0 : Int32)), (0, .ref a), (1, .int l1)]) hB e_C_spread_5 (Nat.le_of_ble_eq_true rfl) rfl ?_
  refine a_ls [3, 4, 2, 1, 0] (ls' := [(0, .ref a), (1, .int l1), (2, .int (0 : Int32)), (3, .int (0 : Int32)), (4, .int (0 : Int32))]) rfl ?_
  exact t_C_spread_7 hB hF hk_a ha_a hn_a _ _ _ _ _ h
set_option maxRecDepth 100000 in
theorem c_C_spread {G : Gt} (hG : GOK G) {φ : Ph} (hF : SF 134 φ) {a : Nat} (hk_a : kd a = 10) (ha_a : a < 134) (hn_a : ln a = 21) {M : Mm} {l1 : Int32} {o : Int32} (h : f_C_spread a M l1 = some o) : CT G I_C_spread [.ref a, .int l1] M φ (.inl (some (.int o))) M φ :=
  ct_of hG (by decide) (Nat.le_of_ble_eq_true rfl) (fun B hB => t_C_spread hB hF hk_a ha_a hn_a h)
set_option maxRecDepth 100000 in
theorem t_C_width {G : Gt} {φ : Ph} {B : Bag} (hB : BF G I_C_width B) (hF : SF 134 φ)    {o : Int32} {M9 : Mm}  {M : Mm} (h : f_C_width M = some (o, M9)) : AW G I_C_width B (QM G I_C_width B (.inl (some (.int o))) M9 φ) 0 0 0 [(0, .ref 0)] [] M φ := by
  unfold f_C_width at h
  refine a_aload_n (j := 0) hB e_C_width_0 rfl rfl ?_
  obtain ⟨M1, hr1, h⟩ := bn_i h
  refine a_ret (v := (some (.ref 25))) (M1 := M1) (φ1 := φ) (st1 := [.ref 25]) (j1 := 0) (j2 := 0) (ar_V (As := []) (rest := []) hB (c_C_followed (bf_G hB) hF hr1) ml_C_255 md_C_followed rc_C_followed (sf_lt hF (by decide)) kk_0 rfl rfl (Nat.le_of_ble_eq_true rfl) rm_C_width_C_followed e_C_width_1) rfl rfl rfl ?_
  refine a_astore_n (ls' := [(1, .ref 25), (0, .ref 0)]) hB e_C_width_4 rfl (Nat.le_of_ble_eq_true rfl) rfl ?_
  refine a_aload_n (j := 0) hB e_C_width_5 rfl rfl ?_
  refine a_getR (r := 29) (k := 3) hB e_C_width_6 fl_C_265 (sf_lt hF (by decide)) kk_25 tt_25_3 (hF.1 _ _) ?_
  refine a_aload_n (j := 0) hB e_C_width_9 rfl rfl ?_
  refine a_getI (k := 5) hB e_C_width_10 fl_C_289 (sf_lt hF (by decide)) kk_25 tt_25_5 ?_
  refine a_iconst (v := 1) hB e_C_width_13 ic_1 ?_
  refine a_iadd hB e_C_width_14 ?_
  obtain ⟨r15, hr15, h⟩ := bn_i h
  refine a_ret (v := (some (.int r15))) (M1 := M1) (φ1 := φ) (st1 := [.int r15]) (j1 := 0) (j2 := 0) (ar_S (As := [.ref 29, .int ((M1 25 5) + (1 : Int32))]) (rest := []) hB (c_C_spread (bf_G hB) hF kk_29 (by decide) ll_29 hr15) ml_C_290 md_C_spread rfl rfl (Nat.le_of_ble_eq_true rfl) rm_C_width_C_spread e_C_width_15) rfl rfl rfl ?_
  cases h
  exact a_iret hB rfl e_C_width_18 (by decide) (by decide)
set_option maxRecDepth 100000 in
theorem c_C_width {G : Gt} (hG : GOK G) {φ : Ph} (hF : SF 134 φ)   {M : Mm}  {o : Int32} {M9 : Mm} (h : f_C_width M = some (o, M9)) : CT G I_C_width [.ref 0] M φ (.inl (some (.int o))) M9 φ :=
  ct_of hG (by decide) (Nat.le_of_ble_eq_true rfl) (fun B hB => t_C_width hB hF  h)
set_option maxRecDepth 100000 in
theorem t_C_height {G : Gt} {φ : Ph} {B : Bag} (hB : BF G I_C_height B) (hF : SF 134 φ)    {o : Int32} {M9 : Mm}  {M : Mm} (h : f_C_height M = some (o, M9)) : AW G I_C_height B (QM G I_C_height B (.inl (some (.int o))) M9 φ) 0 0 0 [(0, .ref 0)] [] M φ := by
  unfold f_C_height at h
  refine a_aload_n (j := 0) hB e_C_height_0 rfl rfl ?_
  obtain ⟨M1, hr1, h⟩ := bn_i h
  refine a_ret (v := (some (.ref 25))) (M1 := M1) (φ1 := φ) (st1 := [.ref 25]) (j1 := 0) (j2 := 0) (ar_V (As := []) (rest := []) hB (c_C_followed (bf_G hB) hF hr1) ml_C_255 md_C_followed rc_C_followed (sf_lt hF (by decide)) kk_0 rfl rfl (Nat.le_of_ble_eq_true rfl) rm_C_height_C_followed e_C_height_1) rfl rfl rfl ?_
  refine a_astore_n (ls' := [(1, .ref 25), (0, .ref 0)]) hB e_C_height_4 rfl (Nat.le_of_ble_eq_true rfl) rfl ?_
  refine a_aload_n (j := 0) hB e_C_height_5 rfl rfl ?_
  refine a_getR (r := 30) (k := 4) hB e_C_height_6 fl_C_268 (sf_lt hF (by decide)) kk_25 tt_25_4 (hF.1 _ _) ?_
  refine a_aload_n (j := 0) hB e_C_height_9 rfl rfl ?_
  refine a_getI (k := 5) hB e_C_height_10 fl_C_289 (sf_lt hF (by decide)) kk_25 tt_25_5 ?_
  refine a_iconst (v := 1) hB e_C_height_13 ic_1 ?_
  refine a_iadd hB e_C_height_14 ?_
  obtain ⟨r15, hr15, h⟩ := bn_i h
  refine a_ret (v := (some (.int r15))) (M1 := M1) (φ1 := φ) (st1 := [.int r15]) (j1 := 0) (j2 := 0) (ar_S (As := [.ref 30, .int ((M1 25 5) + (1 : Int32))]) (rest := []) hB (c_C_spread (bf_G hB) hF kk_30 (by decide) ll_30 hr15) ml_C_290 md_C_spread rfl rfl (Nat.le_of_ble_eq_true rfl) rm_C_height_C_spread e_C_height_15) rfl rfl rfl ?_
  cases h
  exact a_iret hB rfl e_C_height_18 (by decide) (by decide)
set_option maxRecDepth 100000 in
theorem c_C_height {G : Gt} (hG : GOK G) {φ : Ph} (hF : SF 134 φ)   {M : Mm}  {o : Int32} {M9 : Mm} (h : f_C_height M = some (o, M9)) : CT G I_C_height [.ref 0] M φ (.inl (some (.int o))) M9 φ :=
  ct_of hG (by decide) (Nat.le_of_ble_eq_true rfl) (fun B hB => t_C_height hB hF  h)
set_option maxRecDepth 100000 in
theorem t_C_farthestStation_41 {G : Gt} {φ : Ph} {B : Bag} (hB : BF G I_C_farthestStation B) (hF : SF 134 φ)    {o : Int32} {M9 : Mm} {r12 : Int32 → Int32 → Int32 → Mm → Option (Int32 × Mm)} (hr12 : ∀ (l2 : Int32) (l3 : Int32) (l4 : Int32) (M : Mm), r12 l2 l3 l4 M = some (o, M9) → AW G I_C_farthestStation B (QM G I_C_farthestStation B (.inl (some (.int o))) M9 φ) 0 0 12 [(1, .ref 25), (2, .int l2), (3, .int l3), (4, .int l4)] [] M φ) {l2 : Int32} {l3 : Int32} {l4 : Int32} {M : Mm} (h : f_C_farthestStation_41 r12 l2 l3 l4 M = some (o, M9)) : AW G I_C_farthestStation B (QM G I_C_farthestStation B (.inl (some (.int o))) M9 φ) 0 0 41 [(1, .ref 25), (2, .int l2), (3, .int l3), (4, .int l4)] [] M φ := by
  unfold f_C_farthestStation_41 at h
  refine a_iinc (j := 3) (v := l4 + 1) (ls' := [(4, .int (l4 + 1)), (1, .ref 25), (2, .int l2), (3, .int l3)]) hB e_C_farthestStation_41 rfl (inc_1 _) (Nat.le_of_ble_eq_true rfl) rfl ?_
  refine a_goto (tgt := 12) hB e_C_farthestStation_44 (by decide) ?_
  refine a_ls [1, 2, 3, 0] (ls' := [(1, .ref 25), (2, .int l2), (3, .int l3), (4, .int (l4 + 1))]) rfl ?_
  exact hr12 _ _ _ _ h
set_option maxRecDepth 100000 in
theorem t_C_farthestStation_12 {G : Gt} {φ : Ph} {B : Bag} (hB : BF G I_C_farthestStation B) (hF : SF 134 φ)    {o : Int32} {M9 : Mm} : ∀ (n : Nat) (l2 : Int32) (l3 : Int32) (l4 : Int32) (M : Mm), f_C_farthestStation_12 n l2 l3 l4 M = some (o, M9) → AW G I_C_farthestStation B (QM G I_C_farthestStation B (.inl (some (.int o))) M9 φ) 0 0 12 [(1, .ref 25), (2, .int l2), (3, .int l3), (4, .int l4)] [] M φ := by
  intro n
  induction n with
  | zero => intro l2 l3 l4 M h; cases h
  | succ n hr12 =>
    intro l2 l3 l4 M h
    rw [f_C_farthestStation_12] at h
    refine a_iload (j := 3) hB e_C_farthestStation_12 rfl ?_
    refine a_aload_n (j := 0) hB e_C_farthestStation_14 rfl rfl ?_
    refine a_getI (k := 5) hB e_C_farthestStation_15 fl_C_289 (sf_lt hF (by decide)) kk_25 tt_25_5 ?_
    refine a_icmp_gt (tgt := 47) hB e_C_farthestStation_18 (by decide) (fun c => ?_) (fun c => ?_)
    · have h := ip c h
      refine a_iload_n (j := 1) hB e_C_farthestStation_47 rfl rfl ?_
      cases h
      exact a_iret hB rfl e_C_farthestStation_48 (by decide) (by decide)
    · have h := iq c h
      refine a_aload_n (j := 0) hB e_C_farthestStation_21 rfl rfl ?_
      refine a_iload (j := 3) hB e_C_farthestStation_22 rfl ?_
      obtain ⟨r24, hr24, h⟩ := bn_i h
      refine a_ret (v := (some (.int r24))) (M1 := M) (φ1 := φ) (st1 := [.int r24]) (j1 := 0) (j2 := 0) (ar_V (As := [.int l4]) (rest := []) hB (c_T_distanceOf (bf_G hB) hF hr24) ml_C_274 md_T_distanceOf rc_T_distanceOf (sf_lt hF (by decide)) kk_25 rfl rfl (Nat.le_of_ble_eq_true rfl) rm_C_farthestStation_T_distanceOf e_C_farthestStation_24) rfl rfl rfl ?_
      refine a_istore (ls' := [(5, .int r24), (1, .ref 25), (2, .int l2), (3, .int l3), (4, .int l4)]) hB e_C_farthestStation_27 (Nat.le_of_ble_eq_true rfl) rfl ?_
      refine a_iload (j := 0) hB e_C_farthestStation_29 rfl ?_
      refine a_iload_n (j := 3) hB e_C_farthestStation_31 rfl rfl ?_
      refine a_icmp_le (tgt := 41) hB e_C_farthestStation_32 (by decide) (fun c => ?_) (fun c => ?_)
      · have h := ip c h
        refine a_ls [1, 2, 3, 4] (ls' := [(1, .ref 25), (2, .int l2), (3, .int l3), (4, .int l4)]) rfl ?_
        exact t_C_farthestStation_41 hB hF hr12 h
      · have h := iq c h
        refine a_iload (j := 4) hB e_C_farthestStation_35 rfl ?_
        refine a_istore_n (ls' := [(2, .int l4), (5, .int r24), (1, .ref 25), (3, .int l3), (4, .int l4)]) hB e_C_farthestStation_37 rfl (Nat.le_of_ble_eq_true rfl) rfl ?_
        refine a_iload (j := 1) hB e_C_farthestStation_38 rfl ?_
        refine a_istore_n (ls' := [(3, .int r24), (2, .int l4), (5, .int r24), (1, .ref 25), (4, .int l4)]) hB e_C_farthestStation_40 rfl (Nat.le_of_ble_eq_true rfl) rfl ?_
        refine a_ls [3, 1, 0, 4] (ls' := [(1, .ref 25), (2, .int l4), (3, .int r24), (4, .int l4)]) rfl ?_
        exact t_C_farthestStation_41 hB hF hr12 h
set_option maxRecDepth 100000 in
theorem t_C_farthestStation {G : Gt} {φ : Ph} {B : Bag} (hB : BF G I_C_farthestStation B) (hF : SF 134 φ)    {o : Int32} {M9 : Mm}  {M : Mm} (h : f_C_farthestStation M = some (o, M9)) : AW G I_C_farthestStation B (QM G I_C_farthestStation B (.inl (some (.int o))) M9 φ) 0 0 0 [(0, .ref 0)] [] M φ := by
  unfold f_C_farthestStation at h
  refine a_aload_n (j := 0) hB e_C_farthestStation_0 rfl rfl ?_
  obtain ⟨M1, hr1, h⟩ := bn_i h
  refine a_ret (v := (some (.ref 25))) (M1 := M1) (φ1 := φ) (st1 := [.ref 25]) (j1 := 0) (j2 := 0) (ar_V (As := []) (rest := []) hB (c_C_followed (bf_G hB) hF hr1) ml_C_255 md_C_followed rc_C_followed (sf_lt hF (by decide)) kk_0 rfl rfl (Nat.le_of_ble_eq_true rfl) rm_C_farthestStation_C_followed e_C_farthestStation_1) rfl rfl rfl ?_
  refine a_astore_n (ls' := [(1, .ref 25), (0, .ref 0)]) hB e_C_farthestStation_4 rfl (Nat.le_of_ble_eq_true rfl) rfl ?_
  refine a_iconst (v := 0) hB e_C_farthestStation_5 ic_0 ?_
  refine a_istore_n (ls' := [(2, .int (0 : Int32)), (1, .ref 25), (0, .ref 0)]) hB e_C_farthestStation_6 rfl (Nat.le_of_ble_eq_true rfl) rfl ?_
  refine a_iconst (v := 0) hB e_C_farthestStation_7 ic_0 ?_
  refine a_istore_n (ls' := [(3, .int (0 : Int32)), (2, .int (0 : Int32)), (1, .ref 25), (0, .ref 0)]) hB e_C_farthestStation_8 rfl (Nat.le_of_ble_eq_true rfl) rfl ?_
  refine a_iconst (v := 1) hB e_C_farthestStation_9 ic_1 ?_
  refine a_istore (ls' := [(4, .int (1 : Int32)), (3, .int (0 : Int32)), (2, .int (0 : Int32)), (1, .ref 25), (0, .ref 0)]) hB e_C_farthestStation_10 (Nat.le_of_ble_eq_true rfl) rfl ?_
  refine a_ls [3, 2, 1, 0] (ls' := [(1, .ref 25), (2, .int (0 : Int32)), (3, .int (0 : Int32)), (4, .int (1 : Int32))]) rfl ?_
  exact t_C_farthestStation_12 hB hF _ _ _ _ _ h
set_option maxRecDepth 100000 in
theorem c_C_farthestStation {G : Gt} (hG : GOK G) {φ : Ph} (hF : SF 134 φ)   {M : Mm}  {o : Int32} {M9 : Mm} (h : f_C_farthestStation M = some (o, M9)) : CT G I_C_farthestStation [.ref 0] M φ (.inl (some (.int o))) M9 φ :=
  ct_of hG (by decide) (Nat.le_of_ble_eq_true rfl) (fun B hB => t_C_farthestStation hB hF  h)
set_option maxRecDepth 100000 in
theorem t_C_longestLeg_38 {G : Gt} {φ : Ph} {B : Bag} (hB : BF G I_C_longestLeg B) (hF : SF 134 φ)   {M : Mm} {o : Int32} {r6 : Int32 → Int32 → Int32 → Option Int32} (hr6 : ∀ (l1 : Int32) (l2 : Int32) (l3 : Int32), r6 l1 l2 l3 = some o → AW G I_C_longestLeg B (QM G I_C_longestLeg B (.inl (some (.int o))) M φ) 0 0 6 [(0, .ref 0), (1, .int l1), (2, .int l2), (3, .int l3)] [] M φ) {l1 : Int32} {l2 : Int32} {l3 : Int32}  (h : f_C_longestLeg_38 M r6 l1 l2 l3 = some o) : AW G I_C_longestLeg B (QM G I_C_longestLeg B (.inl (some (.int o))) M φ) 0 0 38 [(0, .ref 0), (1, .int l1), (2, .int l2), (3, .int l3)] [] M φ := by
  unfold f_C_longestLeg_38 at h
  refine a_iinc (j := 3) (v := l3 + 1) (ls' := [(3, .int (l3 + 1)), (0, .ref 0), (1, .int l1), (2, .int l2)]) hB e_C_longestLeg_38 rfl (inc_1 _) (Nat.le_of_ble_eq_true rfl) rfl ?_
  refine a_goto (tgt := 6) hB e_C_longestLeg_41 (by decide) ?_
  refine a_ls [1, 2, 3, 0] (ls' := [(0, .ref 0), (1, .int l1), (2, .int l2), (3, .int (l3 + 1))]) rfl ?_
  exact hr6 _ _ _ h
set_option maxRecDepth 100000 in
theorem t_C_longestLeg_6 {G : Gt} {φ : Ph} {B : Bag} (hB : BF G I_C_longestLeg B) (hF : SF 134 φ)   {M : Mm} {o : Int32} : ∀ (n : Nat) (l1 : Int32) (l2 : Int32) (l3 : Int32), f_C_longestLeg_6 M n l1 l2 l3 = some o → AW G I_C_longestLeg B (QM G I_C_longestLeg B (.inl (some (.int o))) M φ) 0 0 6 [(0, .ref 0), (1, .int l1), (2, .int l2), (3, .int l3)] [] M φ := by
  intro n
  induction n with
  | zero => intro l1 l2 l3 h; cases h
  | succ n hr6 =>
    intro l1 l2 l3 h
    rw [f_C_longestLeg_6] at h
    refine a_iload_n (j := 3) hB e_C_longestLeg_6 rfl rfl ?_
    refine a_aload_n (j := 0) hB e_C_longestLeg_7 rfl rfl ?_
    refine a_getR (r := 15) (k := 7) hB e_C_longestLeg_8 fl_C_39 (sf_lt hF (by decide)) kk_0 tt_0_7 (hF.1 _ _) ?_
    refine a_getI (k := 9) hB e_C_longestLeg_11 fl_C_115 (sf_lt hF (by decide)) kk_15 tt_15_9 ?_
    refine a_icmp_ge (tgt := 44) hB e_C_longestLeg_14 (by decide) (fun c => ?_) (fun c => ?_)
    · have h := ip c h
      refine a_iload_n (j := 1) hB e_C_longestLeg_44 rfl rfl ?_
      cases h
      exact a_iret hB rfl e_C_longestLeg_45 (by decide) (by decide)
    · have h := iq c h
      refine a_aload_n (j := 0) hB e_C_longestLeg_17 rfl rfl ?_
      refine a_getR (r := 15) (k := 7) hB e_C_longestLeg_18 fl_C_39 (sf_lt hF (by decide)) kk_0 tt_0_7 (hF.1 _ _) ?_
      refine a_iload_n (j := 3) hB e_C_longestLeg_21 rfl rfl ?_
      obtain ⟨r22, hr22, h⟩ := bn_i h
      refine a_ret (v := (some (.int r22))) (M1 := M) (φ1 := φ) (st1 := [.int r22]) (j1 := 0) (j2 := 0) (ar_V (As := [.int l3]) (rest := []) hB (c_S_horizontalUnits (bf_G hB) hF sv_15 hr22) ml_C_227 md_S_horizontalUnits rc_S_horizontalUnits (sf_lt hF (by decide)) kk_15 rfl rfl (Nat.le_of_ble_eq_true rfl) rm_C_longestLeg_S_horizontalUnits e_C_longestLeg_22) rfl rfl rfl ?_
      refine a_istore (ls' := [(4, .int r22), (0, .ref 0), (1, .int l1), (2, .int l2), (3, .int l3)]) hB e_C_longestLeg_25 (Nat.le_of_ble_eq_true rfl) rfl ?_
      refine a_iload (j := 0) hB e_C_longestLeg_27 rfl ?_
      refine a_iload_n (j := 3) hB e_C_longestLeg_29 rfl rfl ?_
      refine a_icmp_le (tgt := 38) hB e_C_longestLeg_30 (by decide) (fun c => ?_) (fun c => ?_)
      · have h := ip c h
        refine a_ls [1, 2, 3, 4] (ls' := [(0, .ref 0), (1, .int l1), (2, .int l2), (3, .int l3)]) rfl ?_
        exact t_C_longestLeg_38 hB hF hr6 h
      · have h := iq c h
        refine a_iload_n (j := 4) hB e_C_longestLeg_33 rfl rfl ?_
        refine a_istore_n (ls' := [(1, .int l3), (4, .int r22), (0, .ref 0), (2, .int l2), (3, .int l3)]) hB e_C_longestLeg_34 rfl (Nat.le_of_ble_eq_true rfl) rfl ?_
        refine a_iload (j := 1) hB e_C_longestLeg_35 rfl ?_
        refine a_istore_n (ls' := [(2, .int r22), (1, .int l3), (4, .int r22), (0, .ref 0), (3, .int l3)]) hB e_C_longestLeg_37 rfl (Nat.le_of_ble_eq_true rfl) rfl ?_
        refine a_ls [3, 1, 0, 4] (ls' := [(0, .ref 0), (1, .int l3), (2, .int r22), (3, .int l3)]) rfl ?_
        exact t_C_longestLeg_38 hB hF hr6 h
set_option maxRecDepth 100000 in
theorem t_C_longestLeg {G : Gt} {φ : Ph} {B : Bag} (hB : BF G I_C_longestLeg B) (hF : SF 134 φ)   {M : Mm} {o : Int32}   (h : f_C_longestLeg M = some o) : AW G I_C_longestLeg B (QM G I_C_longestLeg B (.inl (some (.int o))) M φ) 0 0 0 [(0, .ref 0)] [] M φ := by
  unfold f_C_longestLeg at h
  refine a_iconst (v := -1) hB e_C_longestLeg_0 ic_m1 ?_
  refine a_istore_n (ls' := [(1, .int (-1 : Int32)), (0, .ref 0)]) hB e_C_longestLeg_1 rfl (Nat.le_of_ble_eq_true rfl) rfl ?_
  refine a_iconst (v := -1) hB e_C_longestLeg_2 ic_m1 ?_
  refine a_istore_n (ls' := [(2, .int (-1 : Int32)), (1, .int (-1 : Int32)), (0, .ref 0)]) hB e_C_longestLeg_3 rfl (Nat.le_of_ble_eq_true rfl) rfl ?_
  refine a_iconst (v := 0) hB e_C_longestLeg_4 ic_0 ?_
  refine a_istore_n (ls' := [(3, .int (0 : Int32)), (2, .int (-1 : Int32)), (1, .int (-1 : Int32)), (0, .ref 0)]) hB e_C_longestLeg_5 rfl (Nat.le_of_ble_eq_true rfl) rfl ?_
  refine a_ls [3, 2, 1, 0] (ls' := [(0, .ref 0), (1, .int (-1 : Int32)), (2, .int (-1 : Int32)), (3, .int (0 : Int32))]) rfl ?_
  exact t_C_longestLeg_6 hB hF _ _ _ _ h
set_option maxRecDepth 100000 in
theorem c_C_longestLeg {G : Gt} (hG : GOK G) {φ : Ph} (hF : SF 134 φ)   {M : Mm}  {o : Int32} (h : f_C_longestLeg M = some o) : CT G I_C_longestLeg [.ref 0] M φ (.inl (some (.int o))) M φ :=
  ct_of hG (by decide) (Nat.le_of_ble_eq_true rfl) (fun B hB => t_C_longestLeg hB hF  h)
set_option maxRecDepth 100000 in
theorem t_C_bogLength_38 {G : Gt} {φ : Ph} {B : Bag} (hB : BF G I_C_bogLength B) (hF : SF 134 φ)   {M : Mm} {o : Int32} {r4 : Int32 → Int32 → Option Int32} (hr4 : ∀ (l1 : Int32) (l2 : Int32), r4 l1 l2 = some o → AW G I_C_bogLength B (QM G I_C_bogLength B (.inl (some (.int o))) M φ) 0 0 4 [(0, .ref 0), (1, .int l1), (2, .int l2)] [] M φ) {l1 : Int32} {l2 : Int32}  (h : f_C_bogLength_38 M r4 l1 l2 = some o) : AW G I_C_bogLength B (QM G I_C_bogLength B (.inl (some (.int o))) M φ) 0 0 38 [(0, .ref 0), (1, .int l1), (2, .int l2)] [] M φ := by
  unfold f_C_bogLength_38 at h
  refine a_iinc (j := 2) (v := l2 + 1) (ls' := [(2, .int (l2 + 1)), (0, .ref 0), (1, .int l1)]) hB e_C_bogLength_38 rfl (inc_1 _) (Nat.le_of_ble_eq_true rfl) rfl ?_
  refine a_goto (tgt := 4) hB e_C_bogLength_41 (by decide) ?_
  refine a_ls [1, 2, 0] (ls' := [(0, .ref 0), (1, .int l1), (2, .int (l2 + 1))]) rfl ?_
  exact hr4 _ _ h
set_option maxRecDepth 100000 in
theorem t_C_bogLength_4 {G : Gt} {φ : Ph} {B : Bag} (hB : BF G I_C_bogLength B) (hF : SF 134 φ)   {M : Mm} {o : Int32} : ∀ (n : Nat) (l1 : Int32) (l2 : Int32), f_C_bogLength_4 M n l1 l2 = some o → AW G I_C_bogLength B (QM G I_C_bogLength B (.inl (some (.int o))) M φ) 0 0 4 [(0, .ref 0), (1, .int l1), (2, .int l2)] [] M φ := by
  intro n
  induction n with
  | zero => intro l1 l2 h; cases h
  | succ n hr4 =>
    intro l1 l2 h
    rw [f_C_bogLength_4] at h
    refine a_iload_n (j := 2) hB e_C_bogLength_4 rfl rfl ?_
    refine a_aload_n (j := 0) hB e_C_bogLength_5 rfl rfl ?_
    refine a_getR (r := 15) (k := 7) hB e_C_bogLength_6 fl_C_39 (sf_lt hF (by decide)) kk_0 tt_0_7 (hF.1 _ _) ?_
    refine a_getI (k := 9) hB e_C_bogLength_9 fl_C_115 (sf_lt hF (by decide)) kk_15 tt_15_9 ?_
    refine a_icmp_ge (tgt := 44) hB e_C_bogLength_12 (by decide) (fun c => ?_) (fun c => ?_)
    · have h := ip c h
      refine a_iload_n (j := 1) hB e_C_bogLength_44 rfl rfl ?_
      cases h
      exact a_iret hB rfl e_C_bogLength_45 (by decide) (by decide)
    · have h := iq c h
      refine a_aload_n (j := 0) hB e_C_bogLength_15 rfl rfl ?_
      refine a_getR (r := 15) (k := 7) hB e_C_bogLength_16 fl_C_39 (sf_lt hF (by decide)) kk_0 tt_0_7 (hF.1 _ _) ?_
      refine a_getR (r := 18) (k := 2) hB e_C_bogLength_19 fl_C_239 (sf_lt hF (by decide)) kk_15 tt_15_2 (hF.1 _ _) ?_
      refine a_iload_n (j := 2) hB e_C_bogLength_22 rfl rfl ?_
      obtain ⟨c23, h⟩ := chk_i h
      refine a_zald' hB e_C_bogLength_23 (sf_lt hF (by decide)) kk_18 ll_18 c23 ?_
      refine a_if_eq (tgt := 38) hB e_C_bogLength_24 (by decide) (fun c => ?_) (fun c => ?_)
      · have h := ip c h
        exact t_C_bogLength_38 hB hF hr4 h
      · have h := iq c h
        refine a_iload_n (j := 1) hB e_C_bogLength_27 rfl rfl ?_
        refine a_aload_n (j := 0) hB e_C_bogLength_28 rfl rfl ?_
        refine a_getR (r := 15) (k := 7) hB e_C_bogLength_29 fl_C_39 (sf_lt hF (by decide)) kk_0 tt_0_7 (hF.1 _ _) ?_
        refine a_iload_n (j := 2) hB e_C_bogLength_32 rfl rfl ?_
        obtain ⟨r33, hr33, h⟩ := bn_i h
        refine a_ret (v := (some (.int r33))) (M1 := M) (φ1 := φ) (st1 := [.int r33, .int l1]) (j1 := 0) (j2 := 0) (ar_V (As := [.int l2]) (rest := [.int l1]) hB (c_S_horizontalUnits (bf_G hB) hF sv_15 hr33) ml_C_227 md_S_horizontalUnits rc_S_horizontalUnits (sf_lt hF (by decide)) kk_15 rfl rfl (Nat.le_of_ble_eq_true rfl) rm_C_bogLength_S_horizontalUnits e_C_bogLength_33) rfl rfl rfl ?_
        refine a_iadd hB e_C_bogLength_36 ?_
        refine a_istore_n (ls' := [(1, .int (l1 + r33)), (0, .ref 0), (2, .int l2)]) hB e_C_bogLength_37 rfl (Nat.le_of_ble_eq_true rfl) rfl ?_
        refine a_ls [1, 0, 2] (ls' := [(0, .ref 0), (1, .int (l1 + r33)), (2, .int l2)]) rfl ?_
        exact t_C_bogLength_38 hB hF hr4 h
set_option maxRecDepth 100000 in
theorem t_C_bogLength {G : Gt} {φ : Ph} {B : Bag} (hB : BF G I_C_bogLength B) (hF : SF 134 φ)   {M : Mm} {o : Int32}   (h : f_C_bogLength M = some o) : AW G I_C_bogLength B (QM G I_C_bogLength B (.inl (some (.int o))) M φ) 0 0 0 [(0, .ref 0)] [] M φ := by
  unfold f_C_bogLength at h
  refine a_iconst (v := 0) hB e_C_bogLength_0 ic_0 ?_
  refine a_istore_n (ls' := [(1, .int (0 : Int32)), (0, .ref 0)]) hB e_C_bogLength_1 rfl (Nat.le_of_ble_eq_true rfl) rfl ?_
  refine a_iconst (v := 0) hB e_C_bogLength_2 ic_0 ?_
  refine a_istore_n (ls' := [(2, .int (0 : Int32)), (1, .int (0 : Int32)), (0, .ref 0)]) hB e_C_bogLength_3 rfl (Nat.le_of_ble_eq_true rfl) rfl ?_
  refine a_ls [2, 1, 0] (ls' := [(0, .ref 0), (1, .int (0 : Int32)), (2, .int (0 : Int32))]) rfl ?_
  exact t_C_bogLength_4 hB hF _ _ _ h
set_option maxRecDepth 100000 in
theorem c_C_bogLength {G : Gt} (hG : GOK G) {φ : Ph} (hF : SF 134 φ)   {M : Mm}  {o : Int32} (h : f_C_bogLength M = some o) : CT G I_C_bogLength [.ref 0] M φ (.inl (some (.int o))) M φ :=
  ct_of hG (by decide) (Nat.le_of_ble_eq_true rfl) (fun B hB => t_C_bogLength hB hF  h)
set_option maxRecDepth 100000 in
theorem t_C_area {G : Gt} {φ : Ph} {B : Bag} (hB : BF G I_C_area B) (hF : SF 134 φ)    {o : Int64} {M9 : Mm}  {M : Mm} (h : f_C_area M = some (o, M9)) : AW G I_C_area B (QM G I_C_area B (.inl (some (.long o))) M9 φ) 0 0 0 [(0, .ref 0)] [] M φ := by
  unfold f_C_area at h
  refine a_aload_n (j := 0) hB e_C_area_0 rfl rfl ?_
  obtain ⟨M1, hr1, h⟩ := bn_i h
  refine a_ret (v := (some (.ref 25))) (M1 := M1) (φ1 := φ) (st1 := [.ref 25]) (j1 := 0) (j2 := 0) (ar_V (As := []) (rest := []) hB (c_C_followed (bf_G hB) hF hr1) ml_C_255 md_C_followed rc_C_followed (sf_lt hF (by decide)) kk_0 rfl rfl (Nat.le_of_ble_eq_true rfl) rm_C_area_C_followed e_C_area_1) rfl rfl rfl ?_
  obtain ⟨r4, hr4, h⟩ := bn_i h
  refine a_ret (v := (some (.long r4))) (M1 := M1) (φ1 := φ) (st1 := [.long r4]) (j1 := 0) (j2 := 0) (ar_V (As := []) (rest := []) hB (c_T_enclosedArea (bf_G hB) hF hr4) ml_C_294 md_T_enclosedArea rc_T_enclosedArea (sf_lt hF (by decide)) kk_25 rfl rfl (Nat.le_of_ble_eq_true rfl) rm_C_area_T_enclosedArea e_C_area_4) rfl rfl rfl ?_
  cases h
  exact a_lret hB rfl e_C_area_7 (by decide) (by decide)
