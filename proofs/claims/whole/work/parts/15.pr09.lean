/-! the functions are what the machine does -/
set_option maxRecDepth 100000 in
theorem t_M_named_83 {G : Gt} {φ : Ph} {B : Bag} (hB : BF G I_M_named B) (hF : SF 148 φ)   {M : Mm} {o : Int32} {r2 : Int32 → Option Int32} (hr2 : ∀ (l1 : Int32), r2 l1 = some o → AW G I_M_named B (QM G I_M_named B (.inl (some (.int o))) M φ) 0 0 2 [(0, .ref 134), (1, .int l1)] [] M φ) {r44 : Int32 → Int32 → Int32 → Int32 → Option Int32} (hr44 : ∀ (l1 : Int32) (l2 : Int32) (l3 : Int32) (l4 : Int32), r44 l1 l2 l3 l4 = some o → AW G I_M_named B (QM G I_M_named B (.inl (some (.int o))) M φ) 0 0 44 [(0, .ref 134), (1, .int l1), (2, .int l2), (3, .int l3), (4, .int l4)] [] M φ) {l1 : Int32} {l2 : Int32} {l4 : Int32} {t0 : Int32}  (h : f_M_named_83 M r2 r44 l1 l2 l4 t0 = some o) : AW G I_M_named B (QM G I_M_named B (.inl (some (.int o))) M φ) 0 0 83 [(0, .ref 134), (1, .int l1), (2, .int l2), (4, .int l4)] [.int t0] M φ := by
  unfold f_M_named_83 at h
  refine a_istore_n (ls' := [(3, .int t0), (0, .ref 134), (1, .int l1), (2, .int l2), (4, .int l4)]) hB e_M_named_83 rfl (Nat.le_of_ble_eq_true rfl) rfl ?_
  refine a_iinc (j := 4) (v := l4 + 1) (ls' := [(4, .int (l4 + 1)), (3, .int t0), (0, .ref 134), (1, .int l1), (2, .int l2)]) hB e_M_named_84 rfl (inc_1 _) (Nat.le_of_ble_eq_true rfl) rfl ?_
  refine a_goto (tgt := 44) hB e_M_named_87 (by decide) ?_
  refine a_ls [2, 3, 4, 1, 0] (ls' := [(0, .ref 134), (1, .int l1), (2, .int l2), (3, .int t0), (4, .int (l4 + 1))]) rfl ?_
  exact hr44 _ _ _ _ h
set_option maxRecDepth 100000 in
theorem t_M_named_90 {G : Gt} {φ : Ph} {B : Bag} (hB : BF G I_M_named B) (hF : SF 148 φ)   {M : Mm} {o : Int32} {r2 : Int32 → Option Int32} (hr2 : ∀ (l1 : Int32), r2 l1 = some o → AW G I_M_named B (QM G I_M_named B (.inl (some (.int o))) M φ) 0 0 2 [(0, .ref 134), (1, .int l1)] [] M φ) {l1 : Int32} {l3 : Int32}  (h : f_M_named_90 M r2 l1 l3 = some o) : AW G I_M_named B (QM G I_M_named B (.inl (some (.int o))) M φ) 0 0 90 [(0, .ref 134), (1, .int l1), (3, .int l3)] [] M φ := by
  unfold f_M_named_90 at h
  refine a_iload_n (j := 2) hB e_M_named_90 rfl rfl ?_
  refine a_if_eq (tgt := 96) hB e_M_named_91 (by decide) (fun c => ?_) (fun c => ?_)
  · have h := ip c h
    refine a_iinc (j := 1) (v := l1 + 1) (ls' := [(1, .int (l1 + 1)), (0, .ref 134), (3, .int l3)]) hB e_M_named_96 rfl (inc_1 _) (Nat.le_of_ble_eq_true rfl) rfl ?_
    refine a_goto (tgt := 2) hB e_M_named_99 (by decide) ?_
    refine a_ls [1, 0] (ls' := [(0, .ref 134), (1, .int (l1 + 1))]) rfl ?_
    exact hr2 _ h
  · have h := iq c h
    refine a_iload_n (j := 1) hB e_M_named_94 rfl rfl ?_
    cases h
    exact a_iret hB rfl e_M_named_95 (by decide) (by decide)
set_option maxRecDepth 100000 in
theorem t_M_named_44 {G : Gt} {φ : Ph} {B : Bag} (hB : BF G I_M_named B) (hF : SF 148 φ)   {M : Mm} {o : Int32} {r2 : Int32 → Option Int32} (hr2 : ∀ (l1 : Int32), r2 l1 = some o → AW G I_M_named B (QM G I_M_named B (.inl (some (.int o))) M φ) 0 0 2 [(0, .ref 134), (1, .int l1)] [] M φ) : ∀ (n : Nat) (l1 : Int32) (l2 : Int32) (l3 : Int32) (l4 : Int32), f_M_named_44 M r2 n l1 l2 l3 l4 = some o → AW G I_M_named B (QM G I_M_named B (.inl (some (.int o))) M φ) 0 0 44 [(0, .ref 134), (1, .int l1), (2, .int l2), (3, .int l3), (4, .int l4)] [] M φ := by
  intro n
  induction n with
  | zero => intro l1 l2 l3 l4 h; cases h
  | succ n hr44 =>
    intro l1 l2 l3 l4 h
    rw [f_M_named_44] at h
    refine a_iload_n (j := 3) hB e_M_named_44 rfl rfl ?_
    refine a_if_eq (tgt := 90) hB e_M_named_45 (by decide) (fun c => ?_) (fun c => ?_)
    · have h := ip c h
      refine a_ls [0, 1, 3] (ls' := [(0, .ref 134), (1, .int l1), (3, .int l3)]) rfl ?_
      exact t_M_named_90 hB hF hr2 h
    · have h := iq c h
      refine a_iload (j := 4) hB e_M_named_48 rfl ?_
      refine a_aload_n (j := 0) hB e_M_named_50 rfl rfl ?_
      refine a_getI (k := 19) hB e_M_named_51 fl_M_153 (sf_lt hF (by decide)) kk_134 tt_134_19 ?_
      refine a_icmp_ge (tgt := 90) hB e_M_named_54 (by decide) (fun c => ?_) (fun c => ?_)
      · have h := ip c h
        refine a_ls [0, 1, 3] (ls' := [(0, .ref 134), (1, .int l1), (3, .int l3)]) rfl ?_
        exact t_M_named_90 hB hF hr2 h
      · have h := iq c h
        refine a_aload_n (j := 0) hB e_M_named_57 rfl rfl ?_
        refine a_getR (r := 135) (k := 0) hB e_M_named_58 fl_M_9 (sf_lt hF (by decide)) kk_134 tt_134_0 (hF.1 _ _) ?_
        refine a_iload_n (j := 2) hB e_M_named_61 rfl rfl ?_
        refine a_iload (j := 4) hB e_M_named_62 rfl ?_
        refine a_iadd hB e_M_named_64 ?_
        refine a_iconst (v := 1) hB e_M_named_65 ic_1 ?_
        refine a_iadd hB e_M_named_66 ?_
        obtain ⟨c67, h⟩ := chk_i h
        refine a_iald' hB e_M_named_67 (sf_lt hF (by decide)) kk_135 ll_135 c67 ?_
        refine a_aload_n (j := 0) hB e_M_named_68 rfl rfl ?_
        refine a_getR (r := 147) (k := 18) hB e_M_named_69 fl_M_51 (sf_lt hF (by decide)) kk_134 tt_134_18 (hF.1 _ _) ?_
        refine a_iload (j := 4) hB e_M_named_72 rfl ?_
        obtain ⟨c74, h⟩ := chk_i h
        refine a_iald' hB e_M_named_74 (sf_lt hF (by decide)) kk_147 ll_147 c74 ?_
        refine a_icmp_ne (tgt := 82) hB e_M_named_75 (by decide) (fun c => ?_) (fun c => ?_)
        · have h := iq c h
          refine a_iconst (v := 0) hB e_M_named_82 ic_0 ?_
          refine a_ls [0, 1, 2, 4] (ls' := [(0, .ref 134), (1, .int l1), (2, .int l2), (4, .int l4)]) rfl ?_
          exact t_M_named_83 hB hF hr2 hr44 h
        · have h := ip c h
          refine a_iconst (v := 1) hB e_M_named_78 ic_1 ?_
          refine a_goto (tgt := 83) hB e_M_named_79 (by decide) ?_
          refine a_ls [0, 1, 2, 4] (ls' := [(0, .ref 134), (1, .int l1), (2, .int l2), (4, .int l4)]) rfl ?_
          exact t_M_named_83 hB hF hr2 hr44 h
set_option maxRecDepth 100000 in
theorem t_M_named_40 {G : Gt} {φ : Ph} {B : Bag} (hB : BF G I_M_named B) (hF : SF 148 φ)   {M : Mm} {o : Int32} {r2 : Int32 → Option Int32} (hr2 : ∀ (l1 : Int32), r2 l1 = some o → AW G I_M_named B (QM G I_M_named B (.inl (some (.int o))) M φ) 0 0 2 [(0, .ref 134), (1, .int l1)] [] M φ) {l1 : Int32} {l2 : Int32} {t0 : Int32}  (h : f_M_named_40 M r2 l1 l2 t0 = some o) : AW G I_M_named B (QM G I_M_named B (.inl (some (.int o))) M φ) 0 0 40 [(0, .ref 134), (1, .int l1), (2, .int l2)] [.int t0] M φ := by
  unfold f_M_named_40 at h
  refine a_istore_n (ls' := [(3, .int t0), (0, .ref 134), (1, .int l1), (2, .int l2)]) hB e_M_named_40 rfl (Nat.le_of_ble_eq_true rfl) rfl ?_
  refine a_iconst (v := 0) hB e_M_named_41 ic_0 ?_
  refine a_istore (ls' := [(4, .int (0 : Int32)), (3, .int t0), (0, .ref 134), (1, .int l1), (2, .int l2)]) hB e_M_named_42 (Nat.le_of_ble_eq_true rfl) rfl ?_
  refine a_ls [2, 3, 4, 1, 0] (ls' := [(0, .ref 134), (1, .int l1), (2, .int l2), (3, .int t0), (4, .int (0 : Int32))]) rfl ?_
  exact t_M_named_44 hB hF hr2 _ _ _ _ _ h
set_option maxRecDepth 100000 in
theorem t_M_named_2 {G : Gt} {φ : Ph} {B : Bag} (hB : BF G I_M_named B) (hF : SF 148 φ)   {M : Mm} {o : Int32} : ∀ (n : Nat) (l1 : Int32), f_M_named_2 M n l1 = some o → AW G I_M_named B (QM G I_M_named B (.inl (some (.int o))) M φ) 0 0 2 [(0, .ref 134), (1, .int l1)] [] M φ := by
  intro n
  induction n with
  | zero => intro l1 h; cases h
  | succ n hr2 =>
    intro l1 h
    rw [f_M_named_2] at h
    refine a_iload_n (j := 1) hB e_M_named_2 rfl rfl ?_
    refine a_aload_n (j := 0) hB e_M_named_3 rfl rfl ?_
    refine a_getR (r := 135) (k := 0) hB e_M_named_4 fl_M_9 (sf_lt hF (by decide)) kk_134 tt_134_0 (hF.1 _ _) ?_
    refine a_iconst (v := 0) hB e_M_named_7 ic_0 ?_
    refine a_iald' hB e_M_named_8 (sf_lt hF (by decide)) kk_135 ll_135 (by decide) ?_
    refine a_icmp_ge (tgt := 102) hB e_M_named_9 (by decide) (fun c => ?_) (fun c => ?_)
    · have h := ip c h
      refine a_iconst (v := -1) hB e_M_named_102 ic_m1 ?_
      cases h
      exact a_iret hB rfl e_M_named_103 (by decide) (by decide)
    · have h := iq c h
      refine a_iconst (v := 4) hB e_M_named_12 ic_4 ?_
      refine a_bipush (v := 14) hB e_M_named_13 bp_14 ?_
      refine a_iload_n (j := 1) hB e_M_named_15 rfl rfl ?_
      refine a_imul hB e_M_named_16 ?_
      refine a_iadd hB e_M_named_17 ?_
      refine a_bipush (v := 7) hB e_M_named_18 bp_7 ?_
      refine a_iadd hB e_M_named_20 ?_
      refine a_istore_n (ls' := [(2, .int (((4 : Int32) + ((14 : Int32) * l1)) + (7 : Int32))), (0, .ref 134), (1, .int l1)]) hB e_M_named_21 rfl (Nat.le_of_ble_eq_true rfl) rfl ?_
      refine a_aload_n (j := 1) hB e_M_named_22 rfl rfl ?_
      refine a_getR (r := 135) (k := 0) hB e_M_named_23 fl_M_9 (sf_lt hF (by decide)) kk_134 tt_134_0 (hF.1 _ _) ?_
      refine a_iload_n (j := 0) hB e_M_named_26 rfl rfl ?_
      obtain ⟨c27, h⟩ := chk_i h
      refine a_iald' hB e_M_named_27 (sf_lt hF (by decide)) kk_135 ll_135 c27 ?_
      refine a_aload_n (j := 1) hB e_M_named_28 rfl rfl ?_
      refine a_getI (k := 19) hB e_M_named_29 fl_M_153 (sf_lt hF (by decide)) kk_134 tt_134_19 ?_
      refine a_icmp_ne (tgt := 39) hB e_M_named_32 (by decide) (fun c => ?_) (fun c => ?_)
      · have h := iq c h
        refine a_iconst (v := 0) hB e_M_named_39 ic_0 ?_
        refine a_ls [1, 2, 0] (ls' := [(0, .ref 134), (1, .int l1), (2, .int (((4 : Int32) + ((14 : Int32) * l1)) + (7 : Int32)))]) rfl ?_
        exact t_M_named_40 hB hF hr2 h
      · have h := ip c h
        refine a_iconst (v := 1) hB e_M_named_35 ic_1 ?_
        refine a_goto (tgt := 40) hB e_M_named_36 (by decide) ?_
        refine a_ls [1, 2, 0] (ls' := [(0, .ref 134), (1, .int l1), (2, .int (((4 : Int32) + ((14 : Int32) * l1)) + (7 : Int32)))]) rfl ?_
        exact t_M_named_40 hB hF hr2 h
set_option maxRecDepth 100000 in
theorem t_M_named {G : Gt} {φ : Ph} {B : Bag} (hB : BF G I_M_named B) (hF : SF 148 φ)   {M : Mm} {o : Int32}   (h : f_M_named M = some o) : AW G I_M_named B (QM G I_M_named B (.inl (some (.int o))) M φ) 0 0 0 [(0, .ref 134)] [] M φ := by
  unfold f_M_named at h
  refine a_iconst (v := 0) hB e_M_named_0 ic_0 ?_
  refine a_istore_n (ls' := [(1, .int (0 : Int32)), (0, .ref 134)]) hB e_M_named_1 rfl (Nat.le_of_ble_eq_true rfl) rfl ?_
  refine a_ls [1, 0] (ls' := [(0, .ref 134), (1, .int (0 : Int32))]) rfl ?_
  exact t_M_named_2 hB hF _ _ h
set_option maxRecDepth 100000 in
theorem c_M_named {G : Gt} (hG : GOK G) {φ : Ph} (hF : SF 148 φ)   {M : Mm}  {o : Int32} (h : f_M_named M = some o) : CT G I_M_named [.ref 134] M φ (.inl (some (.int o))) M φ :=
  ct_of hG (by decide) (Nat.le_of_ble_eq_true rfl) (fun B hB => t_M_named hB hF  h)
set_option maxRecDepth 100000 in
theorem t_M_layName_18 {G : Gt} {φ : Ph} {B : Bag} (hB : BF G I_M_layName B) (hF : SF 148 φ)    {M9 : Mm} : ∀ (n : Nat) (l1 : Int32) (M : Mm), f_M_layName_18 n l1 M = some M9 → AW G I_M_layName B (QM G I_M_layName B (.inl none) M9 φ) 0 0 18 [(0, .ref 134), (1, .int l1)] [] M φ := by
  intro n
  induction n with
  | zero => intro l1 M h; cases h
  | succ n hr18 =>
    intro l1 M h
    rw [f_M_layName_18] at h
    refine a_iload_n (j := 1) hB e_M_layName_18 rfl rfl ?_
    refine a_aload_n (j := 0) hB e_M_layName_19 rfl rfl ?_
    refine a_getI (k := 19) hB e_M_layName_20 fl_M_153 (sf_lt hF (by decide)) kk_134 tt_134_19 ?_
    refine a_icmp_ge (tgt := 52) hB e_M_layName_23 (by decide) (fun c => ?_) (fun c => ?_)
    · have h := ip c h
      cases h
      exact a_vret hB rfl e_M_layName_52 (by decide) (by decide)
    · have h := iq c h
      refine a_aload_n (j := 0) hB e_M_layName_26 rfl rfl ?_
      refine a_aload_n (j := 0) hB e_M_layName_27 rfl rfl ?_
      refine a_getR (r := 135) (k := 0) hB e_M_layName_28 fl_M_9 (sf_lt hF (by decide)) kk_134 tt_134_0 (hF.1 _ _) ?_
      refine a_iconst (v := 0) hB e_M_layName_31 ic_0 ?_
      refine a_iald' hB e_M_layName_32 (sf_lt hF (by decide)) kk_135 ll_135 (by decide) ?_
      refine a_bipush (v := 8) hB e_M_layName_33 bp_8 ?_
      refine a_iload_n (j := 1) hB e_M_layName_35 rfl rfl ?_
      refine a_iadd hB e_M_layName_36 ?_
      refine a_aload_n (j := 0) hB e_M_layName_37 rfl rfl ?_
      refine a_getR (r := 147) (k := 18) hB e_M_layName_38 fl_M_51 (sf_lt hF (by decide)) kk_134 tt_134_18 (hF.1 _ _) ?_
      refine a_iload_n (j := 1) hB e_M_layName_41 rfl rfl ?_
      obtain ⟨c42, h⟩ := chk_i h
      refine a_iald' hB e_M_layName_42 (sf_lt hF (by decide)) kk_147 ll_147 c42 ?_
      obtain ⟨M43, hr43, h⟩ := bn_i h
      refine a_ret (v := none) (M1 := M43) (φ1 := φ) (st1 := []) (j1 := 0) (j2 := 0) (ar_V (As := [.int (M 135 (ix (0 : Int32))), .int ((8 : Int32) + l1), .int (M 147 (ix l1))]) (rest := []) hB (c_M_put (bf_G hB) hF hr43) ml_M_149 md_M_put rc_M_put (sf_lt hF (by decide)) kk_134 rfl rfl (Nat.le_of_ble_eq_true rfl) rm_M_layName_M_put e_M_layName_43) rfl rfl rfl ?_
      refine a_iinc (j := 1) (v := l1 + 1) (ls' := [(1, .int (l1 + 1)), (0, .ref 134)]) hB e_M_layName_46 rfl (inc_1 _) (Nat.le_of_ble_eq_true rfl) rfl ?_
      refine a_goto (tgt := 18) hB e_M_layName_49 (by decide) ?_
      refine a_ls [1, 0] (ls' := [(0, .ref 134), (1, .int (l1 + 1))]) rfl ?_
      exact hr18 _ _ h
set_option maxRecDepth 100000 in
theorem t_M_layName {G : Gt} {φ : Ph} {B : Bag} (hB : BF G I_M_layName B) (hF : SF 148 φ)    {M9 : Mm}  {M : Mm} (h : f_M_layName M = some M9) : AW G I_M_layName B (QM G I_M_layName B (.inl none) M9 φ) 0 0 0 [(0, .ref 134)] [] M φ := by
  unfold f_M_layName at h
  refine a_aload_n (j := 0) hB e_M_layName_0 rfl rfl ?_
  refine a_aload_n (j := 0) hB e_M_layName_1 rfl rfl ?_
  refine a_getR (r := 135) (k := 0) hB e_M_layName_2 fl_M_9 (sf_lt hF (by decide)) kk_134 tt_134_0 (hF.1 _ _) ?_
  refine a_iconst (v := 0) hB e_M_layName_5 ic_0 ?_
  refine a_iald' hB e_M_layName_6 (sf_lt hF (by decide)) kk_135 ll_135 (by decide) ?_
  refine a_bipush (v := 7) hB e_M_layName_7 bp_7 ?_
  refine a_aload_n (j := 0) hB e_M_layName_9 rfl rfl ?_
  refine a_getI (k := 19) hB e_M_layName_10 fl_M_153 (sf_lt hF (by decide)) kk_134 tt_134_19 ?_
  obtain ⟨M13, hr13, h⟩ := bn_i h
  refine a_ret (v := none) (M1 := M13) (φ1 := φ) (st1 := []) (j1 := 0) (j2 := 0) (ar_V (As := [.int (M 135 (ix (0 : Int32))), .int (7 : Int32), .int (M 134 19)]) (rest := []) hB (c_M_put (bf_G hB) hF hr13) ml_M_149 md_M_put rc_M_put (sf_lt hF (by decide)) kk_134 rfl rfl (Nat.le_of_ble_eq_true rfl) rm_M_layName_M_put e_M_layName_13) rfl rfl rfl ?_
  refine a_iconst (v := 0) hB e_M_layName_16 ic_0 ?_
  refine a_istore_n (ls' := [(1, .int (0 : Int32)), (0, .ref 134)]) hB e_M_layName_17 rfl (Nat.le_of_ble_eq_true rfl) rfl ?_
  refine a_ls [1, 0] (ls' := [(0, .ref 134), (1, .int (0 : Int32))]) rfl ?_
  exact t_M_layName_18 hB hF _ _ _ h
set_option maxRecDepth 100000 in
theorem c_M_layName {G : Gt} (hG : GOK G) {φ : Ph} (hF : SF 148 φ)   {M : Mm}  {M9 : Mm} (h : f_M_layName M = some M9) : CT G I_M_layName [.ref 134] M φ (.inl none) M9 φ :=
  ct_of hG (by decide) (Nat.le_of_ble_eq_true rfl) (fun B hB => t_M_layName hB hF  h)
set_option maxRecDepth 100000 in
theorem t_M_four_3 {G : Gt} {φ : Ph} {B : Bag} (hB : BF G I_M_four B) (hF : SF 148 φ)    {M9 : Mm} : ∀ (n : Nat) (l1 : Int32) (l2 : Int32) (M : Mm), f_M_four_3 n l1 l2 M = some M9 → AW G I_M_four B (QM G I_M_four B (.inl none) M9 φ) 0 0 3 [(0, .ref 134), (1, .int l1), (2, .int l2)] [] M φ := by
  intro n
  induction n with
  | zero => intro l1 l2 M h; cases h
  | succ n hr3 =>
    intro l1 l2 M h
    rw [f_M_four_3] at h
    refine a_iload_n (j := 2) hB e_M_four_3 rfl rfl ?_
    refine a_if_lt (tgt := 39) hB e_M_four_4 (by decide) (fun c => ?_) (fun c => ?_)
    · have h := ip c h
      cases h
      exact a_vret hB rfl e_M_four_39 (by decide) (by decide)
    · have h := iq c h
      refine a_aload_n (j := 0) hB e_M_four_7 rfl rfl ?_
      refine a_getR (r := 141) (k := 8) hB e_M_four_8 fl_M_29 (sf_lt hF (by decide)) kk_134 tt_134_8 (hF.1 _ _) ?_
      refine a_aload_n (j := 0) hB e_M_four_11 rfl rfl ?_
      refine a_getI (k := 14) hB e_M_four_12 fl_M_66 (sf_lt hF (by decide)) kk_134 tt_134_14 ?_
      refine a_iload_n (j := 1) hB e_M_four_15 rfl rfl ?_
      refine a_iload_n (j := 2) hB e_M_four_16 rfl rfl ?_
      refine a_ishr hB e_M_four_17 ?_
      refine a_sipush (v := 255) hB e_M_four_18 sp_255 ?_
      refine a_iand hB e_M_four_21 ?_
      obtain ⟨c22, h⟩ := chk_i h
      obtain ⟨M22, hM22, h⟩ := bm_i h
      refine a_iast' hB e_M_four_22 (sf_lt hF (by decide)) kk_141 ll_141 c22 ?_
      refine a_mem hM22 ?_
      refine a_aload_n (j := 0) hB e_M_four_23 rfl rfl ?_
      refine a_dup hB e_M_four_24 rfl ?_
      refine a_getI (k := 14) hB e_M_four_25 fl_M_66 (sf_lt hF (by decide)) kk_134 tt_134_14 ?_
      refine a_iconst (v := 1) hB e_M_four_28 ic_1 ?_
      refine a_iadd hB e_M_four_29 ?_
      obtain ⟨M30, hM30, h⟩ := bm_i h
      refine a_putI (k := 14) hB e_M_four_30 fw_M_66 (sf_lt hF (by decide)) kk_134 tt_134_14 ?_
      refine a_mem hM30 ?_
      refine a_iinc (j := 2) (v := l2 + (-8)) (ls' := [(2, .int (l2 + (-8))), (0, .ref 134), (1, .int l1)]) hB e_M_four_33 rfl (inc_m8 _) (Nat.le_of_ble_eq_true rfl) rfl ?_
      refine a_goto (tgt := 3) hB e_M_four_36 (by decide) ?_
      refine a_ls [1, 2, 0] (ls' := [(0, .ref 134), (1, .int l1), (2, .int (l2 + (-8)))]) rfl ?_
      exact hr3 _ _ _ h
set_option maxRecDepth 100000 in
theorem t_M_four {G : Gt} {φ : Ph} {B : Bag} (hB : BF G I_M_four B) (hF : SF 148 φ)    {M9 : Mm} {l1 : Int32} {M : Mm} (h : f_M_four l1 M = some M9) : AW G I_M_four B (QM G I_M_four B (.inl none) M9 φ) 0 0 0 [(0, .ref 134), (1, .int l1)] [] M φ := by
  unfold f_M_four at h
  refine a_bipush (v := 24) hB e_M_four_0 bp_24 ?_
  refine a_istore_n (ls' := [(2, .int (24 : Int32)), (0, .ref 134), (1, .int l1)]) hB e_M_four_2 rfl (Nat.le_of_ble_eq_true rfl) rfl ?_
  refine a_ls [1, 2, 0] (ls' := [(0, .ref 134), (1, .int l1), (2, .int (24 : Int32))]) rfl ?_
  exact t_M_four_3 hB hF _ _ _ _ h
set_option maxRecDepth 100000 in
theorem c_M_four {G : Gt} (hG : GOK G) {φ : Ph} (hF : SF 148 φ)   {M : Mm} {l1 : Int32} {M9 : Mm} (h : f_M_four l1 M = some M9) : CT G I_M_four [.ref 134, .int l1] M φ (.inl none) M9 φ :=
  ct_of hG (by decide) (Nat.le_of_ble_eq_true rfl) (fun B hB => t_M_four hB hF  h)
set_option maxRecDepth 100000 in
theorem t_M_append {G : Gt} {φ : Ph} {B : Bag} (hB : BF G I_M_append B) (hF : SF 148 φ)    {o : Int32} {M9 : Mm} {l1 : Int32} {l2 : Int32} {l3 : Int32} {l4 : Int32} {l5 : Int32} {M : Mm} (h : f_M_append l1 l2 l3 l4 l5 M = some (o, M9)) : AW G I_M_append B (QM G I_M_append B (.inl (some (.int o))) M9 φ) 0 0 0 [(0, .ref 134), (1, .int l1), (2, .int l2), (3, .int l3), (4, .int l4), (5, .int l5)] [] M φ := by
  unfold f_M_append at h
  refine a_aload_n (j := 0) hB e_M_append_0 rfl rfl ?_
  refine a_iconst (v := 0) hB e_M_append_1 ic_0 ?_
  obtain ⟨M2, hM2, h⟩ := bm_i h
  refine a_putI (k := 7) hB e_M_append_2 fw_M_79 (sf_lt hF (by decide)) kk_134 tt_134_7 ?_
  refine a_mem hM2 ?_
  refine a_aload_n (j := 0) hB e_M_append_5 rfl rfl ?_
  refine a_getI (k := 14) hB e_M_append_6 fl_M_66 (sf_lt hF (by decide)) kk_134 tt_134_14 ?_
  refine a_bipush (v := 20) hB e_M_append_9 bp_20 ?_
  refine a_iadd hB e_M_append_11 ?_
  refine a_sipush (v := 900) hB e_M_append_12 sp_900 ?_
  refine a_icmp_le (tgt := 20) hB e_M_append_15 (by decide) (fun c => ?_) (fun c => ?_)
  · have h := ip c h
    refine a_aload_n (j := 0) hB e_M_append_20 rfl rfl ?_
    refine a_iload_n (j := 1) hB e_M_append_21 rfl rfl ?_
    obtain ⟨M22, hr22, h⟩ := bn_i h
    refine a_ret (v := none) (M1 := M22) (φ1 := φ) (st1 := []) (j1 := 0) (j2 := 0) (ar_V (As := [.int l1]) (rest := []) hB (c_M_four (bf_G hB) hF hr22) ml_M_156 md_M_four rc_M_four (sf_lt hF (by decide)) kk_134 rfl rfl (Nat.le_of_ble_eq_true rfl) rm_M_append_M_four e_M_append_22) rfl rfl rfl ?_
    refine a_aload_n (j := 0) hB e_M_append_25 rfl rfl ?_
    refine a_iload_n (j := 2) hB e_M_append_26 rfl rfl ?_
    obtain ⟨M27, hr27, h⟩ := bn_i h
    refine a_ret (v := none) (M1 := M27) (φ1 := φ) (st1 := []) (j1 := 0) (j2 := 0) (ar_V (As := [.int l2]) (rest := []) hB (c_M_four (bf_G hB) hF hr27) ml_M_156 md_M_four rc_M_four (sf_lt hF (by decide)) kk_134 rfl rfl (Nat.le_of_ble_eq_true rfl) rm_M_append_M_four e_M_append_27) rfl rfl rfl ?_
    refine a_aload_n (j := 0) hB e_M_append_30 rfl rfl ?_
    refine a_iload_n (j := 3) hB e_M_append_31 rfl rfl ?_
    obtain ⟨M32, hr32, h⟩ := bn_i h
    refine a_ret (v := none) (M1 := M32) (φ1 := φ) (st1 := []) (j1 := 0) (j2 := 0) (ar_V (As := [.int l3]) (rest := []) hB (c_M_four (bf_G hB) hF hr32) ml_M_156 md_M_four rc_M_four (sf_lt hF (by decide)) kk_134 rfl rfl (Nat.le_of_ble_eq_true rfl) rm_M_append_M_four e_M_append_32) rfl rfl rfl ?_
    refine a_aload_n (j := 0) hB e_M_append_35 rfl rfl ?_
    refine a_iload (j := 4) hB e_M_append_36 rfl ?_
    obtain ⟨M38, hr38, h⟩ := bn_i h
    refine a_ret (v := none) (M1 := M38) (φ1 := φ) (st1 := []) (j1 := 0) (j2 := 0) (ar_V (As := [.int l4]) (rest := []) hB (c_M_four (bf_G hB) hF hr38) ml_M_156 md_M_four rc_M_four (sf_lt hF (by decide)) kk_134 rfl rfl (Nat.le_of_ble_eq_true rfl) rm_M_append_M_four e_M_append_38) rfl rfl rfl ?_
    refine a_aload_n (j := 0) hB e_M_append_41 rfl rfl ?_
    refine a_iload (j := 5) hB e_M_append_42 rfl ?_
    obtain ⟨M44, hr44, h⟩ := bn_i h
    refine a_ret (v := none) (M1 := M44) (φ1 := φ) (st1 := []) (j1 := 0) (j2 := 0) (ar_V (As := [.int l5]) (rest := []) hB (c_M_four (bf_G hB) hF hr44) ml_M_156 md_M_four rc_M_four (sf_lt hF (by decide)) kk_134 rfl rfl (Nat.le_of_ble_eq_true rfl) rm_M_append_M_four e_M_append_44) rfl rfl rfl ?_
    refine a_aload_n (j := 0) hB e_M_append_47 rfl rfl ?_
    refine a_getI (k := 14) hB e_M_append_48 fl_M_66 (sf_lt hF (by decide)) kk_134 tt_134_14 ?_
    cases h
    exact a_iret hB rfl e_M_append_51 (by decide) (by decide)
  · have h := iq c h
    refine a_iconst (v := -1) hB e_M_append_18 ic_m1 ?_
    cases h
    exact a_iret hB rfl e_M_append_19 (by decide) (by decide)
set_option maxRecDepth 100000 in
theorem c_M_append {G : Gt} (hG : GOK G) {φ : Ph} (hF : SF 148 φ)   {M : Mm} {l1 : Int32} {l2 : Int32} {l3 : Int32} {l4 : Int32} {l5 : Int32} {o : Int32} {M9 : Mm} (h : f_M_append l1 l2 l3 l4 l5 M = some (o, M9)) : CT G I_M_append [.ref 134, .int l1, .int l2, .int l3, .int l4, .int l5] M φ (.inl (some (.int o))) M9 φ :=
  ct_of hG (by decide) (Nat.le_of_ble_eq_true rfl) (fun B hB => t_M_append hB hF  h)
set_option maxRecDepth 100000 in
theorem t_M_truncateInput_18 {G : Gt} {φ : Ph} {B : Bag} (hB : BF G I_M_truncateInput B) (hF : SF 148 φ)    {o : Int32} {M9 : Mm} {l1 : Int32} {t1 : Int32} {M : Mm} (h : f_M_truncateInput_18 l1 t1 M = some (o, M9)) : AW G I_M_truncateInput B (QM G I_M_truncateInput B (.inl (some (.int o))) M9 φ) 0 0 18 [(0, .ref 134), (1, .int l1)] [.int t1, .ref 134] M φ := by
  unfold f_M_truncateInput_18 at h
  refine a_iconst (v := 0) hB e_M_truncateInput_18 ic_0 ?_
  refine a_iconst (v := 0) hB e_M_truncateInput_19 ic_0 ?_
  obtain ⟨r20, M20, hr20, h⟩ := bn2_i h
  refine a_ret (v := (some (.int r20))) (M1 := M20) (φ1 := φ) (st1 := [.int r20]) (j1 := 0) (j2 := 0) (ar_V (As := [.int t1, .int (0 : Int32), .int (0 : Int32)]) (rest := []) hB (c_M_fails (bf_G hB) hF hr20) ml_M_160 md_M_fails rc_M_fails (sf_lt hF (by decide)) kk_134 rfl rfl (Nat.le_of_ble_eq_true rfl) rm_M_truncateInput_M_fails e_M_truncateInput_20) rfl rfl rfl ?_
  refine a_if_eq (tgt := 28) hB e_M_truncateInput_23 (by decide) (fun c => ?_) (fun c => ?_)
  · have h := ip c h
    refine a_aload_n (j := 0) hB e_M_truncateInput_28 rfl rfl ?_
    refine a_iload_n (j := 1) hB e_M_truncateInput_29 rfl rfl ?_
    obtain ⟨M30, hM30, h⟩ := bm_i h
    refine a_putI (k := 14) hB e_M_truncateInput_30 fw_M_66 (sf_lt hF (by decide)) kk_134 tt_134_14 ?_
    refine a_mem hM30 ?_
    refine a_iload_n (j := 1) hB e_M_truncateInput_33 rfl rfl ?_
    cases h
    exact a_iret hB rfl e_M_truncateInput_34 (by decide) (by decide)
  · have h := iq c h
    refine a_iconst (v := 0) hB e_M_truncateInput_26 ic_0 ?_
    cases h
    exact a_iret hB rfl e_M_truncateInput_27 (by decide) (by decide)
set_option maxRecDepth 100000 in
theorem t_M_truncateInput {G : Gt} {φ : Ph} {B : Bag} (hB : BF G I_M_truncateInput B) (hF : SF 148 φ)    {o : Int32} {M9 : Mm} {l1 : Int32} {M : Mm} (h : f_M_truncateInput l1 M = some (o, M9)) : AW G I_M_truncateInput B (QM G I_M_truncateInput B (.inl (some (.int o))) M9 φ) 0 0 0 [(0, .ref 134), (1, .int l1)] [] M φ := by
  unfold f_M_truncateInput at h
  refine a_aload_n (j := 0) hB e_M_truncateInput_0 rfl rfl ?_
  refine a_iload_n (j := 1) hB e_M_truncateInput_1 rfl rfl ?_
  refine a_iconst (v := 0) hB e_M_truncateInput_2 ic_0 ?_
  refine a_aload_n (j := 0) hB e_M_truncateInput_3 rfl rfl ?_
  refine a_getI (k := 14) hB e_M_truncateInput_4 fl_M_66 (sf_lt hF (by decide)) kk_134 tt_134_14 ?_
  obtain ⟨r7, hr7, h⟩ := bn_i h
  refine a_ret (v := (some (.int r7))) (M1 := M) (φ1 := φ) (st1 := [.int r7, .ref 134]) (j1 := 0) (j2 := 0) (ar_S (As := [.int l1, .int (0 : Int32), .int (M 134 14)]) (rest := [.ref 134]) hB (c_M_isIn (bf_G hB) hF hr7) ml_M_92 md_M_isIn rfl rfl (Nat.le_of_ble_eq_true rfl) rm_M_truncateInput_M_isIn e_M_truncateInput_7) rfl rfl rfl ?_
  refine a_if_ne (tgt := 17) hB e_M_truncateInput_10 (by decide) (fun c => ?_) (fun c => ?_)
  · have h := iq c h
    refine a_iconst (v := 0) hB e_M_truncateInput_17 ic_0 ?_
    exact t_M_truncateInput_18 hB hF h
  · have h := ip c h
    refine a_iconst (v := 1) hB e_M_truncateInput_13 ic_1 ?_
    refine a_goto (tgt := 18) hB e_M_truncateInput_14 (by decide) ?_
    exact t_M_truncateInput_18 hB hF h
set_option maxRecDepth 100000 in
theorem c_M_truncateInput {G : Gt} (hG : GOK G) {φ : Ph} (hF : SF 148 φ)   {M : Mm} {l1 : Int32} {o : Int32} {M9 : Mm} (h : f_M_truncateInput l1 M = some (o, M9)) : CT G I_M_truncateInput [.ref 134, .int l1] M φ (.inl (some (.int o))) M9 φ :=
  ct_of hG (by decide) (Nat.le_of_ble_eq_true rfl) (fun B hB => t_M_truncateInput hB hF  h)
set_option maxRecDepth 100000 in
theorem t_M_isLetter_29 {G : Gt} {φ : Ph} {B : Bag} (hB : BF G I_M_isLetter B) (hF : SF 148 φ)   {M : Mm} {o : Int32} {t0 : Int32}  (h : f_M_isLetter_29 M t0 = some o) : AW G I_M_isLetter B (QM G I_M_isLetter B (.inl (some (.int o))) M φ) 0 0 29 [] [.int t0] M φ := by
  unfold f_M_isLetter_29 at h
  obtain ⟨z29, h⟩ := chk_i h
  cases h
  exact a_zret hB rfl z29 e_M_isLetter_29 (by decide) (by decide)
set_option maxRecDepth 100000 in
theorem t_M_isLetter_28 {G : Gt} {φ : Ph} {B : Bag} (hB : BF G I_M_isLetter B) (hF : SF 148 φ)   {M : Mm} {o : Int32}   (h : f_M_isLetter_28 M = some o) : AW G I_M_isLetter B (QM G I_M_isLetter B (.inl (some (.int o))) M φ) 0 0 28 [] [] M φ := by
  unfold f_M_isLetter_28 at h
  refine a_iconst (v := 0) hB e_M_isLetter_28 ic_0 ?_
  exact t_M_isLetter_29 hB hF h
set_option maxRecDepth 100000 in
theorem t_M_isLetter {G : Gt} {φ : Ph} {B : Bag} (hB : BF G I_M_isLetter B) (hF : SF 148 φ)   {M : Mm} {o : Int32} {l1 : Int32}  (h : f_M_isLetter M l1 = some o) : AW G I_M_isLetter B (QM G I_M_isLetter B (.inl (some (.int o))) M φ) 0 0 0 [(0, .ref 134), (1, .int l1)] [] M φ := by
  unfold f_M_isLetter at h
  refine a_iload_n (j := 1) hB e_M_isLetter_0 rfl rfl ?_
  refine a_aload_n (j := 0) hB e_M_isLetter_1 rfl rfl ?_
  refine a_getI (k := 14) hB e_M_isLetter_2 fl_M_66 (sf_lt hF (by decide)) kk_134 tt_134_14 ?_
  refine a_icmp_ge (tgt := 28) hB e_M_isLetter_5 (by decide) (fun c => ?_) (fun c => ?_)
  · have h := ip c h
    refine a_ls [] (ls' := []) rfl ?_
    exact t_M_isLetter_28 hB hF h
  · have h := iq c h
    refine a_aload_n (j := 0) hB e_M_isLetter_8 rfl rfl ?_
    refine a_getR (r := 141) (k := 8) hB e_M_isLetter_9 fl_M_29 (sf_lt hF (by decide)) kk_134 tt_134_8 (hF.1 _ _) ?_
    refine a_iload_n (j := 1) hB e_M_isLetter_12 rfl rfl ?_
    obtain ⟨c13, h⟩ := chk_i h
    refine a_iald' hB e_M_isLetter_13 (sf_lt hF (by decide)) kk_141 ll_141 c13 ?_
    refine a_bipush (v := 97) hB e_M_isLetter_14 bp_97 ?_
    refine a_bipush (v := 122) hB e_M_isLetter_16 bp_122 ?_
    obtain ⟨r18, hr18, h⟩ := bn_i h
    refine a_ret (v := (some (.int r18))) (M1 := M) (φ1 := φ) (st1 := [.int r18]) (j1 := 0) (j2 := 0) (ar_S (As := [.int (M 141 (ix l1)), .int (97 : Int32), .int (122 : Int32)]) (rest := []) hB (c_M_isIn (bf_G hB) hF hr18) ml_M_92 md_M_isIn rfl rfl (Nat.le_of_ble_eq_true rfl) rm_M_isLetter_M_isIn e_M_isLetter_18) rfl rfl rfl ?_
    refine a_if_eq (tgt := 28) hB e_M_isLetter_21 (by decide) (fun c => ?_) (fun c => ?_)
    · have h := ip c h
      refine a_ls [] (ls' := []) rfl ?_
      exact t_M_isLetter_28 hB hF h
    · have h := iq c h
      refine a_iconst (v := 1) hB e_M_isLetter_24 ic_1 ?_
      refine a_goto (tgt := 29) hB e_M_isLetter_25 (by decide) ?_
      refine a_ls [] (ls' := []) rfl ?_
      exact t_M_isLetter_29 hB hF h
set_option maxRecDepth 100000 in
theorem c_M_isLetter {G : Gt} (hG : GOK G) {φ : Ph} (hF : SF 148 φ)   {M : Mm} {l1 : Int32} {o : Int32} (h : f_M_isLetter M l1 = some o) : CT G I_M_isLetter [.ref 134, .int l1] M φ (.inl (some (.int o))) M φ :=
  ct_of hG (by decide) (Nat.le_of_ble_eq_true rfl) (fun B hB => t_M_isLetter hB hF  h)
set_option maxRecDepth 100000 in
theorem t_M_isDigit_29 {G : Gt} {φ : Ph} {B : Bag} (hB : BF G I_M_isDigit B) (hF : SF 148 φ)   {M : Mm} {o : Int32} {t0 : Int32}  (h : f_M_isDigit_29 M t0 = some o) : AW G I_M_isDigit B (QM G I_M_isDigit B (.inl (some (.int o))) M φ) 0 0 29 [] [.int t0] M φ := by
  unfold f_M_isDigit_29 at h
  obtain ⟨z29, h⟩ := chk_i h
  cases h
  exact a_zret hB rfl z29 e_M_isDigit_29 (by decide) (by decide)
set_option maxRecDepth 100000 in
theorem t_M_isDigit_28 {G : Gt} {φ : Ph} {B : Bag} (hB : BF G I_M_isDigit B) (hF : SF 148 φ)   {M : Mm} {o : Int32}   (h : f_M_isDigit_28 M = some o) : AW G I_M_isDigit B (QM G I_M_isDigit B (.inl (some (.int o))) M φ) 0 0 28 [] [] M φ := by
  unfold f_M_isDigit_28 at h
  refine a_iconst (v := 0) hB e_M_isDigit_28 ic_0 ?_
  exact t_M_isDigit_29 hB hF h
set_option maxRecDepth 100000 in
theorem t_M_isDigit {G : Gt} {φ : Ph} {B : Bag} (hB : BF G I_M_isDigit B) (hF : SF 148 φ)   {M : Mm} {o : Int32} {l1 : Int32}  (h : f_M_isDigit M l1 = some o) : AW G I_M_isDigit B (QM G I_M_isDigit B (.inl (some (.int o))) M φ) 0 0 0 [(0, .ref 134), (1, .int l1)] [] M φ := by
  unfold f_M_isDigit at h
  refine a_iload_n (j := 1) hB e_M_isDigit_0 rfl rfl ?_
  refine a_aload_n (j := 0) hB e_M_isDigit_1 rfl rfl ?_
  refine a_getI (k := 14) hB e_M_isDigit_2 fl_M_66 (sf_lt hF (by decide)) kk_134 tt_134_14 ?_
  refine a_icmp_ge (tgt := 28) hB e_M_isDigit_5 (by decide) (fun c => ?_) (fun c => ?_)
  · have h := ip c h
    refine a_ls [] (ls' := []) rfl ?_
    exact t_M_isDigit_28 hB hF h
  · have h := iq c h
    refine a_aload_n (j := 0) hB e_M_isDigit_8 rfl rfl ?_
    refine a_getR (r := 141) (k := 8) hB e_M_isDigit_9 fl_M_29 (sf_lt hF (by decide)) kk_134 tt_134_8 (hF.1 _ _) ?_
    refine a_iload_n (j := 1) hB e_M_isDigit_12 rfl rfl ?_
    obtain ⟨c13, h⟩ := chk_i h
    refine a_iald' hB e_M_isDigit_13 (sf_lt hF (by decide)) kk_141 ll_141 c13 ?_
    refine a_bipush (v := 48) hB e_M_isDigit_14 bp_48 ?_
    refine a_bipush (v := 57) hB e_M_isDigit_16 bp_57 ?_
    obtain ⟨r18, hr18, h⟩ := bn_i h
    refine a_ret (v := (some (.int r18))) (M1 := M) (φ1 := φ) (st1 := [.int r18]) (j1 := 0) (j2 := 0) (ar_S (As := [.int (M 141 (ix l1)), .int (48 : Int32), .int (57 : Int32)]) (rest := []) hB (c_M_isIn (bf_G hB) hF hr18) ml_M_92 md_M_isIn rfl rfl (Nat.le_of_ble_eq_true rfl) rm_M_isDigit_M_isIn e_M_isDigit_18) rfl rfl rfl ?_
    refine a_if_eq (tgt := 28) hB e_M_isDigit_21 (by decide) (fun c => ?_) (fun c => ?_)
    · have h := ip c h
      refine a_ls [] (ls' := []) rfl ?_
      exact t_M_isDigit_28 hB hF h
    · have h := iq c h
      refine a_iconst (v := 1) hB e_M_isDigit_24 ic_1 ?_
      refine a_goto (tgt := 29) hB e_M_isDigit_25 (by decide) ?_
      refine a_ls [] (ls' := []) rfl ?_
      exact t_M_isDigit_29 hB hF h
set_option maxRecDepth 100000 in
theorem c_M_isDigit {G : Gt} (hG : GOK G) {φ : Ph} (hF : SF 148 φ)   {M : Mm} {l1 : Int32} {o : Int32} (h : f_M_isDigit M l1 = some o) : CT G I_M_isDigit [.ref 134, .int l1] M φ (.inl (some (.int o))) M φ :=
  ct_of hG (by decide) (Nat.le_of_ble_eq_true rfl) (fun B hB => t_M_isDigit hB hF  h)
set_option maxRecDepth 100000 in
theorem t_M_next_212 {G : Gt} {φ : Ph} {B : Bag} (hB : BF G I_M_next B) (hF : SF 148 φ)    {M9 : Mm}  {M : Mm} (h : f_M_next_212 M = some M9) : AW G I_M_next B (QM G I_M_next B (.inl none) M9 φ) 0 0 212 [] [] M φ := by
  unfold f_M_next_212 at h
  cases h
  exact a_vret hB rfl e_M_next_212 (by decide) (by decide)
set_option maxRecDepth 100000 in
theorem t_M_next_126 {G : Gt} {φ : Ph} {B : Bag} (hB : BF G I_M_next B) (hF : SF 148 φ)    {M9 : Mm} : ∀ (n : Nat)  (M : Mm), f_M_next_126 n M = some M9 → AW G I_M_next B (QM G I_M_next B (.inl none) M9 φ) 0 0 126 [(0, .ref 134)] [] M φ := by
  intro n
  induction n with
  | zero => intro M h; cases h
  | succ n hr126 =>
    intro M h
    rw [f_M_next_126] at h
    refine a_aload_n (j := 0) hB e_M_next_126 rfl rfl ?_
    refine a_aload_n (j := 0) hB e_M_next_127 rfl rfl ?_
    refine a_getI (k := 22) hB e_M_next_128 fl_M_164 (sf_lt hF (by decide)) kk_134 tt_134_22 ?_
    obtain ⟨r131, hr131, h⟩ := bn_i h
    refine a_ret (v := (some (.int r131))) (M1 := M) (φ1 := φ) (st1 := [.int r131]) (j1 := 0) (j2 := 0) (ar_V (As := [.int (M 134 22)]) (rest := []) hB (c_M_isDigit (bf_G hB) hF hr131) ml_M_176 md_M_isDigit rc_M_isDigit (sf_lt hF (by decide)) kk_134 rfl rfl (Nat.le_of_ble_eq_true rfl) rm_M_next_M_isDigit e_M_next_131) rfl rfl rfl ?_
    refine a_if_eq (tgt := 212) hB e_M_next_134 (by decide) (fun c => ?_) (fun c => ?_)
    · have h := ip c h
      refine a_ls [] (ls' := []) rfl ?_
      exact t_M_next_212 hB hF h
    · have h := iq c h
      refine a_aload_n (j := 0) hB e_M_next_137 rfl rfl ?_
      refine a_ldc (v := 1000000) hB cn_M_182 e_M_next_138 ?_
      refine a_aload_n (j := 0) hB e_M_next_140 rfl rfl ?_
      refine a_getI (k := 23) hB e_M_next_141 fl_M_179 (sf_lt hF (by decide)) kk_134 tt_134_23 ?_
      refine a_bipush (v := 10) hB e_M_next_144 bp_10 ?_
      refine a_imul hB e_M_next_146 ?_
      refine a_aload_n (j := 0) hB e_M_next_147 rfl rfl ?_
      refine a_getR (r := 141) (k := 8) hB e_M_next_148 fl_M_29 (sf_lt hF (by decide)) kk_134 tt_134_8 (hF.1 _ _) ?_
      refine a_aload_n (j := 0) hB e_M_next_151 rfl rfl ?_
      refine a_getI (k := 22) hB e_M_next_152 fl_M_164 (sf_lt hF (by decide)) kk_134 tt_134_22 ?_
      obtain ⟨c155, h⟩ := chk_i h
      refine a_iald' hB e_M_next_155 (sf_lt hF (by decide)) kk_141 ll_141 c155 ?_
      refine a_iadd hB e_M_next_156 ?_
      refine a_bipush (v := 48) hB e_M_next_157 bp_48 ?_
      refine a_isub hB e_M_next_159 ?_
      refine a_min hB ml_M_183 ms_min ini_math mc_min (by decide) (Nat.le_of_ble_eq_true rfl) (by decide) (by decide) e_M_next_160 ?_
      obtain ⟨M163, hM163, h⟩ := bm_i h
      refine a_putI (k := 23) hB e_M_next_163 fw_M_179 (sf_lt hF (by decide)) kk_134 tt_134_23 ?_
      refine a_mem hM163 ?_
      refine a_aload_n (j := 0) hB e_M_next_166 rfl rfl ?_
      refine a_dup hB e_M_next_167 rfl ?_
      refine a_getI (k := 22) hB e_M_next_168 fl_M_164 (sf_lt hF (by decide)) kk_134 tt_134_22 ?_
      refine a_iconst (v := 1) hB e_M_next_171 ic_1 ?_
      refine a_iadd hB e_M_next_172 ?_
      obtain ⟨M173, hM173, h⟩ := bm_i h
      refine a_putI (k := 22) hB e_M_next_173 fw_M_164 (sf_lt hF (by decide)) kk_134 tt_134_22 ?_
      refine a_mem hM173 ?_
      refine a_goto (tgt := 126) hB e_M_next_176 (by decide) ?_
      exact hr126 _ h
set_option maxRecDepth 100000 in
theorem t_M_next_199 {G : Gt} {φ : Ph} {B : Bag} (hB : BF G I_M_next B) (hF : SF 148 φ)    {M9 : Mm} {t1 : Int32} {M : Mm} (h : f_M_next_199 t1 M = some M9) : AW G I_M_next B (QM G I_M_next B (.inl none) M9 φ) 0 0 199 [(0, .ref 134)] [.int t1, .ref 134] M φ := by
  unfold f_M_next_199 at h
  obtain ⟨M199, hM199, h⟩ := bm_i h
  refine a_putI (k := 20) hB e_M_next_199 fw_M_170 (sf_lt hF (by decide)) kk_134 tt_134_20 ?_
  refine a_mem hM199 ?_
  refine a_aload_n (j := 0) hB e_M_next_202 rfl rfl ?_
  refine a_dup hB e_M_next_203 rfl ?_
  refine a_getI (k := 22) hB e_M_next_204 fl_M_164 (sf_lt hF (by decide)) kk_134 tt_134_22 ?_
  refine a_iconst (v := 1) hB e_M_next_207 ic_1 ?_
  refine a_iadd hB e_M_next_208 ?_
  obtain ⟨M209, hM209, h⟩ := bm_i h
  refine a_putI (k := 22) hB e_M_next_209 fw_M_164 (sf_lt hF (by decide)) kk_134 tt_134_22 ?_
  refine a_mem hM209 ?_
  refine a_ls [] (ls' := []) rfl ?_
  exact t_M_next_212 hB hF h
set_option maxRecDepth 100000 in
theorem t_M_next_81 {G : Gt} {φ : Ph} {B : Bag} (hB : BF G I_M_next B) (hF : SF 148 φ)    {M9 : Mm} : ∀ (n : Nat)  (M : Mm), f_M_next_81 n M = some M9 → AW G I_M_next B (QM G I_M_next B (.inl none) M9 φ) 0 0 81 [(0, .ref 134)] [] M φ := by
  intro n
  induction n with
  | zero => intro M h; cases h
  | succ n hr81 =>
    intro M h
    rw [f_M_next_81] at h
    refine a_aload_n (j := 0) hB e_M_next_81 rfl rfl ?_
    refine a_aload_n (j := 0) hB e_M_next_82 rfl rfl ?_
    refine a_getI (k := 22) hB e_M_next_83 fl_M_164 (sf_lt hF (by decide)) kk_134 tt_134_22 ?_
    obtain ⟨r86, hr86, h⟩ := bn_i h
    refine a_ret (v := (some (.int r86))) (M1 := M) (φ1 := φ) (st1 := [.int r86]) (j1 := 0) (j2 := 0) (ar_V (As := [.int (M 134 22)]) (rest := []) hB (c_M_isLetter (bf_G hB) hF hr86) ml_M_173 md_M_isLetter rc_M_isLetter (sf_lt hF (by decide)) kk_134 rfl rfl (Nat.le_of_ble_eq_true rfl) rm_M_next_M_isLetter e_M_next_86) rfl rfl rfl ?_
    refine a_if_eq (tgt := 212) hB e_M_next_89 (by decide) (fun c => ?_) (fun c => ?_)
    · have h := ip c h
      refine a_ls [] (ls' := []) rfl ?_
      exact t_M_next_212 hB hF h
    · have h := iq c h
      refine a_aload_n (j := 0) hB e_M_next_92 rfl rfl ?_
      refine a_dup hB e_M_next_93 rfl ?_
      refine a_getI (k := 22) hB e_M_next_94 fl_M_164 (sf_lt hF (by decide)) kk_134 tt_134_22 ?_
      refine a_iconst (v := 1) hB e_M_next_97 ic_1 ?_
      refine a_iadd hB e_M_next_98 ?_
      obtain ⟨M99, hM99, h⟩ := bm_i h
      refine a_putI (k := 22) hB e_M_next_99 fw_M_164 (sf_lt hF (by decide)) kk_134 tt_134_22 ?_
      refine a_mem hM99 ?_
      refine a_goto (tgt := 81) hB e_M_next_102 (by decide) ?_
      exact hr81 _ h
set_option maxRecDepth 100000 in
theorem t_M_next_38 {G : Gt} {φ : Ph} {B : Bag} (hB : BF G I_M_next B) (hF : SF 148 φ)    {M9 : Mm}  {M : Mm} (h : f_M_next_38 M = some M9) : AW G I_M_next B (QM G I_M_next B (.inl none) M9 φ) 0 0 38 [(0, .ref 134)] [] M φ := by
  unfold f_M_next_38 at h
  refine a_aload_n (j := 0) hB e_M_next_38 rfl rfl ?_
  refine a_aload_n (j := 0) hB e_M_next_39 rfl rfl ?_
  refine a_getI (k := 22) hB e_M_next_40 fl_M_164 (sf_lt hF (by decide)) kk_134 tt_134_22 ?_
  obtain ⟨M43, hM43, h⟩ := bm_i h
  refine a_putI (k := 21) hB e_M_next_43 fw_M_167 (sf_lt hF (by decide)) kk_134 tt_134_21 ?_
  refine a_mem hM43 ?_
  refine a_aload_n (j := 0) hB e_M_next_46 rfl rfl ?_
  refine a_getI (k := 22) hB e_M_next_47 fl_M_164 (sf_lt hF (by decide)) kk_134 tt_134_22 ?_
  refine a_aload_n (j := 0) hB e_M_next_50 rfl rfl ?_
  refine a_getI (k := 14) hB e_M_next_51 fl_M_66 (sf_lt hF (by decide)) kk_134 tt_134_14 ?_
  refine a_icmp_ne (tgt := 65) hB e_M_next_54 (by decide) (fun c => ?_) (fun c => ?_)
  · have h := iq c h
    refine a_aload_n (j := 0) hB e_M_next_65 rfl rfl ?_
    refine a_aload_n (j := 0) hB e_M_next_66 rfl rfl ?_
    refine a_getI (k := 22) hB e_M_next_67 fl_M_164 (sf_lt hF (by decide)) kk_134 tt_134_22 ?_
    obtain ⟨r70, hr70, h⟩ := bn_i h
    refine a_ret (v := (some (.int r70))) (M1 := M43) (φ1 := φ) (st1 := [.int r70]) (j1 := 0) (j2 := 0) (ar_V (As := [.int (M43 134 22)]) (rest := []) hB (c_M_isLetter (bf_G hB) hF hr70) ml_M_173 md_M_isLetter rc_M_isLetter (sf_lt hF (by decide)) kk_134 rfl rfl (Nat.le_of_ble_eq_true rfl) rm_M_next_M_isLetter e_M_next_70) rfl rfl rfl ?_
    refine a_if_eq (tgt := 105) hB e_M_next_73 (by decide) (fun c => ?_) (fun c => ?_)
    · have h := ip c h
      refine a_aload_n (j := 0) hB e_M_next_105 rfl rfl ?_
      refine a_aload_n (j := 0) hB e_M_next_106 rfl rfl ?_
      refine a_getI (k := 22) hB e_M_next_107 fl_M_164 (sf_lt hF (by decide)) kk_134 tt_134_22 ?_
      obtain ⟨r110, hr110, h⟩ := bn_i h
      refine a_ret (v := (some (.int r110))) (M1 := M43) (φ1 := φ) (st1 := [.int r110]) (j1 := 0) (j2 := 0) (ar_V (As := [.int (M43 134 22)]) (rest := []) hB (c_M_isDigit (bf_G hB) hF hr110) ml_M_176 md_M_isDigit rc_M_isDigit (sf_lt hF (by decide)) kk_134 rfl rfl (Nat.le_of_ble_eq_true rfl) rm_M_next_M_isDigit e_M_next_110) rfl rfl rfl ?_
      refine a_if_eq (tgt := 179) hB e_M_next_113 (by decide) (fun c => ?_) (fun c => ?_)
      · have h := ip c h
        refine a_aload_n (j := 0) hB e_M_next_179 rfl rfl ?_
        refine a_aload_n (j := 0) hB e_M_next_180 rfl rfl ?_
        refine a_getR (r := 141) (k := 8) hB e_M_next_181 fl_M_29 (sf_lt hF (by decide)) kk_134 tt_134_8 (hF.1 _ _) ?_
        refine a_aload_n (j := 0) hB e_M_next_184 rfl rfl ?_
        refine a_getI (k := 22) hB e_M_next_185 fl_M_164 (sf_lt hF (by decide)) kk_134 tt_134_22 ?_
        obtain ⟨c188, h⟩ := chk_i h
        refine a_iald' hB e_M_next_188 (sf_lt hF (by decide)) kk_141 ll_141 c188 ?_
        refine a_bipush (v := 59) hB e_M_next_189 bp_59 ?_
        refine a_icmp_ne (tgt := 198) hB e_M_next_191 (by decide) (fun c => ?_) (fun c => ?_)
        · have h := iq c h
          refine a_iconst (v := 4) hB e_M_next_198 ic_4 ?_
          exact t_M_next_199 hB hF h
        · have h := ip c h
          refine a_iconst (v := 3) hB e_M_next_194 ic_3 ?_
          refine a_goto (tgt := 199) hB e_M_next_195 (by decide) ?_
          exact t_M_next_199 hB hF h
      · have h := iq c h
        refine a_aload_n (j := 0) hB e_M_next_116 rfl rfl ?_
        refine a_iconst (v := 2) hB e_M_next_117 ic_2 ?_
        obtain ⟨M118, hM118, h⟩ := bm_i h
        refine a_putI (k := 20) hB e_M_next_118 fw_M_170 (sf_lt hF (by decide)) kk_134 tt_134_20 ?_
        refine a_mem hM118 ?_
        refine a_aload_n (j := 0) hB e_M_next_121 rfl rfl ?_
        refine a_iconst (v := 0) hB e_M_next_122 ic_0 ?_
        obtain ⟨M123, hM123, h⟩ := bm_i h
        refine a_putI (k := 23) hB e_M_next_123 fw_M_179 (sf_lt hF (by decide)) kk_134 tt_134_23 ?_
        refine a_mem hM123 ?_
        exact t_M_next_126 hB hF _ _ h
    · have h := iq c h
      refine a_aload_n (j := 0) hB e_M_next_76 rfl rfl ?_
      refine a_iconst (v := 1) hB e_M_next_77 ic_1 ?_
      obtain ⟨M78, hM78, h⟩ := bm_i h
      refine a_putI (k := 20) hB e_M_next_78 fw_M_170 (sf_lt hF (by decide)) kk_134 tt_134_20 ?_
      refine a_mem hM78 ?_
      exact t_M_next_81 hB hF _ _ h
  · have h := ip c h
    refine a_aload_n (j := 0) hB e_M_next_57 rfl rfl ?_
    refine a_iconst (v := 0) hB e_M_next_58 ic_0 ?_
    obtain ⟨M59, hM59, h⟩ := bm_i h
    refine a_putI (k := 20) hB e_M_next_59 fw_M_170 (sf_lt hF (by decide)) kk_134 tt_134_20 ?_
    refine a_mem hM59 ?_
    refine a_goto (tgt := 212) hB e_M_next_62 (by decide) ?_
    refine a_ls [] (ls' := []) rfl ?_
    exact t_M_next_212 hB hF h
set_option maxRecDepth 100000 in
theorem t_M_next_0 {G : Gt} {φ : Ph} {B : Bag} (hB : BF G I_M_next B) (hF : SF 148 φ)    {M9 : Mm} : ∀ (n : Nat)  (M : Mm), f_M_next_0 n M = some M9 → AW G I_M_next B (QM G I_M_next B (.inl none) M9 φ) 0 0 0 [(0, .ref 134)] [] M φ := by
  intro n
  induction n with
  | zero => intro M h; cases h
  | succ n hr0 =>
    intro M h
    rw [f_M_next_0] at h
    refine a_aload_n (j := 0) hB e_M_next_0 rfl rfl ?_
    refine a_getI (k := 22) hB e_M_next_1 fl_M_164 (sf_lt hF (by decide)) kk_134 tt_134_22 ?_
    refine a_aload_n (j := 0) hB e_M_next_4 rfl rfl ?_
    refine a_getI (k := 14) hB e_M_next_5 fl_M_66 (sf_lt hF (by decide)) kk_134 tt_134_14 ?_
    refine a_icmp_ge (tgt := 38) hB e_M_next_8 (by decide) (fun c => ?_) (fun c => ?_)
    · have h := ip c h
      exact t_M_next_38 hB hF h
    · have h := iq c h
      refine a_aload_n (j := 0) hB e_M_next_11 rfl rfl ?_
      refine a_getR (r := 141) (k := 8) hB e_M_next_12 fl_M_29 (sf_lt hF (by decide)) kk_134 tt_134_8 (hF.1 _ _) ?_
      refine a_aload_n (j := 0) hB e_M_next_15 rfl rfl ?_
      refine a_getI (k := 22) hB e_M_next_16 fl_M_164 (sf_lt hF (by decide)) kk_134 tt_134_22 ?_
      obtain ⟨c19, h⟩ := chk_i h
      refine a_iald' hB e_M_next_19 (sf_lt hF (by decide)) kk_141 ll_141 c19 ?_
      refine a_bipush (v := 32) hB e_M_next_20 bp_32 ?_
      refine a_icmp_ne (tgt := 38) hB e_M_next_22 (by decide) (fun c => ?_) (fun c => ?_)
      · have h := iq c h
        exact t_M_next_38 hB hF h
      · have h := ip c h
        refine a_aload_n (j := 0) hB e_M_next_25 rfl rfl ?_
        refine a_dup hB e_M_next_26 rfl ?_
        refine a_getI (k := 22) hB e_M_next_27 fl_M_164 (sf_lt hF (by decide)) kk_134 tt_134_22 ?_
        refine a_iconst (v := 1) hB e_M_next_30 ic_1 ?_
        refine a_iadd hB e_M_next_31 ?_
        obtain ⟨M32, hM32, h⟩ := bm_i h
        refine a_putI (k := 22) hB e_M_next_32 fw_M_164 (sf_lt hF (by decide)) kk_134 tt_134_22 ?_
        refine a_mem hM32 ?_
        refine a_goto (tgt := 0) hB e_M_next_35 (by decide) ?_
        exact hr0 _ h
set_option maxRecDepth 100000 in
theorem t_M_next {G : Gt} {φ : Ph} {B : Bag} (hB : BF G I_M_next B) (hF : SF 148 φ)    {M9 : Mm}  {M : Mm} (h : f_M_next M = some M9) : AW G I_M_next B (QM G I_M_next B (.inl none) M9 φ) 0 0 0 [(0, .ref 134)] [] M φ := by
  unfold f_M_next at h
  refine a_aload_n (j := 0) hB e_M_next_0 rfl rfl ?_
  refine a_getI (k := 22) hB e_M_next_1 fl_M_164 (sf_lt hF (by decide)) kk_134 tt_134_22 ?_
  refine a_aload_n (j := 0) hB e_M_next_4 rfl rfl ?_
  refine a_getI (k := 14) hB e_M_next_5 fl_M_66 (sf_lt hF (by decide)) kk_134 tt_134_14 ?_
  refine a_icmp_ge (tgt := 38) hB e_M_next_8 (by decide) (fun c => ?_) (fun c => ?_)
  · have h := ip c h
    exact t_M_next_38 hB hF h
  · have h := iq c h
    refine a_aload_n (j := 0) hB e_M_next_11 rfl rfl ?_
    refine a_getR (r := 141) (k := 8) hB e_M_next_12 fl_M_29 (sf_lt hF (by decide)) kk_134 tt_134_8 (hF.1 _ _) ?_
    refine a_aload_n (j := 0) hB e_M_next_15 rfl rfl ?_
    refine a_getI (k := 22) hB e_M_next_16 fl_M_164 (sf_lt hF (by decide)) kk_134 tt_134_22 ?_
    obtain ⟨c19, h⟩ := chk_i h
    refine a_iald' hB e_M_next_19 (sf_lt hF (by decide)) kk_141 ll_141 c19 ?_
    refine a_bipush (v := 32) hB e_M_next_20 bp_32 ?_
    refine a_icmp_ne (tgt := 38) hB e_M_next_22 (by decide) (fun c => ?_) (fun c => ?_)
    · have h := iq c h
      exact t_M_next_38 hB hF h
    · have h := ip c h
      refine a_aload_n (j := 0) hB e_M_next_25 rfl rfl ?_
      refine a_dup hB e_M_next_26 rfl ?_
      refine a_getI (k := 22) hB e_M_next_27 fl_M_164 (sf_lt hF (by decide)) kk_134 tt_134_22 ?_
      refine a_iconst (v := 1) hB e_M_next_30 ic_1 ?_
      refine a_iadd hB e_M_next_31 ?_
      obtain ⟨M32, hM32, h⟩ := bm_i h
      refine a_putI (k := 22) hB e_M_next_32 fw_M_164 (sf_lt hF (by decide)) kk_134 tt_134_22 ?_
      refine a_mem hM32 ?_
      refine a_goto (tgt := 0) hB e_M_next_35 (by decide) ?_
      exact t_M_next_0 hB hF _ _ h
set_option maxRecDepth 100000 in
theorem c_M_next {G : Gt} (hG : GOK G) {φ : Ph} (hF : SF 148 φ)   {M : Mm}  {M9 : Mm} (h : f_M_next M = some M9) : CT G I_M_next [.ref 134] M φ (.inl none) M9 φ :=
  ct_of hG (by decide) (Nat.le_of_ble_eq_true rfl) (fun B hB => t_M_next hB hF  h)
set_option maxRecDepth 100000 in
theorem t_M_is_31 {G : Gt} {φ : Ph} {B : Bag} (hB : BF G I_M_is B) (hF : SF 148 φ) {w : Nat} (hw_w : w < 43) {M : Mm} {o : Int32}   (h : f_M_is_31 w M = some o) : AW G I_M_is B (QM G I_M_is B (.inl (some (.int o))) M φ) 0 0 31 [] [] M φ := by
  unfold f_M_is_31 at h
  refine a_iconst (v := 0) hB e_M_is_31 ic_0 ?_
  cases h
  exact a_zret hB rfl (Or.inl rfl) e_M_is_32 (by decide) (by decide)
set_option maxRecDepth 100000 in
theorem t_M_is_35 {G : Gt} {φ : Ph} {B : Bag} (hB : BF G I_M_is B) (hF : SF 148 φ) {w : Nat} (hw_w : w < 43) {M : Mm} {o : Int32} : ∀ (n : Nat) (l2 : Int32), f_M_is_35 w M n l2 = some o → AW G I_M_is B (QM G I_M_is B (.inl (some (.int o))) M φ) 0 0 35 [(0, .ref 134), (1, .ref (1000 + w)), (2, .int l2)] [] M φ := by
  intro n
  induction n with
  | zero => intro l2 h; cases h
  | succ n hr35 =>
    intro l2 h
    rw [f_M_is_35] at h
    refine a_iload_n (j := 2) hB e_M_is_35 rfl rfl ?_
    refine a_aload_n (j := 1) hB e_M_is_36 rfl rfl ?_
    obtain ⟨r37, hr37, h⟩ := bn_i h
    refine a_ret (v := (some (.int r37))) (M1 := M) (φ1 := φ) (st1 := [.int r37, .int l2]) (j1 := 0) (j2 := 0) (ar_VS (As := []) (rest := [.int l2]) hB hw_w rfl (c_U_length (bf_G hB) hw_w hr37) ml_M_60 md_U_length rfl rfl (Nat.le_of_ble_eq_true rfl) rm_M_is_U_length e_M_is_37) rfl rfl rfl ?_
    refine a_icmp_ge (tgt := 70) hB e_M_is_40 (by decide) (fun c => ?_) (fun c => ?_)
    · have h := ip c h
      refine a_iconst (v := 1) hB e_M_is_70 ic_1 ?_
      cases h
      exact a_zret hB rfl (Or.inr rfl) e_M_is_71 (by decide) (by decide)
    · have h := iq c h
      refine a_aload_n (j := 0) hB e_M_is_43 rfl rfl ?_
      refine a_getR (r := 141) (k := 8) hB e_M_is_44 fl_M_29 (sf_lt hF (by decide)) kk_134 tt_134_8 (hF.1 _ _) ?_
      refine a_aload_n (j := 0) hB e_M_is_47 rfl rfl ?_
      refine a_getI (k := 21) hB e_M_is_48 fl_M_167 (sf_lt hF (by decide)) kk_134 tt_134_21 ?_
      refine a_iload_n (j := 2) hB e_M_is_51 rfl rfl ?_
      refine a_iadd hB e_M_is_52 ?_
      obtain ⟨c53, h⟩ := chk_i h
      refine a_iald' hB e_M_is_53 (sf_lt hF (by decide)) kk_141 ll_141 c53 ?_
      refine a_aload_n (j := 1) hB e_M_is_54 rfl rfl ?_
      refine a_iload_n (j := 2) hB e_M_is_55 rfl rfl ?_
      obtain ⟨r56, hr56, h⟩ := bn_i h
      refine a_ret (v := (some (.int r56))) (M1 := M) (φ1 := φ) (st1 := [.int r56, .int (M 141 (ix ((M 134 21) + l2)))]) (j1 := 0) (j2 := 0) (ar_VS (As := [.int l2]) (rest := [.int (M 141 (ix ((M 134 21) + l2)))]) hB hw_w rfl (c_U_charAt (bf_G hB) hw_w hr56) ml_M_69 md_U_charAt rfl rfl (Nat.le_of_ble_eq_true rfl) rm_M_is_U_charAt e_M_is_56) rfl rfl rfl ?_
      refine a_icmp_eq (tgt := 64) hB e_M_is_59 (by decide) (fun c => ?_) (fun c => ?_)
      · have h := ip c h
        refine a_iinc (j := 2) (v := l2 + 1) (ls' := [(2, .int (l2 + 1)), (0, .ref 134), (1, .ref (1000 + w))]) hB e_M_is_64 rfl (inc_1 _) (Nat.le_of_ble_eq_true rfl) rfl ?_
        refine a_goto (tgt := 35) hB e_M_is_67 (by decide) ?_
        refine a_ls [1, 2, 0] (ls' := [(0, .ref 134), (1, .ref (1000 + w)), (2, .int (l2 + 1))]) rfl ?_
        exact hr35 _ h
      · have h := iq c h
        refine a_iconst (v := 0) hB e_M_is_62 ic_0 ?_
        cases h
        exact a_zret hB rfl (Or.inl rfl) e_M_is_63 (by decide) (by decide)
set_option maxRecDepth 100000 in
theorem t_M_is {G : Gt} {φ : Ph} {B : Bag} (hB : BF G I_M_is B) (hF : SF 148 φ) {w : Nat} (hw_w : w < 43) {M : Mm} {o : Int32}   (h : f_M_is w M = some o) : AW G I_M_is B (QM G I_M_is B (.inl (some (.int o))) M φ) 0 0 0 [(0, .ref 134), (1, .ref (1000 + w))] [] M φ := by
  unfold f_M_is at h
  refine a_aload_n (j := 0) hB e_M_is_0 rfl rfl ?_
  refine a_getI (k := 24) hB e_M_is_1 fl_M_188 (sf_lt hF (by decide)) kk_134 tt_134_24 ?_
  refine a_if_ne (tgt := 31) hB e_M_is_4 (by decide) (fun c => ?_) (fun c => ?_)
  · have h := iq c h
    refine a_ls [] (ls' := []) rfl ?_
    exact t_M_is_31 hB hF hw_w h
  · have h := ip c h
    refine a_aload_n (j := 0) hB e_M_is_7 rfl rfl ?_
    refine a_getI (k := 20) hB e_M_is_8 fl_M_170 (sf_lt hF (by decide)) kk_134 tt_134_20 ?_
    refine a_iconst (v := 1) hB e_M_is_11 ic_1 ?_
    refine a_icmp_ne (tgt := 31) hB e_M_is_12 (by decide) (fun c => ?_) (fun c => ?_)
    · have h := iq c h
      refine a_ls [] (ls' := []) rfl ?_
      exact t_M_is_31 hB hF hw_w h
    · have h := ip c h
      refine a_aload_n (j := 0) hB e_M_is_15 rfl rfl ?_
      refine a_getI (k := 22) hB e_M_is_16 fl_M_164 (sf_lt hF (by decide)) kk_134 tt_134_22 ?_
      refine a_aload_n (j := 0) hB e_M_is_19 rfl rfl ?_
      refine a_getI (k := 21) hB e_M_is_20 fl_M_167 (sf_lt hF (by decide)) kk_134 tt_134_21 ?_
      refine a_isub hB e_M_is_23 ?_
      refine a_aload_n (j := 1) hB e_M_is_24 rfl rfl ?_
      obtain ⟨r25, hr25, h⟩ := bn_i h
      refine a_ret (v := (some (.int r25))) (M1 := M) (φ1 := φ) (st1 := [.int r25, .int ((M 134 22) - (M 134 21))]) (j1 := 0) (j2 := 0) (ar_VS (As := []) (rest := [.int ((M 134 22) - (M 134 21))]) hB hw_w rfl (c_U_length (bf_G hB) hw_w hr25) ml_M_60 md_U_length rfl rfl (Nat.le_of_ble_eq_true rfl) rm_M_is_U_length e_M_is_25) rfl rfl rfl ?_
      refine a_icmp_eq (tgt := 33) hB e_M_is_28 (by decide) (fun c => ?_) (fun c => ?_)
      · have h := ip c h
        refine a_iconst (v := 0) hB e_M_is_33 ic_0 ?_
        refine a_istore_n (ls' := [(2, .int (0 : Int32)), (0, .ref 134), (1, .ref (1000 + w))]) hB e_M_is_34 rfl (Nat.le_of_ble_eq_true rfl) rfl ?_
        refine a_ls [1, 2, 0] (ls' := [(0, .ref 134), (1, .ref (1000 + w)), (2, .int (0 : Int32))]) rfl ?_
        exact t_M_is_35 hB hF hw_w _ _ h
      · have h := iq c h
        refine a_ls [] (ls' := []) rfl ?_
        exact t_M_is_31 hB hF hw_w h
set_option maxRecDepth 100000 in
theorem c_M_is {G : Gt} (hG : GOK G) {φ : Ph} (hF : SF 148 φ) {w : Nat} (hw_w : w < 43) {M : Mm}  {o : Int32} (h : f_M_is w M = some o) : CT G I_M_is [.ref 134, .ref (1000 + w)] M φ (.inl (some (.int o))) M φ :=
  ct_of hG (by decide) (Nat.le_of_ble_eq_true rfl) (fun B hB => t_M_is hB hF hw_w h)
