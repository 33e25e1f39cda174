/-! the functions are what the machine does -/
set_option maxRecDepth 100000 in
theorem t_C_inconsistencies_99 {G : Gt} {φ : Ph} {B : Bag} (hB : BF G I_C_inconsistencies B) (hF : SF 134 φ)    {o : Int32} {M9 : Mm} {r66 : Int32 → Int32 → Mm → Option (Int32 × Mm)} (hr66 : ∀ (l2 : Int32) (l3 : Int32) (M : Mm), r66 l2 l3 M = some (o, M9) → AW G I_C_inconsistencies B (QM G I_C_inconsistencies B (.inl (some (.int o))) M9 φ) 0 0 66 [(0, .ref 0), (2, .int l2), (3, .int l3)] [] M φ) {l2 : Int32} {l3 : Int32} {M : Mm} (h : f_C_inconsistencies_99 r66 l2 l3 M = some (o, M9)) : AW G I_C_inconsistencies B (QM G I_C_inconsistencies B (.inl (some (.int o))) M9 φ) 0 0 99 [(0, .ref 0), (2, .int l2), (3, .int l3)] [] M φ := by
  unfold f_C_inconsistencies_99 at h
  refine a_iinc (j := 2) (v := l3 + 1) (ls' := [(3, .int (l3 + 1)), (0, .ref 0), (2, .int l2)]) hB e_C_inconsistencies_99 rfl (inc_1 _) (Nat.le_of_ble_eq_true rfl) rfl ?_
  refine a_goto (tgt := 66) hB e_C_inconsistencies_102 (by decide) ?_
  refine a_ls [1, 2, 0] (ls' := [(0, .ref 0), (2, .int l2), (3, .int (l3 + 1))]) rfl ?_
  exact hr66 _ _ _ h
set_option maxRecDepth 100000 in
theorem t_C_inconsistencies_66 {G : Gt} {φ : Ph} {B : Bag} (hB : BF G I_C_inconsistencies B) (hF : SF 134 φ)    {o : Int32} {M9 : Mm} : ∀ (n : Nat) (l2 : Int32) (l3 : Int32) (M : Mm), f_C_inconsistencies_66 n l2 l3 M = some (o, M9) → AW G I_C_inconsistencies B (QM G I_C_inconsistencies B (.inl (some (.int o))) M9 φ) 0 0 66 [(0, .ref 0), (2, .int l2), (3, .int l3)] [] M φ := by
  intro n
  induction n with
  | zero => intro l2 l3 M h; cases h
  | succ n hr66 =>
    intro l2 l3 M h
    rw [f_C_inconsistencies_66] at h
    refine a_iload_n (j := 2) hB e_C_inconsistencies_66 rfl rfl ?_
    refine a_aload_n (j := 0) hB e_C_inconsistencies_67 rfl rfl ?_
    refine a_getR (r := 15) (k := 7) hB e_C_inconsistencies_68 fl_C_39 (sf_lt hF (by decide)) kk_0 tt_0_7 (hF.1 _ _) ?_
    refine a_getI (k := 9) hB e_C_inconsistencies_71 fl_C_115 (sf_lt hF (by decide)) kk_15 tt_15_9 ?_
    refine a_icmp_ge (tgt := 105) hB e_C_inconsistencies_74 (by decide) (fun c => ?_) (fun c => ?_)
    · have h := ip c h
      refine a_iload_n (j := 1) hB e_C_inconsistencies_105 rfl rfl ?_
      cases h
      exact a_iret hB rfl e_C_inconsistencies_106 (by decide) (by decide)
    · have h := iq c h
      refine a_aload_n (j := 0) hB e_C_inconsistencies_77 rfl rfl ?_
      refine a_getR (r := 15) (k := 7) hB e_C_inconsistencies_78 fl_C_39 (sf_lt hF (by decide)) kk_0 tt_0_7 (hF.1 _ _) ?_
      refine a_iload_n (j := 2) hB e_C_inconsistencies_81 rfl rfl ?_
      obtain ⟨r82, hr82, h⟩ := bn_i h
      refine a_ret (v := (some (.int r82))) (M1 := M) (φ1 := φ) (st1 := [.int r82]) (j1 := 0) (j2 := 0) (ar_V (As := [.int l3]) (rest := []) hB (c_S_horizontalUnits (bf_G hB) hF sv_15 hr82) ml_C_227 md_S_horizontalUnits rc_S_horizontalUnits (sf_lt hF (by decide)) kk_15 rfl rfl (Nat.le_of_ble_eq_true rfl) rm_C_inconsistencies_S_horizontalUnits e_C_inconsistencies_82) rfl rfl rfl ?_
      refine a_aload_n (j := 0) hB e_C_inconsistencies_85 rfl rfl ?_
      refine a_getR (r := 15) (k := 7) hB e_C_inconsistencies_86 fl_C_39 (sf_lt hF (by decide)) kk_0 tt_0_7 (hF.1 _ _) ?_
      refine a_iload_n (j := 2) hB e_C_inconsistencies_89 rfl rfl ?_
      obtain ⟨r90, hr90, h⟩ := bn_i h
      refine a_ret (v := (some (.int r90))) (M1 := M) (φ1 := φ) (st1 := [.int r90, .int r82]) (j1 := 0) (j2 := 0) (ar_V (As := [.int l3]) (rest := [.int r82]) hB (c_S_slopeUnits (bf_G hB) hF sv_15 hr90) ml_C_224 md_S_slopeUnits rc_S_slopeUnits (sf_lt hF (by decide)) kk_15 rfl rfl (Nat.le_of_ble_eq_true rfl) rm_C_inconsistencies_S_slopeUnits e_C_inconsistencies_90) rfl rfl rfl ?_
      refine a_icmp_le (tgt := 99) hB e_C_inconsistencies_93 (by decide) (fun c => ?_) (fun c => ?_)
      · have h := ip c h
        exact t_C_inconsistencies_99 hB hF hr66 h
      · have h := iq c h
        refine a_iinc (j := 1) (v := l2 + 1) (ls' := [(2, .int (l2 + 1)), (0, .ref 0), (3, .int l3)]) hB e_C_inconsistencies_96 rfl (inc_1 _) (Nat.le_of_ble_eq_true rfl) rfl ?_
        refine a_ls [1, 0, 2] (ls' := [(0, .ref 0), (2, .int (l2 + 1)), (3, .int l3)]) rfl ?_
        exact t_C_inconsistencies_99 hB hF hr66 h
set_option maxRecDepth 100000 in
theorem t_C_inconsistencies_64 {G : Gt} {φ : Ph} {B : Bag} (hB : BF G I_C_inconsistencies B) (hF : SF 134 φ)    {o : Int32} {M9 : Mm} {l2 : Int32} {M : Mm} (h : f_C_inconsistencies_64 l2 M = some (o, M9)) : AW G I_C_inconsistencies B (QM G I_C_inconsistencies B (.inl (some (.int o))) M9 φ) 0 0 64 [(0, .ref 0), (2, .int l2)] [] M φ := by
  unfold f_C_inconsistencies_64 at h
  refine a_iconst (v := 0) hB e_C_inconsistencies_64 ic_0 ?_
  refine a_istore_n (ls' := [(3, .int (0 : Int32)), (0, .ref 0), (2, .int l2)]) hB e_C_inconsistencies_65 rfl (Nat.le_of_ble_eq_true rfl) rfl ?_
  refine a_ls [1, 2, 0] (ls' := [(0, .ref 0), (2, .int l2), (3, .int (0 : Int32))]) rfl ?_
  exact t_C_inconsistencies_66 hB hF _ _ _ _ h
set_option maxRecDepth 100000 in
theorem t_C_inconsistencies_62 {G : Gt} {φ : Ph} {B : Bag} (hB : BF G I_C_inconsistencies B) (hF : SF 134 φ)    {o : Int32} {M9 : Mm} {t0 : Int32} {t1 : Int32} {M : Mm} (h : f_C_inconsistencies_62 t0 t1 M = some (o, M9)) : AW G I_C_inconsistencies B (QM G I_C_inconsistencies B (.inl (some (.int o))) M9 φ) 0 0 62 [(0, .ref 0)] [.int t1, .int t0] M φ := by
  unfold f_C_inconsistencies_62 at h
  refine a_iadd hB e_C_inconsistencies_62 ?_
  refine a_istore_n (ls' := [(2, .int (t0 + t1)), (0, .ref 0)]) hB e_C_inconsistencies_63 rfl (Nat.le_of_ble_eq_true rfl) rfl ?_
  refine a_ls [1, 0] (ls' := [(0, .ref 0), (2, .int (t0 + t1))]) rfl ?_
  exact t_C_inconsistencies_64 hB hF h
set_option maxRecDepth 100000 in
theorem t_C_inconsistencies_42 {G : Gt} {φ : Ph} {B : Bag} (hB : BF G I_C_inconsistencies B) (hF : SF 134 φ)    {o : Int32} {M9 : Mm} {t0 : Int32} {t1 : Int32} {M : Mm} (h : f_C_inconsistencies_42 t0 t1 M = some (o, M9)) : AW G I_C_inconsistencies B (QM G I_C_inconsistencies B (.inl (some (.int o))) M9 φ) 0 0 42 [(0, .ref 0), (1, .ref 25)] [.int t1, .int t0] M φ := by
  unfold f_C_inconsistencies_42 at h
  refine a_iadd hB e_C_inconsistencies_42 ?_
  refine a_istore_n (ls' := [(2, .int (t0 + t1)), (0, .ref 0), (1, .ref 25)]) hB e_C_inconsistencies_43 rfl (Nat.le_of_ble_eq_true rfl) rfl ?_
  refine a_iload_n (j := 0) hB e_C_inconsistencies_44 rfl rfl ?_
  refine a_aload_n (j := 2) hB e_C_inconsistencies_45 rfl rfl ?_
  refine a_getR (r := 30) (k := 4) hB e_C_inconsistencies_46 fl_C_268 (sf_lt hF (by decide)) kk_25 tt_25_4 (hF.1 _ _) ?_
  refine a_aload_n (j := 2) hB e_C_inconsistencies_49 rfl rfl ?_
  refine a_getI (k := 5) hB e_C_inconsistencies_50 fl_C_289 (sf_lt hF (by decide)) kk_25 tt_25_5 ?_
  obtain ⟨c53, h⟩ := chk_i h
  refine a_iald' hB e_C_inconsistencies_53 (sf_lt hF (by decide)) kk_30 ll_30 c53 ?_
  refine a_if_ne (tgt := 61) hB e_C_inconsistencies_54 (by decide) (fun c => ?_) (fun c => ?_)
  · have h := iq c h
    refine a_iconst (v := 1) hB e_C_inconsistencies_61 ic_1 ?_
    refine a_ls [1] (ls' := [(0, .ref 0)]) rfl ?_
    exact t_C_inconsistencies_62 hB hF h
  · have h := ip c h
    refine a_iconst (v := 0) hB e_C_inconsistencies_57 ic_0 ?_
    refine a_goto (tgt := 62) hB e_C_inconsistencies_58 (by decide) ?_
    refine a_ls [1] (ls' := [(0, .ref 0)]) rfl ?_
    exact t_C_inconsistencies_62 hB hF h
set_option maxRecDepth 100000 in
theorem t_C_inconsistencies {G : Gt} {φ : Ph} {B : Bag} (hB : BF G I_C_inconsistencies B) (hF : SF 134 φ)    {o : Int32} {M9 : Mm}  {M : Mm} (h : f_C_inconsistencies M = some (o, M9)) : AW G I_C_inconsistencies B (QM G I_C_inconsistencies B (.inl (some (.int o))) M9 φ) 0 0 0 [(0, .ref 0)] [] M φ := by
  unfold f_C_inconsistencies at h
  refine a_aload_n (j := 0) hB e_C_inconsistencies_0 rfl rfl ?_
  obtain ⟨M1, hr1, h⟩ := bn_i h
  refine a_ret (v := (some (.ref 25))) (M1 := M1) (φ1 := φ) (st1 := [.ref 25]) (j1 := 0) (j2 := 0) (ar_V (As := []) (rest := []) hB (c_C_followed (bf_G hB) hF hr1) ml_C_255 md_C_followed rc_C_followed (sf_lt hF (by decide)) kk_0 rfl rfl (Nat.le_of_ble_eq_true rfl) rm_C_inconsistencies_C_followed e_C_inconsistencies_1) rfl rfl rfl ?_
  refine a_astore_n (ls' := [(1, .ref 25), (0, .ref 0)]) hB e_C_inconsistencies_4 rfl (Nat.le_of_ble_eq_true rfl) rfl ?_
  refine a_iconst (v := 0) hB e_C_inconsistencies_5 ic_0 ?_
  refine a_istore_n (ls' := [(2, .int (0 : Int32)), (1, .ref 25), (0, .ref 0)]) hB e_C_inconsistencies_6 rfl (Nat.le_of_ble_eq_true rfl) rfl ?_
  refine a_aload_n (j := 2) hB e_C_inconsistencies_7 rfl rfl ?_
  refine a_getR (r := 15) (k := 7) hB e_C_inconsistencies_8 fl_C_39 (sf_lt hF (by decide)) kk_0 tt_0_7 (hF.1 _ _) ?_
  refine a_getI (k := 12) hB e_C_inconsistencies_11 fl_C_192 (sf_lt hF (by decide)) kk_15 tt_15_12 ?_
  refine a_if_eq (tgt := 64) hB e_C_inconsistencies_14 (by decide) (fun c => ?_) (fun c => ?_)
  · have h := ip c h
    refine a_ls [2, 0] (ls' := [(0, .ref 0), (2, .int (0 : Int32))]) rfl ?_
    exact t_C_inconsistencies_64 hB hF h
  · have h := iq c h
    refine a_aload_n (j := 1) hB e_C_inconsistencies_17 rfl rfl ?_
    obtain ⟨r18, hr18, h⟩ := bn_i h
    refine a_ret (v := (some (.int r18))) (M1 := M1) (φ1 := φ) (st1 := [.int r18]) (j1 := 0) (j2 := 0) (ar_V (As := []) (rest := []) hB (c_T_totalRun (bf_G hB) hF hr18) ml_C_277 md_T_totalRun rc_T_totalRun (sf_lt hF (by decide)) kk_25 rfl rfl (Nat.le_of_ble_eq_true rfl) rm_C_inconsistencies_T_totalRun e_C_inconsistencies_18) rfl rfl rfl ?_
    refine a_if_le (tgt := 64) hB e_C_inconsistencies_21 (by decide) (fun c => ?_) (fun c => ?_)
    · have h := ip c h
      refine a_ls [2, 0] (ls' := [(0, .ref 0), (2, .int (0 : Int32))]) rfl ?_
      exact t_C_inconsistencies_64 hB hF h
    · have h := iq c h
      refine a_iload_n (j := 0) hB e_C_inconsistencies_24 rfl rfl ?_
      refine a_aload_n (j := 1) hB e_C_inconsistencies_25 rfl rfl ?_
      refine a_getR (r := 29) (k := 3) hB e_C_inconsistencies_26 fl_C_265 (sf_lt hF (by decide)) kk_25 tt_25_3 (hF.1 _ _) ?_
      refine a_aload_n (j := 1) hB e_C_inconsistencies_29 rfl rfl ?_
      refine a_getI (k := 5) hB e_C_inconsistencies_30 fl_C_289 (sf_lt hF (by decide)) kk_25 tt_25_5 ?_
      obtain ⟨c33, h⟩ := chk_i h
      refine a_iald' hB e_C_inconsistencies_33 (sf_lt hF (by decide)) kk_29 ll_29 c33 ?_
      refine a_if_ne (tgt := 41) hB e_C_inconsistencies_34 (by decide) (fun c => ?_) (fun c => ?_)
      · have h := iq c h
        refine a_iconst (v := 1) hB e_C_inconsistencies_41 ic_1 ?_
        refine a_ls [2, 1] (ls' := [(0, .ref 0), (1, .ref 25)]) rfl ?_
        exact t_C_inconsistencies_42 hB hF h
      · have h := ip c h
        refine a_iconst (v := 0) hB e_C_inconsistencies_37 ic_0 ?_
        refine a_goto (tgt := 42) hB e_C_inconsistencies_38 (by decide) ?_
        refine a_ls [2, 1] (ls' := [(0, .ref 0), (1, .ref 25)]) rfl ?_
        exact t_C_inconsistencies_42 hB hF h
set_option maxRecDepth 100000 in
theorem c_C_inconsistencies {G : Gt} (hG : GOK G) {φ : Ph} (hF : SF 134 φ)   {M : Mm}  {o : Int32} {M9 : Mm} (h : f_C_inconsistencies M = some (o, M9)) : CT G I_C_inconsistencies [.ref 0] M φ (.inl (some (.int o))) M9 φ :=
  ct_of hG (by decide) (Nat.le_of_ble_eq_true rfl) (fun B hB => t_C_inconsistencies hB hF  h)
set_option maxRecDepth 100000 in
theorem t_C_meanLeg {G : Gt} {φ : Ph} {B : Bag} (hB : BF G I_C_meanLeg B) (hF : SF 134 φ)    {o : UInt64} {M9 : Mm}  {M : Mm} (h : f_C_meanLeg M = some (o, M9)) : AW G I_C_meanLeg B (QM G I_C_meanLeg B (.inl (some (.double o))) M9 φ) 0 0 0 [(0, .ref 0)] [] M φ := by
  unfold f_C_meanLeg at h
  refine a_aload_n (j := 0) hB e_C_meanLeg_0 rfl rfl ?_
  refine a_getR (r := 15) (k := 7) hB e_C_meanLeg_1 fl_C_39 (sf_lt hF (by decide)) kk_0 tt_0_7 (hF.1 _ _) ?_
  refine a_getI (k := 9) hB e_C_meanLeg_4 fl_C_115 (sf_lt hF (by decide)) kk_15 tt_15_9 ?_
  refine a_if_ne (tgt := 12) hB e_C_meanLeg_7 (by decide) (fun c => ?_) (fun c => ?_)
  · have h := iq c h
    refine a_aload_n (j := 0) hB e_C_meanLeg_12 rfl rfl ?_
    obtain ⟨r13, M13, hr13, h⟩ := bn2_i h
    refine a_ret (v := (some (.int r13))) (M1 := M13) (φ1 := φ) (st1 := [.int r13]) (j1 := 0) (j2 := 0) (ar_V (As := []) (rest := []) hB (c_C_perimeter (bf_G hB) hF hr13) ml_C_317 md_C_perimeter rc_C_perimeter (sf_lt hF (by decide)) kk_0 rfl rfl (Nat.le_of_ble_eq_true rfl) rm_C_meanLeg_C_perimeter e_C_meanLeg_13) rfl rfl rfl ?_
    refine a_i2d hB e_C_meanLeg_16 ?_
    refine a_aload_n (j := 0) hB e_C_meanLeg_17 rfl rfl ?_
    refine a_getR (r := 15) (k := 7) hB e_C_meanLeg_18 fl_C_39 (sf_lt hF (by decide)) kk_0 tt_0_7 (hF.1 _ _) ?_
    refine a_getI (k := 9) hB e_C_meanLeg_21 fl_C_115 (sf_lt hF (by decide)) kk_15 tt_15_9 ?_
    refine a_i2d hB e_C_meanLeg_24 ?_
    obtain ⟨c25, h⟩ := chkC_i h
    refine a_ddiv hB e_C_meanLeg_25 c25 ?_
    cases h
    exact a_dret hB rfl e_C_meanLeg_26 (by decide) (by decide)
  · have h := ip c h
    refine a_dconst0 hB e_C_meanLeg_10 ?_
    cases h
    exact a_dret hB rfl e_C_meanLeg_11 (by decide) (by decide)
set_option maxRecDepth 100000 in
theorem c_C_meanLeg {G : Gt} (hG : GOK G) {φ : Ph} (hF : SF 134 φ)   {M : Mm}  {o : UInt64} {M9 : Mm} (h : f_C_meanLeg M = some (o, M9)) : CT G I_C_meanLeg [.ref 0] M φ (.inl (some (.double o))) M9 φ :=
  ct_of hG (by decide) (Nat.le_of_ble_eq_true rfl) (fun B hB => t_C_meanLeg hB hF  h)
set_option maxRecDepth 100000 in
theorem t_C_bogShare {G : Gt} {φ : Ph} {B : Bag} (hB : BF G I_C_bogShare B) (hF : SF 134 φ)    {o : UInt32} {M9 : Mm}  {M : Mm} (h : f_C_bogShare M = some (o, M9)) : AW G I_C_bogShare B (QM G I_C_bogShare B (.inl (some (.float o))) M9 φ) 0 0 0 [(0, .ref 0)] [] M φ := by
  unfold f_C_bogShare at h
  refine a_aload_n (j := 0) hB e_C_bogShare_0 rfl rfl ?_
  obtain ⟨r1, M1, hr1, h⟩ := bn2_i h
  refine a_ret (v := (some (.int r1))) (M1 := M1) (φ1 := φ) (st1 := [.int r1]) (j1 := 0) (j2 := 0) (ar_V (As := []) (rest := []) hB (c_C_perimeter (bf_G hB) hF hr1) ml_C_317 md_C_perimeter rc_C_perimeter (sf_lt hF (by decide)) kk_0 rfl rfl (Nat.le_of_ble_eq_true rfl) rm_C_bogShare_C_perimeter e_C_bogShare_1) rfl rfl rfl ?_
  refine a_istore_n (ls' := [(1, .int r1), (0, .ref 0)]) hB e_C_bogShare_4 rfl (Nat.le_of_ble_eq_true rfl) rfl ?_
  refine a_iload_n (j := 0) hB e_C_bogShare_5 rfl rfl ?_
  refine a_if_ne (tgt := 11) hB e_C_bogShare_6 (by decide) (fun c => ?_) (fun c => ?_)
  · have h := iq c h
    refine a_aload_n (j := 1) hB e_C_bogShare_11 rfl rfl ?_
    obtain ⟨r12, hr12, h⟩ := bn_i h
    refine a_ret (v := (some (.int r12))) (M1 := M1) (φ1 := φ) (st1 := [.int r12]) (j1 := 0) (j2 := 0) (ar_V (As := []) (rest := []) hB (c_C_bogLength (bf_G hB) hF hr12) ml_C_320 md_C_bogLength rc_C_bogLength (sf_lt hF (by decide)) kk_0 rfl rfl (Nat.le_of_ble_eq_true rfl) rm_C_bogShare_C_bogLength e_C_bogShare_12) rfl rfl rfl ?_
    refine a_i2f hB e_C_bogShare_15 ?_
    refine a_iload_n (j := 0) hB e_C_bogShare_16 rfl rfl ?_
    refine a_i2f hB e_C_bogShare_17 ?_
    obtain ⟨c18, h⟩ := chkC_i h
    refine a_fdiv hB e_C_bogShare_18 c18 ?_
    cases h
    exact a_fret hB rfl e_C_bogShare_19 (by decide) (by decide)
  · have h := ip c h
    refine a_fconst0 hB e_C_bogShare_9 ?_
    cases h
    exact a_fret hB rfl e_C_bogShare_10 (by decide) (by decide)
set_option maxRecDepth 100000 in
theorem c_C_bogShare {G : Gt} (hG : GOK G) {φ : Ph} (hF : SF 134 φ)   {M : Mm}  {o : UInt32} {M9 : Mm} (h : f_C_bogShare M = some (o, M9)) : CT G I_C_bogShare [.ref 0] M φ (.inl (some (.float o))) M9 φ :=
  ct_of hG (by decide) (Nat.le_of_ble_eq_true rfl) (fun B hB => t_C_bogShare hB hF  h)
set_option maxRecDepth 100000 in
theorem t_C_writeByte_31 {G : Gt} {φ : Ph} {B : Bag} (hB : BF G I_C_writeByte B) (hF : SF 134 φ)    {M9 : Mm}  {M : Mm} (h : f_C_writeByte_31 M = some M9) : AW G I_C_writeByte B (QM G I_C_writeByte B (.inl none) M9 φ) 0 0 31 [] [] M φ := by
  unfold f_C_writeByte_31 at h
  cases h
  exact a_vret hB rfl e_C_writeByte_31 (by decide) (by decide)
set_option maxRecDepth 100000 in
theorem t_C_writeByte {G : Gt} {φ : Ph} {B : Bag} (hB : BF G I_C_writeByte B) (hF : SF 134 φ)    {M9 : Mm} {l1 : Int32} {M : Mm} (h : f_C_writeByte l1 M = some M9) : AW G I_C_writeByte B (QM G I_C_writeByte B (.inl none) M9 φ) 0 0 0 [(0, .ref 0), (1, .int l1)] [] M φ := by
  unfold f_C_writeByte at h
  refine a_aload_n (j := 0) hB e_C_writeByte_0 rfl rfl ?_
  refine a_getI (k := 6) hB e_C_writeByte_1 fl_C_323 (sf_lt hF (by decide)) kk_0 tt_0_6 ?_
  refine a_sipush (v := 512) hB e_C_writeByte_4 sp_512 ?_
  refine a_icmp_ge (tgt := 31) hB e_C_writeByte_7 (by decide) (fun c => ?_) (fun c => ?_)
  · have h := ip c h
    refine a_ls [] (ls' := []) rfl ?_
    exact t_C_writeByte_31 hB hF h
  · have h := iq c h
    refine a_aload_n (j := 0) hB e_C_writeByte_10 rfl rfl ?_
    refine a_getR (r := 14) (k := 5) hB e_C_writeByte_11 fl_C_33 (sf_lt hF (by decide)) kk_0 tt_0_5 (hF.1 _ _) ?_
    refine a_aload_n (j := 0) hB e_C_writeByte_14 rfl rfl ?_
    refine a_getI (k := 6) hB e_C_writeByte_15 fl_C_323 (sf_lt hF (by decide)) kk_0 tt_0_6 ?_
    refine a_iload_n (j := 1) hB e_C_writeByte_18 rfl rfl ?_
    refine a_i2b hB e_C_writeByte_19 ?_
    obtain ⟨c20, h⟩ := chk_i h
    obtain ⟨M20, hM20, h⟩ := bm_i h
    refine a_bast' hB e_C_writeByte_20 (sf_lt hF (by decide)) kk_14 ll_14 c20 ?_
    refine a_mem hM20 ?_
    refine a_aload_n (j := 0) hB e_C_writeByte_21 rfl rfl ?_
    refine a_dup hB e_C_writeByte_22 rfl ?_
    refine a_getI (k := 6) hB e_C_writeByte_23 fl_C_323 (sf_lt hF (by decide)) kk_0 tt_0_6 ?_
    refine a_iconst (v := 1) hB e_C_writeByte_26 ic_1 ?_
    refine a_iadd hB e_C_writeByte_27 ?_
    obtain ⟨M28, hM28, h⟩ := bm_i h
    refine a_putI (k := 6) hB e_C_writeByte_28 fw_C_323 (sf_lt hF (by decide)) kk_0 tt_0_6 ?_
    refine a_mem hM28 ?_
    refine a_ls [] (ls' := []) rfl ?_
    exact t_C_writeByte_31 hB hF h
set_option maxRecDepth 100000 in
theorem c_C_writeByte {G : Gt} (hG : GOK G) {φ : Ph} (hF : SF 134 φ)   {M : Mm} {l1 : Int32} {M9 : Mm} (h : f_C_writeByte l1 M = some M9) : CT G I_C_writeByte [.ref 0, .int l1] M φ (.inl none) M9 φ :=
  ct_of hG (by decide) (Nat.le_of_ble_eq_true rfl) (fun B hB => t_C_writeByte hB hF  h)
set_option maxRecDepth 100000 in
theorem t_C_writeNumber_46 {G : Gt} {φ : Ph} {B : Bag} (hB : BF G I_C_writeNumber B) (hF : SF 134 φ)    {M9 : Mm} {r19 : Int32 → Int32 → Mm → Option Mm} (hr19 : ∀ (l2 : Int32) (l3 : Int32) (M : Mm), r19 l2 l3 M = some M9 → AW G I_C_writeNumber B (QM G I_C_writeNumber B (.inl none) M9 φ) 0 0 19 [(0, .ref 0), (2, .int l2), (3, .int l3)] [] M φ) {l2 : Int32} {l3 : Int32} {M : Mm} (h : f_C_writeNumber_46 r19 l2 l3 M = some M9) : AW G I_C_writeNumber B (QM G I_C_writeNumber B (.inl none) M9 φ) 0 0 46 [(0, .ref 0), (2, .int l2), (3, .int l3)] [] M φ := by
  unfold f_C_writeNumber_46 at h
  refine a_iload_n (j := 2) hB e_C_writeNumber_46 rfl rfl ?_
  refine a_bipush (v := 10) hB e_C_writeNumber_47 bp_10 ?_
  refine a_idiv hB e_C_writeNumber_49 (by decide) ?_
  refine a_istore_n (ls' := [(3, .int (l3 / (10 : Int32))), (0, .ref 0), (2, .int l2)]) hB e_C_writeNumber_50 rfl (Nat.le_of_ble_eq_true rfl) rfl ?_
  refine a_goto (tgt := 19) hB e_C_writeNumber_51 (by decide) ?_
  refine a_ls [1, 2, 0] (ls' := [(0, .ref 0), (2, .int l2), (3, .int (l3 / (10 : Int32)))]) rfl ?_
  exact hr19 _ _ _ h
set_option maxRecDepth 100000 in
theorem t_C_writeNumber_33 {G : Gt} {φ : Ph} {B : Bag} (hB : BF G I_C_writeNumber B) (hF : SF 134 φ)    {M9 : Mm} {r19 : Int32 → Int32 → Mm → Option Mm} (hr19 : ∀ (l2 : Int32) (l3 : Int32) (M : Mm), r19 l2 l3 M = some M9 → AW G I_C_writeNumber B (QM G I_C_writeNumber B (.inl none) M9 φ) 0 0 19 [(0, .ref 0), (2, .int l2), (3, .int l3)] [] M φ) {l2 : Int32} {l3 : Int32} {M : Mm} (h : f_C_writeNumber_33 r19 l2 l3 M = some M9) : AW G I_C_writeNumber B (QM G I_C_writeNumber B (.inl none) M9 φ) 0 0 33 [(0, .ref 0), (2, .int l2), (3, .int l3)] [] M φ := by
  unfold f_C_writeNumber_33 at h
  refine a_aload_n (j := 0) hB e_C_writeNumber_33 rfl rfl ?_
  refine a_bipush (v := 48) hB e_C_writeNumber_34 bp_48 ?_
  refine a_iload_n (j := 1) hB e_C_writeNumber_36 rfl rfl ?_
  refine a_iload_n (j := 2) hB e_C_writeNumber_37 rfl rfl ?_
  obtain ⟨c38, h⟩ := chk_i h
  refine a_idiv hB e_C_writeNumber_38 c38 ?_
  refine a_bipush (v := 10) hB e_C_writeNumber_39 bp_10 ?_
  refine a_irem hB e_C_writeNumber_41 (by decide) ?_
  refine a_iadd hB e_C_writeNumber_42 ?_
  obtain ⟨M43, hr43, h⟩ := bn_i h
  refine a_ret (v := none) (M1 := M43) (φ1 := φ) (st1 := []) (j1 := 0) (j2 := 0) (ar_V (As := [.int ((48 : Int32) + ((l2 / l3) - (l2 / l3) / (10 : Int32) * (10 : Int32)))]) (rest := []) hB (c_C_writeByte (bf_G hB) hF hr43) ml_C_326 md_C_writeByte rc_C_writeByte (sf_lt hF (by decide)) kk_0 rfl rfl (Nat.le_of_ble_eq_true rfl) rm_C_writeNumber_C_writeByte e_C_writeNumber_43) rfl rfl rfl ?_
  exact t_C_writeNumber_46 hB hF hr19 h
set_option maxRecDepth 100000 in
theorem t_C_writeNumber_19 {G : Gt} {φ : Ph} {B : Bag} (hB : BF G I_C_writeNumber B) (hF : SF 134 φ)    {M9 : Mm} : ∀ (n : Nat) (l2 : Int32) (l3 : Int32) (M : Mm), f_C_writeNumber_19 n l2 l3 M = some M9 → AW G I_C_writeNumber B (QM G I_C_writeNumber B (.inl none) M9 φ) 0 0 19 [(0, .ref 0), (2, .int l2), (3, .int l3)] [] M φ := by
  intro n
  induction n with
  | zero => intro l2 l3 M h; cases h
  | succ n hr19 =>
    intro l2 l3 M h
    rw [f_C_writeNumber_19] at h
    refine a_iload_n (j := 2) hB e_C_writeNumber_19 rfl rfl ?_
    refine a_if_le (tgt := 54) hB e_C_writeNumber_20 (by decide) (fun c => ?_) (fun c => ?_)
    · have h := ip c h
      cases h
      exact a_vret hB rfl e_C_writeNumber_54 (by decide) (by decide)
    · have h := iq c h
      refine a_iload_n (j := 1) hB e_C_writeNumber_23 rfl rfl ?_
      refine a_iload_n (j := 2) hB e_C_writeNumber_24 rfl rfl ?_
      refine a_icmp_ge (tgt := 33) hB e_C_writeNumber_25 (by decide) (fun c => ?_) (fun c => ?_)
      · have h := ip c h
        exact t_C_writeNumber_33 hB hF hr19 h
      · have h := iq c h
        refine a_iload_n (j := 2) hB e_C_writeNumber_28 rfl rfl ?_
        refine a_iconst (v := 1) hB e_C_writeNumber_29 ic_1 ?_
        refine a_icmp_ne (tgt := 46) hB e_C_writeNumber_30 (by decide) (fun c => ?_) (fun c => ?_)
        · have h := iq c h
          exact t_C_writeNumber_46 hB hF hr19 h
        · have h := ip c h
          exact t_C_writeNumber_33 hB hF hr19 h
set_option maxRecDepth 100000 in
theorem t_C_writeNumber_10 {G : Gt} {φ : Ph} {B : Bag} (hB : BF G I_C_writeNumber B) (hF : SF 134 φ)    {M9 : Mm} {l1 : Int32} {M : Mm} (h : f_C_writeNumber_10 l1 M = some M9) : AW G I_C_writeNumber B (QM G I_C_writeNumber B (.inl none) M9 φ) 0 0 10 [(0, .ref 0), (1, .int l1)] [] M φ := by
  unfold f_C_writeNumber_10 at h
  refine a_iload_n (j := 1) hB e_C_writeNumber_10 rfl rfl ?_
  refine a_abs hB ml_C_332 ms_abs ini_math mc_abs (by decide) (Nat.le_of_ble_eq_true rfl) (by decide) (by decide) e_C_writeNumber_11 ?_
  refine a_istore_n (ls' := [(2, .int (if 0 ≤ l1 then l1 else 0 - l1)), (0, .ref 0), (1, .int l1)]) hB e_C_writeNumber_14 rfl (Nat.le_of_ble_eq_true rfl) rfl ?_
  refine a_ldcw (v := 1000000000) hB cn_C_335 e_C_writeNumber_15 ?_
  refine a_istore_n (ls' := [(3, .int (1000000000 : Int32)), (2, .int (if 0 ≤ l1 then l1 else 0 - l1)), (0, .ref 0), (1, .int l1)]) hB e_C_writeNumber_18 rfl (Nat.le_of_ble_eq_true rfl) rfl ?_
  refine a_ls [2, 1, 0] (ls' := [(0, .ref 0), (2, .int (if 0 ≤ l1 then l1 else 0 - l1)), (3, .int (1000000000 : Int32))]) rfl ?_
  exact t_C_writeNumber_19 hB hF _ _ _ _ h
set_option maxRecDepth 100000 in
theorem t_C_writeNumber {G : Gt} {φ : Ph} {B : Bag} (hB : BF G I_C_writeNumber B) (hF : SF 134 φ)    {M9 : Mm} {l1 : Int32} {M : Mm} (h : f_C_writeNumber l1 M = some M9) : AW G I_C_writeNumber B (QM G I_C_writeNumber B (.inl none) M9 φ) 0 0 0 [(0, .ref 0), (1, .int l1)] [] M φ := by
  unfold f_C_writeNumber at h
  refine a_iload_n (j := 1) hB e_C_writeNumber_0 rfl rfl ?_
  refine a_if_ge (tgt := 10) hB e_C_writeNumber_1 (by decide) (fun c => ?_) (fun c => ?_)
  · have h := ip c h
    exact t_C_writeNumber_10 hB hF h
  · have h := iq c h
    refine a_aload_n (j := 0) hB e_C_writeNumber_4 rfl rfl ?_
    refine a_bipush (v := 45) hB e_C_writeNumber_5 bp_45 ?_
    obtain ⟨M7, hr7, h⟩ := bn_i h
    refine a_ret (v := none) (M1 := M7) (φ1 := φ) (st1 := []) (j1 := 0) (j2 := 0) (ar_V (As := [.int (45 : Int32)]) (rest := []) hB (c_C_writeByte (bf_G hB) hF hr7) ml_C_326 md_C_writeByte rc_C_writeByte (sf_lt hF (by decide)) kk_0 rfl rfl (Nat.le_of_ble_eq_true rfl) rm_C_writeNumber_C_writeByte e_C_writeNumber_7) rfl rfl rfl ?_
    exact t_C_writeNumber_10 hB hF h
set_option maxRecDepth 100000 in
theorem c_C_writeNumber {G : Gt} (hG : GOK G) {φ : Ph} (hF : SF 134 φ)   {M : Mm} {l1 : Int32} {M9 : Mm} (h : f_C_writeNumber l1 M = some M9) : CT G I_C_writeNumber [.ref 0, .int l1] M φ (.inl none) M9 φ :=
  ct_of hG (by decide) (Nat.le_of_ble_eq_true rfl) (fun B hB => t_C_writeNumber hB hF  h)
set_option maxRecDepth 100000 in
theorem t_C_writeStations_30 {G : Gt} {φ : Ph} {B : Bag} (hB : BF G I_C_writeStations B) (hF : SF 134 φ)    {o : Int32} {M9 : Mm} {r12 : Int32 → Mm → Option (Int32 × Mm)} (hr12 : ∀ (l2 : Int32) (M : Mm), r12 l2 M = some (o, M9) → AW G I_C_writeStations B (QM G I_C_writeStations B (.inl (some (.int o))) M9 φ) 0 0 12 [(0, .ref 0), (1, .ref 25), (2, .int l2)] [] M φ) {l2 : Int32} {M : Mm} (h : f_C_writeStations_30 r12 l2 M = some (o, M9)) : AW G I_C_writeStations B (QM G I_C_writeStations B (.inl (some (.int o))) M9 φ) 0 0 30 [(0, .ref 0), (1, .ref 25), (2, .int l2)] [] M φ := by
  unfold f_C_writeStations_30 at h
  refine a_aload_n (j := 0) hB e_C_writeStations_30 rfl rfl ?_
  refine a_aload_n (j := 1) hB e_C_writeStations_31 rfl rfl ?_
  refine a_getR (r := 29) (k := 3) hB e_C_writeStations_32 fl_C_265 (sf_lt hF (by decide)) kk_25 tt_25_3 (hF.1 _ _) ?_
  refine a_iload_n (j := 2) hB e_C_writeStations_35 rfl rfl ?_
  obtain ⟨c36, h⟩ := chk_i h
  refine a_iald' hB e_C_writeStations_36 (sf_lt hF (by decide)) kk_29 ll_29 c36 ?_
  obtain ⟨M37, hr37, h⟩ := bn_i h
  refine a_ret (v := none) (M1 := M37) (φ1 := φ) (st1 := []) (j1 := 0) (j2 := 0) (ar_V (As := [.int (M 29 (ix l2))]) (rest := []) hB (c_C_writeNumber (bf_G hB) hF hr37) ml_C_329 md_C_writeNumber rc_C_writeNumber (sf_lt hF (by decide)) kk_0 rfl rfl (Nat.le_of_ble_eq_true rfl) rm_C_writeStations_C_writeNumber e_C_writeStations_37) rfl rfl rfl ?_
  refine a_aload_n (j := 0) hB e_C_writeStations_40 rfl rfl ?_
  refine a_bipush (v := 44) hB e_C_writeStations_41 bp_44 ?_
  obtain ⟨M43, hr43, h⟩ := bn_i h
  refine a_ret (v := none) (M1 := M43) (φ1 := φ) (st1 := []) (j1 := 0) (j2 := 0) (ar_V (As := [.int (44 : Int32)]) (rest := []) hB (c_C_writeByte (bf_G hB) hF hr43) ml_C_326 md_C_writeByte rc_C_writeByte (sf_lt hF (by decide)) kk_0 rfl rfl (Nat.le_of_ble_eq_true rfl) rm_C_writeStations_C_writeByte e_C_writeStations_43) rfl rfl rfl ?_
  refine a_aload_n (j := 0) hB e_C_writeStations_46 rfl rfl ?_
  refine a_aload_n (j := 1) hB e_C_writeStations_47 rfl rfl ?_
  refine a_getR (r := 30) (k := 4) hB e_C_writeStations_48 fl_C_268 (sf_lt hF (by decide)) kk_25 tt_25_4 (hF.1 _ _) ?_
  refine a_iload_n (j := 2) hB e_C_writeStations_51 rfl rfl ?_
  refine a_iald' hB e_C_writeStations_52 (sf_lt hF (by decide)) kk_30 ll_30 c36 ?_
  obtain ⟨M53, hr53, h⟩ := bn_i h
  refine a_ret (v := none) (M1 := M53) (φ1 := φ) (st1 := []) (j1 := 0) (j2 := 0) (ar_V (As := [.int (M43 30 (ix l2))]) (rest := []) hB (c_C_writeNumber (bf_G hB) hF hr53) ml_C_329 md_C_writeNumber rc_C_writeNumber (sf_lt hF (by decide)) kk_0 rfl rfl (Nat.le_of_ble_eq_true rfl) rm_C_writeStations_C_writeNumber e_C_writeStations_53) rfl rfl rfl ?_
  refine a_iinc (j := 2) (v := l2 + 1) (ls' := [(2, .int (l2 + 1)), (0, .ref 0), (1, .ref 25)]) hB e_C_writeStations_56 rfl (inc_1 _) (Nat.le_of_ble_eq_true rfl) rfl ?_
  refine a_goto (tgt := 12) hB e_C_writeStations_59 (by decide) ?_
  refine a_ls [1, 2, 0] (ls' := [(0, .ref 0), (1, .ref 25), (2, .int (l2 + 1))]) rfl ?_
  exact hr12 _ _ h
set_option maxRecDepth 100000 in
theorem t_C_writeStations_12 {G : Gt} {φ : Ph} {B : Bag} (hB : BF G I_C_writeStations B) (hF : SF 134 φ)    {o : Int32} {M9 : Mm} : ∀ (n : Nat) (l2 : Int32) (M : Mm), f_C_writeStations_12 n l2 M = some (o, M9) → AW G I_C_writeStations B (QM G I_C_writeStations B (.inl (some (.int o))) M9 φ) 0 0 12 [(0, .ref 0), (1, .ref 25), (2, .int l2)] [] M φ := by
  intro n
  induction n with
  | zero => intro l2 M h; cases h
  | succ n hr12 =>
    intro l2 M h
    rw [f_C_writeStations_12] at h
    refine a_iload_n (j := 2) hB e_C_writeStations_12 rfl rfl ?_
    refine a_aload_n (j := 1) hB e_C_writeStations_13 rfl rfl ?_
    refine a_getI (k := 5) hB e_C_writeStations_14 fl_C_289 (sf_lt hF (by decide)) kk_25 tt_25_5 ?_
    refine a_icmp_gt (tgt := 62) hB e_C_writeStations_17 (by decide) (fun c => ?_) (fun c => ?_)
    · have h := ip c h
      refine a_aload_n (j := 0) hB e_C_writeStations_62 rfl rfl ?_
      refine a_getI (k := 6) hB e_C_writeStations_63 fl_C_323 (sf_lt hF (by decide)) kk_0 tt_0_6 ?_
      cases h
      exact a_iret hB rfl e_C_writeStations_66 (by decide) (by decide)
    · have h := iq c h
      refine a_iload_n (j := 2) hB e_C_writeStations_20 rfl rfl ?_
      refine a_if_le (tgt := 30) hB e_C_writeStations_21 (by decide) (fun c => ?_) (fun c => ?_)
      · have h := ip c h
        exact t_C_writeStations_30 hB hF hr12 h
      · have h := iq c h
        refine a_aload_n (j := 0) hB e_C_writeStations_24 rfl rfl ?_
        refine a_bipush (v := 32) hB e_C_writeStations_25 bp_32 ?_
        obtain ⟨M27, hr27, h⟩ := bn_i h
        refine a_ret (v := none) (M1 := M27) (φ1 := φ) (st1 := []) (j1 := 0) (j2 := 0) (ar_V (As := [.int (32 : Int32)]) (rest := []) hB (c_C_writeByte (bf_G hB) hF hr27) ml_C_326 md_C_writeByte rc_C_writeByte (sf_lt hF (by decide)) kk_0 rfl rfl (Nat.le_of_ble_eq_true rfl) rm_C_writeStations_C_writeByte e_C_writeStations_27) rfl rfl rfl ?_
        exact t_C_writeStations_30 hB hF hr12 h
set_option maxRecDepth 100000 in
theorem t_C_writeStations {G : Gt} {φ : Ph} {B : Bag} (hB : BF G I_C_writeStations B) (hF : SF 134 φ)    {o : Int32} {M9 : Mm}  {M : Mm} (h : f_C_writeStations M = some (o, M9)) : AW G I_C_writeStations B (QM G I_C_writeStations B (.inl (some (.int o))) M9 φ) 0 0 0 [(0, .ref 0)] [] M φ := by
  unfold f_C_writeStations at h
  refine a_aload_n (j := 0) hB e_C_writeStations_0 rfl rfl ?_
  obtain ⟨M1, hr1, h⟩ := bn_i h
  refine a_ret (v := (some (.ref 25))) (M1 := M1) (φ1 := φ) (st1 := [.ref 25]) (j1 := 0) (j2 := 0) (ar_V (As := []) (rest := []) hB (c_C_followed (bf_G hB) hF hr1) ml_C_255 md_C_followed rc_C_followed (sf_lt hF (by decide)) kk_0 rfl rfl (Nat.le_of_ble_eq_true rfl) rm_C_writeStations_C_followed e_C_writeStations_1) rfl rfl rfl ?_
  refine a_astore_n (ls' := [(1, .ref 25), (0, .ref 0)]) hB e_C_writeStations_4 rfl (Nat.le_of_ble_eq_true rfl) rfl ?_
  refine a_aload_n (j := 1) hB e_C_writeStations_5 rfl rfl ?_
  refine a_iconst (v := 0) hB e_C_writeStations_6 ic_0 ?_
  obtain ⟨M7, hM7, h⟩ := bm_i h
  refine a_putI (k := 6) hB e_C_writeStations_7 fw_C_323 (sf_lt hF (by decide)) kk_0 tt_0_6 ?_
  refine a_mem hM7 ?_
  refine a_iconst (v := 0) hB e_C_writeStations_10 ic_0 ?_
  refine a_istore_n (ls' := [(2, .int (0 : Int32)), (1, .ref 25), (0, .ref 0)]) hB e_C_writeStations_11 rfl (Nat.le_of_ble_eq_true rfl) rfl ?_
  refine a_ls [2, 1, 0] (ls' := [(0, .ref 0), (1, .ref 25), (2, .int (0 : Int32))]) rfl ?_
  exact t_C_writeStations_12 hB hF _ _ _ h
set_option maxRecDepth 100000 in
theorem c_C_writeStations {G : Gt} (hG : GOK G) {φ : Ph} (hF : SF 134 φ)   {M : Mm}  {o : Int32} {M9 : Mm} (h : f_C_writeStations M = some (o, M9)) : CT G I_C_writeStations [.ref 0] M φ (.inl (some (.int o))) M9 φ :=
  ct_of hG (by decide) (Nat.le_of_ble_eq_true rfl) (fun B hB => t_C_writeStations hB hF  h)
set_option maxRecDepth 100000 in
theorem t_C_outputByte_24 {G : Gt} {φ : Ph} {B : Bag} (hB : BF G I_C_outputByte B) (hF : SF 134 φ)   {M : Mm} {o : Int32} {t0 : Int32}  (h : f_C_outputByte_24 M t0 = some o) : AW G I_C_outputByte B (QM G I_C_outputByte B (.inl (some (.int o))) M φ) 0 0 24 [] [.int t0] M φ := by
  unfold f_C_outputByte_24 at h
  cases h
  exact a_iret hB rfl e_C_outputByte_24 (by decide) (by decide)
set_option maxRecDepth 100000 in
theorem t_C_outputByte {G : Gt} {φ : Ph} {B : Bag} (hB : BF G I_C_outputByte B) (hF : SF 134 φ)   {M : Mm} {o : Int32} {l1 : Int32}  (h : f_C_outputByte M l1 = some o) : AW G I_C_outputByte B (QM G I_C_outputByte B (.inl (some (.int o))) M φ) 0 0 0 [(0, .ref 0), (1, .int l1)] [] M φ := by
  unfold f_C_outputByte at h
  refine a_iload_n (j := 1) hB e_C_outputByte_0 rfl rfl ?_
  refine a_iconst (v := 0) hB e_C_outputByte_1 ic_0 ?_
  refine a_aload_n (j := 0) hB e_C_outputByte_2 rfl rfl ?_
  refine a_getI (k := 6) hB e_C_outputByte_3 fl_C_323 (sf_lt hF (by decide)) kk_0 tt_0_6 ?_
  refine a_iconst (v := 1) hB e_C_outputByte_6 ic_1 ?_
  refine a_isub hB e_C_outputByte_7 ?_
  obtain ⟨r8, hr8, h⟩ := bn_i h
  refine a_ret (v := (some (.int r8))) (M1 := M) (φ1 := φ) (st1 := [.int r8]) (j1 := 0) (j2 := 0) (ar_S (As := [.int l1, .int (0 : Int32), .int ((M 0 6) - (1 : Int32))]) (rest := []) hB (c_C_isBetween (bf_G hB) hF hr8) ml_C_100 md_C_isBetween rfl rfl (Nat.le_of_ble_eq_true rfl) rm_C_outputByte_C_isBetween e_C_outputByte_8) rfl rfl rfl ?_
  refine a_if_eq (tgt := 23) hB e_C_outputByte_11 (by decide) (fun c => ?_) (fun c => ?_)
  · have h := ip c h
    refine a_iconst (v := -1) hB e_C_outputByte_23 ic_m1 ?_
    refine a_ls [] (ls' := []) rfl ?_
    exact t_C_outputByte_24 hB hF h
  · have h := iq c h
    refine a_aload_n (j := 0) hB e_C_outputByte_14 rfl rfl ?_
    refine a_getR (r := 14) (k := 5) hB e_C_outputByte_15 fl_C_33 (sf_lt hF (by decide)) kk_0 tt_0_5 (hF.1 _ _) ?_
    refine a_iload_n (j := 1) hB e_C_outputByte_18 rfl rfl ?_
    obtain ⟨c19, h⟩ := chk_i h
    refine a_bald' hB e_C_outputByte_19 (sf_lt hF (by decide)) kk_14 ll_14 c19 ?_
    refine a_goto (tgt := 24) hB e_C_outputByte_20 (by decide) ?_
    refine a_ls [] (ls' := []) rfl ?_
    exact t_C_outputByte_24 hB hF h
set_option maxRecDepth 100000 in
theorem c_C_outputByte {G : Gt} (hG : GOK G) {φ : Ph} (hF : SF 134 φ)   {M : Mm} {l1 : Int32} {o : Int32} (h : f_C_outputByte M l1 = some o) : CT G I_C_outputByte [.ref 0, .int l1] M φ (.inl (some (.int o))) M φ :=
  ct_of hG (by decide) (Nat.le_of_ble_eq_true rfl) (fun B hB => t_C_outputByte hB hF  h)
set_option maxRecDepth 100000 in
theorem t_M_thrown {G : Gt} {φ : Ph} {B : Bag} (hB : BF G I_M_thrown B) (hF : SF 148 φ)   {M : Mm} {o : Int32}   (h : f_M_thrown M = some o) : AW G I_M_thrown B (QM G I_M_thrown B (.inl (some (.int o))) M φ) 0 0 0 [(0, .ref 134)] [] M φ := by
  unfold f_M_thrown at h
  refine a_aload_n (j := 0) hB e_M_thrown_0 rfl rfl ?_
  refine a_getI (k := 7) hB e_M_thrown_1 fl_M_79 (sf_lt hF (by decide)) kk_134 tt_134_7 ?_
  cases h
  exact a_iret hB rfl e_M_thrown_4 (by decide) (by decide)
set_option maxRecDepth 100000 in
theorem c_M_thrown {G : Gt} (hG : GOK G) {φ : Ph} (hF : SF 148 φ)   {M : Mm}  {o : Int32} (h : f_M_thrown M = some o) : CT G I_M_thrown [.ref 134] M φ (.inl (some (.int o))) M φ :=
  ct_of hG (by decide) (Nat.le_of_ble_eq_true rfl) (fun B hB => t_M_thrown hB hF  h)
set_option maxRecDepth 100000 in
theorem t_M_fails_41 {G : Gt} {φ : Ph} {B : Bag} (hB : BF G I_M_fails B) (hF : SF 148 φ)    {o : Int32} {M9 : Mm} {t0 : Int32} {M : Mm} (h : f_M_fails_41 t0 M = some (o, M9)) : AW G I_M_fails B (QM G I_M_fails B (.inl (some (.int o))) M9 φ) 0 0 41 [] [.int t0] M φ := by
  unfold f_M_fails_41 at h
  obtain ⟨z41, h⟩ := chk_i h
  cases h
  exact a_zret hB rfl z41 e_M_fails_41 (by decide) (by decide)
set_option maxRecDepth 100000 in
theorem t_M_fails_26 {G : Gt} {φ : Ph} {B : Bag} (hB : BF G I_M_fails B) (hF : SF 148 φ)    {o : Int32} {M9 : Mm} {t1 : Int32} {M : Mm} (h : f_M_fails_26 t1 M = some (o, M9)) : AW G I_M_fails B (QM G I_M_fails B (.inl (some (.int o))) M9 φ) 0 0 26 [(0, .ref 134)] [.int t1, .ref 134] M φ := by
  unfold f_M_fails_26 at h
  obtain ⟨M26, hM26, h⟩ := bm_i h
  refine a_putI (k := 7) hB e_M_fails_26 fw_M_79 (sf_lt hF (by decide)) kk_134 tt_134_7 ?_
  refine a_mem hM26 ?_
  refine a_aload_n (j := 0) hB e_M_fails_29 rfl rfl ?_
  refine a_getI (k := 7) hB e_M_fails_30 fl_M_79 (sf_lt hF (by decide)) kk_134 tt_134_7 ?_
  refine a_if_le (tgt := 40) hB e_M_fails_33 (by decide) (fun c => ?_) (fun c => ?_)
  · have h := ip c h
    refine a_iconst (v := 0) hB e_M_fails_40 ic_0 ?_
    refine a_ls [] (ls' := []) rfl ?_
    exact t_M_fails_41 hB hF h
  · have h := iq c h
    refine a_iconst (v := 1) hB e_M_fails_36 ic_1 ?_
    refine a_goto (tgt := 41) hB e_M_fails_37 (by decide) ?_
    refine a_ls [] (ls' := []) rfl ?_
    exact t_M_fails_41 hB hF h
set_option maxRecDepth 100000 in
theorem t_M_fails {G : Gt} {φ : Ph} {B : Bag} (hB : BF G I_M_fails B) (hF : SF 148 φ)    {o : Int32} {M9 : Mm} {l1 : Int32} {l2 : Int32} {l3 : Int32} {M : Mm} (h : f_M_fails l1 l2 l3 M = some (o, M9)) : AW G I_M_fails B (QM G I_M_fails B (.inl (some (.int o))) M9 φ) 0 0 0 [(0, .ref 134), (1, .int l1), (2, .int l2), (3, .int l3)] [] M φ := by
  unfold f_M_fails at h
  refine a_aload_n (j := 0) hB e_M_fails_0 rfl rfl ?_
  refine a_iload_n (j := 1) hB e_M_fails_1 rfl rfl ?_
  refine a_if_eq (tgt := 9) hB e_M_fails_2 (by decide) (fun c => ?_) (fun c => ?_)
  · have h := ip c h
    refine a_iload_n (j := 2) hB e_M_fails_9 rfl rfl ?_
    refine a_if_eq (tgt := 17) hB e_M_fails_10 (by decide) (fun c => ?_) (fun c => ?_)
    · have h := ip c h
      refine a_iload_n (j := 3) hB e_M_fails_17 rfl rfl ?_
      refine a_if_eq (tgt := 25) hB e_M_fails_18 (by decide) (fun c => ?_) (fun c => ?_)
      · have h := ip c h
        refine a_iconst (v := 0) hB e_M_fails_25 ic_0 ?_
        refine a_ls [0] (ls' := [(0, .ref 134)]) rfl ?_
        exact t_M_fails_26 hB hF h
      · have h := iq c h
        refine a_iconst (v := 3) hB e_M_fails_21 ic_3 ?_
        refine a_goto (tgt := 26) hB e_M_fails_22 (by decide) ?_
        refine a_ls [0] (ls' := [(0, .ref 134)]) rfl ?_
        exact t_M_fails_26 hB hF h
    · have h := iq c h
      refine a_iconst (v := 2) hB e_M_fails_13 ic_2 ?_
      refine a_goto (tgt := 26) hB e_M_fails_14 (by decide) ?_
      refine a_ls [0] (ls' := [(0, .ref 134)]) rfl ?_
      exact t_M_fails_26 hB hF h
  · have h := iq c h
    refine a_iconst (v := 1) hB e_M_fails_5 ic_1 ?_
    refine a_goto (tgt := 26) hB e_M_fails_6 (by decide) ?_
    refine a_ls [0] (ls' := [(0, .ref 134)]) rfl ?_
    exact t_M_fails_26 hB hF h
set_option maxRecDepth 100000 in
theorem c_M_fails {G : Gt} (hG : GOK G) {φ : Ph} (hF : SF 148 φ)   {M : Mm} {l1 : Int32} {l2 : Int32} {l3 : Int32} {o : Int32} {M9 : Mm} (h : f_M_fails l1 l2 l3 M = some (o, M9)) : CT G I_M_fails [.ref 134, .int l1, .int l2, .int l3] M φ (.inl (some (.int o))) M9 φ :=
  ct_of hG (by decide) (Nat.le_of_ble_eq_true rfl) (fun B hB => t_M_fails hB hF  h)
set_option maxRecDepth 100000 in
theorem t_M_told {G : Gt} {φ : Ph} {B : Bag} (hB : BF G I_M_told B) (hF : SF 148 φ)    {o : Int32} {M9 : Mm} {l1 : Int32} {M : Mm} (h : f_M_told l1 M = some (o, M9)) : AW G I_M_told B (QM G I_M_told B (.inl (some (.int o))) M9 φ) 0 0 0 [(0, .ref 134), (1, .int l1)] [] M φ := by
  unfold f_M_told at h
  refine a_aload_n (j := 0) hB e_M_told_0 rfl rfl ?_
  refine a_iconst (v := 0) hB e_M_told_1 ic_0 ?_
  obtain ⟨M2, hM2, h⟩ := bm_i h
  refine a_putI (k := 7) hB e_M_told_2 fw_M_79 (sf_lt hF (by decide)) kk_134 tt_134_7 ?_
  refine a_mem hM2 ?_
  refine a_iload_n (j := 1) hB e_M_told_5 rfl rfl ?_
  cases h
  exact a_iret hB rfl e_M_told_6 (by decide) (by decide)
set_option maxRecDepth 100000 in
theorem c_M_told {G : Gt} (hG : GOK G) {φ : Ph} (hF : SF 148 φ)   {M : Mm} {l1 : Int32} {o : Int32} {M9 : Mm} (h : f_M_told l1 M = some (o, M9)) : CT G I_M_told [.ref 134, .int l1] M φ (.inl (some (.int o))) M9 φ :=
  ct_of hG (by decide) (Nat.le_of_ble_eq_true rfl) (fun B hB => t_M_told hB hF  h)
set_option maxRecDepth 100000 in
theorem t_M_isIn_15 {G : Gt} {φ : Ph} {B : Bag} (hB : BF G I_M_isIn B) (hF : SF 148 φ)   {M : Mm} {o : Int32} {t0 : Int32}  (h : f_M_isIn_15 t0 = some o) : AW G I_M_isIn B (QM G I_M_isIn B (.inl (some (.int o))) M φ) 0 0 15 [] [.int t0] M φ := by
  unfold f_M_isIn_15 at h
  obtain ⟨z15, h⟩ := chk_i h
  cases h
  exact a_zret hB rfl z15 e_M_isIn_15 (by decide) (by decide)
set_option maxRecDepth 100000 in
theorem t_M_isIn_14 {G : Gt} {φ : Ph} {B : Bag} (hB : BF G I_M_isIn B) (hF : SF 148 φ)   {M : Mm} {o : Int32}   (h : f_M_isIn_14 = some o) : AW G I_M_isIn B (QM G I_M_isIn B (.inl (some (.int o))) M φ) 0 0 14 [] [] M φ := by
  unfold f_M_isIn_14 at h
  refine a_iconst (v := 0) hB e_M_isIn_14 ic_0 ?_
  exact t_M_isIn_15 hB hF h
set_option maxRecDepth 100000 in
theorem t_M_isIn {G : Gt} {φ : Ph} {B : Bag} (hB : BF G I_M_isIn B) (hF : SF 148 φ)   {M : Mm} {o : Int32} {l0 : Int32} {l1 : Int32} {l2 : Int32}  (h : f_M_isIn l0 l1 l2 = some o) : AW G I_M_isIn B (QM G I_M_isIn B (.inl (some (.int o))) M φ) 0 0 0 [(0, .int l0), (1, .int l1), (2, .int l2)] [] M φ := by
  unfold f_M_isIn at h
  refine a_iload_n (j := 0) hB e_M_isIn_0 rfl rfl ?_
  refine a_iload_n (j := 1) hB e_M_isIn_1 rfl rfl ?_
  refine a_icmp_lt (tgt := 14) hB e_M_isIn_2 (by decide) (fun c => ?_) (fun c => ?_)
  · have h := ip c h
    refine a_ls [] (ls' := []) rfl ?_
    exact t_M_isIn_14 hB hF h
  · have h := iq c h
    refine a_iload_n (j := 0) hB e_M_isIn_5 rfl rfl ?_
    refine a_iload_n (j := 2) hB e_M_isIn_6 rfl rfl ?_
    refine a_icmp_gt (tgt := 14) hB e_M_isIn_7 (by decide) (fun c => ?_) (fun c => ?_)
    · have h := ip c h
      refine a_ls [] (ls' := []) rfl ?_
      exact t_M_isIn_14 hB hF h
    · have h := iq c h
      refine a_iconst (v := 1) hB e_M_isIn_10 ic_1 ?_
      refine a_goto (tgt := 15) hB e_M_isIn_11 (by decide) ?_
      refine a_ls [] (ls' := []) rfl ?_
      exact t_M_isIn_15 hB hF h
set_option maxRecDepth 100000 in
theorem c_M_isIn {G : Gt} (hG : GOK G) {φ : Ph} (hF : SF 148 φ)   {M : Mm} {l0 : Int32} {l1 : Int32} {l2 : Int32} {o : Int32} (h : f_M_isIn l0 l1 l2 = some o) : CT G I_M_isIn [.int l0, .int l1, .int l2] M φ (.inl (some (.int o))) M φ :=
  ct_of hG (by decide) (Nat.le_of_ble_eq_true rfl) (fun B hB => t_M_isIn hB hF  h)
set_option maxRecDepth 100000 in
theorem t_M_copy {G : Gt} {φ : Ph} {B : Bag} (hB : BF G I_M_copy B) (hF : SF 148 φ) {a : Nat} {b : Nat} (hk_a : kd a = 10) (ha_a : a < 148) (hk_b : kd b = 10) (ha_b : b < 148)  {M9 : Mm} {l1 : Int32} {l3 : Int32} {M : Mm} (h : f_M_copy a b l1 l3 M = some M9) : AW G I_M_copy B (QM G I_M_copy B (.inl none) M9 φ) 0 0 0 [(0, .ref a), (1, .int l1), (2, .ref b), (3, .int l3)] [] M φ := by
  unfold f_M_copy at h
  refine a_aload_n (j := 0) hB e_M_copy_0 rfl rfl ?_
  refine a_iload_n (j := 1) hB e_M_copy_1 rfl rfl ?_
  refine a_aload_n (j := 2) hB e_M_copy_2 rfl rfl ?_
  refine a_iload_n (j := 3) hB e_M_copy_3 rfl rfl ?_
  refine a_sipush (v := 284) hB e_M_copy_4 sp_284 ?_
  obtain ⟨⟨⟨c7a, c7b, c7c⟩, c7d, c7e⟩, h⟩ := chk_i h
  obtain ⟨M7, hM7, h⟩ := bm_i h
  refine a_copy' hB ml_M_82 nat_copy sta_copy ini_sys e_M_copy_7 (sf_lt2 hF ha_a (by decide)) (sf_lt2 hF ha_b (by decide)) hk_a hk_b rfl rfl c7a c7b c7c c7d c7e (by decide) (Nat.le_of_ble_eq_true rfl) ?_
  refine a_mem hM7 ?_
  cases h
  exact a_vret hB rfl e_M_copy_10 (by decide) (by decide)
set_option maxRecDepth 100000 in
theorem c_M_copy {G : Gt} (hG : GOK G) {φ : Ph} (hF : SF 148 φ) {a : Nat} {b : Nat} (hk_a : kd a = 10) (ha_a : a < 148) (hk_b : kd b = 10) (ha_b : b < 148) {M : Mm} {l1 : Int32} {l3 : Int32} {M9 : Mm} (h : f_M_copy a b l1 l3 M = some M9) : CT G I_M_copy [.ref a, .int l1, .ref b, .int l3] M φ (.inl none) M9 φ :=
  ct_of hG (by decide) (Nat.le_of_ble_eq_true rfl) (fun B hB => t_M_copy hB hF hk_a ha_a hk_b ha_b h)
set_option maxRecDepth 100000 in
theorem t_M_remember_37 {G : Gt} {φ : Ph} {B : Bag} (hB : BF G I_M_remember B) (hF : SF 148 φ) {a : Nat} (hk_a : kd a = 10) (ha_a : a < 148) (hn_a : ln a = 284)  {M9 : Mm}  {M : Mm} (h : f_M_remember_37 a M = some M9) : AW G I_M_remember B (QM G I_M_remember B (.inl none) M9 φ) 0 0 37 [(0, .ref 134), (1, .ref a)] [] M φ := by
  unfold f_M_remember_37 at h
  refine a_aload_n (j := 1) hB e_M_remember_37 rfl rfl ?_
  refine a_iconst (v := 0) hB e_M_remember_38 ic_0 ?_
  refine a_aload_n (j := 0) hB e_M_remember_39 rfl rfl ?_
  refine a_getR (r := 137) (k := 2) hB e_M_remember_40 fl_M_16 (sf_lt hF (by decide)) kk_134 tt_134_2 (hF.1 _ _) ?_
  refine a_aload_n (j := 0) hB e_M_remember_43 rfl rfl ?_
  refine a_getI (k := 6) hB e_M_remember_44 fl_M_76 (sf_lt hF (by decide)) kk_134 tt_134_6 ?_
  refine a_sipush (v := 284) hB e_M_remember_47 sp_284 ?_
  refine a_imul hB e_M_remember_50 ?_
  obtain ⟨M51, hr51, h⟩ := bn_i h
  refine a_ret (v := none) (M1 := M51) (φ1 := φ) (st1 := []) (j1 := 0) (j2 := 0) (ar_S (As := [.ref a, .int (0 : Int32), .ref 137, .int ((M 134 6) * (284 : Int32))]) (rest := []) hB (c_M_copy (bf_G hB) hF hk_a ha_a kk_137 (by decide) hr51) ml_M_88 md_M_copy rfl rfl (Nat.le_of_ble_eq_true rfl) rm_M_remember_M_copy e_M_remember_51) rfl rfl rfl ?_
  refine a_aload_n (j := 0) hB e_M_remember_54 rfl rfl ?_
  refine a_dup hB e_M_remember_55 rfl ?_
  refine a_getI (k := 6) hB e_M_remember_56 fl_M_76 (sf_lt hF (by decide)) kk_134 tt_134_6 ?_
  refine a_iconst (v := 1) hB e_M_remember_59 ic_1 ?_
  refine a_iadd hB e_M_remember_60 ?_
  obtain ⟨M61, hM61, h⟩ := bm_i h
  refine a_putI (k := 6) hB e_M_remember_61 fw_M_76 (sf_lt hF (by decide)) kk_134 tt_134_6 ?_
  refine a_mem hM61 ?_
  cases h
  exact a_vret hB rfl e_M_remember_64 (by decide) (by decide)
set_option maxRecDepth 100000 in
theorem t_M_remember {G : Gt} {φ : Ph} {B : Bag} (hB : BF G I_M_remember B) (hF : SF 148 φ) {a : Nat} (hk_a : kd a = 10) (ha_a : a < 148) (hn_a : ln a = 284)  {M9 : Mm}  {M : Mm} (h : f_M_remember a M = some M9) : AW G I_M_remember B (QM G I_M_remember B (.inl none) M9 φ) 0 0 0 [(0, .ref 134), (1, .ref a)] [] M φ := by
  unfold f_M_remember at h
  refine a_aload_n (j := 0) hB e_M_remember_0 rfl rfl ?_
  refine a_getI (k := 6) hB e_M_remember_1 fl_M_76 (sf_lt hF (by decide)) kk_134 tt_134_6 ?_
  refine a_bipush (v := 8) hB e_M_remember_4 bp_8 ?_
  refine a_icmp_ne (tgt := 37) hB e_M_remember_6 (by decide) (fun c => ?_) (fun c => ?_)
  · have h := iq c h
    exact t_M_remember_37 hB hF hk_a ha_a hn_a h
  · have h := ip c h
    refine a_aload_n (j := 0) hB e_M_remember_9 rfl rfl ?_
    refine a_getR (r := 137) (k := 2) hB e_M_remember_10 fl_M_16 (sf_lt hF (by decide)) kk_134 tt_134_2 (hF.1 _ _) ?_
    refine a_sipush (v := 284) hB e_M_remember_13 sp_284 ?_
    refine a_aload_n (j := 0) hB e_M_remember_16 rfl rfl ?_
    refine a_getR (r := 137) (k := 2) hB e_M_remember_17 fl_M_16 (sf_lt hF (by decide)) kk_134 tt_134_2 (hF.1 _ _) ?_
    refine a_iconst (v := 0) hB e_M_remember_20 ic_0 ?_
    refine a_sipush (v := 1988) hB e_M_remember_21 sp_1988 ?_
    obtain ⟨⟨⟨c24a, c24b, c24c⟩, c24d, c24e⟩, h⟩ := chk_i h
    obtain ⟨M24, hM24, h⟩ := bm_i h
    refine a_copy' hB ml_M_82 nat_copy sta_copy ini_sys e_M_remember_24 (sf_lt hF (by decide)) (sf_lt hF (by decide)) kk_137 kk_137 ll_137 ll_137 c24a c24b c24c c24d c24e (by decide) (Nat.le_of_ble_eq_true rfl) ?_
    refine a_mem hM24 ?_
    refine a_aload_n (j := 0) hB e_M_remember_27 rfl rfl ?_
    refine a_dup hB e_M_remember_28 rfl ?_
    refine a_getI (k := 6) hB e_M_remember_29 fl_M_76 (sf_lt hF (by decide)) kk_134 tt_134_6 ?_
    refine a_iconst (v := 1) hB e_M_remember_32 ic_1 ?_
    refine a_isub hB e_M_remember_33 ?_
    obtain ⟨M34, hM34, h⟩ := bm_i h
    refine a_putI (k := 6) hB e_M_remember_34 fw_M_76 (sf_lt hF (by decide)) kk_134 tt_134_6 ?_
    refine a_mem hM34 ?_
    exact t_M_remember_37 hB hF hk_a ha_a hn_a h
set_option maxRecDepth 100000 in
theorem c_M_remember {G : Gt} (hG : GOK G) {φ : Ph} (hF : SF 148 φ) {a : Nat} (hk_a : kd a = 10) (ha_a : a < 148) (hn_a : ln a = 284) {M : Mm}  {M9 : Mm} (h : f_M_remember a M = some M9) : CT G I_M_remember [.ref 134, .ref a] M φ (.inl none) M9 φ :=
  ct_of hG (by decide) (Nat.le_of_ble_eq_true rfl) (fun B hB => t_M_remember hB hF hk_a ha_a hn_a h)
set_option maxRecDepth 100000 in
theorem t_M_of {G : Gt} {φ : Ph} {B : Bag} (hB : BF G I_M_of B) (hF : SF 148 φ)   {M : Mm} {o : Int32} {l1 : Int32} {l2 : Int32}  (h : f_M_of M l1 l2 = some o) : AW G I_M_of B (QM G I_M_of B (.inl (some (.int o))) M φ) 0 0 0 [(0, .ref 134), (1, .int l1), (2, .int l2)] [] M φ := by
  unfold f_M_of at h
  refine a_aload_n (j := 0) hB e_M_of_0 rfl rfl ?_
  refine a_getR (r := 135) (k := 0) hB e_M_of_1 fl_M_9 (sf_lt hF (by decide)) kk_134 tt_134_0 (hF.1 _ _) ?_
  refine a_iconst (v := 4) hB e_M_of_4 ic_4 ?_
  refine a_bipush (v := 14) hB e_M_of_5 bp_14 ?_
  refine a_iload_n (j := 1) hB e_M_of_7 rfl rfl ?_
  refine a_imul hB e_M_of_8 ?_
  refine a_iadd hB e_M_of_9 ?_
  refine a_iload_n (j := 2) hB e_M_of_10 rfl rfl ?_
  refine a_iadd hB e_M_of_11 ?_
  obtain ⟨c12, h⟩ := chk_i h
  refine a_iald' hB e_M_of_12 (sf_lt hF (by decide)) kk_135 ll_135 c12 ?_
  cases h
  exact a_iret hB rfl e_M_of_13 (by decide) (by decide)
set_option maxRecDepth 100000 in
theorem c_M_of {G : Gt} (hG : GOK G) {φ : Ph} (hF : SF 148 φ)   {M : Mm} {l1 : Int32} {l2 : Int32} {o : Int32} (h : f_M_of M l1 l2 = some o) : CT G I_M_of [.ref 134, .int l1, .int l2] M φ (.inl (some (.int o))) M φ :=
  ct_of hG (by decide) (Nat.le_of_ble_eq_true rfl) (fun B hB => t_M_of hB hF  h)
set_option maxRecDepth 100000 in
theorem t_M_put {G : Gt} {φ : Ph} {B : Bag} (hB : BF G I_M_put B) (hF : SF 148 φ)    {M9 : Mm} {l1 : Int32} {l2 : Int32} {l3 : Int32} {M : Mm} (h : f_M_put l1 l2 l3 M = some M9) : AW G I_M_put B (QM G I_M_put B (.inl none) M9 φ) 0 0 0 [(0, .ref 134), (1, .int l1), (2, .int l2), (3, .int l3)] [] M φ := by
  unfold f_M_put at h
  refine a_aload_n (j := 0) hB e_M_put_0 rfl rfl ?_
  refine a_getR (r := 135) (k := 0) hB e_M_put_1 fl_M_9 (sf_lt hF (by decide)) kk_134 tt_134_0 (hF.1 _ _) ?_
  refine a_iconst (v := 4) hB e_M_put_4 ic_4 ?_
  refine a_bipush (v := 14) hB e_M_put_5 bp_14 ?_
  refine a_iload_n (j := 1) hB e_M_put_7 rfl rfl ?_
  refine a_imul hB e_M_put_8 ?_
  refine a_iadd hB e_M_put_9 ?_
  refine a_iload_n (j := 2) hB e_M_put_10 rfl rfl ?_
  refine a_iadd hB e_M_put_11 ?_
  refine a_iload_n (j := 3) hB e_M_put_12 rfl rfl ?_
  obtain ⟨c13, h⟩ := chk_i h
  obtain ⟨M13, hM13, h⟩ := bm_i h
  refine a_iast' hB e_M_put_13 (sf_lt hF (by decide)) kk_135 ll_135 c13 ?_
  refine a_mem hM13 ?_
  cases h
  exact a_vret hB rfl e_M_put_14 (by decide) (by decide)
set_option maxRecDepth 100000 in
theorem c_M_put {G : Gt} (hG : GOK G) {φ : Ph} (hF : SF 148 φ)   {M : Mm} {l1 : Int32} {l2 : Int32} {l3 : Int32} {M9 : Mm} (h : f_M_put l1 l2 l3 M = some M9) : CT G I_M_put [.ref 134, .int l1, .int l2, .int l3] M φ (.inl none) M9 φ :=
  ct_of hG (by decide) (Nat.le_of_ble_eq_true rfl) (fun B hB => t_M_put hB hF  h)
set_option maxRecDepth 100000 in
theorem t_M_noLeg_21 {G : Gt} {φ : Ph} {B : Bag} (hB : BF G I_M_noLeg B) (hF : SF 148 φ)   {M : Mm} {o : Int32} {t0 : Int32}  (h : f_M_noLeg_21 M t0 = some o) : AW G I_M_noLeg B (QM G I_M_noLeg B (.inl (some (.int o))) M φ) 0 0 21 [] [.int t0] M φ := by
  unfold f_M_noLeg_21 at h
  obtain ⟨z21, h⟩ := chk_i h
  cases h
  exact a_zret hB rfl z21 e_M_noLeg_21 (by decide) (by decide)
set_option maxRecDepth 100000 in
theorem t_M_noLeg {G : Gt} {φ : Ph} {B : Bag} (hB : BF G I_M_noLeg B) (hF : SF 148 φ)   {M : Mm} {o : Int32} {l1 : Int32}  (h : f_M_noLeg M l1 = some o) : AW G I_M_noLeg B (QM G I_M_noLeg B (.inl (some (.int o))) M φ) 0 0 0 [(0, .ref 134), (1, .int l1)] [] M φ := by
  unfold f_M_noLeg at h
  refine a_iload_n (j := 1) hB e_M_noLeg_0 rfl rfl ?_
  refine a_iconst (v := 0) hB e_M_noLeg_1 ic_0 ?_
  refine a_aload_n (j := 0) hB e_M_noLeg_2 rfl rfl ?_
  refine a_getR (r := 135) (k := 0) hB e_M_noLeg_3 fl_M_9 (sf_lt hF (by decide)) kk_134 tt_134_0 (hF.1 _ _) ?_
  refine a_iconst (v := 0) hB e_M_noLeg_6 ic_0 ?_
  refine a_iald' hB e_M_noLeg_7 (sf_lt hF (by decide)) kk_135 ll_135 (by decide) ?_
  refine a_iconst (v := 1) hB e_M_noLeg_8 ic_1 ?_
  refine a_isub hB e_M_noLeg_9 ?_
  obtain ⟨r10, hr10, h⟩ := bn_i h
  refine a_ret (v := (some (.int r10))) (M1 := M) (φ1 := φ) (st1 := [.int r10]) (j1 := 0) (j2 := 0) (ar_S (As := [.int l1, .int (0 : Int32), .int ((M 135 (ix (0 : Int32))) - (1 : Int32))]) (rest := []) hB (c_M_isIn (bf_G hB) hF hr10) ml_M_92 md_M_isIn rfl rfl (Nat.le_of_ble_eq_true rfl) rm_M_noLeg_M_isIn e_M_noLeg_10) rfl rfl rfl ?_
  refine a_if_ne (tgt := 20) hB e_M_noLeg_13 (by decide) (fun c => ?_) (fun c => ?_)
  · have h := iq c h
    refine a_iconst (v := 0) hB e_M_noLeg_20 ic_0 ?_
    refine a_ls [] (ls' := []) rfl ?_
    exact t_M_noLeg_21 hB hF h
  · have h := ip c h
    refine a_iconst (v := 1) hB e_M_noLeg_16 ic_1 ?_
    refine a_goto (tgt := 21) hB e_M_noLeg_17 (by decide) ?_
    refine a_ls [] (ls' := []) rfl ?_
    exact t_M_noLeg_21 hB hF h
set_option maxRecDepth 100000 in
theorem c_M_noLeg {G : Gt} (hG : GOK G) {φ : Ph} (hF : SF 148 φ)   {M : Mm} {l1 : Int32} {o : Int32} (h : f_M_noLeg M l1 = some o) : CT G I_M_noLeg [.ref 134, .int l1] M φ (.inl (some (.int o))) M φ :=
  ct_of hG (by decide) (Nat.le_of_ble_eq_true rfl) (fun B hB => t_M_noLeg hB hF  h)
set_option maxRecDepth 100000 in
theorem t_M_bog_15 {G : Gt} {φ : Ph} {B : Bag} (hB : BF G I_M_bog B) (hF : SF 148 φ)   {M : Mm} {o : Int32} {t0 : Int32}  (h : f_M_bog_15 M t0 = some o) : AW G I_M_bog B (QM G I_M_bog B (.inl (some (.int o))) M φ) 0 0 15 [] [.int t0] M φ := by
  unfold f_M_bog_15 at h
  obtain ⟨z15, h⟩ := chk_i h
  cases h
  exact a_zret hB rfl z15 e_M_bog_15 (by decide) (by decide)
set_option maxRecDepth 100000 in
theorem t_M_bog {G : Gt} {φ : Ph} {B : Bag} (hB : BF G I_M_bog B) (hF : SF 148 φ)   {M : Mm} {o : Int32} {l1 : Int32}  (h : f_M_bog M l1 = some o) : AW G I_M_bog B (QM G I_M_bog B (.inl (some (.int o))) M φ) 0 0 0 [(0, .ref 134), (1, .int l1)] [] M φ := by
  unfold f_M_bog at h
  refine a_aload_n (j := 0) hB e_M_bog_0 rfl rfl ?_
  refine a_iload_n (j := 1) hB e_M_bog_1 rfl rfl ?_
  refine a_bipush (v := 6) hB e_M_bog_2 bp_6 ?_
  obtain ⟨r4, hr4, h⟩ := bn_i h
  refine a_ret (v := (some (.int r4))) (M1 := M) (φ1 := φ) (st1 := [.int r4]) (j1 := 0) (j2 := 0) (ar_V (As := [.int l1, .int (6 : Int32)]) (rest := []) hB (c_M_of (bf_G hB) hF hr4) ml_M_96 md_M_of rc_M_of (sf_lt hF (by decide)) kk_134 rfl rfl (Nat.le_of_ble_eq_true rfl) rm_M_bog_M_of e_M_bog_4) rfl rfl rfl ?_
  refine a_if_le (tgt := 14) hB e_M_bog_7 (by decide) (fun c => ?_) (fun c => ?_)
  · have h := ip c h
    refine a_iconst (v := 0) hB e_M_bog_14 ic_0 ?_
    refine a_ls [] (ls' := []) rfl ?_
    exact t_M_bog_15 hB hF h
  · have h := iq c h
    refine a_iconst (v := 1) hB e_M_bog_10 ic_1 ?_
    refine a_goto (tgt := 15) hB e_M_bog_11 (by decide) ?_
    refine a_ls [] (ls' := []) rfl ?_
    exact t_M_bog_15 hB hF h
set_option maxRecDepth 100000 in
theorem c_M_bog {G : Gt} (hG : GOK G) {φ : Ph} (hF : SF 148 φ)   {M : Mm} {l1 : Int32} {o : Int32} (h : f_M_bog M l1 = some o) : CT G I_M_bog [.ref 134, .int l1] M φ (.inl (some (.int o))) M φ :=
  ct_of hG (by decide) (Nat.le_of_ble_eq_true rfl) (fun B hB => t_M_bog hB hF  h)
set_option maxRecDepth 100000 in
theorem t_M_root_33 {G : Gt} {φ : Ph} {B : Bag} (hB : BF G I_M_root B) (hF : SF 148 φ)   {M : Mm} {o : Int64} {r7 : Int64 → Int64 → Int64 → Option Int64} (hr7 : ∀ (l0 : Int64) (l2 : Int64) (l4 : Int64), r7 l0 l2 l4 = some o → AW G I_M_root B (QM G I_M_root B (.inl (some (.long o))) M φ) 0 0 7 [(0, .long l0), (2, .long l2), (4, .long l4)] [] M φ) {l0 : Int64} {l2 : Int64} {l4 : Int64}  (h : f_M_root_33 r7 l0 l2 l4 = some o) : AW G I_M_root B (QM G I_M_root B (.inl (some (.long o))) M φ) 0 0 33 [(0, .long l0), (2, .long l2), (4, .long l4)] [] M φ := by
  unfold f_M_root_33 at h
  refine a_lload (j := 2) hB e_M_root_33 rfl ?_
  refine a_iconst (v := 1) hB e_M_root_35 ic_1 ?_
  refine a_lshr hB e_M_root_36 ?_
  refine a_lstore (ls' := [(4, .long (l4 >>> ((1 : Int32).toInt64 &&& 63))), (0, .long l0), (2, .long l2)]) hB e_M_root_37 (Nat.le_of_ble_eq_true rfl) rfl ?_
  refine a_goto (tgt := 7) hB e_M_root_39 (by decide) ?_
  refine a_ls [1, 2, 0] (ls' := [(0, .long l0), (2, .long l2), (4, .long (l4 >>> ((1 : Int32).toInt64 &&& 63)))]) rfl ?_
  exact hr7 _ _ _ h
set_option maxRecDepth 100000 in
theorem t_M_root_7 {G : Gt} {φ : Ph} {B : Bag} (hB : BF G I_M_root B) (hF : SF 148 φ)   {M : Mm} {o : Int64} : ∀ (n : Nat) (l0 : Int64) (l2 : Int64) (l4 : Int64), f_M_root_7 n l0 l2 l4 = some o → AW G I_M_root B (QM G I_M_root B (.inl (some (.long o))) M φ) 0 0 7 [(0, .long l0), (2, .long l2), (4, .long l4)] [] M φ := by
  intro n
  induction n with
  | zero => intro l0 l2 l4 h; cases h
  | succ n hr7 =>
    intro l0 l2 l4 h
    rw [f_M_root_7] at h
    refine a_lload (j := 2) hB e_M_root_7 rfl ?_
    refine a_lconst (v := 0) hB e_M_root_9 rfl ?_
    refine a_lcmp hB e_M_root_10 ?_
    refine a_if_le (tgt := 42) hB e_M_root_11 (by decide) (fun c => ?_) (fun c => ?_)
    · have h := ip c h
      refine a_lload_n (j := 1) hB e_M_root_42 rfl rfl ?_
      cases h
      exact a_lret hB rfl e_M_root_43 (by decide) (by decide)
    · have h := iq c h
      refine a_lload_n (j := 1) hB e_M_root_14 rfl rfl ?_
      refine a_lload (j := 2) hB e_M_root_15 rfl ?_
      refine a_ladd hB e_M_root_17 ?_
      refine a_lstore (ls' := [(6, .long (l2 + l4)), (0, .long l0), (2, .long l2), (4, .long l4)]) hB e_M_root_18 (Nat.le_of_ble_eq_true rfl) rfl ?_
      refine a_lload (j := 0) hB e_M_root_20 rfl ?_
      refine a_lload (j := 0) hB e_M_root_22 rfl ?_
      refine a_lmul hB e_M_root_24 ?_
      refine a_lload_n (j := 1) hB e_M_root_25 rfl rfl ?_
      refine a_lcmp hB e_M_root_26 ?_
      refine a_if_gt (tgt := 33) hB e_M_root_27 (by decide) (fun c => ?_) (fun c => ?_)
      · have h := ip c h
        refine a_ls [1, 2, 3] (ls' := [(0, .long l0), (2, .long l2), (4, .long l4)]) rfl ?_
        exact t_M_root_33 hB hF hr7 h
      · have h := iq c h
        refine a_lload (j := 0) hB e_M_root_30 rfl ?_
        refine a_lstore_n (ls' := [(2, .long (l2 + l4)), (6, .long (l2 + l4)), (0, .long l0), (4, .long l4)]) hB e_M_root_32 rfl (Nat.le_of_ble_eq_true rfl) rfl ?_
        refine a_ls [2, 0, 3] (ls' := [(0, .long l0), (2, .long (l2 + l4)), (4, .long l4)]) rfl ?_
        exact t_M_root_33 hB hF hr7 h
set_option maxRecDepth 100000 in
theorem t_M_root {G : Gt} {φ : Ph} {B : Bag} (hB : BF G I_M_root B) (hF : SF 148 φ)   {M : Mm} {o : Int64} {l0 : Int64}  (h : f_M_root l0 = some o) : AW G I_M_root B (QM G I_M_root B (.inl (some (.long o))) M φ) 0 0 0 [(0, .long l0)] [] M φ := by
  unfold f_M_root at h
  refine a_lconst (v := 0) hB e_M_root_0 rfl ?_
  refine a_lstore_n (ls' := [(2, .long (0 : Int64)), (0, .long l0)]) hB e_M_root_1 rfl (Nat.le_of_ble_eq_true rfl) rfl ?_
  refine a_ldc2 (v := 2147483648) hB cj_M_100 e_M_root_2 ?_
  refine a_lstore (ls' := [(4, .long (2147483648 : Int64)), (2, .long (0 : Int64)), (0, .long l0)]) hB e_M_root_5 (Nat.le_of_ble_eq_true rfl) rfl ?_
  refine a_ls [2, 1, 0] (ls' := [(0, .long l0), (2, .long (0 : Int64)), (4, .long (2147483648 : Int64))]) rfl ?_
  exact t_M_root_7 hB hF _ _ _ _ h
set_option maxRecDepth 100000 in
theorem c_M_root {G : Gt} (hG : GOK G) {φ : Ph} (hF : SF 148 φ)   {M : Mm} {l0 : Int64} {o : Int64} (h : f_M_root l0 = some o) : CT G I_M_root [.long l0] M φ (.inl (some (.long o))) M φ :=
  ct_of hG (by decide) (Nat.le_of_ble_eq_true rfl) (fun B hB => t_M_root hB hF  h)
