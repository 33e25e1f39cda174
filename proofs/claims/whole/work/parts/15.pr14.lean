/-! the functions are what the machine does -/
set_option maxRecDepth 100000 in
theorem t_M_farthestStation_62 {G : Gt} {φ : Ph} {B : Bag} (hB : BF G I_M_farthestStation B) (hF : SF 148 φ)    {o : Int32} {M9 : Mm} {r13 : Int32 → Int32 → Mm → Option (Int32 × Mm)} (hr13 : ∀ (l1 : Int32) (l2 : Int32) (M : Mm), r13 l1 l2 M = some (o, M9) → AW G I_M_farthestStation B (QM G I_M_farthestStation B (.inl (some (.int o))) M9 φ) 0 0 13 [(0, .ref 134), (1, .int l1), (2, .int l2)] [] M φ) {l1 : Int32} {l2 : Int32} {M : Mm} (h : f_M_farthestStation_62 r13 l1 l2 M = some (o, M9)) : AW G I_M_farthestStation B (QM G I_M_farthestStation B (.inl (some (.int o))) M9 φ) 0 0 62 [(0, .ref 134), (1, .int l1), (2, .int l2)] [] M φ := by
  unfold f_M_farthestStation_62 at h
  refine a_iinc (j := 2) (v := l2 + 1) (ls' := [(2, .int (l2 + 1)), (0, .ref 134), (1, .int l1)]) hB e_M_farthestStation_62 rfl (inc_1 _) (Nat.le_of_ble_eq_true rfl) rfl ?_
  refine a_goto (tgt := 13) hB e_M_farthestStation_65 (by decide) ?_
  refine a_ls [1, 2, 0] (ls' := [(0, .ref 134), (1, .int l1), (2, .int (l2 + 1))]) rfl ?_
  exact hr13 _ _ _ h
set_option maxRecDepth 100000 in
theorem t_M_farthestStation_13 {G : Gt} {φ : Ph} {B : Bag} (hB : BF G I_M_farthestStation B) (hF : SF 148 φ)    {o : Int32} {M9 : Mm} : ∀ (n : Nat) (l1 : Int32) (l2 : Int32) (M : Mm), f_M_farthestStation_13 n l1 l2 M = some (o, M9) → AW G I_M_farthestStation B (QM G I_M_farthestStation B (.inl (some (.int o))) M9 φ) 0 0 13 [(0, .ref 134), (1, .int l1), (2, .int l2)] [] M φ := by
  intro n
  induction n with
  | zero => intro l1 l2 M h; cases h
  | succ n hr13 =>
    intro l1 l2 M h
    rw [f_M_farthestStation_13] at h
    refine a_iload_n (j := 2) hB e_M_farthestStation_13 rfl rfl ?_
    refine a_aload_n (j := 0) hB e_M_farthestStation_14 rfl rfl ?_
    refine a_getR (r := 135) (k := 0) hB e_M_farthestStation_15 fl_M_9 (sf_lt hF (by decide)) kk_134 tt_134_0 (hF.1 _ _) ?_
    refine a_iconst (v := 0) hB e_M_farthestStation_18 ic_0 ?_
    refine a_iald' hB e_M_farthestStation_19 (sf_lt hF (by decide)) kk_135 ll_135 (by decide) ?_
    refine a_icmp_gt (tgt := 68) hB e_M_farthestStation_20 (by decide) (fun c => ?_) (fun c => ?_)
    · have h := ip c h
      refine a_iload_n (j := 1) hB e_M_farthestStation_68 rfl rfl ?_
      cases h
      exact a_iret hB rfl e_M_farthestStation_69 (by decide) (by decide)
    · have h := iq c h
      refine a_aload_n (j := 0) hB e_M_farthestStation_23 rfl rfl ?_
      refine a_getR (r := 143) (k := 10) hB e_M_farthestStation_24 fl_M_35 (sf_lt hF (by decide)) kk_134 tt_134_10 (hF.1 _ _) ?_
      refine a_iload_n (j := 2) hB e_M_farthestStation_27 rfl rfl ?_
      obtain ⟨c28, h⟩ := chk_i h
      refine a_iald' hB e_M_farthestStation_28 (sf_lt hF (by decide)) kk_143 ll_143 c28 ?_
      refine a_i2l hB e_M_farthestStation_29 ?_
      refine a_aload_n (j := 0) hB e_M_farthestStation_30 rfl rfl ?_
      refine a_getR (r := 144) (k := 11) hB e_M_farthestStation_31 fl_M_38 (sf_lt hF (by decide)) kk_134 tt_134_11 (hF.1 _ _) ?_
      refine a_iload_n (j := 2) hB e_M_farthestStation_34 rfl rfl ?_
      refine a_iald' hB e_M_farthestStation_35 (sf_lt hF (by decide)) kk_144 ll_144 c28 ?_
      refine a_i2l hB e_M_farthestStation_36 ?_
      obtain ⟨r37, hr37, h⟩ := bn_i h
      refine a_ret (v := (some (.int r37))) (M1 := M) (φ1 := φ) (st1 := [.int r37]) (j1 := 0) (j2 := 0) (ar_S (As := [.long ((M 143 (ix l2)).toInt64), .long ((M 144 (ix l2)).toInt64)]) (rest := []) hB (c_M_far (bf_G hB) hF hr37) ml_M_145 md_M_far rfl rfl (Nat.le_of_ble_eq_true rfl) rm_M_farthestStation_M_far e_M_farthestStation_37) rfl rfl rfl ?_
      refine a_aload_n (j := 0) hB e_M_farthestStation_40 rfl rfl ?_
      refine a_getR (r := 143) (k := 10) hB e_M_farthestStation_41 fl_M_35 (sf_lt hF (by decide)) kk_134 tt_134_10 (hF.1 _ _) ?_
      refine a_iload_n (j := 1) hB e_M_farthestStation_44 rfl rfl ?_
      obtain ⟨c45, h⟩ := chk_i h
      refine a_iald' hB e_M_farthestStation_45 (sf_lt hF (by decide)) kk_143 ll_143 c45 ?_
      refine a_i2l hB e_M_farthestStation_46 ?_
      refine a_aload_n (j := 0) hB e_M_farthestStation_47 rfl rfl ?_
      refine a_getR (r := 144) (k := 11) hB e_M_farthestStation_48 fl_M_38 (sf_lt hF (by decide)) kk_134 tt_134_11 (hF.1 _ _) ?_
      refine a_iload_n (j := 1) hB e_M_farthestStation_51 rfl rfl ?_
      refine a_iald' hB e_M_farthestStation_52 (sf_lt hF (by decide)) kk_144 ll_144 c45 ?_
      refine a_i2l hB e_M_farthestStation_53 ?_
      obtain ⟨r54, hr54, h⟩ := bn_i h
      refine a_ret (v := (some (.int r54))) (M1 := M) (φ1 := φ) (st1 := [.int r54, .int r37]) (j1 := 0) (j2 := 0) (ar_S (As := [.long ((M 143 (ix l1)).toInt64), .long ((M 144 (ix l1)).toInt64)]) (rest := [.int r37]) hB (c_M_far (bf_G hB) hF hr54) ml_M_145 md_M_far rfl rfl (Nat.le_of_ble_eq_true rfl) rm_M_farthestStation_M_far e_M_farthestStation_54) rfl rfl rfl ?_
      refine a_icmp_le (tgt := 62) hB e_M_farthestStation_57 (by decide) (fun c => ?_) (fun c => ?_)
      · have h := ip c h
        exact t_M_farthestStation_62 hB hF hr13 h
      · have h := iq c h
        refine a_iload_n (j := 2) hB e_M_farthestStation_60 rfl rfl ?_
        refine a_istore_n (ls' := [(1, .int l2), (0, .ref 134), (2, .int l2)]) hB e_M_farthestStation_61 rfl (Nat.le_of_ble_eq_true rfl) rfl ?_
        refine a_ls [1, 0, 2] (ls' := [(0, .ref 134), (1, .int l2), (2, .int l2)]) rfl ?_
        exact t_M_farthestStation_62 hB hF hr13 h
set_option maxRecDepth 100000 in
theorem t_M_farthestStation {G : Gt} {φ : Ph} {B : Bag} (hB : BF G I_M_farthestStation B) (hF : SF 148 φ)    {o : Int32} {M9 : Mm}  {M : Mm} (h : f_M_farthestStation M = some (o, M9)) : AW G I_M_farthestStation B (QM G I_M_farthestStation B (.inl (some (.int o))) M9 φ) 0 0 0 [(0, .ref 134)] [] M φ := by
  unfold f_M_farthestStation at h
  refine a_aload_n (j := 0) hB e_M_farthestStation_0 rfl rfl ?_
  refine a_iconst (v := 0) hB e_M_farthestStation_1 ic_0 ?_
  obtain ⟨M2, hM2, h⟩ := bm_i h
  refine a_putI (k := 7) hB e_M_farthestStation_2 fw_M_79 (sf_lt hF (by decide)) kk_134 tt_134_7 ?_
  refine a_mem hM2 ?_
  refine a_aload_n (j := 0) hB e_M_farthestStation_5 rfl rfl ?_
  obtain ⟨M6, hr6, h⟩ := bn_i h
  refine a_ret (v := none) (M1 := M6) (φ1 := φ) (st1 := []) (j1 := 0) (j2 := 0) (ar_V (As := []) (rest := []) hB (c_M_findStations (bf_G hB) hF hr6) ml_M_315 md_M_findStations rc_M_findStations (sf_lt hF (by decide)) kk_134 rfl rfl (Nat.le_of_ble_eq_true rfl) rm_M_farthestStation_M_findStations e_M_farthestStation_6) rfl rfl rfl ?_
  refine a_iconst (v := 0) hB e_M_farthestStation_9 ic_0 ?_
  refine a_istore_n (ls' := [(1, .int (0 : Int32)), (0, .ref 134)]) hB e_M_farthestStation_10 rfl (Nat.le_of_ble_eq_true rfl) rfl ?_
  refine a_iconst (v := 1) hB e_M_farthestStation_11 ic_1 ?_
  refine a_istore_n (ls' := [(2, .int (1 : Int32)), (1, .int (0 : Int32)), (0, .ref 134)]) hB e_M_farthestStation_12 rfl (Nat.le_of_ble_eq_true rfl) rfl ?_
  refine a_ls [2, 1, 0] (ls' := [(0, .ref 134), (1, .int (0 : Int32)), (2, .int (1 : Int32))]) rfl ?_
  exact t_M_farthestStation_13 hB hF _ _ _ _ h
set_option maxRecDepth 100000 in
theorem c_M_farthestStation {G : Gt} (hG : GOK G) {φ : Ph} (hF : SF 148 φ)   {M : Mm}  {o : Int32} {M9 : Mm} (h : f_M_farthestStation M = some (o, M9)) : CT G I_M_farthestStation [.ref 134] M φ (.inl (some (.int o))) M9 φ :=
  ct_of hG (by decide) (Nat.le_of_ble_eq_true rfl) (fun B hB => t_M_farthestStation hB hF  h)
set_option maxRecDepth 100000 in
theorem t_M_longestLeg_39 {G : Gt} {φ : Ph} {B : Bag} (hB : BF G I_M_longestLeg B) (hF : SF 148 φ)    {o : Int32} {M9 : Mm} {r9 : Int32 → Int32 → Mm → Option (Int32 × Mm)} (hr9 : ∀ (l1 : Int32) (l2 : Int32) (M : Mm), r9 l1 l2 M = some (o, M9) → AW G I_M_longestLeg B (QM G I_M_longestLeg B (.inl (some (.int o))) M9 φ) 0 0 9 [(0, .ref 134), (1, .int l1), (2, .int l2)] [] M φ) {l1 : Int32} {l2 : Int32} {M : Mm} (h : f_M_longestLeg_39 r9 l1 l2 M = some (o, M9)) : AW G I_M_longestLeg B (QM G I_M_longestLeg B (.inl (some (.int o))) M9 φ) 0 0 39 [(0, .ref 134), (1, .int l1), (2, .int l2)] [] M φ := by
  unfold f_M_longestLeg_39 at h
  refine a_iinc (j := 2) (v := l2 + 1) (ls' := [(2, .int (l2 + 1)), (0, .ref 134), (1, .int l1)]) hB e_M_longestLeg_39 rfl (inc_1 _) (Nat.le_of_ble_eq_true rfl) rfl ?_
  refine a_goto (tgt := 9) hB e_M_longestLeg_42 (by decide) ?_
  refine a_ls [1, 2, 0] (ls' := [(0, .ref 134), (1, .int l1), (2, .int (l2 + 1))]) rfl ?_
  exact hr9 _ _ _ h
set_option maxRecDepth 100000 in
theorem t_M_longestLeg_37 {G : Gt} {φ : Ph} {B : Bag} (hB : BF G I_M_longestLeg B) (hF : SF 148 φ)    {o : Int32} {M9 : Mm} {r9 : Int32 → Int32 → Mm → Option (Int32 × Mm)} (hr9 : ∀ (l1 : Int32) (l2 : Int32) (M : Mm), r9 l1 l2 M = some (o, M9) → AW G I_M_longestLeg B (QM G I_M_longestLeg B (.inl (some (.int o))) M9 φ) 0 0 9 [(0, .ref 134), (1, .int l1), (2, .int l2)] [] M φ) {l2 : Int32} {M : Mm} (h : f_M_longestLeg_37 r9 l2 M = some (o, M9)) : AW G I_M_longestLeg B (QM G I_M_longestLeg B (.inl (some (.int o))) M9 φ) 0 0 37 [(0, .ref 134), (2, .int l2)] [] M φ := by
  unfold f_M_longestLeg_37 at h
  refine a_iload_n (j := 1) hB e_M_longestLeg_37 rfl rfl ?_
  refine a_istore_n (ls' := [(1, .int l2), (0, .ref 134), (2, .int l2)]) hB e_M_longestLeg_38 rfl (Nat.le_of_ble_eq_true rfl) rfl ?_
  refine a_ls [1, 0, 2] (ls' := [(0, .ref 134), (1, .int l2), (2, .int l2)]) rfl ?_
  exact t_M_longestLeg_39 hB hF hr9 h
set_option maxRecDepth 100000 in
theorem t_M_longestLeg_9 {G : Gt} {φ : Ph} {B : Bag} (hB : BF G I_M_longestLeg B) (hF : SF 148 φ)    {o : Int32} {M9 : Mm} : ∀ (n : Nat) (l1 : Int32) (l2 : Int32) (M : Mm), f_M_longestLeg_9 n l1 l2 M = some (o, M9) → AW G I_M_longestLeg B (QM G I_M_longestLeg B (.inl (some (.int o))) M9 φ) 0 0 9 [(0, .ref 134), (1, .int l1), (2, .int l2)] [] M φ := by
  intro n
  induction n with
  | zero => intro l1 l2 M h; cases h
  | succ n hr9 =>
    intro l1 l2 M h
    rw [f_M_longestLeg_9] at h
    refine a_iload_n (j := 2) hB e_M_longestLeg_9 rfl rfl ?_
    refine a_aload_n (j := 0) hB e_M_longestLeg_10 rfl rfl ?_
    refine a_getR (r := 135) (k := 0) hB e_M_longestLeg_11 fl_M_9 (sf_lt hF (by decide)) kk_134 tt_134_0 (hF.1 _ _) ?_
    refine a_iconst (v := 0) hB e_M_longestLeg_14 ic_0 ?_
    refine a_iald' hB e_M_longestLeg_15 (sf_lt hF (by decide)) kk_135 ll_135 (by decide) ?_
    refine a_icmp_ge (tgt := 45) hB e_M_longestLeg_16 (by decide) (fun c => ?_) (fun c => ?_)
    · have h := ip c h
      refine a_iload_n (j := 1) hB e_M_longestLeg_45 rfl rfl ?_
      cases h
      exact a_iret hB rfl e_M_longestLeg_46 (by decide) (by decide)
    · have h := iq c h
      refine a_iload_n (j := 1) hB e_M_longestLeg_19 rfl rfl ?_
      refine a_iconst (v := -1) hB e_M_longestLeg_20 ic_m1 ?_
      refine a_icmp_eq (tgt := 37) hB e_M_longestLeg_21 (by decide) (fun c => ?_) (fun c => ?_)
      · have h := ip c h
        refine a_ls [0, 2] (ls' := [(0, .ref 134), (2, .int l2)]) rfl ?_
        exact t_M_longestLeg_37 hB hF hr9 h
      · have h := iq c h
        refine a_aload_n (j := 0) hB e_M_longestLeg_24 rfl rfl ?_
        refine a_iload_n (j := 2) hB e_M_longestLeg_25 rfl rfl ?_
        obtain ⟨r26, hr26, h⟩ := bn_i h
        refine a_ret (v := (some (.int r26))) (M1 := M) (φ1 := φ) (st1 := [.int r26]) (j1 := 0) (j2 := 0) (ar_V (As := [.int l2]) (rest := []) hB (c_M_flat (bf_G hB) hF hr26) ml_M_125 md_M_flat rc_M_flat (sf_lt hF (by decide)) kk_134 rfl rfl (Nat.le_of_ble_eq_true rfl) rm_M_longestLeg_M_flat e_M_longestLeg_26) rfl rfl rfl ?_
        refine a_aload_n (j := 0) hB e_M_longestLeg_29 rfl rfl ?_
        refine a_iload_n (j := 1) hB e_M_longestLeg_30 rfl rfl ?_
        obtain ⟨r31, hr31, h⟩ := bn_i h
        refine a_ret (v := (some (.int r31))) (M1 := M) (φ1 := φ) (st1 := [.int r31, .int r26]) (j1 := 0) (j2 := 0) (ar_V (As := [.int l1]) (rest := [.int r26]) hB (c_M_flat (bf_G hB) hF hr31) ml_M_125 md_M_flat rc_M_flat (sf_lt hF (by decide)) kk_134 rfl rfl (Nat.le_of_ble_eq_true rfl) rm_M_longestLeg_M_flat e_M_longestLeg_31) rfl rfl rfl ?_
        refine a_icmp_le (tgt := 39) hB e_M_longestLeg_34 (by decide) (fun c => ?_) (fun c => ?_)
        · have h := ip c h
          exact t_M_longestLeg_39 hB hF hr9 h
        · have h := iq c h
          refine a_ls [0, 2] (ls' := [(0, .ref 134), (2, .int l2)]) rfl ?_
          exact t_M_longestLeg_37 hB hF hr9 h
set_option maxRecDepth 100000 in
theorem t_M_longestLeg {G : Gt} {φ : Ph} {B : Bag} (hB : BF G I_M_longestLeg B) (hF : SF 148 φ)    {o : Int32} {M9 : Mm}  {M : Mm} (h : f_M_longestLeg M = some (o, M9)) : AW G I_M_longestLeg B (QM G I_M_longestLeg B (.inl (some (.int o))) M9 φ) 0 0 0 [(0, .ref 134)] [] M φ := by
  unfold f_M_longestLeg at h
  refine a_aload_n (j := 0) hB e_M_longestLeg_0 rfl rfl ?_
  refine a_iconst (v := 0) hB e_M_longestLeg_1 ic_0 ?_
  obtain ⟨M2, hM2, h⟩ := bm_i h
  refine a_putI (k := 7) hB e_M_longestLeg_2 fw_M_79 (sf_lt hF (by decide)) kk_134 tt_134_7 ?_
  refine a_mem hM2 ?_
  refine a_iconst (v := -1) hB e_M_longestLeg_5 ic_m1 ?_
  refine a_istore_n (ls' := [(1, .int (-1 : Int32)), (0, .ref 134)]) hB e_M_longestLeg_6 rfl (Nat.le_of_ble_eq_true rfl) rfl ?_
  refine a_iconst (v := 0) hB e_M_longestLeg_7 ic_0 ?_
  refine a_istore_n (ls' := [(2, .int (0 : Int32)), (1, .int (-1 : Int32)), (0, .ref 134)]) hB e_M_longestLeg_8 rfl (Nat.le_of_ble_eq_true rfl) rfl ?_
  refine a_ls [2, 1, 0] (ls' := [(0, .ref 134), (1, .int (-1 : Int32)), (2, .int (0 : Int32))]) rfl ?_
  exact t_M_longestLeg_9 hB hF _ _ _ _ h
set_option maxRecDepth 100000 in
theorem c_M_longestLeg {G : Gt} (hG : GOK G) {φ : Ph} (hF : SF 148 φ)   {M : Mm}  {o : Int32} {M9 : Mm} (h : f_M_longestLeg M = some (o, M9)) : CT G I_M_longestLeg [.ref 134] M φ (.inl (some (.int o))) M9 φ :=
  ct_of hG (by decide) (Nat.le_of_ble_eq_true rfl) (fun B hB => t_M_longestLeg hB hF  h)
set_option maxRecDepth 100000 in
theorem t_M_onBogs_30 {G : Gt} {φ : Ph} {B : Bag} (hB : BF G I_M_onBogs B) (hF : SF 148 φ)   {M : Mm} {o : Int32} {r4 : Int32 → Int32 → Option Int32} (hr4 : ∀ (l1 : Int32) (l2 : Int32), r4 l1 l2 = some o → AW G I_M_onBogs B (QM G I_M_onBogs B (.inl (some (.int o))) M φ) 0 0 4 [(0, .ref 134), (1, .int l1), (2, .int l2)] [] M φ) {l1 : Int32} {l2 : Int32}  (h : f_M_onBogs_30 M r4 l1 l2 = some o) : AW G I_M_onBogs B (QM G I_M_onBogs B (.inl (some (.int o))) M φ) 0 0 30 [(0, .ref 134), (1, .int l1), (2, .int l2)] [] M φ := by
  unfold f_M_onBogs_30 at h
  refine a_iinc (j := 2) (v := l2 + 1) (ls' := [(2, .int (l2 + 1)), (0, .ref 134), (1, .int l1)]) hB e_M_onBogs_30 rfl (inc_1 _) (Nat.le_of_ble_eq_true rfl) rfl ?_
  refine a_goto (tgt := 4) hB e_M_onBogs_33 (by decide) ?_
  refine a_ls [1, 2, 0] (ls' := [(0, .ref 134), (1, .int l1), (2, .int (l2 + 1))]) rfl ?_
  exact hr4 _ _ h
set_option maxRecDepth 100000 in
theorem t_M_onBogs_4 {G : Gt} {φ : Ph} {B : Bag} (hB : BF G I_M_onBogs B) (hF : SF 148 φ)   {M : Mm} {o : Int32} : ∀ (n : Nat) (l1 : Int32) (l2 : Int32), f_M_onBogs_4 M n l1 l2 = some o → AW G I_M_onBogs B (QM G I_M_onBogs B (.inl (some (.int o))) M φ) 0 0 4 [(0, .ref 134), (1, .int l1), (2, .int l2)] [] M φ := by
  intro n
  induction n with
  | zero => intro l1 l2 h; cases h
  | succ n hr4 =>
    intro l1 l2 h
    rw [f_M_onBogs_4] at h
    refine a_iload_n (j := 2) hB e_M_onBogs_4 rfl rfl ?_
    refine a_aload_n (j := 0) hB e_M_onBogs_5 rfl rfl ?_
    refine a_getR (r := 135) (k := 0) hB e_M_onBogs_6 fl_M_9 (sf_lt hF (by decide)) kk_134 tt_134_0 (hF.1 _ _) ?_
    refine a_iconst (v := 0) hB e_M_onBogs_9 ic_0 ?_
    refine a_iald' hB e_M_onBogs_10 (sf_lt hF (by decide)) kk_135 ll_135 (by decide) ?_
    refine a_icmp_ge (tgt := 36) hB e_M_onBogs_11 (by decide) (fun c => ?_) (fun c => ?_)
    · have h := ip c h
      refine a_iload_n (j := 1) hB e_M_onBogs_36 rfl rfl ?_
      cases h
      exact a_iret hB rfl e_M_onBogs_37 (by decide) (by decide)
    · have h := iq c h
      refine a_aload_n (j := 0) hB e_M_onBogs_14 rfl rfl ?_
      refine a_iload_n (j := 2) hB e_M_onBogs_15 rfl rfl ?_
      obtain ⟨r16, hr16, h⟩ := bn_i h
      refine a_ret (v := (some (.int r16))) (M1 := M) (φ1 := φ) (st1 := [.int r16]) (j1 := 0) (j2 := 0) (ar_V (As := [.int l2]) (rest := []) hB (c_M_bog (bf_G hB) hF hr16) ml_M_102 md_M_bog rc_M_bog (sf_lt hF (by decide)) kk_134 rfl rfl (Nat.le_of_ble_eq_true rfl) rm_M_onBogs_M_bog e_M_onBogs_16) rfl rfl rfl ?_
      refine a_if_eq (tgt := 30) hB e_M_onBogs_19 (by decide) (fun c => ?_) (fun c => ?_)
      · have h := ip c h
        exact t_M_onBogs_30 hB hF hr4 h
      · have h := iq c h
        refine a_iload_n (j := 1) hB e_M_onBogs_22 rfl rfl ?_
        refine a_aload_n (j := 0) hB e_M_onBogs_23 rfl rfl ?_
        refine a_iload_n (j := 2) hB e_M_onBogs_24 rfl rfl ?_
        obtain ⟨r25, hr25, h⟩ := bn_i h
        refine a_ret (v := (some (.int r25))) (M1 := M) (φ1 := φ) (st1 := [.int r25, .int l1]) (j1 := 0) (j2 := 0) (ar_V (As := [.int l2]) (rest := [.int l1]) hB (c_M_flat (bf_G hB) hF hr25) ml_M_125 md_M_flat rc_M_flat (sf_lt hF (by decide)) kk_134 rfl rfl (Nat.le_of_ble_eq_true rfl) rm_M_onBogs_M_flat e_M_onBogs_25) rfl rfl rfl ?_
        refine a_iadd hB e_M_onBogs_28 ?_
        refine a_istore_n (ls' := [(1, .int (l1 + r25)), (0, .ref 134), (2, .int l2)]) hB e_M_onBogs_29 rfl (Nat.le_of_ble_eq_true rfl) rfl ?_
        refine a_ls [1, 0, 2] (ls' := [(0, .ref 134), (1, .int (l1 + r25)), (2, .int l2)]) rfl ?_
        exact t_M_onBogs_30 hB hF hr4 h
set_option maxRecDepth 100000 in
theorem t_M_onBogs {G : Gt} {φ : Ph} {B : Bag} (hB : BF G I_M_onBogs B) (hF : SF 148 φ)   {M : Mm} {o : Int32}   (h : f_M_onBogs M = some o) : AW G I_M_onBogs B (QM G I_M_onBogs B (.inl (some (.int o))) M φ) 0 0 0 [(0, .ref 134)] [] M φ := by
  unfold f_M_onBogs at h
  refine a_iconst (v := 0) hB e_M_onBogs_0 ic_0 ?_
  refine a_istore_n (ls' := [(1, .int (0 : Int32)), (0, .ref 134)]) hB e_M_onBogs_1 rfl (Nat.le_of_ble_eq_true rfl) rfl ?_
  refine a_iconst (v := 0) hB e_M_onBogs_2 ic_0 ?_
  refine a_istore_n (ls' := [(2, .int (0 : Int32)), (1, .int (0 : Int32)), (0, .ref 134)]) hB e_M_onBogs_3 rfl (Nat.le_of_ble_eq_true rfl) rfl ?_
  refine a_ls [2, 1, 0] (ls' := [(0, .ref 134), (1, .int (0 : Int32)), (2, .int (0 : Int32))]) rfl ?_
  exact t_M_onBogs_4 hB hF _ _ _ h
set_option maxRecDepth 100000 in
theorem c_M_onBogs {G : Gt} (hG : GOK G) {φ : Ph} (hF : SF 148 φ)   {M : Mm}  {o : Int32} (h : f_M_onBogs M = some o) : CT G I_M_onBogs [.ref 134] M φ (.inl (some (.int o))) M φ :=
  ct_of hG (by decide) (Nat.le_of_ble_eq_true rfl) (fun B hB => t_M_onBogs hB hF  h)
set_option maxRecDepth 100000 in
theorem t_M_bogLength {G : Gt} {φ : Ph} {B : Bag} (hB : BF G I_M_bogLength B) (hF : SF 148 φ)    {o : Int32} {M9 : Mm}  {M : Mm} (h : f_M_bogLength M = some (o, M9)) : AW G I_M_bogLength B (QM G I_M_bogLength B (.inl (some (.int o))) M9 φ) 0 0 0 [(0, .ref 134)] [] M φ := by
  unfold f_M_bogLength at h
  refine a_aload_n (j := 0) hB e_M_bogLength_0 rfl rfl ?_
  refine a_aload_n (j := 0) hB e_M_bogLength_1 rfl rfl ?_
  obtain ⟨r2, hr2, h⟩ := bn_i h
  refine a_ret (v := (some (.int r2))) (M1 := M) (φ1 := φ) (st1 := [.int r2, .ref 134]) (j1 := 0) (j2 := 0) (ar_V (As := []) (rest := [.ref 134]) hB (c_M_onBogs (bf_G hB) hF hr2) ml_M_331 md_M_onBogs rc_M_onBogs (sf_lt hF (by decide)) kk_134 rfl rfl (Nat.le_of_ble_eq_true rfl) rm_M_bogLength_M_onBogs e_M_bogLength_2) rfl rfl rfl ?_
  obtain ⟨r5, M5, hr5, h⟩ := bn2_i h
  refine a_ret (v := (some (.int r5))) (M1 := M5) (φ1 := φ) (st1 := [.int r5]) (j1 := 0) (j2 := 0) (ar_V (As := [.int r2]) (rest := []) hB (c_M_told (bf_G hB) hF hr5) ml_M_292 md_M_told rc_M_told (sf_lt hF (by decide)) kk_134 rfl rfl (Nat.le_of_ble_eq_true rfl) rm_M_bogLength_M_told e_M_bogLength_5) rfl rfl rfl ?_
  cases h
  exact a_iret hB rfl e_M_bogLength_8 (by decide) (by decide)
set_option maxRecDepth 100000 in
theorem c_M_bogLength {G : Gt} (hG : GOK G) {φ : Ph} (hF : SF 148 φ)   {M : Mm}  {o : Int32} {M9 : Mm} (h : f_M_bogLength M = some (o, M9)) : CT G I_M_bogLength [.ref 134] M φ (.inl (some (.int o))) M9 φ :=
  ct_of hG (by decide) (Nat.le_of_ble_eq_true rfl) (fun B hB => t_M_bogLength hB hF  h)
set_option maxRecDepth 100000 in
theorem t_M_area_23 {G : Gt} {φ : Ph} {B : Bag} (hB : BF G I_M_area B) (hF : SF 148 φ)    {o : Int64} {M9 : Mm} : ∀ (n : Nat) (l1 : Int64) (l3 : Int32) (l4 : Int32) (M : Mm), f_M_area_23 n l1 l3 l4 M = some (o, M9) → AW G I_M_area B (QM G I_M_area B (.inl (some (.long o))) M9 φ) 0 0 23 [(0, .ref 134), (1, .long l1), (3, .int l3), (4, .int l4)] [] M φ := by
  intro n
  induction n with
  | zero => intro l1 l3 l4 M h; cases h
  | succ n hr23 =>
    intro l1 l3 l4 M h
    rw [f_M_area_23] at h
    refine a_iload (j := 3) hB e_M_area_23 rfl ?_
    refine a_iload_n (j := 2) hB e_M_area_25 rfl rfl ?_
    refine a_icmp_ge (tgt := 81) hB e_M_area_26 (by decide) (fun c => ?_) (fun c => ?_)
    · have h := ip c h
      refine a_lload_n (j := 1) hB e_M_area_81 rfl rfl ?_
      refine a_absJ hB ml_M_334 ms_absJ ini_math mc_absJ (by decide) (Nat.le_of_ble_eq_true rfl) (by decide) (by decide) e_M_area_82 ?_
      refine a_ldc2 (v := 2) hB cj_M_337 e_M_area_85 ?_
      refine a_ldiv hB e_M_area_88 (by decide) ?_
      cases h
      exact a_lret hB rfl e_M_area_89 (by decide) (by decide)
    · have h := iq c h
      refine a_iload (j := 3) hB e_M_area_29 rfl ?_
      refine a_iconst (v := 1) hB e_M_area_31 ic_1 ?_
      refine a_iadd hB e_M_area_32 ?_
      refine a_iload_n (j := 2) hB e_M_area_33 rfl rfl ?_
      obtain ⟨c34, h⟩ := chk_i h
      refine a_irem hB e_M_area_34 c34 ?_
      refine a_istore (ls' := [(5, .int ((l4 + (1 : Int32)) - (l4 + (1 : Int32)) / l3 * l3)), (0, .ref 134), (1, .long l1), (3, .int l3), (4, .int l4)]) hB e_M_area_35 (Nat.le_of_ble_eq_true rfl) rfl ?_
      refine a_lload_n (j := 2) hB e_M_area_37 rfl rfl ?_
      refine a_aload_n (j := 1) hB e_M_area_38 rfl rfl ?_
      refine a_getR (r := 143) (k := 10) hB e_M_area_39 fl_M_35 (sf_lt hF (by decide)) kk_134 tt_134_10 (hF.1 _ _) ?_
      refine a_iload (j := 4) hB e_M_area_42 rfl ?_
      obtain ⟨c44, h⟩ := chk_i h
      refine a_iald' hB e_M_area_44 (sf_lt hF (by decide)) kk_143 ll_143 c44 ?_
      refine a_i2l hB e_M_area_45 ?_
      refine a_aload_n (j := 1) hB e_M_area_46 rfl rfl ?_
      refine a_getR (r := 144) (k := 11) hB e_M_area_47 fl_M_38 (sf_lt hF (by decide)) kk_134 tt_134_11 (hF.1 _ _) ?_
      refine a_iload (j := 0) hB e_M_area_50 rfl ?_
      obtain ⟨c52, h⟩ := chk_i h
      refine a_iald' hB e_M_area_52 (sf_lt hF (by decide)) kk_144 ll_144 c52 ?_
      refine a_i2l hB e_M_area_53 ?_
      refine a_lmul hB e_M_area_54 ?_
      refine a_aload_n (j := 1) hB e_M_area_55 rfl rfl ?_
      refine a_getR (r := 143) (k := 10) hB e_M_area_56 fl_M_35 (sf_lt hF (by decide)) kk_134 tt_134_10 (hF.1 _ _) ?_
      refine a_iload (j := 0) hB e_M_area_59 rfl ?_
      refine a_iald' hB e_M_area_61 (sf_lt hF (by decide)) kk_143 ll_143 c52 ?_
      refine a_i2l hB e_M_area_62 ?_
      refine a_aload_n (j := 1) hB e_M_area_63 rfl rfl ?_
      refine a_getR (r := 144) (k := 11) hB e_M_area_64 fl_M_38 (sf_lt hF (by decide)) kk_134 tt_134_11 (hF.1 _ _) ?_
      refine a_iload (j := 4) hB e_M_area_67 rfl ?_
      refine a_iald' hB e_M_area_69 (sf_lt hF (by decide)) kk_144 ll_144 c44 ?_
      refine a_i2l hB e_M_area_70 ?_
      refine a_lmul hB e_M_area_71 ?_
      refine a_lsub hB e_M_area_72 ?_
      refine a_ladd hB e_M_area_73 ?_
      refine a_lstore_n (ls' := [(1, .long (l1 + ((((M 143 (ix l4)).toInt64) * ((M 144 (ix ((l4 + (1 : Int32)) - (l4 + (1 : Int32)) / l3 * l3))).toInt64)) - (((M 143 (ix ((l4 + (1 : Int32)) - (l4 + (1 : Int32)) / l3 * l3))).toInt64) * ((M 144 (ix l4)).toInt64))))), (5, .int ((l4 + (1 : Int32)) - (l4 + (1 : Int32)) / l3 * l3)), (0, .ref 134), (3, .int l3), (4, .int l4)]) hB e_M_area_74 rfl (Nat.le_of_ble_eq_true rfl) rfl ?_
      refine a_iinc (j := 4) (v := l4 + 1) (ls' := [(4, .int (l4 + 1)), (1, .long (l1 + ((((M 143 (ix l4)).toInt64) * ((M 144 (ix ((l4 + (1 : Int32)) - (l4 + (1 : Int32)) / l3 * l3))).toInt64)) - (((M 143 (ix ((l4 + (1 : Int32)) - (l4 + (1 : Int32)) / l3 * l3))).toInt64) * ((M 144 (ix l4)).toInt64))))), (5, .int ((l4 + (1 : Int32)) - (l4 + (1 : Int32)) / l3 * l3)), (0, .ref 134), (3, .int l3)]) hB e_M_area_75 rfl (inc_1 _) (Nat.le_of_ble_eq_true rfl) rfl ?_
      refine a_goto (tgt := 23) hB e_M_area_78 (by decide) ?_
      refine a_ls [3, 1, 4, 0] (ls' := [(0, .ref 134), (1, .long (l1 + ((((M 143 (ix l4)).toInt64) * ((M 144 (ix ((l4 + (1 : Int32)) - (l4 + (1 : Int32)) / l3 * l3))).toInt64)) - (((M 143 (ix ((l4 + (1 : Int32)) - (l4 + (1 : Int32)) / l3 * l3))).toInt64) * ((M 144 (ix l4)).toInt64))))), (3, .int l3), (4, .int (l4 + 1))]) rfl ?_
      exact hr23 _ _ _ _ h
set_option maxRecDepth 100000 in
theorem t_M_area {G : Gt} {φ : Ph} {B : Bag} (hB : BF G I_M_area B) (hF : SF 148 φ)    {o : Int64} {M9 : Mm}  {M : Mm} (h : f_M_area M = some (o, M9)) : AW G I_M_area B (QM G I_M_area B (.inl (some (.long o))) M9 φ) 0 0 0 [(0, .ref 134)] [] M φ := by
  unfold f_M_area at h
  refine a_aload_n (j := 0) hB e_M_area_0 rfl rfl ?_
  refine a_iconst (v := 0) hB e_M_area_1 ic_0 ?_
  obtain ⟨M2, hM2, h⟩ := bm_i h
  refine a_putI (k := 7) hB e_M_area_2 fw_M_79 (sf_lt hF (by decide)) kk_134 tt_134_7 ?_
  refine a_mem hM2 ?_
  refine a_aload_n (j := 0) hB e_M_area_5 rfl rfl ?_
  obtain ⟨M6, hr6, h⟩ := bn_i h
  refine a_ret (v := none) (M1 := M6) (φ1 := φ) (st1 := []) (j1 := 0) (j2 := 0) (ar_V (As := []) (rest := []) hB (c_M_findStations (bf_G hB) hF hr6) ml_M_315 md_M_findStations rc_M_findStations (sf_lt hF (by decide)) kk_134 rfl rfl (Nat.le_of_ble_eq_true rfl) rm_M_area_M_findStations e_M_area_6) rfl rfl rfl ?_
  refine a_lconst (v := 0) hB e_M_area_9 rfl ?_
  refine a_lstore_n (ls' := [(1, .long (0 : Int64)), (0, .ref 134)]) hB e_M_area_10 rfl (Nat.le_of_ble_eq_true rfl) rfl ?_
  refine a_aload_n (j := 1) hB e_M_area_11 rfl rfl ?_
  refine a_getR (r := 135) (k := 0) hB e_M_area_12 fl_M_9 (sf_lt hF (by decide)) kk_134 tt_134_0 (hF.1 _ _) ?_
  refine a_iconst (v := 0) hB e_M_area_15 ic_0 ?_
  refine a_iald' hB e_M_area_16 (sf_lt hF (by decide)) kk_135 ll_135 (by decide) ?_
  refine a_iconst (v := 1) hB e_M_area_17 ic_1 ?_
  refine a_iadd hB e_M_area_18 ?_
  refine a_istore_n (ls' := [(3, .int ((M6 135 (ix (0 : Int32))) + (1 : Int32))), (1, .long (0 : Int64)), (0, .ref 134)]) hB e_M_area_19 rfl (Nat.le_of_ble_eq_true rfl) rfl ?_
  refine a_iconst (v := 0) hB e_M_area_20 ic_0 ?_
  refine a_istore (ls' := [(4, .int (0 : Int32)), (3, .int ((M6 135 (ix (0 : Int32))) + (1 : Int32))), (1, .long (0 : Int64)), (0, .ref 134)]) hB e_M_area_21 (Nat.le_of_ble_eq_true rfl) rfl ?_
  refine a_ls [3, 2, 1, 0] (ls' := [(0, .ref 134), (1, .long (0 : Int64)), (3, .int ((M6 135 (ix (0 : Int32))) + (1 : Int32))), (4, .int (0 : Int32))]) rfl ?_
  exact t_M_area_23 hB hF _ _ _ _ _ h
set_option maxRecDepth 100000 in
theorem c_M_area {G : Gt} (hG : GOK G) {φ : Ph} (hF : SF 148 φ)   {M : Mm}  {o : Int64} {M9 : Mm} (h : f_M_area M = some (o, M9)) : CT G I_M_area [.ref 134] M φ (.inl (some (.long o))) M9 φ :=
  ct_of hG (by decide) (Nat.le_of_ble_eq_true rfl) (fun B hB => t_M_area hB hF  h)
set_option maxRecDepth 100000 in
theorem t_M_missIfDropped {G : Gt} {φ : Ph} {B : Bag} (hB : BF G I_M_missIfDropped B) (hF : SF 148 φ)    {o : Int32} {M9 : Mm} {l1 : Int32} {M : Mm} (h : f_M_missIfDropped l1 M = some (o, M9)) : AW G I_M_missIfDropped B (QM G I_M_missIfDropped B (.inl (some (.int o))) M9 φ) 0 0 0 [(0, .ref 134), (1, .int l1)] [] M φ := by
  unfold f_M_missIfDropped at h
  refine a_aload_n (j := 0) hB e_M_missIfDropped_0 rfl rfl ?_
  refine a_iload_n (j := 1) hB e_M_missIfDropped_1 rfl rfl ?_
  obtain ⟨r2, hr2, h⟩ := bn_i h
  refine a_ret (v := (some (.int r2))) (M1 := M) (φ1 := φ) (st1 := [.int r2]) (j1 := 0) (j2 := 0) (ar_V (As := [.int l1]) (rest := []) hB (c_M_mayDrop (bf_G hB) hF hr2) ml_M_250 md_M_mayDrop rc_M_mayDrop (sf_lt hF (by decide)) kk_134 rfl rfl (Nat.le_of_ble_eq_true rfl) rm_M_missIfDropped_M_mayDrop e_M_missIfDropped_2) rfl rfl rfl ?_
  refine a_if_ne (tgt := 10) hB e_M_missIfDropped_5 (by decide) (fun c => ?_) (fun c => ?_)
  · have h := iq c h
    refine a_aload_n (j := 0) hB e_M_missIfDropped_10 rfl rfl ?_
    refine a_iload_n (j := 1) hB e_M_missIfDropped_11 rfl rfl ?_
    refine a_iconst (v := 1) hB e_M_missIfDropped_12 ic_1 ?_
    obtain ⟨r13, M13, hr13, h⟩ := bn2_i h
    refine a_ret (v := (some (.int r13))) (M1 := M13) (φ1 := φ) (st1 := [.int r13]) (j1 := 0) (j2 := 0) (ar_V (As := [.int l1, .int (1 : Int32)]) (rest := []) hB (c_M_drops (bf_G hB) hF hr13) ml_M_253 md_M_drops rc_M_drops (sf_lt hF (by decide)) kk_134 rfl rfl (Nat.le_of_ble_eq_true rfl) rm_M_missIfDropped_M_drops e_M_missIfDropped_13) rfl rfl rfl ?_
    refine a_istore_n (ls' := [(2, .int r13), (0, .ref 134), (1, .int l1)]) hB e_M_missIfDropped_16 rfl (Nat.le_of_ble_eq_true rfl) rfl ?_
    refine a_aload_n (j := 1) hB e_M_missIfDropped_17 rfl rfl ?_
    obtain ⟨r18, M18, hr18, h⟩ := bn2_i h
    refine a_ret (v := (some (.int r18))) (M1 := M18) (φ1 := φ) (st1 := [.int r18]) (j1 := 0) (j2 := 0) (ar_V (As := []) (rest := []) hB (c_M_miss (bf_G hB) hF hr18) ml_M_321 md_M_miss rc_M_miss (sf_lt hF (by decide)) kk_134 rfl rfl (Nat.le_of_ble_eq_true rfl) rm_M_missIfDropped_M_miss e_M_missIfDropped_18) rfl rfl rfl ?_
    refine a_istore_n (ls' := [(3, .int r18), (2, .int r13), (0, .ref 134), (1, .int l1)]) hB e_M_missIfDropped_21 rfl (Nat.le_of_ble_eq_true rfl) rfl ?_
    refine a_aload_n (j := 2) hB e_M_missIfDropped_22 rfl rfl ?_
    refine a_iload_n (j := 3) hB e_M_missIfDropped_23 rfl rfl ?_
    refine a_iconst (v := -1) hB e_M_missIfDropped_24 ic_m1 ?_
    obtain ⟨r25, M25, hr25, h⟩ := bn2_i h
    refine a_ret (v := (some (.int r25))) (M1 := M25) (φ1 := φ) (st1 := [.int r25]) (j1 := 0) (j2 := 0) (ar_V (As := [.int l1, .int (-1 : Int32)]) (rest := []) hB (c_M_drops (bf_G hB) hF hr25) ml_M_253 md_M_drops rc_M_drops (sf_lt hF (by decide)) kk_134 rfl rfl (Nat.le_of_ble_eq_true rfl) rm_M_missIfDropped_M_drops e_M_missIfDropped_25) rfl rfl rfl ?_
    refine a_istore_n (ls' := [(2, .int r25), (3, .int r18), (0, .ref 134), (1, .int l1)]) hB e_M_missIfDropped_28 rfl (Nat.le_of_ble_eq_true rfl) rfl ?_
    refine a_iload_n (j := 1) hB e_M_missIfDropped_29 rfl rfl ?_
    cases h
    exact a_iret hB rfl e_M_missIfDropped_30 (by decide) (by decide)
  · have h := ip c h
    refine a_iconst (v := -1) hB e_M_missIfDropped_8 ic_m1 ?_
    cases h
    exact a_iret hB rfl e_M_missIfDropped_9 (by decide) (by decide)
set_option maxRecDepth 100000 in
theorem c_M_missIfDropped {G : Gt} (hG : GOK G) {φ : Ph} (hF : SF 148 φ)   {M : Mm} {l1 : Int32} {o : Int32} {M9 : Mm} (h : f_M_missIfDropped l1 M = some (o, M9)) : CT G I_M_missIfDropped [.ref 134, .int l1] M φ (.inl (some (.int o))) M9 φ :=
  ct_of hG (by decide) (Nat.le_of_ble_eq_true rfl) (fun B hB => t_M_missIfDropped hB hF  h)
set_option maxRecDepth 100000 in
theorem t_M_misclosureIfDropped_17 {G : Gt} {φ : Ph} {B : Bag} (hB : BF G I_M_misclosureIfDropped B) (hF : SF 148 φ)    {o : Int32} {M9 : Mm} {t0 : Int32} {M : Mm} (h : f_M_misclosureIfDropped_17 t0 M = some (o, M9)) : AW G I_M_misclosureIfDropped B (QM G I_M_misclosureIfDropped B (.inl (some (.int o))) M9 φ) 0 0 17 [] [.int t0] M φ := by
  unfold f_M_misclosureIfDropped_17 at h
  cases h
  exact a_iret hB rfl e_M_misclosureIfDropped_17 (by decide) (by decide)
set_option maxRecDepth 100000 in
theorem t_M_misclosureIfDropped {G : Gt} {φ : Ph} {B : Bag} (hB : BF G I_M_misclosureIfDropped B) (hF : SF 148 φ)    {o : Int32} {M9 : Mm} {l1 : Int32} {M : Mm} (h : f_M_misclosureIfDropped l1 M = some (o, M9)) : AW G I_M_misclosureIfDropped B (QM G I_M_misclosureIfDropped B (.inl (some (.int o))) M9 φ) 0 0 0 [(0, .ref 134), (1, .int l1)] [] M φ := by
  unfold f_M_misclosureIfDropped at h
  refine a_aload_n (j := 0) hB e_M_misclosureIfDropped_0 rfl rfl ?_
  refine a_iload_n (j := 1) hB e_M_misclosureIfDropped_1 rfl rfl ?_
  obtain ⟨r2, M2, hr2, h⟩ := bn2_i h
  refine a_ret (v := (some (.int r2))) (M1 := M2) (φ1 := φ) (st1 := [.int r2]) (j1 := 0) (j2 := 0) (ar_V (As := [.int l1]) (rest := []) hB (c_M_isBad (bf_G hB) hF hr2) ml_M_309 md_M_isBad rc_M_isBad (sf_lt hF (by decide)) kk_134 rfl rfl (Nat.le_of_ble_eq_true rfl) rm_M_misclosureIfDropped_M_isBad e_M_misclosureIfDropped_2) rfl rfl rfl ?_
  refine a_if_eq (tgt := 12) hB e_M_misclosureIfDropped_5 (by decide) (fun c => ?_) (fun c => ?_)
  · have h := ip c h
    refine a_aload_n (j := 0) hB e_M_misclosureIfDropped_12 rfl rfl ?_
    refine a_iload_n (j := 1) hB e_M_misclosureIfDropped_13 rfl rfl ?_
    obtain ⟨r14, M14, hr14, h⟩ := bn2_i h
    refine a_ret (v := (some (.int r14))) (M1 := M14) (φ1 := φ) (st1 := [.int r14]) (j1 := 0) (j2 := 0) (ar_V (As := [.int l1]) (rest := []) hB (c_M_missIfDropped (bf_G hB) hF hr14) ml_M_339 md_M_missIfDropped rc_M_missIfDropped (sf_lt hF (by decide)) kk_134 rfl rfl (Nat.le_of_ble_eq_true rfl) rm_M_misclosureIfDropped_M_missIfDropped e_M_misclosureIfDropped_14) rfl rfl rfl ?_
    refine a_ls [] (ls' := []) rfl ?_
    exact t_M_misclosureIfDropped_17 hB hF h
  · have h := iq c h
    refine a_iconst (v := 0) hB e_M_misclosureIfDropped_8 ic_0 ?_
    refine a_goto (tgt := 17) hB e_M_misclosureIfDropped_9 (by decide) ?_
    refine a_ls [] (ls' := []) rfl ?_
    exact t_M_misclosureIfDropped_17 hB hF h
set_option maxRecDepth 100000 in
theorem c_M_misclosureIfDropped {G : Gt} (hG : GOK G) {φ : Ph} (hF : SF 148 φ)   {M : Mm} {l1 : Int32} {o : Int32} {M9 : Mm} (h : f_M_misclosureIfDropped l1 M = some (o, M9)) : CT G I_M_misclosureIfDropped [.ref 134, .int l1] M φ (.inl (some (.int o))) M9 φ :=
  ct_of hG (by decide) (Nat.le_of_ble_eq_true rfl) (fun B hB => t_M_misclosureIfDropped hB hF  h)
set_option maxRecDepth 100000 in
theorem t_M_suspectLeg_51 {G : Gt} {φ : Ph} {B : Bag} (hB : BF G I_M_suspectLeg B) (hF : SF 148 φ)    {o : Int32} {M9 : Mm} {r14 : Int32 → Int32 → Int32 → Mm → Option (Int32 × Mm)} (hr14 : ∀ (l1 : Int32) (l2 : Int32) (l3 : Int32) (M : Mm), r14 l1 l2 l3 M = some (o, M9) → AW G I_M_suspectLeg B (QM G I_M_suspectLeg B (.inl (some (.int o))) M9 φ) 0 0 14 [(0, .ref 134), (1, .int l1), (2, .int l2), (3, .int l3)] [] M φ) {l1 : Int32} {l2 : Int32} {l3 : Int32} {M : Mm} (h : f_M_suspectLeg_51 r14 l1 l2 l3 M = some (o, M9)) : AW G I_M_suspectLeg B (QM G I_M_suspectLeg B (.inl (some (.int o))) M9 φ) 0 0 51 [(0, .ref 134), (1, .int l1), (2, .int l2), (3, .int l3)] [] M φ := by
  unfold f_M_suspectLeg_51 at h
  refine a_iinc (j := 3) (v := l3 + 1) (ls' := [(3, .int (l3 + 1)), (0, .ref 134), (1, .int l1), (2, .int l2)]) hB e_M_suspectLeg_51 rfl (inc_1 _) (Nat.le_of_ble_eq_true rfl) rfl ?_
  refine a_goto (tgt := 14) hB e_M_suspectLeg_54 (by decide) ?_
  refine a_ls [1, 2, 3, 0] (ls' := [(0, .ref 134), (1, .int l1), (2, .int l2), (3, .int (l3 + 1))]) rfl ?_
  exact hr14 _ _ _ _ h
set_option maxRecDepth 100000 in
theorem t_M_suspectLeg_14 {G : Gt} {φ : Ph} {B : Bag} (hB : BF G I_M_suspectLeg B) (hF : SF 148 φ)    {o : Int32} {M9 : Mm} : ∀ (n : Nat) (l1 : Int32) (l2 : Int32) (l3 : Int32) (M : Mm), f_M_suspectLeg_14 n l1 l2 l3 M = some (o, M9) → AW G I_M_suspectLeg B (QM G I_M_suspectLeg B (.inl (some (.int o))) M9 φ) 0 0 14 [(0, .ref 134), (1, .int l1), (2, .int l2), (3, .int l3)] [] M φ := by
  intro n
  induction n with
  | zero => intro l1 l2 l3 M h; cases h
  | succ n hr14 =>
    intro l1 l2 l3 M h
    rw [f_M_suspectLeg_14] at h
    refine a_iload_n (j := 3) hB e_M_suspectLeg_14 rfl rfl ?_
    refine a_aload_n (j := 0) hB e_M_suspectLeg_15 rfl rfl ?_
    refine a_getR (r := 135) (k := 0) hB e_M_suspectLeg_16 fl_M_9 (sf_lt hF (by decide)) kk_134 tt_134_0 (hF.1 _ _) ?_
    refine a_iconst (v := 0) hB e_M_suspectLeg_19 ic_0 ?_
    refine a_iald' hB e_M_suspectLeg_20 (sf_lt hF (by decide)) kk_135 ll_135 (by decide) ?_
    refine a_icmp_ge (tgt := 57) hB e_M_suspectLeg_21 (by decide) (fun c => ?_) (fun c => ?_)
    · have h := ip c h
      refine a_iload_n (j := 1) hB e_M_suspectLeg_57 rfl rfl ?_
      cases h
      exact a_iret hB rfl e_M_suspectLeg_58 (by decide) (by decide)
    · have h := iq c h
      refine a_aload_n (j := 0) hB e_M_suspectLeg_24 rfl rfl ?_
      refine a_iload_n (j := 3) hB e_M_suspectLeg_25 rfl rfl ?_
      obtain ⟨r26, M26, hr26, h⟩ := bn2_i h
      refine a_ret (v := (some (.int r26))) (M1 := M26) (φ1 := φ) (st1 := [.int r26]) (j1 := 0) (j2 := 0) (ar_V (As := [.int l3]) (rest := []) hB (c_M_missIfDropped (bf_G hB) hF hr26) ml_M_339 md_M_missIfDropped rc_M_missIfDropped (sf_lt hF (by decide)) kk_134 rfl rfl (Nat.le_of_ble_eq_true rfl) rm_M_suspectLeg_M_missIfDropped e_M_suspectLeg_26) rfl rfl rfl ?_
      refine a_istore (ls' := [(4, .int r26), (0, .ref 134), (1, .int l1), (2, .int l2), (3, .int l3)]) hB e_M_suspectLeg_29 (Nat.le_of_ble_eq_true rfl) rfl ?_
      refine a_iload (j := 0) hB e_M_suspectLeg_31 rfl ?_
      refine a_iconst (v := -1) hB e_M_suspectLeg_33 ic_m1 ?_
      refine a_icmp_eq (tgt := 51) hB e_M_suspectLeg_34 (by decide) (fun c => ?_) (fun c => ?_)
      · have h := ip c h
        refine a_ls [1, 2, 3, 4] (ls' := [(0, .ref 134), (1, .int l1), (2, .int l2), (3, .int l3)]) rfl ?_
        exact t_M_suspectLeg_51 hB hF hr14 h
      · have h := iq c h
        refine a_iload (j := 0) hB e_M_suspectLeg_37 rfl ?_
        refine a_iload_n (j := 3) hB e_M_suspectLeg_39 rfl rfl ?_
        refine a_icmp_lt (tgt := 46) hB e_M_suspectLeg_40 (by decide) (fun c => ?_) (fun c => ?_)
        · have h := ip c h
          refine a_iload_n (j := 4) hB e_M_suspectLeg_46 rfl rfl ?_
          refine a_istore_n (ls' := [(1, .int l3), (4, .int r26), (0, .ref 134), (2, .int l2), (3, .int l3)]) hB e_M_suspectLeg_47 rfl (Nat.le_of_ble_eq_true rfl) rfl ?_
          refine a_iload (j := 1) hB e_M_suspectLeg_48 rfl ?_
          refine a_istore_n (ls' := [(2, .int r26), (1, .int l3), (4, .int r26), (0, .ref 134), (3, .int l3)]) hB e_M_suspectLeg_50 rfl (Nat.le_of_ble_eq_true rfl) rfl ?_
          refine a_ls [3, 1, 0, 4] (ls' := [(0, .ref 134), (1, .int l3), (2, .int r26), (3, .int l3)]) rfl ?_
          exact t_M_suspectLeg_51 hB hF hr14 h
        · have h := iq c h
          refine a_goto (tgt := 51) hB e_M_suspectLeg_43 (by decide) ?_
          refine a_ls [1, 2, 3, 4] (ls' := [(0, .ref 134), (1, .int l1), (2, .int l2), (3, .int l3)]) rfl ?_
          exact t_M_suspectLeg_51 hB hF hr14 h
set_option maxRecDepth 100000 in
theorem t_M_suspectLeg {G : Gt} {φ : Ph} {B : Bag} (hB : BF G I_M_suspectLeg B) (hF : SF 148 φ)    {o : Int32} {M9 : Mm}  {M : Mm} (h : f_M_suspectLeg M = some (o, M9)) : AW G I_M_suspectLeg B (QM G I_M_suspectLeg B (.inl (some (.int o))) M9 φ) 0 0 0 [(0, .ref 134)] [] M φ := by
  unfold f_M_suspectLeg at h
  refine a_aload_n (j := 0) hB e_M_suspectLeg_0 rfl rfl ?_
  refine a_iconst (v := 0) hB e_M_suspectLeg_1 ic_0 ?_
  obtain ⟨M2, hM2, h⟩ := bm_i h
  refine a_putI (k := 7) hB e_M_suspectLeg_2 fw_M_79 (sf_lt hF (by decide)) kk_134 tt_134_7 ?_
  refine a_mem hM2 ?_
  refine a_iconst (v := -1) hB e_M_suspectLeg_5 ic_m1 ?_
  refine a_istore_n (ls' := [(1, .int (-1 : Int32)), (0, .ref 134)]) hB e_M_suspectLeg_6 rfl (Nat.le_of_ble_eq_true rfl) rfl ?_
  refine a_aload_n (j := 1) hB e_M_suspectLeg_7 rfl rfl ?_
  obtain ⟨r8, M8, hr8, h⟩ := bn2_i h
  refine a_ret (v := (some (.int r8))) (M1 := M8) (φ1 := φ) (st1 := [.int r8]) (j1 := 0) (j2 := 0) (ar_V (As := []) (rest := []) hB (c_M_miss (bf_G hB) hF hr8) ml_M_321 md_M_miss rc_M_miss (sf_lt hF (by decide)) kk_134 rfl rfl (Nat.le_of_ble_eq_true rfl) rm_M_suspectLeg_M_miss e_M_suspectLeg_8) rfl rfl rfl ?_
  refine a_istore_n (ls' := [(2, .int r8), (1, .int (-1 : Int32)), (0, .ref 134)]) hB e_M_suspectLeg_11 rfl (Nat.le_of_ble_eq_true rfl) rfl ?_
  refine a_iconst (v := 0) hB e_M_suspectLeg_12 ic_0 ?_
  refine a_istore_n (ls' := [(3, .int (0 : Int32)), (2, .int r8), (1, .int (-1 : Int32)), (0, .ref 134)]) hB e_M_suspectLeg_13 rfl (Nat.le_of_ble_eq_true rfl) rfl ?_
  refine a_ls [3, 2, 1, 0] (ls' := [(0, .ref 134), (1, .int (-1 : Int32)), (2, .int r8), (3, .int (0 : Int32))]) rfl ?_
  exact t_M_suspectLeg_14 hB hF _ _ _ _ _ h
set_option maxRecDepth 100000 in
theorem c_M_suspectLeg {G : Gt} (hG : GOK G) {φ : Ph} (hF : SF 148 φ)   {M : Mm}  {o : Int32} {M9 : Mm} (h : f_M_suspectLeg M = some (o, M9)) : CT G I_M_suspectLeg [.ref 134] M φ (.inl (some (.int o))) M9 φ :=
  ct_of hG (by decide) (Nat.le_of_ble_eq_true rfl) (fun B hB => t_M_suspectLeg hB hF  h)
set_option maxRecDepth 100000 in
theorem t_M_bestPace_99 {G : Gt} {φ : Ph} {B : Bag} (hB : BF G I_M_bestPace B) (hF : SF 148 φ)    {o : Int32} {M9 : Mm} {r55 : Int32 → Int32 → Int32 → Int32 → Mm → Option (Int32 × Mm)} (hr55 : ∀ (l2 : Int32) (l3 : Int32) (l4 : Int32) (l5 : Int32) (M : Mm), r55 l2 l3 l4 l5 M = some (o, M9) → AW G I_M_bestPace B (QM G I_M_bestPace B (.inl (some (.int o))) M9 φ) 0 0 55 [(0, .ref 134), (2, .int l2), (3, .int l3), (4, .int l4), (5, .int l5)] [] M φ) {l2 : Int32} {l3 : Int32} {l4 : Int32} {l5 : Int32} {M : Mm} (h : f_M_bestPace_99 r55 l2 l3 l4 l5 M = some (o, M9)) : AW G I_M_bestPace B (QM G I_M_bestPace B (.inl (some (.int o))) M9 φ) 0 0 99 [(0, .ref 134), (2, .int l2), (3, .int l3), (4, .int l4), (5, .int l5)] [] M φ := by
  unfold f_M_bestPace_99 at h
  refine a_iinc (j := 4) (v := l5 + 1) (ls' := [(5, .int (l5 + 1)), (0, .ref 134), (2, .int l2), (3, .int l3), (4, .int l4)]) hB e_M_bestPace_99 rfl (inc_1 _) (Nat.le_of_ble_eq_true rfl) rfl ?_
  refine a_goto (tgt := 55) hB e_M_bestPace_102 (by decide) ?_
  refine a_ls [1, 2, 3, 4, 0] (ls' := [(0, .ref 134), (2, .int l2), (3, .int l3), (4, .int l4), (5, .int (l5 + 1))]) rfl ?_
  exact hr55 _ _ _ _ _ h
set_option maxRecDepth 100000 in
theorem t_M_bestPace_92 {G : Gt} {φ : Ph} {B : Bag} (hB : BF G I_M_bestPace B) (hF : SF 148 φ)    {o : Int32} {M9 : Mm} {r55 : Int32 → Int32 → Int32 → Int32 → Mm → Option (Int32 × Mm)} (hr55 : ∀ (l2 : Int32) (l3 : Int32) (l4 : Int32) (l5 : Int32) (M : Mm), r55 l2 l3 l4 l5 M = some (o, M9) → AW G I_M_bestPace B (QM G I_M_bestPace B (.inl (some (.int o))) M9 φ) 0 0 55 [(0, .ref 134), (2, .int l2), (3, .int l3), (4, .int l4), (5, .int l5)] [] M φ) {l2 : Int32} {l5 : Int32} {l6 : Int32} {M : Mm} (h : f_M_bestPace_92 r55 l2 l5 l6 M = some (o, M9)) : AW G I_M_bestPace B (QM G I_M_bestPace B (.inl (some (.int o))) M9 φ) 0 0 92 [(0, .ref 134), (2, .int l2), (5, .int l5), (6, .int l6)] [] M φ := by
  unfold f_M_bestPace_92 at h
  refine a_iload (j := 2) hB e_M_bestPace_92 rfl ?_
  refine a_istore_n (ls' := [(3, .int l5), (0, .ref 134), (2, .int l2), (5, .int l5), (6, .int l6)]) hB e_M_bestPace_94 rfl (Nat.le_of_ble_eq_true rfl) rfl ?_
  refine a_iload (j := 4) hB e_M_bestPace_95 rfl ?_
  refine a_istore (ls' := [(4, .int l6), (3, .int l5), (0, .ref 134), (2, .int l2), (5, .int l5), (6, .int l6)]) hB e_M_bestPace_97 (Nat.le_of_ble_eq_true rfl) rfl ?_
  refine a_ls [2, 3, 1, 0, 4] (ls' := [(0, .ref 134), (2, .int l2), (3, .int l5), (4, .int l6), (5, .int l5)]) rfl ?_
  exact t_M_bestPace_99 hB hF hr55 h
set_option maxRecDepth 100000 in
theorem t_M_bestPace_55 {G : Gt} {φ : Ph} {B : Bag} (hB : BF G I_M_bestPace B) (hF : SF 148 φ)    {o : Int32} {M9 : Mm} : ∀ (n : Nat) (l2 : Int32) (l3 : Int32) (l4 : Int32) (l5 : Int32) (M : Mm), f_M_bestPace_55 n l2 l3 l4 l5 M = some (o, M9) → AW G I_M_bestPace B (QM G I_M_bestPace B (.inl (some (.int o))) M9 φ) 0 0 55 [(0, .ref 134), (2, .int l2), (3, .int l3), (4, .int l4), (5, .int l5)] [] M φ := by
  intro n
  induction n with
  | zero => intro l2 l3 l4 l5 M h; cases h
  | succ n hr55 =>
    intro l2 l3 l4 l5 M h
    rw [f_M_bestPace_55] at h
    refine a_iload (j := 4) hB e_M_bestPace_55 rfl ?_
    refine a_sipush (v := 999) hB e_M_bestPace_57 sp_999 ?_
    refine a_icmp_gt (tgt := 105) hB e_M_bestPace_60 (by decide) (fun c => ?_) (fun c => ?_)
    · have h := ip c h
      refine a_aload_n (j := 0) hB e_M_bestPace_105 rfl rfl ?_
      refine a_getR (r := 135) (k := 0) hB e_M_bestPace_106 fl_M_9 (sf_lt hF (by decide)) kk_134 tt_134_0 (hF.1 _ _) ?_
      refine a_iconst (v := 2) hB e_M_bestPace_109 ic_2 ?_
      refine a_iload_n (j := 1) hB e_M_bestPace_110 rfl rfl ?_
      obtain ⟨M111, hM111, h⟩ := bm_i h
      refine a_iast' hB e_M_bestPace_111 (sf_lt hF (by decide)) kk_135 ll_135 (by decide) ?_
      refine a_mem hM111 ?_
      refine a_iload_n (j := 2) hB e_M_bestPace_112 rfl rfl ?_
      cases h
      exact a_iret hB rfl e_M_bestPace_113 (by decide) (by decide)
    · have h := iq c h
      refine a_aload_n (j := 0) hB e_M_bestPace_63 rfl rfl ?_
      refine a_getR (r := 135) (k := 0) hB e_M_bestPace_64 fl_M_9 (sf_lt hF (by decide)) kk_134 tt_134_0 (hF.1 _ _) ?_
      refine a_iconst (v := 2) hB e_M_bestPace_67 ic_2 ?_
      refine a_iload (j := 4) hB e_M_bestPace_68 rfl ?_
      obtain ⟨M70, hM70, h⟩ := bm_i h
      refine a_iast' hB e_M_bestPace_70 (sf_lt hF (by decide)) kk_135 ll_135 (by decide) ?_
      refine a_mem hM70 ?_
      refine a_aload_n (j := 0) hB e_M_bestPace_71 rfl rfl ?_
      obtain ⟨r72, M72, hr72, h⟩ := bn2_i h
      refine a_ret (v := (some (.int r72))) (M1 := M72) (φ1 := φ) (st1 := [.int r72]) (j1 := 0) (j2 := 0) (ar_V (As := []) (rest := []) hB (c_M_miss (bf_G hB) hF hr72) ml_M_321 md_M_miss rc_M_miss (sf_lt hF (by decide)) kk_134 rfl rfl (Nat.le_of_ble_eq_true rfl) rm_M_bestPace_M_miss e_M_bestPace_72) rfl rfl rfl ?_
      refine a_istore (ls' := [(6, .int r72), (0, .ref 134), (2, .int l2), (3, .int l3), (4, .int l4), (5, .int l5)]) hB e_M_bestPace_75 (Nat.le_of_ble_eq_true rfl) rfl ?_
      refine a_iload_n (j := 3) hB e_M_bestPace_77 rfl rfl ?_
      refine a_iconst (v := -1) hB e_M_bestPace_78 ic_m1 ?_
      refine a_icmp_eq (tgt := 92) hB e_M_bestPace_79 (by decide) (fun c => ?_) (fun c => ?_)
      · have h := ip c h
        refine a_ls [1, 2, 5, 0] (ls' := [(0, .ref 134), (2, .int l2), (5, .int l5), (6, .int r72)]) rfl ?_
        exact t_M_bestPace_92 hB hF hr55 h
      · have h := iq c h
        refine a_iload (j := 0) hB e_M_bestPace_82 rfl ?_
        refine a_iload (j := 4) hB e_M_bestPace_84 rfl ?_
        refine a_icmp_lt (tgt := 92) hB e_M_bestPace_86 (by decide) (fun c => ?_) (fun c => ?_)
        · have h := ip c h
          refine a_ls [1, 2, 5, 0] (ls' := [(0, .ref 134), (2, .int l2), (5, .int l5), (6, .int r72)]) rfl ?_
          exact t_M_bestPace_92 hB hF hr55 h
        · have h := iq c h
          refine a_goto (tgt := 99) hB e_M_bestPace_89 (by decide) ?_
          refine a_ls [1, 2, 3, 4, 5] (ls' := [(0, .ref 134), (2, .int l2), (3, .int l3), (4, .int l4), (5, .int l5)]) rfl ?_
          exact t_M_bestPace_99 hB hF hr55 h
set_option maxRecDepth 100000 in
theorem t_M_bestPace_9 {G : Gt} {φ : Ph} {B : Bag} (hB : BF G I_M_bestPace B) (hF : SF 148 φ)    {o : Int32} {M9 : Mm} : ∀ (n : Nat) (l1 : Int32) (l2 : Int32) (M : Mm), f_M_bestPace_9 n l1 l2 M = some (o, M9) → AW G I_M_bestPace B (QM G I_M_bestPace B (.inl (some (.int o))) M9 φ) 0 0 9 [(0, .ref 134), (1, .int l1), (2, .int l2)] [] M φ := by
  intro n
  induction n with
  | zero => intro l1 l2 M h; cases h
  | succ n hr9 =>
    intro l1 l2 M h
    rw [f_M_bestPace_9] at h
    refine a_iload_n (j := 2) hB e_M_bestPace_9 rfl rfl ?_
    refine a_aload_n (j := 0) hB e_M_bestPace_10 rfl rfl ?_
    refine a_getR (r := 135) (k := 0) hB e_M_bestPace_11 fl_M_9 (sf_lt hF (by decide)) kk_134 tt_134_0 (hF.1 _ _) ?_
    refine a_iconst (v := 0) hB e_M_bestPace_14 ic_0 ?_
    refine a_iald' hB e_M_bestPace_15 (sf_lt hF (by decide)) kk_135 ll_135 (by decide) ?_
    refine a_icmp_ge (tgt := 33) hB e_M_bestPace_16 (by decide) (fun c => ?_) (fun c => ?_)
    · have h := ip c h
      refine a_iload_n (j := 1) hB e_M_bestPace_33 rfl rfl ?_
      refine a_if_ne (tgt := 39) hB e_M_bestPace_34 (by decide) (fun c => ?_) (fun c => ?_)
      · have h := iq c h
        refine a_aload_n (j := 0) hB e_M_bestPace_39 rfl rfl ?_
        refine a_getR (r := 135) (k := 0) hB e_M_bestPace_40 fl_M_9 (sf_lt hF (by decide)) kk_134 tt_134_0 (hF.1 _ _) ?_
        refine a_iconst (v := 2) hB e_M_bestPace_43 ic_2 ?_
        refine a_iald' hB e_M_bestPace_44 (sf_lt hF (by decide)) kk_135 ll_135 (by decide) ?_
        refine a_istore_n (ls' := [(2, .int (M 135 (ix (2 : Int32)))), (0, .ref 134), (1, .int l1)]) hB e_M_bestPace_45 rfl (Nat.le_of_ble_eq_true rfl) rfl ?_
        refine a_iconst (v := -1) hB e_M_bestPace_46 ic_m1 ?_
        refine a_istore_n (ls' := [(3, .int (-1 : Int32)), (2, .int (M 135 (ix (2 : Int32)))), (0, .ref 134), (1, .int l1)]) hB e_M_bestPace_47 rfl (Nat.le_of_ble_eq_true rfl) rfl ?_
        refine a_iconst (v := 0) hB e_M_bestPace_48 ic_0 ?_
        refine a_istore (ls' := [(4, .int (0 : Int32)), (3, .int (-1 : Int32)), (2, .int (M 135 (ix (2 : Int32)))), (0, .ref 134), (1, .int l1)]) hB e_M_bestPace_49 (Nat.le_of_ble_eq_true rfl) rfl ?_
        refine a_bipush (v := 100) hB e_M_bestPace_51 bp_100 ?_
        refine a_istore (ls' := [(5, .int (100 : Int32)), (4, .int (0 : Int32)), (3, .int (-1 : Int32)), (2, .int (M 135 (ix (2 : Int32)))), (0, .ref 134), (1, .int l1)]) hB e_M_bestPace_53 (Nat.le_of_ble_eq_true rfl) rfl ?_
        refine a_ls [4, 3, 2, 1, 0] (ls' := [(0, .ref 134), (2, .int (M 135 (ix (2 : Int32)))), (3, .int (-1 : Int32)), (4, .int (0 : Int32)), (5, .int (100 : Int32))]) rfl ?_
        exact t_M_bestPace_55 hB hF _ _ _ _ _ _ h
      · have h := ip c h
        refine a_iconst (v := -1) hB e_M_bestPace_37 ic_m1 ?_
        cases h
        exact a_iret hB rfl e_M_bestPace_38 (by decide) (by decide)
    · have h := iq c h
      refine a_iload_n (j := 1) hB e_M_bestPace_19 rfl rfl ?_
      refine a_aload_n (j := 0) hB e_M_bestPace_20 rfl rfl ?_
      refine a_iload_n (j := 2) hB e_M_bestPace_21 rfl rfl ?_
      obtain ⟨r22, hr22, h⟩ := bn_i h
      refine a_ret (v := (some (.int r22))) (M1 := M) (φ1 := φ) (st1 := [.int r22, .int l1]) (j1 := 0) (j2 := 0) (ar_V (As := [.int l2]) (rest := [.int l1]) hB (c_M_bog (bf_G hB) hF hr22) ml_M_102 md_M_bog rc_M_bog (sf_lt hF (by decide)) kk_134 rfl rfl (Nat.le_of_ble_eq_true rfl) rm_M_bestPace_M_bog e_M_bestPace_22) rfl rfl rfl ?_
      refine a_ior hB e_M_bestPace_25 ?_
      refine a_istore_n (ls' := [(1, .int (l1 ||| r22)), (0, .ref 134), (2, .int l2)]) hB e_M_bestPace_26 rfl (Nat.le_of_ble_eq_true rfl) rfl ?_
      refine a_iinc (j := 2) (v := l2 + 1) (ls' := [(2, .int (l2 + 1)), (1, .int (l1 ||| r22)), (0, .ref 134)]) hB e_M_bestPace_27 rfl (inc_1 _) (Nat.le_of_ble_eq_true rfl) rfl ?_
      refine a_goto (tgt := 9) hB e_M_bestPace_30 (by decide) ?_
      refine a_ls [2, 1, 0] (ls' := [(0, .ref 134), (1, .int (l1 ||| r22)), (2, .int (l2 + 1))]) rfl ?_
      exact hr9 _ _ _ h
set_option maxRecDepth 100000 in
theorem t_M_bestPace {G : Gt} {φ : Ph} {B : Bag} (hB : BF G I_M_bestPace B) (hF : SF 148 φ)    {o : Int32} {M9 : Mm}  {M : Mm} (h : f_M_bestPace M = some (o, M9)) : AW G I_M_bestPace B (QM G I_M_bestPace B (.inl (some (.int o))) M9 φ) 0 0 0 [(0, .ref 134)] [] M φ := by
  unfold f_M_bestPace at h
  refine a_aload_n (j := 0) hB e_M_bestPace_0 rfl rfl ?_
  refine a_iconst (v := 0) hB e_M_bestPace_1 ic_0 ?_
  obtain ⟨M2, hM2, h⟩ := bm_i h
  refine a_putI (k := 7) hB e_M_bestPace_2 fw_M_79 (sf_lt hF (by decide)) kk_134 tt_134_7 ?_
  refine a_mem hM2 ?_
  refine a_iconst (v := 0) hB e_M_bestPace_5 ic_0 ?_
  refine a_istore_n (ls' := [(1, .int (0 : Int32)), (0, .ref 134)]) hB e_M_bestPace_6 rfl (Nat.le_of_ble_eq_true rfl) rfl ?_
  refine a_iconst (v := 0) hB e_M_bestPace_7 ic_0 ?_
  refine a_istore_n (ls' := [(2, .int (0 : Int32)), (1, .int (0 : Int32)), (0, .ref 134)]) hB e_M_bestPace_8 rfl (Nat.le_of_ble_eq_true rfl) rfl ?_
  refine a_ls [2, 1, 0] (ls' := [(0, .ref 134), (1, .int (0 : Int32)), (2, .int (0 : Int32))]) rfl ?_
  exact t_M_bestPace_9 hB hF _ _ _ _ h
set_option maxRecDepth 100000 in
theorem c_M_bestPace {G : Gt} (hG : GOK G) {φ : Ph} (hF : SF 148 φ)   {M : Mm}  {o : Int32} {M9 : Mm} (h : f_M_bestPace M = some (o, M9)) : CT G I_M_bestPace [.ref 134] M φ (.inl (some (.int o))) M9 φ :=
  ct_of hG (by decide) (Nat.le_of_ble_eq_true rfl) (fun B hB => t_M_bestPace hB hF  h)
set_option maxRecDepth 100000 in
theorem t_M_inconsistencies_90 {G : Gt} {φ : Ph} {B : Bag} (hB : BF G I_M_inconsistencies B) (hF : SF 148 φ)    {o : Int32} {M9 : Mm} {r64 : Int32 → Int32 → Mm → Option (Int32 × Mm)} (hr64 : ∀ (l1 : Int32) (l2 : Int32) (M : Mm), r64 l1 l2 M = some (o, M9) → AW G I_M_inconsistencies B (QM G I_M_inconsistencies B (.inl (some (.int o))) M9 φ) 0 0 64 [(0, .ref 134), (1, .int l1), (2, .int l2)] [] M φ) {l1 : Int32} {l2 : Int32} {M : Mm} (h : f_M_inconsistencies_90 r64 l1 l2 M = some (o, M9)) : AW G I_M_inconsistencies B (QM G I_M_inconsistencies B (.inl (some (.int o))) M9 φ) 0 0 90 [(0, .ref 134), (1, .int l1), (2, .int l2)] [] M φ := by
  unfold f_M_inconsistencies_90 at h
  refine a_iinc (j := 2) (v := l2 + 1) (ls' := [(2, .int (l2 + 1)), (0, .ref 134), (1, .int l1)]) hB e_M_inconsistencies_90 rfl (inc_1 _) (Nat.le_of_ble_eq_true rfl) rfl ?_
  refine a_goto (tgt := 64) hB e_M_inconsistencies_93 (by decide) ?_
  refine a_ls [1, 2, 0] (ls' := [(0, .ref 134), (1, .int l1), (2, .int (l2 + 1))]) rfl ?_
  exact hr64 _ _ _ h
set_option maxRecDepth 100000 in
theorem t_M_inconsistencies_64 {G : Gt} {φ : Ph} {B : Bag} (hB : BF G I_M_inconsistencies B) (hF : SF 148 φ)    {o : Int32} {M9 : Mm} : ∀ (n : Nat) (l1 : Int32) (l2 : Int32) (M : Mm), f_M_inconsistencies_64 n l1 l2 M = some (o, M9) → AW G I_M_inconsistencies B (QM G I_M_inconsistencies B (.inl (some (.int o))) M9 φ) 0 0 64 [(0, .ref 134), (1, .int l1), (2, .int l2)] [] M φ := by
  intro n
  induction n with
  | zero => intro l1 l2 M h; cases h
  | succ n hr64 =>
    intro l1 l2 M h
    rw [f_M_inconsistencies_64] at h
    refine a_iload_n (j := 2) hB e_M_inconsistencies_64 rfl rfl ?_
    refine a_aload_n (j := 0) hB e_M_inconsistencies_65 rfl rfl ?_
    refine a_getR (r := 135) (k := 0) hB e_M_inconsistencies_66 fl_M_9 (sf_lt hF (by decide)) kk_134 tt_134_0 (hF.1 _ _) ?_
    refine a_iconst (v := 0) hB e_M_inconsistencies_69 ic_0 ?_
    refine a_iald' hB e_M_inconsistencies_70 (sf_lt hF (by decide)) kk_135 ll_135 (by decide) ?_
    refine a_icmp_ge (tgt := 96) hB e_M_inconsistencies_71 (by decide) (fun c => ?_) (fun c => ?_)
    · have h := ip c h
      refine a_iload_n (j := 1) hB e_M_inconsistencies_96 rfl rfl ?_
      cases h
      exact a_iret hB rfl e_M_inconsistencies_97 (by decide) (by decide)
    · have h := iq c h
      refine a_aload_n (j := 0) hB e_M_inconsistencies_74 rfl rfl ?_
      refine a_iload_n (j := 2) hB e_M_inconsistencies_75 rfl rfl ?_
      obtain ⟨r76, hr76, h⟩ := bn_i h
      refine a_ret (v := (some (.int r76))) (M1 := M) (φ1 := φ) (st1 := [.int r76]) (j1 := 0) (j2 := 0) (ar_V (As := [.int l2]) (rest := []) hB (c_M_flat (bf_G hB) hF hr76) ml_M_125 md_M_flat rc_M_flat (sf_lt hF (by decide)) kk_134 rfl rfl (Nat.le_of_ble_eq_true rfl) rm_M_inconsistencies_M_flat e_M_inconsistencies_76) rfl rfl rfl ?_
      refine a_aload_n (j := 0) hB e_M_inconsistencies_79 rfl rfl ?_
      refine a_iload_n (j := 2) hB e_M_inconsistencies_80 rfl rfl ?_
      obtain ⟨r81, hr81, h⟩ := bn_i h
      refine a_ret (v := (some (.int r81))) (M1 := M) (φ1 := φ) (st1 := [.int r81, .int r76]) (j1 := 0) (j2 := 0) (ar_V (As := [.int l2]) (rest := [.int r76]) hB (c_M_slope (bf_G hB) hF hr81) ml_M_116 md_M_slope rc_M_slope (sf_lt hF (by decide)) kk_134 rfl rfl (Nat.le_of_ble_eq_true rfl) rm_M_inconsistencies_M_slope e_M_inconsistencies_81) rfl rfl rfl ?_
      refine a_icmp_le (tgt := 90) hB e_M_inconsistencies_84 (by decide) (fun c => ?_) (fun c => ?_)
      · have h := ip c h
        exact t_M_inconsistencies_90 hB hF hr64 h
      · have h := iq c h
        refine a_iinc (j := 1) (v := l1 + 1) (ls' := [(1, .int (l1 + 1)), (0, .ref 134), (2, .int l2)]) hB e_M_inconsistencies_87 rfl (inc_1 _) (Nat.le_of_ble_eq_true rfl) rfl ?_
        refine a_ls [1, 0, 2] (ls' := [(0, .ref 134), (1, .int (l1 + 1)), (2, .int l2)]) rfl ?_
        exact t_M_inconsistencies_90 hB hF hr64 h
set_option maxRecDepth 100000 in
theorem t_M_inconsistencies_62 {G : Gt} {φ : Ph} {B : Bag} (hB : BF G I_M_inconsistencies B) (hF : SF 148 φ)    {o : Int32} {M9 : Mm} {l1 : Int32} {M : Mm} (h : f_M_inconsistencies_62 l1 M = some (o, M9)) : AW G I_M_inconsistencies B (QM G I_M_inconsistencies B (.inl (some (.int o))) M9 φ) 0 0 62 [(0, .ref 134), (1, .int l1)] [] M φ := by
  unfold f_M_inconsistencies_62 at h
  refine a_iconst (v := 0) hB e_M_inconsistencies_62 ic_0 ?_
  refine a_istore_n (ls' := [(2, .int (0 : Int32)), (0, .ref 134), (1, .int l1)]) hB e_M_inconsistencies_63 rfl (Nat.le_of_ble_eq_true rfl) rfl ?_
  refine a_ls [1, 2, 0] (ls' := [(0, .ref 134), (1, .int l1), (2, .int (0 : Int32))]) rfl ?_
  exact t_M_inconsistencies_64 hB hF _ _ _ _ h
set_option maxRecDepth 100000 in
theorem t_M_inconsistencies_45 {G : Gt} {φ : Ph} {B : Bag} (hB : BF G I_M_inconsistencies B) (hF : SF 148 φ)    {o : Int32} {M9 : Mm} {l1 : Int32} {M : Mm} (h : f_M_inconsistencies_45 l1 M = some (o, M9)) : AW G I_M_inconsistencies B (QM G I_M_inconsistencies B (.inl (some (.int o))) M9 φ) 0 0 45 [(0, .ref 134), (1, .int l1)] [] M φ := by
  unfold f_M_inconsistencies_45 at h
  refine a_aload_n (j := 0) hB e_M_inconsistencies_45 rfl rfl ?_
  refine a_getR (r := 144) (k := 11) hB e_M_inconsistencies_46 fl_M_38 (sf_lt hF (by decide)) kk_134 tt_134_11 (hF.1 _ _) ?_
  refine a_aload_n (j := 0) hB e_M_inconsistencies_49 rfl rfl ?_
  refine a_getR (r := 135) (k := 0) hB e_M_inconsistencies_50 fl_M_9 (sf_lt hF (by decide)) kk_134 tt_134_0 (hF.1 _ _) ?_
  refine a_iconst (v := 0) hB e_M_inconsistencies_53 ic_0 ?_
  refine a_iald' hB e_M_inconsistencies_54 (sf_lt hF (by decide)) kk_135 ll_135 (by decide) ?_
  obtain ⟨c55, h⟩ := chk_i h
  refine a_iald' hB e_M_inconsistencies_55 (sf_lt hF (by decide)) kk_144 ll_144 c55 ?_
  refine a_if_eq (tgt := 62) hB e_M_inconsistencies_56 (by decide) (fun c => ?_) (fun c => ?_)
  · have h := ip c h
    exact t_M_inconsistencies_62 hB hF h
  · have h := iq c h
    refine a_iinc (j := 1) (v := l1 + 1) (ls' := [(1, .int (l1 + 1)), (0, .ref 134)]) hB e_M_inconsistencies_59 rfl (inc_1 _) (Nat.le_of_ble_eq_true rfl) rfl ?_
    refine a_ls [1, 0] (ls' := [(0, .ref 134), (1, .int (l1 + 1))]) rfl ?_
    exact t_M_inconsistencies_62 hB hF h
set_option maxRecDepth 100000 in
theorem t_M_inconsistencies {G : Gt} {φ : Ph} {B : Bag} (hB : BF G I_M_inconsistencies B) (hF : SF 148 φ)    {o : Int32} {M9 : Mm}  {M : Mm} (h : f_M_inconsistencies M = some (o, M9)) : AW G I_M_inconsistencies B (QM G I_M_inconsistencies B (.inl (some (.int o))) M9 φ) 0 0 0 [(0, .ref 134)] [] M φ := by
  unfold f_M_inconsistencies at h
  refine a_aload_n (j := 0) hB e_M_inconsistencies_0 rfl rfl ?_
  refine a_iconst (v := 0) hB e_M_inconsistencies_1 ic_0 ?_
  obtain ⟨M2, hM2, h⟩ := bm_i h
  refine a_putI (k := 7) hB e_M_inconsistencies_2 fw_M_79 (sf_lt hF (by decide)) kk_134 tt_134_7 ?_
  refine a_mem hM2 ?_
  refine a_aload_n (j := 0) hB e_M_inconsistencies_5 rfl rfl ?_
  obtain ⟨M6, hr6, h⟩ := bn_i h
  refine a_ret (v := none) (M1 := M6) (φ1 := φ) (st1 := []) (j1 := 0) (j2 := 0) (ar_V (As := []) (rest := []) hB (c_M_findStations (bf_G hB) hF hr6) ml_M_315 md_M_findStations rc_M_findStations (sf_lt hF (by decide)) kk_134 rfl rfl (Nat.le_of_ble_eq_true rfl) rm_M_inconsistencies_M_findStations e_M_inconsistencies_6) rfl rfl rfl ?_
  refine a_iconst (v := 0) hB e_M_inconsistencies_9 ic_0 ?_
  refine a_istore_n (ls' := [(1, .int (0 : Int32)), (0, .ref 134)]) hB e_M_inconsistencies_10 rfl (Nat.le_of_ble_eq_true rfl) rfl ?_
  refine a_aload_n (j := 1) hB e_M_inconsistencies_11 rfl rfl ?_
  refine a_getR (r := 135) (k := 0) hB e_M_inconsistencies_12 fl_M_9 (sf_lt hF (by decide)) kk_134 tt_134_0 (hF.1 _ _) ?_
  refine a_iconst (v := 3) hB e_M_inconsistencies_15 ic_3 ?_
  refine a_iald' hB e_M_inconsistencies_16 (sf_lt hF (by decide)) kk_135 ll_135 (by decide) ?_
  refine a_iconst (v := 1) hB e_M_inconsistencies_17 ic_1 ?_
  refine a_icmp_ne (tgt := 62) hB e_M_inconsistencies_18 (by decide) (fun c => ?_) (fun c => ?_)
  · have h := iq c h
    refine a_ls [1, 0] (ls' := [(0, .ref 134), (1, .int (0 : Int32))]) rfl ?_
    exact t_M_inconsistencies_62 hB hF h
  · have h := ip c h
    refine a_aload_n (j := 1) hB e_M_inconsistencies_21 rfl rfl ?_
    obtain ⟨r22, hr22, h⟩ := bn_i h
    refine a_ret (v := (some (.int r22))) (M1 := M6) (φ1 := φ) (st1 := [.int r22]) (j1 := 0) (j2 := 0) (ar_V (As := []) (rest := []) hB (c_M_around (bf_G hB) hF hr22) ml_M_138 md_M_around rc_M_around (sf_lt hF (by decide)) kk_134 rfl rfl (Nat.le_of_ble_eq_true rfl) rm_M_inconsistencies_M_around e_M_inconsistencies_22) rfl rfl rfl ?_
    refine a_if_le (tgt := 62) hB e_M_inconsistencies_25 (by decide) (fun c => ?_) (fun c => ?_)
    · have h := ip c h
      refine a_ls [1, 0] (ls' := [(0, .ref 134), (1, .int (0 : Int32))]) rfl ?_
      exact t_M_inconsistencies_62 hB hF h
    · have h := iq c h
      refine a_aload_n (j := 1) hB e_M_inconsistencies_28 rfl rfl ?_
      refine a_getR (r := 143) (k := 10) hB e_M_inconsistencies_29 fl_M_35 (sf_lt hF (by decide)) kk_134 tt_134_10 (hF.1 _ _) ?_
      refine a_aload_n (j := 1) hB e_M_inconsistencies_32 rfl rfl ?_
      refine a_getR (r := 135) (k := 0) hB e_M_inconsistencies_33 fl_M_9 (sf_lt hF (by decide)) kk_134 tt_134_0 (hF.1 _ _) ?_
      refine a_iconst (v := 0) hB e_M_inconsistencies_36 ic_0 ?_
      refine a_iald' hB e_M_inconsistencies_37 (sf_lt hF (by decide)) kk_135 ll_135 (by decide) ?_
      obtain ⟨c38, h⟩ := chk_i h
      refine a_iald' hB e_M_inconsistencies_38 (sf_lt hF (by decide)) kk_143 ll_143 c38 ?_
      refine a_if_eq (tgt := 45) hB e_M_inconsistencies_39 (by decide) (fun c => ?_) (fun c => ?_)
      · have h := ip c h
        refine a_ls [1, 0] (ls' := [(0, .ref 134), (1, .int (0 : Int32))]) rfl ?_
        exact t_M_inconsistencies_45 hB hF h
      · have h := iq c h
        refine a_iinc (j := 0) (v := (0 : Int32) + 1) (ls' := [(1, .int ((0 : Int32) + 1)), (0, .ref 134)]) hB e_M_inconsistencies_42 rfl (inc_1 _) (Nat.le_of_ble_eq_true rfl) rfl ?_
        refine a_ls [1, 0] (ls' := [(0, .ref 134), (1, .int ((0 : Int32) + 1))]) rfl ?_
        exact t_M_inconsistencies_45 hB hF h
set_option maxRecDepth 100000 in
theorem c_M_inconsistencies {G : Gt} (hG : GOK G) {φ : Ph} (hF : SF 148 φ)   {M : Mm}  {o : Int32} {M9 : Mm} (h : f_M_inconsistencies M = some (o, M9)) : CT G I_M_inconsistencies [.ref 134] M φ (.inl (some (.int o))) M9 φ :=
  ct_of hG (by decide) (Nat.le_of_ble_eq_true rfl) (fun B hB => t_M_inconsistencies hB hF  h)
set_option maxRecDepth 100000 in
theorem t_M_meanLeg_31 {G : Gt} {φ : Ph} {B : Bag} (hB : BF G I_M_meanLeg B) (hF : SF 148 φ)    {o : UInt64} {M9 : Mm} {t0 : UInt64} {M : Mm} (h : f_M_meanLeg_31 t0 M = some (o, M9)) : AW G I_M_meanLeg B (QM G I_M_meanLeg B (.inl (some (.double o))) M9 φ) 0 0 31 [] [.double t0] M φ := by
  unfold f_M_meanLeg_31 at h
  cases h
  exact a_dret hB rfl e_M_meanLeg_31 (by decide) (by decide)
set_option maxRecDepth 100000 in
theorem t_M_meanLeg {G : Gt} {φ : Ph} {B : Bag} (hB : BF G I_M_meanLeg B) (hF : SF 148 φ)    {o : UInt64} {M9 : Mm}  {M : Mm} (h : f_M_meanLeg M = some (o, M9)) : AW G I_M_meanLeg B (QM G I_M_meanLeg B (.inl (some (.double o))) M9 φ) 0 0 0 [(0, .ref 134)] [] M φ := by
  unfold f_M_meanLeg at h
  refine a_aload_n (j := 0) hB e_M_meanLeg_0 rfl rfl ?_
  refine a_iconst (v := 0) hB e_M_meanLeg_1 ic_0 ?_
  obtain ⟨M2, hM2, h⟩ := bm_i h
  refine a_putI (k := 7) hB e_M_meanLeg_2 fw_M_79 (sf_lt hF (by decide)) kk_134 tt_134_7 ?_
  refine a_mem hM2 ?_
  refine a_aload_n (j := 0) hB e_M_meanLeg_5 rfl rfl ?_
  refine a_getR (r := 135) (k := 0) hB e_M_meanLeg_6 fl_M_9 (sf_lt hF (by decide)) kk_134 tt_134_0 (hF.1 _ _) ?_
  refine a_iconst (v := 0) hB e_M_meanLeg_9 ic_0 ?_
  refine a_iald' hB e_M_meanLeg_10 (sf_lt hF (by decide)) kk_135 ll_135 (by decide) ?_
  refine a_if_ne (tgt := 18) hB e_M_meanLeg_11 (by decide) (fun c => ?_) (fun c => ?_)
  · have h := iq c h
    refine a_aload_n (j := 0) hB e_M_meanLeg_18 rfl rfl ?_
    obtain ⟨r19, M19, hr19, h⟩ := bn2_i h
    refine a_ret (v := (some (.int r19))) (M1 := M19) (φ1 := φ) (st1 := [.int r19]) (j1 := 0) (j2 := 0) (ar_V (As := []) (rest := []) hB (c_M_perimeterNow (bf_G hB) hF hr19) ml_M_318 md_M_perimeterNow rc_M_perimeterNow (sf_lt hF (by decide)) kk_134 rfl rfl (Nat.le_of_ble_eq_true rfl) rm_M_meanLeg_M_perimeterNow e_M_meanLeg_19) rfl rfl rfl ?_
    refine a_i2d hB e_M_meanLeg_22 ?_
    refine a_aload_n (j := 0) hB e_M_meanLeg_23 rfl rfl ?_
    refine a_getR (r := 135) (k := 0) hB e_M_meanLeg_24 fl_M_9 (sf_lt hF (by decide)) kk_134 tt_134_0 (hF.1 _ _) ?_
    refine a_iconst (v := 0) hB e_M_meanLeg_27 ic_0 ?_
    refine a_iald' hB e_M_meanLeg_28 (sf_lt hF (by decide)) kk_135 ll_135 (by decide) ?_
    refine a_i2d hB e_M_meanLeg_29 ?_
    obtain ⟨c30, h⟩ := chkC_i h
    refine a_ddiv hB e_M_meanLeg_30 c30 ?_
    refine a_ls [] (ls' := []) rfl ?_
    exact t_M_meanLeg_31 hB hF h
  · have h := ip c h
    refine a_dconst0 hB e_M_meanLeg_14 ?_
    refine a_goto (tgt := 31) hB e_M_meanLeg_15 (by decide) ?_
    refine a_ls [] (ls' := []) rfl ?_
    exact t_M_meanLeg_31 hB hF h
set_option maxRecDepth 100000 in
theorem c_M_meanLeg {G : Gt} (hG : GOK G) {φ : Ph} (hF : SF 148 φ)   {M : Mm}  {o : UInt64} {M9 : Mm} (h : f_M_meanLeg M = some (o, M9)) : CT G I_M_meanLeg [.ref 134] M φ (.inl (some (.double o))) M9 φ :=
  ct_of hG (by decide) (Nat.le_of_ble_eq_true rfl) (fun B hB => t_M_meanLeg hB hF  h)
