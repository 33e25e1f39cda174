/-! the functions are what the machine does -/
set_option maxRecDepth 100000 in
theorem t_M_bogShare_26 {G : Gt} {φ : Ph} {B : Bag} (hB : BF G I_M_bogShare B) (hF : SF 148 φ)    {o : UInt32} {M9 : Mm} {t0 : UInt32} {M : Mm} (h : f_M_bogShare_26 t0 M = some (o, M9)) : AW G I_M_bogShare B (QM G I_M_bogShare B (.inl (some (.float o))) M9 φ) 0 0 26 [] [.float t0] M φ := by
  unfold f_M_bogShare_26 at h
  cases h
  exact a_fret hB rfl e_M_bogShare_26 (by decide) (by decide)
set_option maxRecDepth 100000 in
theorem t_M_bogShare {G : Gt} {φ : Ph} {B : Bag} (hB : BF G I_M_bogShare B) (hF : SF 148 φ)    {o : UInt32} {M9 : Mm}  {M : Mm} (h : f_M_bogShare M = some (o, M9)) : AW G I_M_bogShare B (QM G I_M_bogShare B (.inl (some (.float o))) M9 φ) 0 0 0 [(0, .ref 134)] [] M φ := by
  unfold f_M_bogShare at h
  refine a_aload_n (j := 0) hB e_M_bogShare_0 rfl rfl ?_
  refine a_iconst (v := 0) hB e_M_bogShare_1 ic_0 ?_
  obtain ⟨M2, hM2, h⟩ := bm_i h
  refine a_putI (k := 7) hB e_M_bogShare_2 fw_M_79 (sf_lt hF (by decide)) kk_134 tt_134_7 ?_
  refine a_mem hM2 ?_
  refine a_aload_n (j := 0) hB e_M_bogShare_5 rfl rfl ?_
  obtain ⟨r6, M6, hr6, h⟩ := bn2_i h
  refine a_ret (v := (some (.int r6))) (M1 := M6) (φ1 := φ) (st1 := [.int r6]) (j1 := 0) (j2 := 0) (ar_V (As := []) (rest := []) hB (c_M_perimeterNow (bf_G hB) hF hr6) ml_M_318 md_M_perimeterNow rc_M_perimeterNow (sf_lt hF (by decide)) kk_134 rfl rfl (Nat.le_of_ble_eq_true rfl) rm_M_bogShare_M_perimeterNow e_M_bogShare_6) rfl rfl rfl ?_
  refine a_istore_n (ls' := [(1, .int r6), (0, .ref 134)]) hB e_M_bogShare_9 rfl (Nat.le_of_ble_eq_true rfl) rfl ?_
  refine a_iload_n (j := 0) hB e_M_bogShare_10 rfl rfl ?_
  refine a_if_ne (tgt := 18) hB e_M_bogShare_11 (by decide) (fun c => ?_) (fun c => ?_)
  · have h := iq c h
    refine a_aload_n (j := 1) hB e_M_bogShare_18 rfl rfl ?_
    obtain ⟨r19, hr19, h⟩ := bn_i h
    refine a_ret (v := (some (.int r19))) (M1 := M6) (φ1 := φ) (st1 := [.int r19]) (j1 := 0) (j2 := 0) (ar_V (As := []) (rest := []) hB (c_M_onBogs (bf_G hB) hF hr19) ml_M_331 md_M_onBogs rc_M_onBogs (sf_lt hF (by decide)) kk_134 rfl rfl (Nat.le_of_ble_eq_true rfl) rm_M_bogShare_M_onBogs e_M_bogShare_19) rfl rfl rfl ?_
    refine a_i2f hB e_M_bogShare_22 ?_
    refine a_iload_n (j := 0) hB e_M_bogShare_23 rfl rfl ?_
    refine a_i2f hB e_M_bogShare_24 ?_
    obtain ⟨c25, h⟩ := chkC_i h
    refine a_fdiv hB e_M_bogShare_25 c25 ?_
    refine a_ls [] (ls' := []) rfl ?_
    exact t_M_bogShare_26 hB hF h
  · have h := ip c h
    refine a_fconst0 hB e_M_bogShare_14 ?_
    refine a_goto (tgt := 26) hB e_M_bogShare_15 (by decide) ?_
    refine a_ls [] (ls' := []) rfl ?_
    exact t_M_bogShare_26 hB hF h
set_option maxRecDepth 100000 in
theorem c_M_bogShare {G : Gt} (hG : GOK G) {φ : Ph} (hF : SF 148 φ)   {M : Mm}  {o : UInt32} {M9 : Mm} (h : f_M_bogShare M = some (o, M9)) : CT G I_M_bogShare [.ref 134] M φ (.inl (some (.float o))) M9 φ :=
  ct_of hG (by decide) (Nat.le_of_ble_eq_true rfl) (fun B hB => t_M_bogShare hB hF  h)
set_option maxRecDepth 100000 in
theorem t_M_out {G : Gt} {φ : Ph} {B : Bag} (hB : BF G I_M_out B) (hF : SF 148 φ)    {M9 : Mm} {l1 : Int32} {M : Mm} (h : f_M_out l1 M = some M9) : AW G I_M_out B (QM G I_M_out B (.inl none) M9 φ) 0 0 0 [(0, .ref 134), (1, .int l1)] [] M φ := by
  unfold f_M_out at h
  refine a_aload_n (j := 0) hB e_M_out_0 rfl rfl ?_
  refine a_getR (r := 142) (k := 9) hB e_M_out_1 fl_M_32 (sf_lt hF (by decide)) kk_134 tt_134_9 (hF.1 _ _) ?_
  refine a_aload_n (j := 0) hB e_M_out_4 rfl rfl ?_
  refine a_getI (k := 15) hB e_M_out_5 fl_M_342 (sf_lt hF (by decide)) kk_134 tt_134_15 ?_
  refine a_iload_n (j := 1) hB e_M_out_8 rfl rfl ?_
  obtain ⟨c9, h⟩ := chk_i h
  obtain ⟨M9, hM9, h⟩ := bm_i h
  refine a_iast' hB e_M_out_9 (sf_lt hF (by decide)) kk_142 ll_142 c9 ?_
  refine a_mem hM9 ?_
  refine a_aload_n (j := 0) hB e_M_out_10 rfl rfl ?_
  refine a_dup hB e_M_out_11 rfl ?_
  refine a_getI (k := 15) hB e_M_out_12 fl_M_342 (sf_lt hF (by decide)) kk_134 tt_134_15 ?_
  refine a_iconst (v := 1) hB e_M_out_15 ic_1 ?_
  refine a_iadd hB e_M_out_16 ?_
  obtain ⟨M17, hM17, h⟩ := bm_i h
  refine a_putI (k := 15) hB e_M_out_17 fw_M_342 (sf_lt hF (by decide)) kk_134 tt_134_15 ?_
  refine a_mem hM17 ?_
  cases h
  exact a_vret hB rfl e_M_out_20 (by decide) (by decide)
set_option maxRecDepth 100000 in
theorem c_M_out {G : Gt} (hG : GOK G) {φ : Ph} (hF : SF 148 φ)   {M : Mm} {l1 : Int32} {M9 : Mm} (h : f_M_out l1 M = some M9) : CT G I_M_out [.ref 134, .int l1] M φ (.inl none) M9 φ :=
  ct_of hG (by decide) (Nat.le_of_ble_eq_true rfl) (fun B hB => t_M_out hB hF  h)
set_option maxRecDepth 100000 in
theorem t_M_outNumber_33 {G : Gt} {φ : Ph} {B : Bag} (hB : BF G I_M_outNumber B) (hF : SF 148 φ)    {M9 : Mm} : ∀ (n : Nat) (l2 : Int32) (l3 : Int32) (M : Mm), f_M_outNumber_33 n l2 l3 M = some M9 → AW G I_M_outNumber B (QM G I_M_outNumber B (.inl none) M9 φ) 0 0 33 [(0, .ref 134), (2, .int l2), (3, .int l3)] [] M φ := by
  intro n
  induction n with
  | zero => intro l2 l3 M h; cases h
  | succ n hr33 =>
    intro l2 l3 M h
    rw [f_M_outNumber_33] at h
    refine a_iload_n (j := 2) hB e_M_outNumber_33 rfl rfl ?_
    refine a_if_le (tgt := 58) hB e_M_outNumber_34 (by decide) (fun c => ?_) (fun c => ?_)
    · have h := ip c h
      cases h
      exact a_vret hB rfl e_M_outNumber_58 (by decide) (by decide)
    · have h := iq c h
      refine a_aload_n (j := 0) hB e_M_outNumber_37 rfl rfl ?_
      refine a_bipush (v := 48) hB e_M_outNumber_38 bp_48 ?_
      refine a_iload_n (j := 1) hB e_M_outNumber_40 rfl rfl ?_
      refine a_iload_n (j := 2) hB e_M_outNumber_41 rfl rfl ?_
      obtain ⟨c42, h⟩ := chk_i h
      refine a_idiv hB e_M_outNumber_42 c42 ?_
      refine a_bipush (v := 10) hB e_M_outNumber_43 bp_10 ?_
      refine a_irem hB e_M_outNumber_45 (by decide) ?_
      refine a_iadd hB e_M_outNumber_46 ?_
      obtain ⟨M47, hr47, h⟩ := bn_i h
      refine a_ret (v := none) (M1 := M47) (φ1 := φ) (st1 := []) (j1 := 0) (j2 := 0) (ar_V (As := [.int ((48 : Int32) + ((l2 / l3) - (l2 / l3) / (10 : Int32) * (10 : Int32)))]) (rest := []) hB (c_M_out (bf_G hB) hF hr47) ml_M_345 md_M_out rc_M_out (sf_lt hF (by decide)) kk_134 rfl rfl (Nat.le_of_ble_eq_true rfl) rm_M_outNumber_M_out e_M_outNumber_47) rfl rfl rfl ?_
      refine a_iload_n (j := 2) hB e_M_outNumber_50 rfl rfl ?_
      refine a_bipush (v := 10) hB e_M_outNumber_51 bp_10 ?_
      refine a_idiv hB e_M_outNumber_53 (by decide) ?_
      refine a_istore_n (ls' := [(3, .int (l3 / (10 : Int32))), (0, .ref 134), (2, .int l2)]) hB e_M_outNumber_54 rfl (Nat.le_of_ble_eq_true rfl) rfl ?_
      refine a_goto (tgt := 33) hB e_M_outNumber_55 (by decide) ?_
      refine a_ls [1, 2, 0] (ls' := [(0, .ref 134), (2, .int l2), (3, .int (l3 / (10 : Int32)))]) rfl ?_
      exact hr33 _ _ _ h
set_option maxRecDepth 100000 in
theorem t_M_outNumber_17 {G : Gt} {φ : Ph} {B : Bag} (hB : BF G I_M_outNumber B) (hF : SF 148 φ)    {M9 : Mm} : ∀ (n : Nat) (l2 : Int32) (l3 : Int32) (M : Mm), f_M_outNumber_17 n l2 l3 M = some M9 → AW G I_M_outNumber B (QM G I_M_outNumber B (.inl none) M9 φ) 0 0 17 [(0, .ref 134), (2, .int l2), (3, .int l3)] [] M φ := by
  intro n
  induction n with
  | zero => intro l2 l3 M h; cases h
  | succ n hr17 =>
    intro l2 l3 M h
    rw [f_M_outNumber_17] at h
    refine a_iload_n (j := 1) hB e_M_outNumber_17 rfl rfl ?_
    refine a_iload_n (j := 2) hB e_M_outNumber_18 rfl rfl ?_
    obtain ⟨c19, h⟩ := chk_i h
    refine a_idiv hB e_M_outNumber_19 c19 ?_
    refine a_bipush (v := 9) hB e_M_outNumber_20 bp_9 ?_
    refine a_icmp_le (tgt := 33) hB e_M_outNumber_22 (by decide) (fun c => ?_) (fun c => ?_)
    · have h := ip c h
      exact t_M_outNumber_33 hB hF _ _ _ _ h
    · have h := iq c h
      refine a_iload_n (j := 2) hB e_M_outNumber_25 rfl rfl ?_
      refine a_bipush (v := 10) hB e_M_outNumber_26 bp_10 ?_
      refine a_imul hB e_M_outNumber_28 ?_
      refine a_istore_n (ls' := [(3, .int (l3 * (10 : Int32))), (0, .ref 134), (2, .int l2)]) hB e_M_outNumber_29 rfl (Nat.le_of_ble_eq_true rfl) rfl ?_
      refine a_goto (tgt := 17) hB e_M_outNumber_30 (by decide) ?_
      refine a_ls [1, 2, 0] (ls' := [(0, .ref 134), (2, .int l2), (3, .int (l3 * (10 : Int32)))]) rfl ?_
      exact hr17 _ _ _ h
set_option maxRecDepth 100000 in
theorem t_M_outNumber_10 {G : Gt} {φ : Ph} {B : Bag} (hB : BF G I_M_outNumber B) (hF : SF 148 φ)    {M9 : Mm} {l1 : Int32} {M : Mm} (h : f_M_outNumber_10 l1 M = some M9) : AW G I_M_outNumber B (QM G I_M_outNumber B (.inl none) M9 φ) 0 0 10 [(0, .ref 134), (1, .int l1)] [] M φ := by
  unfold f_M_outNumber_10 at h
  refine a_iload_n (j := 1) hB e_M_outNumber_10 rfl rfl ?_
  refine a_abs hB ml_M_348 ms_abs ini_math mc_abs (by decide) (Nat.le_of_ble_eq_true rfl) (by decide) (by decide) e_M_outNumber_11 ?_
  refine a_istore_n (ls' := [(2, .int (if 0 ≤ l1 then l1 else 0 - l1)), (0, .ref 134), (1, .int l1)]) hB e_M_outNumber_14 rfl (Nat.le_of_ble_eq_true rfl) rfl ?_
  refine a_iconst (v := 1) hB e_M_outNumber_15 ic_1 ?_
  refine a_istore_n (ls' := [(3, .int (1 : Int32)), (2, .int (if 0 ≤ l1 then l1 else 0 - l1)), (0, .ref 134), (1, .int l1)]) hB e_M_outNumber_16 rfl (Nat.le_of_ble_eq_true rfl) rfl ?_
  refine a_ls [2, 1, 0] (ls' := [(0, .ref 134), (2, .int (if 0 ≤ l1 then l1 else 0 - l1)), (3, .int (1 : Int32))]) rfl ?_
  exact t_M_outNumber_17 hB hF _ _ _ _ h
set_option maxRecDepth 100000 in
theorem t_M_outNumber {G : Gt} {φ : Ph} {B : Bag} (hB : BF G I_M_outNumber B) (hF : SF 148 φ)    {M9 : Mm} {l1 : Int32} {M : Mm} (h : f_M_outNumber l1 M = some M9) : AW G I_M_outNumber B (QM G I_M_outNumber B (.inl none) M9 φ) 0 0 0 [(0, .ref 134), (1, .int l1)] [] M φ := by
  unfold f_M_outNumber at h
  refine a_iload_n (j := 1) hB e_M_outNumber_0 rfl rfl ?_
  refine a_if_ge (tgt := 10) hB e_M_outNumber_1 (by decide) (fun c => ?_) (fun c => ?_)
  · have h := ip c h
    exact t_M_outNumber_10 hB hF h
  · have h := iq c h
    refine a_aload_n (j := 0) hB e_M_outNumber_4 rfl rfl ?_
    refine a_bipush (v := 45) hB e_M_outNumber_5 bp_45 ?_
    obtain ⟨M7, hr7, h⟩ := bn_i h
    refine a_ret (v := none) (M1 := M7) (φ1 := φ) (st1 := []) (j1 := 0) (j2 := 0) (ar_V (As := [.int (45 : Int32)]) (rest := []) hB (c_M_out (bf_G hB) hF hr7) ml_M_345 md_M_out rc_M_out (sf_lt hF (by decide)) kk_134 rfl rfl (Nat.le_of_ble_eq_true rfl) rm_M_outNumber_M_out e_M_outNumber_7) rfl rfl rfl ?_
    exact t_M_outNumber_10 hB hF h
set_option maxRecDepth 100000 in
theorem c_M_outNumber {G : Gt} (hG : GOK G) {φ : Ph} (hF : SF 148 φ)   {M : Mm} {l1 : Int32} {M9 : Mm} (h : f_M_outNumber l1 M = some M9) : CT G I_M_outNumber [.ref 134, .int l1] M φ (.inl none) M9 φ :=
  ct_of hG (by decide) (Nat.le_of_ble_eq_true rfl) (fun B hB => t_M_outNumber hB hF  h)
set_option maxRecDepth 100000 in
theorem t_M_writeStations_36 {G : Gt} {φ : Ph} {B : Bag} (hB : BF G I_M_writeStations B) (hF : SF 148 φ)    {o : Int32} {M9 : Mm} {r16 : Int32 → Mm → Option (Int32 × Mm)} (hr16 : ∀ (l1 : Int32) (M : Mm), r16 l1 M = some (o, M9) → AW G I_M_writeStations B (QM G I_M_writeStations B (.inl (some (.int o))) M9 φ) 0 0 16 [(0, .ref 134), (1, .int l1)] [] M φ) {l1 : Int32} {M : Mm} (h : f_M_writeStations_36 r16 l1 M = some (o, M9)) : AW G I_M_writeStations B (QM G I_M_writeStations B (.inl (some (.int o))) M9 φ) 0 0 36 [(0, .ref 134), (1, .int l1)] [] M φ := by
  unfold f_M_writeStations_36 at h
  refine a_aload_n (j := 0) hB e_M_writeStations_36 rfl rfl ?_
  refine a_aload_n (j := 0) hB e_M_writeStations_37 rfl rfl ?_
  refine a_getR (r := 143) (k := 10) hB e_M_writeStations_38 fl_M_35 (sf_lt hF (by decide)) kk_134 tt_134_10 (hF.1 _ _) ?_
  refine a_iload_n (j := 1) hB e_M_writeStations_41 rfl rfl ?_
  obtain ⟨c42, h⟩ := chk_i h
  refine a_iald' hB e_M_writeStations_42 (sf_lt hF (by decide)) kk_143 ll_143 c42 ?_
  obtain ⟨M43, hr43, h⟩ := bn_i h
  refine a_ret (v := none) (M1 := M43) (φ1 := φ) (st1 := []) (j1 := 0) (j2 := 0) (ar_V (As := [.int (M 143 (ix l1))]) (rest := []) hB (c_M_outNumber (bf_G hB) hF hr43) ml_M_350 md_M_outNumber rc_M_outNumber (sf_lt hF (by decide)) kk_134 rfl rfl (Nat.le_of_ble_eq_true rfl) rm_M_writeStations_M_outNumber e_M_writeStations_43) rfl rfl rfl ?_
  refine a_aload_n (j := 0) hB e_M_writeStations_46 rfl rfl ?_
  refine a_bipush (v := 44) hB e_M_writeStations_47 bp_44 ?_
  obtain ⟨M49, hr49, h⟩ := bn_i h
  refine a_ret (v := none) (M1 := M49) (φ1 := φ) (st1 := []) (j1 := 0) (j2 := 0) (ar_V (As := [.int (44 : Int32)]) (rest := []) hB (c_M_out (bf_G hB) hF hr49) ml_M_345 md_M_out rc_M_out (sf_lt hF (by decide)) kk_134 rfl rfl (Nat.le_of_ble_eq_true rfl) rm_M_writeStations_M_out e_M_writeStations_49) rfl rfl rfl ?_
  refine a_aload_n (j := 0) hB e_M_writeStations_52 rfl rfl ?_
  refine a_aload_n (j := 0) hB e_M_writeStations_53 rfl rfl ?_
  refine a_getR (r := 144) (k := 11) hB e_M_writeStations_54 fl_M_38 (sf_lt hF (by decide)) kk_134 tt_134_11 (hF.1 _ _) ?_
  refine a_iload_n (j := 1) hB e_M_writeStations_57 rfl rfl ?_
  refine a_iald' hB e_M_writeStations_58 (sf_lt hF (by decide)) kk_144 ll_144 c42 ?_
  obtain ⟨M59, hr59, h⟩ := bn_i h
  refine a_ret (v := none) (M1 := M59) (φ1 := φ) (st1 := []) (j1 := 0) (j2 := 0) (ar_V (As := [.int (M49 144 (ix l1))]) (rest := []) hB (c_M_outNumber (bf_G hB) hF hr59) ml_M_350 md_M_outNumber rc_M_outNumber (sf_lt hF (by decide)) kk_134 rfl rfl (Nat.le_of_ble_eq_true rfl) rm_M_writeStations_M_outNumber e_M_writeStations_59) rfl rfl rfl ?_
  refine a_iinc (j := 1) (v := l1 + 1) (ls' := [(1, .int (l1 + 1)), (0, .ref 134)]) hB e_M_writeStations_62 rfl (inc_1 _) (Nat.le_of_ble_eq_true rfl) rfl ?_
  refine a_goto (tgt := 16) hB e_M_writeStations_65 (by decide) ?_
  refine a_ls [1, 0] (ls' := [(0, .ref 134), (1, .int (l1 + 1))]) rfl ?_
  exact hr16 _ _ h
set_option maxRecDepth 100000 in
theorem t_M_writeStations_16 {G : Gt} {φ : Ph} {B : Bag} (hB : BF G I_M_writeStations B) (hF : SF 148 φ)    {o : Int32} {M9 : Mm} : ∀ (n : Nat) (l1 : Int32) (M : Mm), f_M_writeStations_16 n l1 M = some (o, M9) → AW G I_M_writeStations B (QM G I_M_writeStations B (.inl (some (.int o))) M9 φ) 0 0 16 [(0, .ref 134), (1, .int l1)] [] M φ := by
  intro n
  induction n with
  | zero => intro l1 M h; cases h
  | succ n hr16 =>
    intro l1 M h
    rw [f_M_writeStations_16] at h
    refine a_iload_n (j := 1) hB e_M_writeStations_16 rfl rfl ?_
    refine a_aload_n (j := 0) hB e_M_writeStations_17 rfl rfl ?_
    refine a_getR (r := 135) (k := 0) hB e_M_writeStations_18 fl_M_9 (sf_lt hF (by decide)) kk_134 tt_134_0 (hF.1 _ _) ?_
    refine a_iconst (v := 0) hB e_M_writeStations_21 ic_0 ?_
    refine a_iald' hB e_M_writeStations_22 (sf_lt hF (by decide)) kk_135 ll_135 (by decide) ?_
    refine a_icmp_gt (tgt := 68) hB e_M_writeStations_23 (by decide) (fun c => ?_) (fun c => ?_)
    · have h := ip c h
      refine a_aload_n (j := 0) hB e_M_writeStations_68 rfl rfl ?_
      refine a_getI (k := 15) hB e_M_writeStations_69 fl_M_342 (sf_lt hF (by decide)) kk_134 tt_134_15 ?_
      cases h
      exact a_iret hB rfl e_M_writeStations_72 (by decide) (by decide)
    · have h := iq c h
      refine a_iload_n (j := 1) hB e_M_writeStations_26 rfl rfl ?_
      refine a_if_le (tgt := 36) hB e_M_writeStations_27 (by decide) (fun c => ?_) (fun c => ?_)
      · have h := ip c h
        exact t_M_writeStations_36 hB hF hr16 h
      · have h := iq c h
        refine a_aload_n (j := 0) hB e_M_writeStations_30 rfl rfl ?_
        refine a_bipush (v := 32) hB e_M_writeStations_31 bp_32 ?_
        obtain ⟨M33, hr33, h⟩ := bn_i h
        refine a_ret (v := none) (M1 := M33) (φ1 := φ) (st1 := []) (j1 := 0) (j2 := 0) (ar_V (As := [.int (32 : Int32)]) (rest := []) hB (c_M_out (bf_G hB) hF hr33) ml_M_345 md_M_out rc_M_out (sf_lt hF (by decide)) kk_134 rfl rfl (Nat.le_of_ble_eq_true rfl) rm_M_writeStations_M_out e_M_writeStations_33) rfl rfl rfl ?_
        exact t_M_writeStations_36 hB hF hr16 h
set_option maxRecDepth 100000 in
theorem t_M_writeStations {G : Gt} {φ : Ph} {B : Bag} (hB : BF G I_M_writeStations B) (hF : SF 148 φ)    {o : Int32} {M9 : Mm}  {M : Mm} (h : f_M_writeStations M = some (o, M9)) : AW G I_M_writeStations B (QM G I_M_writeStations B (.inl (some (.int o))) M9 φ) 0 0 0 [(0, .ref 134)] [] M φ := by
  unfold f_M_writeStations at h
  refine a_aload_n (j := 0) hB e_M_writeStations_0 rfl rfl ?_
  refine a_iconst (v := 0) hB e_M_writeStations_1 ic_0 ?_
  obtain ⟨M2, hM2, h⟩ := bm_i h
  refine a_putI (k := 7) hB e_M_writeStations_2 fw_M_79 (sf_lt hF (by decide)) kk_134 tt_134_7 ?_
  refine a_mem hM2 ?_
  refine a_aload_n (j := 0) hB e_M_writeStations_5 rfl rfl ?_
  obtain ⟨M6, hr6, h⟩ := bn_i h
  refine a_ret (v := none) (M1 := M6) (φ1 := φ) (st1 := []) (j1 := 0) (j2 := 0) (ar_V (As := []) (rest := []) hB (c_M_findStations (bf_G hB) hF hr6) ml_M_315 md_M_findStations rc_M_findStations (sf_lt hF (by decide)) kk_134 rfl rfl (Nat.le_of_ble_eq_true rfl) rm_M_writeStations_M_findStations e_M_writeStations_6) rfl rfl rfl ?_
  refine a_aload_n (j := 0) hB e_M_writeStations_9 rfl rfl ?_
  refine a_iconst (v := 0) hB e_M_writeStations_10 ic_0 ?_
  obtain ⟨M11, hM11, h⟩ := bm_i h
  refine a_putI (k := 15) hB e_M_writeStations_11 fw_M_342 (sf_lt hF (by decide)) kk_134 tt_134_15 ?_
  refine a_mem hM11 ?_
  refine a_iconst (v := 0) hB e_M_writeStations_14 ic_0 ?_
  refine a_istore_n (ls' := [(1, .int (0 : Int32)), (0, .ref 134)]) hB e_M_writeStations_15 rfl (Nat.le_of_ble_eq_true rfl) rfl ?_
  refine a_ls [1, 0] (ls' := [(0, .ref 134), (1, .int (0 : Int32))]) rfl ?_
  exact t_M_writeStations_16 hB hF _ _ _ h
set_option maxRecDepth 100000 in
theorem c_M_writeStations {G : Gt} (hG : GOK G) {φ : Ph} (hF : SF 148 φ)   {M : Mm}  {o : Int32} {M9 : Mm} (h : f_M_writeStations M = some (o, M9)) : CT G I_M_writeStations [.ref 134] M φ (.inl (some (.int o))) M9 φ :=
  ct_of hG (by decide) (Nat.le_of_ble_eq_true rfl) (fun B hB => t_M_writeStations hB hF  h)
set_option maxRecDepth 100000 in
theorem t_M_outputByte_29 {G : Gt} {φ : Ph} {B : Bag} (hB : BF G I_M_outputByte B) (hF : SF 148 φ)    {o : Int32} {M9 : Mm} {t0 : Int32} {M : Mm} (h : f_M_outputByte_29 t0 M = some (o, M9)) : AW G I_M_outputByte B (QM G I_M_outputByte B (.inl (some (.int o))) M9 φ) 0 0 29 [] [.int t0] M φ := by
  unfold f_M_outputByte_29 at h
  cases h
  exact a_iret hB rfl e_M_outputByte_29 (by decide) (by decide)
set_option maxRecDepth 100000 in
theorem t_M_outputByte {G : Gt} {φ : Ph} {B : Bag} (hB : BF G I_M_outputByte B) (hF : SF 148 φ)    {o : Int32} {M9 : Mm} {l1 : Int32} {M : Mm} (h : f_M_outputByte l1 M = some (o, M9)) : AW G I_M_outputByte B (QM G I_M_outputByte B (.inl (some (.int o))) M9 φ) 0 0 0 [(0, .ref 134), (1, .int l1)] [] M φ := by
  unfold f_M_outputByte at h
  refine a_aload_n (j := 0) hB e_M_outputByte_0 rfl rfl ?_
  refine a_iconst (v := 0) hB e_M_outputByte_1 ic_0 ?_
  obtain ⟨M2, hM2, h⟩ := bm_i h
  refine a_putI (k := 7) hB e_M_outputByte_2 fw_M_79 (sf_lt hF (by decide)) kk_134 tt_134_7 ?_
  refine a_mem hM2 ?_
  refine a_iload_n (j := 1) hB e_M_outputByte_5 rfl rfl ?_
  refine a_iconst (v := 0) hB e_M_outputByte_6 ic_0 ?_
  refine a_aload_n (j := 0) hB e_M_outputByte_7 rfl rfl ?_
  refine a_getI (k := 15) hB e_M_outputByte_8 fl_M_342 (sf_lt hF (by decide)) kk_134 tt_134_15 ?_
  refine a_iconst (v := 1) hB e_M_outputByte_11 ic_1 ?_
  refine a_isub hB e_M_outputByte_12 ?_
  obtain ⟨r13, hr13, h⟩ := bn_i h
  refine a_ret (v := (some (.int r13))) (M1 := M2) (φ1 := φ) (st1 := [.int r13]) (j1 := 0) (j2 := 0) (ar_S (As := [.int l1, .int (0 : Int32), .int ((M2 134 15) - (1 : Int32))]) (rest := []) hB (c_M_isIn (bf_G hB) hF hr13) ml_M_92 md_M_isIn rfl rfl (Nat.le_of_ble_eq_true rfl) rm_M_outputByte_M_isIn e_M_outputByte_13) rfl rfl rfl ?_
  refine a_if_eq (tgt := 28) hB e_M_outputByte_16 (by decide) (fun c => ?_) (fun c => ?_)
  · have h := ip c h
    refine a_iconst (v := -1) hB e_M_outputByte_28 ic_m1 ?_
    refine a_ls [] (ls' := []) rfl ?_
    exact t_M_outputByte_29 hB hF h
  · have h := iq c h
    refine a_aload_n (j := 0) hB e_M_outputByte_19 rfl rfl ?_
    refine a_getR (r := 142) (k := 9) hB e_M_outputByte_20 fl_M_32 (sf_lt hF (by decide)) kk_134 tt_134_9 (hF.1 _ _) ?_
    refine a_iload_n (j := 1) hB e_M_outputByte_23 rfl rfl ?_
    obtain ⟨c24, h⟩ := chk_i h
    refine a_iald' hB e_M_outputByte_24 (sf_lt hF (by decide)) kk_142 ll_142 c24 ?_
    refine a_goto (tgt := 29) hB e_M_outputByte_25 (by decide) ?_
    refine a_ls [] (ls' := []) rfl ?_
    exact t_M_outputByte_29 hB hF h
set_option maxRecDepth 100000 in
theorem c_M_outputByte {G : Gt} (hG : GOK G) {φ : Ph} (hF : SF 148 φ)   {M : Mm} {l1 : Int32} {o : Int32} {M9 : Mm} (h : f_M_outputByte l1 M = some (o, M9)) : CT G I_M_outputByte [.ref 134, .int l1] M φ (.inl (some (.int o))) M9 φ :=
  ct_of hG (by decide) (Nat.le_of_ble_eq_true rfl) (fun B hB => t_M_outputByte hB hF  h)
