/-! the functions are what the machine does -/
set_option maxRecDepth 100000 in
theorem t_C_setPace {G : Gt} {φ : Ph} {B : Bag} (hB : BF G I_C_setPace B) (hF : SF 134 φ)    {o : Nat ⊕ Int32} {M9 : Mm} {l1 : Int32} {M : Mm} (h : f_C_setPace l1 M = some (o, M9)) : AW G I_C_setPace B (QM G I_C_setPace B (oSi o) M9 (pS o φ)) 0 0 0 [(0, .ref 0), (1, .int l1)] [] M φ := by
  unfold f_C_setPace at h
  refine a_iload_n (j := 1) hB e_C_setPace_0 rfl rfl ?_
  refine a_bipush (v := 100) hB e_C_setPace_1 bp_100 ?_
  refine a_sipush (v := 999) hB e_C_setPace_3 sp_999 ?_
  obtain ⟨r6, hr6, h⟩ := bn_i h
  refine a_ret (v := (some (.int r6))) (M1 := M) (φ1 := φ) (st1 := [.int r6]) (j1 := 0) (j2 := 0) (ar_S (As := [.int l1, .int (100 : Int32), .int (999 : Int32)]) (rest := []) hB (c_C_isBetween (bf_G hB) hF hr6) ml_C_100 md_C_isBetween rfl rfl (Nat.le_of_ble_eq_true rfl) rm_C_setPace_C_isBetween e_C_setPace_6) rfl rfl rfl ?_
  refine a_if_ne (tgt := 22) hB e_C_setPace_9 (by decide) (fun c => ?_) (fun c => ?_)
  · have h := iq c h
    refine a_aload_n (j := 0) hB e_C_setPace_22 rfl rfl ?_
    refine a_getR (r := 15) (k := 7) hB e_C_setPace_23 fl_C_39 (sf_lt hF (by decide)) kk_0 tt_0_7 (hF.1 _ _) ?_
    refine a_getI (k := 11) hB e_C_setPace_26 fl_C_189 (sf_lt hF (by decide)) kk_15 tt_15_11 ?_
    refine a_istore_n (ls' := [(2, .int (M 15 11)), (0, .ref 0), (1, .int l1)]) hB e_C_setPace_29 rfl (Nat.le_of_ble_eq_true rfl) rfl ?_
    refine a_aload_n (j := 1) hB e_C_setPace_30 rfl rfl ?_
    obtain ⟨M31, hr31, h⟩ := bn_i h
    refine a_ret (v := none) (M1 := M31) (φ1 := φ) (st1 := []) (j1 := 0) (j2 := 0) (ar_V (As := []) (rest := []) hB (c_C_remember (bf_G hB) hF hr31) ml_C_130 md_C_remember rc_C_remember (sf_lt hF (by decide)) kk_0 rfl rfl (Nat.le_of_ble_eq_true rfl) rm_C_setPace_C_remember e_C_setPace_31) rfl rfl rfl ?_
    refine a_aload_n (j := 1) hB e_C_setPace_34 rfl rfl ?_
    refine a_getR (r := 15) (k := 7) hB e_C_setPace_35 fl_C_39 (sf_lt hF (by decide)) kk_0 tt_0_7 (hF.1 _ _) ?_
    refine a_iload_n (j := 2) hB e_C_setPace_38 rfl rfl ?_
    obtain ⟨M39, hM39, h⟩ := bm_i h
    refine a_putI (k := 11) hB e_C_setPace_39 fw_C_189 (sf_lt hF (by decide)) kk_15 tt_15_11 ?_
    refine a_mem hM39 ?_
    refine a_iload_n (j := 0) hB e_C_setPace_42 rfl rfl ?_
    cases h
    exact a_iret hB rfl e_C_setPace_43 (by decide) (by decide)
  · have h := ip c h
    cases h
    exact a_throwS (E := "java/lang/IllegalArgumentException") (i := 24) hB (by decide) cl_C_104 ini_1 rfl at_C_108 rfl e_C_setPace_12 e_C_setPace_15 e_C_setPace_16 e_C_setPace_18 e_C_setPace_21 (by decide) (by decide) (by decide) (by decide)
set_option maxRecDepth 100000 in
theorem c_C_setPace {G : Gt} (hG : GOK G) {φ : Ph} (hF : SF 134 φ)   {M : Mm} {l1 : Int32} {o : Nat ⊕ Int32} {M9 : Mm} (h : f_C_setPace l1 M = some (o, M9)) : CT G I_C_setPace [.ref 0, .int l1] M φ (oSi o) M9 (pS o φ) :=
  ct_of hG (by decide) (Nat.le_of_ble_eq_true rfl) (fun B hB => t_C_setPace hB hF  h)
set_option maxRecDepth 100000 in
theorem t_C_setAdjusted {G : Gt} {φ : Ph} {B : Bag} (hB : BF G I_C_setAdjusted B) (hF : SF 134 φ)    {o : Int32} {M9 : Mm} {l1 : Int32} {M : Mm} (h : f_C_setAdjusted l1 M = some (o, M9)) : AW G I_C_setAdjusted B (QM G I_C_setAdjusted B (.inl (some (.int o))) M9 φ) 0 0 0 [(0, .ref 0), (1, .int l1)] [] M φ := by
  unfold f_C_setAdjusted at h
  refine a_aload_n (j := 0) hB e_C_setAdjusted_0 rfl rfl ?_
  refine a_getR (r := 15) (k := 7) hB e_C_setAdjusted_1 fl_C_39 (sf_lt hF (by decide)) kk_0 tt_0_7 (hF.1 _ _) ?_
  refine a_getI (k := 12) hB e_C_setAdjusted_4 fl_C_192 (sf_lt hF (by decide)) kk_15 tt_15_12 ?_
  refine a_istore_n (ls' := [(2, .int (M 15 12)), (0, .ref 0), (1, .int l1)]) hB e_C_setAdjusted_7 rfl (Nat.le_of_ble_eq_true rfl) rfl ?_
  refine a_aload_n (j := 1) hB e_C_setAdjusted_8 rfl rfl ?_
  obtain ⟨M9, hr9, h⟩ := bn_i h
  refine a_ret (v := none) (M1 := M9) (φ1 := φ) (st1 := []) (j1 := 0) (j2 := 0) (ar_V (As := []) (rest := []) hB (c_C_remember (bf_G hB) hF hr9) ml_C_130 md_C_remember rc_C_remember (sf_lt hF (by decide)) kk_0 rfl rfl (Nat.le_of_ble_eq_true rfl) rm_C_setAdjusted_C_remember e_C_setAdjusted_9) rfl rfl rfl ?_
  refine a_aload_n (j := 1) hB e_C_setAdjusted_12 rfl rfl ?_
  refine a_getR (r := 15) (k := 7) hB e_C_setAdjusted_13 fl_C_39 (sf_lt hF (by decide)) kk_0 tt_0_7 (hF.1 _ _) ?_
  refine a_iload_n (j := 2) hB e_C_setAdjusted_16 rfl rfl ?_
  obtain ⟨z17, h⟩ := chk_i h
  obtain ⟨M17, hM17, h⟩ := bm_i h
  refine a_putZ (k := 12) hB e_C_setAdjusted_17 fw_C_192 (sf_lt hF (by decide)) kk_15 tt_15_12 z17 ?_
  refine a_mem hM17 ?_
  refine a_iload_n (j := 0) hB e_C_setAdjusted_20 rfl rfl ?_
  obtain ⟨z21, h⟩ := chk_i h
  cases h
  exact a_zret hB rfl z21 e_C_setAdjusted_21 (by decide) (by decide)
set_option maxRecDepth 100000 in
theorem c_C_setAdjusted {G : Gt} (hG : GOK G) {φ : Ph} (hF : SF 134 φ)   {M : Mm} {l1 : Int32} {o : Int32} {M9 : Mm} (h : f_C_setAdjusted l1 M = some (o, M9)) : CT G I_C_setAdjusted [.ref 0, .int l1] M φ (.inl (some (.int o))) M9 φ :=
  ct_of hG (by decide) (Nat.le_of_ble_eq_true rfl) (fun B hB => t_C_setAdjusted hB hF  h)
set_option maxRecDepth 100000 in
theorem t_C_undo_36 {G : Gt} {φ : Ph} {B : Bag} (hB : BF G I_C_undo B) (hF : SF 134 φ)    {o : Nat ⊕ Int32} {M9 : Mm} {t1 : Int32} {M : Mm} (h : f_C_undo_36 t1 M = some (o, M9)) : AW G I_C_undo B (QM G I_C_undo B (oSi o) M9 (pS o φ)) 0 0 36 [(0, .ref 0)] [.int t1, .ref 0] M φ := by
  unfold f_C_undo_36 at h
  obtain ⟨M36, hM36, h⟩ := bm_i h
  refine a_putI (k := 11) hB e_C_undo_36 fw_C_201 (sf_lt hF (by decide)) kk_0 tt_0_11 ?_
  refine a_mem hM36 ?_
  refine a_aload_n (j := 0) hB e_C_undo_39 rfl rfl ?_
  refine a_dup hB e_C_undo_40 rfl ?_
  refine a_getI (k := 12) hB e_C_undo_41 fl_C_196 (sf_lt hF (by decide)) kk_0 tt_0_12 ?_
  refine a_iconst (v := 1) hB e_C_undo_44 ic_1 ?_
  refine a_isub hB e_C_undo_45 ?_
  obtain ⟨M46, hM46, h⟩ := bm_i h
  refine a_putI (k := 12) hB e_C_undo_46 fw_C_196 (sf_lt hF (by decide)) kk_0 tt_0_12 ?_
  refine a_mem hM46 ?_
  refine a_aload_n (j := 0) hB e_C_undo_49 rfl rfl ?_
  refine a_getR (r := 15) (k := 7) hB e_C_undo_50 fl_C_39 (sf_lt hF (by decide)) kk_0 tt_0_7 (hF.1 _ _) ?_
  refine a_aload_n (j := 0) hB e_C_undo_53 rfl rfl ?_
  refine a_getR (r := 31) (k := 10) hB e_C_undo_54 fl_C_56 (sf_lt hF (by decide)) kk_0 tt_0_10 (hF.1 _ _) ?_
  refine a_aload_n (j := 0) hB e_C_undo_57 rfl rfl ?_
  refine a_getI (k := 11) hB e_C_undo_58 fl_C_201 (sf_lt hF (by decide)) kk_0 tt_0_11 ?_
  obtain ⟨c61, h⟩ := chk_i h
  refine a_aald' (r := 34 + 10 * ix (M46 0 11)) hB e_C_undo_61 (sf_lt hF (by decide)) kk_31 ll_31 c61 (hF.1 _ _) (tg_past c61) ?_
  obtain ⟨M62, hr62, h⟩ := bn_i h
  refine a_ret (v := none) (M1 := M62) (φ1 := φ) (st1 := []) (j1 := 0) (j2 := 0) (ar_V (As := [.ref (34 + 10 * ix (M46 0 11))]) (rest := []) hB (c_S_copyFrom (bf_G hB) hF sv_15 (sv_past c61) hr62) ml_C_90 md_S_copyFrom rc_S_copyFrom (sf_lt hF (by decide)) kk_15 rfl rfl (Nat.le_of_ble_eq_true rfl) rm_C_undo_S_copyFrom e_C_undo_62) rfl rfl rfl ?_
  refine a_aload_n (j := 0) hB e_C_undo_65 rfl rfl ?_
  refine a_getI (k := 12) hB e_C_undo_66 fl_C_196 (sf_lt hF (by decide)) kk_0 tt_0_12 ?_
  cases h
  exact a_iret hB rfl e_C_undo_69 (by decide) (by decide)
set_option maxRecDepth 100000 in
theorem t_C_undo {G : Gt} {φ : Ph} {B : Bag} (hB : BF G I_C_undo B) (hF : SF 134 φ)    {o : Nat ⊕ Int32} {M9 : Mm}  {M : Mm} (h : f_C_undo M = some (o, M9)) : AW G I_C_undo B (QM G I_C_undo B (oSi o) M9 (pS o φ)) 0 0 0 [(0, .ref 0)] [] M φ := by
  unfold f_C_undo at h
  refine a_aload_n (j := 0) hB e_C_undo_0 rfl rfl ?_
  refine a_getI (k := 12) hB e_C_undo_1 fl_C_196 (sf_lt hF (by decide)) kk_0 tt_0_12 ?_
  refine a_if_ne (tgt := 17) hB e_C_undo_4 (by decide) (fun c => ?_) (fun c => ?_)
  · have h := iq c h
    refine a_aload_n (j := 0) hB e_C_undo_17 rfl rfl ?_
    refine a_aload_n (j := 0) hB e_C_undo_18 rfl rfl ?_
    refine a_getI (k := 11) hB e_C_undo_19 fl_C_201 (sf_lt hF (by decide)) kk_0 tt_0_11 ?_
    refine a_if_ne (tgt := 30) hB e_C_undo_22 (by decide) (fun c => ?_) (fun c => ?_)
    · have h := iq c h
      refine a_aload_n (j := 0) hB e_C_undo_30 rfl rfl ?_
      refine a_getI (k := 11) hB e_C_undo_31 fl_C_201 (sf_lt hF (by decide)) kk_0 tt_0_11 ?_
      refine a_iconst (v := 1) hB e_C_undo_34 ic_1 ?_
      refine a_isub hB e_C_undo_35 ?_
      exact t_C_undo_36 hB hF h
    · have h := ip c h
      refine a_bipush (v := 7) hB e_C_undo_25 bp_7 ?_
      refine a_goto (tgt := 36) hB e_C_undo_27 (by decide) ?_
      exact t_C_undo_36 hB hF h
  · have h := ip c h
    cases h
    exact a_throwS (E := "java/lang/IllegalStateException") (i := 25) hB (by decide) cl_C_152 ini_2 rfl at_C_156 rfl e_C_undo_7 e_C_undo_10 e_C_undo_11 e_C_undo_13 e_C_undo_16 (by decide) (by decide) (by decide) (by decide)
set_option maxRecDepth 100000 in
theorem c_C_undo {G : Gt} (hG : GOK G) {φ : Ph} (hF : SF 134 φ)   {M : Mm}  {o : Nat ⊕ Int32} {M9 : Mm} (h : f_C_undo M = some (o, M9)) : CT G I_C_undo [.ref 0] M φ (oSi o) M9 (pS o φ) :=
  ct_of hG (by decide) (Nat.le_of_ble_eq_true rfl) (fun B hB => t_C_undo hB hF  h)
set_option maxRecDepth 100000 in
theorem t_C_requireSlot {G : Gt} {φ : Ph} {B : Bag} (hB : BF G I_C_requireSlot B) (hF : SF 134 φ)   {M : Mm} {o : Nat ⊕ Unit} {l1 : Int32}  (h : f_C_requireSlot l1 = some o) : AW G I_C_requireSlot B (QM G I_C_requireSlot B (oSv o) M (pS o φ)) 0 0 0 [(0, .ref 0), (1, .int l1)] [] M φ := by
  unfold f_C_requireSlot at h
  refine a_iload_n (j := 1) hB e_C_requireSlot_0 rfl rfl ?_
  refine a_iconst (v := 0) hB e_C_requireSlot_1 ic_0 ?_
  refine a_iconst (v := 1) hB e_C_requireSlot_2 ic_1 ?_
  obtain ⟨r3, hr3, h⟩ := bn_i h
  refine a_ret (v := (some (.int r3))) (M1 := M) (φ1 := φ) (st1 := [.int r3]) (j1 := 0) (j2 := 0) (ar_S (As := [.int l1, .int (0 : Int32), .int (1 : Int32)]) (rest := []) hB (c_C_isBetween (bf_G hB) hF hr3) ml_C_100 md_C_isBetween rfl rfl (Nat.le_of_ble_eq_true rfl) rm_C_requireSlot_C_isBetween e_C_requireSlot_3) rfl rfl rfl ?_
  refine a_if_ne (tgt := 20) hB e_C_requireSlot_6 (by decide) (fun c => ?_) (fun c => ?_)
  · have h := iq c h
    cases h
    exact a_vret hB rfl e_C_requireSlot_20 (by decide) (by decide)
  · have h := ip c h
    cases h
    exact a_throwSW (E := "java/lang/IllegalArgumentException") (i := 26) hB (by decide) cl_C_104 ini_1 rfl at_C_108 rfl e_C_requireSlot_9 e_C_requireSlot_12 e_C_requireSlot_13 e_C_requireSlot_16 e_C_requireSlot_19 (by decide) (by decide) (by decide) (by decide)
set_option maxRecDepth 100000 in
theorem c_C_requireSlot {G : Gt} (hG : GOK G) {φ : Ph} (hF : SF 134 φ)   {M : Mm} {l1 : Int32} {o : Nat ⊕ Unit} (h : f_C_requireSlot l1 = some o) : CT G I_C_requireSlot [.ref 0, .int l1] M φ (oSv o) M (pS o φ) :=
  ct_of hG (by decide) (Nat.le_of_ble_eq_true rfl) (fun B hB => t_C_requireSlot hB hF  h)
set_option maxRecDepth 100000 in
theorem t_C_save {G : Gt} {φ : Ph} {B : Bag} (hB : BF G I_C_save B) (hF : SF 134 φ)    {o : Nat ⊕ Int32} {M9 : Mm} {l1 : Int32} {M : Mm} (h : f_C_save l1 M = some (o, M9)) : AW G I_C_save B (QM G I_C_save B (oSi o) M9 (pS o φ)) 0 0 0 [(0, .ref 0), (1, .int l1)] [] M φ := by
  unfold f_C_save at h
  refine a_aload_n (j := 0) hB e_C_save_0 rfl rfl ?_
  refine a_iload_n (j := 1) hB e_C_save_1 rfl rfl ?_
  rcases bti_i h with ⟨e2, hr2, rfl, hz⟩ | ⟨r2, hr2, h⟩
  · obtain rfl := hz.symm
    exact a_thr (E := exS e2) (M1 := M) (φ1 := dirt φ) hB (ar_V (As := [.int l1]) (rest := []) hB (c_C_requireSlot (bf_G hB) hF hr2) ml_C_210 md_C_requireSlot rc_C_requireSlot (sf_lt hF (by decide)) kk_0 rfl rfl (Nat.le_of_ble_eq_true rfl) rm_C_save_C_requireSlot e_C_save_2) rfl (by decide) (by decide)
  · refine a_ret (v := none) (M1 := M) (φ1 := φ) (st1 := []) (j1 := 1) (j2 := 6) (ar_V (As := [.int l1]) (rest := []) hB (c_C_requireSlot (bf_G hB) hF hr2) ml_C_210 md_C_requireSlot rc_C_requireSlot (sf_lt hF (by decide)) kk_0 rfl rfl (Nat.le_of_ble_eq_true rfl) rm_C_save_C_requireSlot e_C_save_2) rfl rfl rfl ?_
    refine a_aload_n (j := 0) hB e_C_save_5 rfl rfl ?_
    refine a_getR (r := 32) (k := 13) hB e_C_save_6 fl_C_60 (sf_lt hF (by decide)) kk_0 tt_0_13 (hF.1 _ _) ?_
    refine a_iload_n (j := 1) hB e_C_save_9 rfl rfl ?_
    obtain ⟨c10, h⟩ := chk_i h
    refine a_aald' (r := 114 + 10 * ix l1) hB e_C_save_10 (sf_lt hF (by decide)) kk_32 ll_32 c10 (hF.1 _ _) (tg_saved c10) ?_
    refine a_aload_n (j := 0) hB e_C_save_11 rfl rfl ?_
    refine a_getR (r := 15) (k := 7) hB e_C_save_12 fl_C_39 (sf_lt hF (by decide)) kk_0 tt_0_7 (hF.1 _ _) ?_
    obtain ⟨M15, hr15, h⟩ := bn_i h
    refine a_ret (v := none) (M1 := M15) (φ1 := φ) (st1 := []) (j1 := 1) (j2 := 6) (ar_V (As := [.ref 15]) (rest := []) hB (c_S_copyFrom (bf_G hB) hF (sv_saved c10) sv_15 hr15) ml_C_90 md_S_copyFrom rc_S_copyFrom (sv_lt (sv_saved c10) hF (by decide)) (sv_kd (sv_saved c10)) rfl rfl (Nat.le_of_ble_eq_true rfl) rm_C_save_S_copyFrom_1_6 e_C_save_15) rfl rfl rfl ?_
    refine a_aload_n (j := 0) hB e_C_save_18 rfl rfl ?_
    refine a_getR (r := 33) (k := 14) hB e_C_save_19 fl_C_63 (sf_lt hF (by decide)) kk_0 tt_0_14 (hF.1 _ _) ?_
    refine a_iload_n (j := 1) hB e_C_save_22 rfl rfl ?_
    refine a_iconst (v := 1) hB e_C_save_23 ic_1 ?_
    obtain ⟨M24, hM24, h⟩ := bm_i h
    refine a_zast' hB e_C_save_24 (sf_lt hF (by decide)) kk_33 ll_33 c10 (Or.inr rfl) ?_
    refine a_mem hM24 ?_
    refine a_aload_n (j := 0) hB e_C_save_25 rfl rfl ?_
    refine a_getR (r := 15) (k := 7) hB e_C_save_26 fl_C_39 (sf_lt hF (by decide)) kk_0 tt_0_7 (hF.1 _ _) ?_
    refine a_getI (k := 9) hB e_C_save_29 fl_C_115 (sf_lt hF (by decide)) kk_15 tt_15_9 ?_
    cases h
    exact a_iret hB rfl e_C_save_32 (by decide) (by decide)
set_option maxRecDepth 100000 in
theorem c_C_save {G : Gt} (hG : GOK G) {φ : Ph} (hF : SF 134 φ)   {M : Mm} {l1 : Int32} {o : Nat ⊕ Int32} {M9 : Mm} (h : f_C_save l1 M = some (o, M9)) : CT G I_C_save [.ref 0, .int l1] M φ (oSi o) M9 (pS o φ) :=
  ct_of hG (by decide) (Nat.le_of_ble_eq_true rfl) (fun B hB => t_C_save hB hF  h)
set_option maxRecDepth 100000 in
theorem t_C_restore {G : Gt} {φ : Ph} {B : Bag} (hB : BF G I_C_restore B) (hF : SF 134 φ)    {o : Nat ⊕ Int32} {M9 : Mm} {l1 : Int32} {M : Mm} (h : f_C_restore l1 M = some (o, M9)) : AW G I_C_restore B (QM G I_C_restore B (oSi o) M9 (pS o φ)) 0 0 0 [(0, .ref 0), (1, .int l1)] [] M φ := by
  unfold f_C_restore at h
  refine a_aload_n (j := 0) hB e_C_restore_0 rfl rfl ?_
  refine a_iload_n (j := 1) hB e_C_restore_1 rfl rfl ?_
  rcases bti_i h with ⟨e2, hr2, rfl, hz⟩ | ⟨r2, hr2, h⟩
  · obtain rfl := hz.symm
    exact a_thr (E := exS e2) (M1 := M) (φ1 := dirt φ) hB (ar_V (As := [.int l1]) (rest := []) hB (c_C_requireSlot (bf_G hB) hF hr2) ml_C_210 md_C_requireSlot rc_C_requireSlot (sf_lt hF (by decide)) kk_0 rfl rfl (Nat.le_of_ble_eq_true rfl) rm_C_restore_C_requireSlot e_C_restore_2) rfl (by decide) (by decide)
  · refine a_ret (v := none) (M1 := M) (φ1 := φ) (st1 := []) (j1 := 1) (j2 := 6) (ar_V (As := [.int l1]) (rest := []) hB (c_C_requireSlot (bf_G hB) hF hr2) ml_C_210 md_C_requireSlot rc_C_requireSlot (sf_lt hF (by decide)) kk_0 rfl rfl (Nat.le_of_ble_eq_true rfl) rm_C_restore_C_requireSlot e_C_restore_2) rfl rfl rfl ?_
    refine a_aload_n (j := 0) hB e_C_restore_5 rfl rfl ?_
    refine a_getR (r := 33) (k := 14) hB e_C_restore_6 fl_C_63 (sf_lt hF (by decide)) kk_0 tt_0_14 (hF.1 _ _) ?_
    refine a_iload_n (j := 1) hB e_C_restore_9 rfl rfl ?_
    obtain ⟨c10, h⟩ := chk_i h
    refine a_zald' hB e_C_restore_10 (sf_lt hF (by decide)) kk_33 ll_33 c10 ?_
    refine a_if_ne (tgt := 24) hB e_C_restore_11 (by decide) (fun c => ?_) (fun c => ?_)
    · have h := iq c h
      refine a_aload_n (j := 0) hB e_C_restore_24 rfl rfl ?_
      obtain ⟨M25, hr25, h⟩ := bn_i h
      refine a_ret (v := none) (M1 := M25) (φ1 := φ) (st1 := []) (j1 := 1) (j2 := 6) (ar_V (As := []) (rest := []) hB (c_C_remember (bf_G hB) hF hr25) ml_C_130 md_C_remember rc_C_remember (sf_lt hF (by decide)) kk_0 rfl rfl (Nat.le_of_ble_eq_true rfl) rm_C_restore_C_remember_1_6 e_C_restore_25) rfl rfl rfl ?_
      refine a_aload_n (j := 0) hB e_C_restore_28 rfl rfl ?_
      refine a_getR (r := 15) (k := 7) hB e_C_restore_29 fl_C_39 (sf_lt hF (by decide)) kk_0 tt_0_7 (hF.1 _ _) ?_
      refine a_aload_n (j := 0) hB e_C_restore_32 rfl rfl ?_
      refine a_getR (r := 32) (k := 13) hB e_C_restore_33 fl_C_60 (sf_lt hF (by decide)) kk_0 tt_0_13 (hF.1 _ _) ?_
      refine a_iload_n (j := 1) hB e_C_restore_36 rfl rfl ?_
      refine a_aald' (r := 114 + 10 * ix l1) hB e_C_restore_37 (sf_lt hF (by decide)) kk_32 ll_32 c10 (hF.1 _ _) (tg_saved c10) ?_
      obtain ⟨M38, hr38, h⟩ := bn_i h
      refine a_ret (v := none) (M1 := M38) (φ1 := φ) (st1 := []) (j1 := 1) (j2 := 6) (ar_V (As := [.ref (114 + 10 * ix l1)]) (rest := []) hB (c_S_copyFrom (bf_G hB) hF sv_15 (sv_saved c10) hr38) ml_C_90 md_S_copyFrom rc_S_copyFrom (sf_lt hF (by decide)) kk_15 rfl rfl (Nat.le_of_ble_eq_true rfl) rm_C_restore_S_copyFrom_1_6 e_C_restore_38) rfl rfl rfl ?_
      refine a_aload_n (j := 0) hB e_C_restore_41 rfl rfl ?_
      refine a_getR (r := 15) (k := 7) hB e_C_restore_42 fl_C_39 (sf_lt hF (by decide)) kk_0 tt_0_7 (hF.1 _ _) ?_
      refine a_getI (k := 9) hB e_C_restore_45 fl_C_115 (sf_lt hF (by decide)) kk_15 tt_15_9 ?_
      cases h
      exact a_iret hB rfl e_C_restore_48 (by decide) (by decide)
    · have h := ip c h
      cases h
      exact a_throwS (E := "java/lang/IllegalStateException") (i := 27) hB (by decide) cl_C_152 ini_2 rfl at_C_156 rfl e_C_restore_14 e_C_restore_17 e_C_restore_18 e_C_restore_20 e_C_restore_23 (by decide) (by decide) (by decide) (by decide)
set_option maxRecDepth 100000 in
theorem c_C_restore {G : Gt} (hG : GOK G) {φ : Ph} (hF : SF 134 φ)   {M : Mm} {l1 : Int32} {o : Nat ⊕ Int32} {M9 : Mm} (h : f_C_restore l1 M = some (o, M9)) : CT G I_C_restore [.ref 0, .int l1] M φ (oSi o) M9 (pS o φ) :=
  ct_of hG (by decide) (Nat.le_of_ble_eq_true rfl) (fun B hB => t_C_restore hB hF  h)
set_option maxRecDepth 100000 in
theorem t_C_legCount {G : Gt} {φ : Ph} {B : Bag} (hB : BF G I_C_legCount B) (hF : SF 134 φ)   {M : Mm} {o : Int32}   (h : f_C_legCount M = some o) : AW G I_C_legCount B (QM G I_C_legCount B (.inl (some (.int o))) M φ) 0 0 0 [(0, .ref 0)] [] M φ := by
  unfold f_C_legCount at h
  refine a_aload_n (j := 0) hB e_C_legCount_0 rfl rfl ?_
  refine a_getR (r := 15) (k := 7) hB e_C_legCount_1 fl_C_39 (sf_lt hF (by decide)) kk_0 tt_0_7 (hF.1 _ _) ?_
  refine a_getI (k := 9) hB e_C_legCount_4 fl_C_115 (sf_lt hF (by decide)) kk_15 tt_15_9 ?_
  cases h
  exact a_iret hB rfl e_C_legCount_7 (by decide) (by decide)
set_option maxRecDepth 100000 in
theorem c_C_legCount {G : Gt} (hG : GOK G) {φ : Ph} (hF : SF 134 φ)   {M : Mm}  {o : Int32} (h : f_C_legCount M = some o) : CT G I_C_legCount [.ref 0] M φ (.inl (some (.int o))) M φ :=
  ct_of hG (by decide) (Nat.le_of_ble_eq_true rfl) (fun B hB => t_C_legCount hB hF  h)
set_option maxRecDepth 100000 in
theorem t_C_stationCount {G : Gt} {φ : Ph} {B : Bag} (hB : BF G I_C_stationCount B) (hF : SF 134 φ)   {M : Mm} {o : Int32}   (h : f_C_stationCount M = some o) : AW G I_C_stationCount B (QM G I_C_stationCount B (.inl (some (.int o))) M φ) 0 0 0 [(0, .ref 0)] [] M φ := by
  unfold f_C_stationCount at h
  refine a_aload_n (j := 0) hB e_C_stationCount_0 rfl rfl ?_
  refine a_getR (r := 15) (k := 7) hB e_C_stationCount_1 fl_C_39 (sf_lt hF (by decide)) kk_0 tt_0_7 (hF.1 _ _) ?_
  refine a_getI (k := 9) hB e_C_stationCount_4 fl_C_115 (sf_lt hF (by decide)) kk_15 tt_15_9 ?_
  refine a_iconst (v := 1) hB e_C_stationCount_7 ic_1 ?_
  refine a_iadd hB e_C_stationCount_8 ?_
  cases h
  exact a_iret hB rfl e_C_stationCount_9 (by decide) (by decide)
set_option maxRecDepth 100000 in
theorem c_C_stationCount {G : Gt} (hG : GOK G) {φ : Ph} (hF : SF 134 φ)   {M : Mm}  {o : Int32} (h : f_C_stationCount M = some o) : CT G I_C_stationCount [.ref 0] M φ (.inl (some (.int o))) M φ :=
  ct_of hG (by decide) (Nat.le_of_ble_eq_true rfl) (fun B hB => t_C_stationCount hB hF  h)
set_option maxRecDepth 100000 in
theorem t_C_wear {G : Gt} {φ : Ph} {B : Bag} (hB : BF G I_C_wear B) (hF : SF 134 φ)   {M : Mm} {o : Int32}   (h : f_C_wear M = some o) : AW G I_C_wear B (QM G I_C_wear B (.inl (some (.int o))) M φ) 0 0 0 [(0, .ref 0)] [] M φ := by
  unfold f_C_wear at h
  refine a_aload_n (j := 0) hB e_C_wear_0 rfl rfl ?_
  refine a_getR (r := 15) (k := 7) hB e_C_wear_1 fl_C_39 (sf_lt hF (by decide)) kk_0 tt_0_7 (hF.1 _ _) ?_
  refine a_getI (k := 10) hB e_C_wear_4 fl_C_184 (sf_lt hF (by decide)) kk_15 tt_15_10 ?_
  cases h
  exact a_iret hB rfl e_C_wear_7 (by decide) (by decide)
set_option maxRecDepth 100000 in
theorem c_C_wear {G : Gt} (hG : GOK G) {φ : Ph} (hF : SF 134 φ)   {M : Mm}  {o : Int32} (h : f_C_wear M = some o) : CT G I_C_wear [.ref 0] M φ (.inl (some (.int o))) M φ :=
  ct_of hG (by decide) (Nat.le_of_ble_eq_true rfl) (fun B hB => t_C_wear hB hF  h)
set_option maxRecDepth 100000 in
theorem t_C_pace {G : Gt} {φ : Ph} {B : Bag} (hB : BF G I_C_pace B) (hF : SF 134 φ)   {M : Mm} {o : Int32}   (h : f_C_pace M = some o) : AW G I_C_pace B (QM G I_C_pace B (.inl (some (.int o))) M φ) 0 0 0 [(0, .ref 0)] [] M φ := by
  unfold f_C_pace at h
  refine a_aload_n (j := 0) hB e_C_pace_0 rfl rfl ?_
  refine a_getR (r := 15) (k := 7) hB e_C_pace_1 fl_C_39 (sf_lt hF (by decide)) kk_0 tt_0_7 (hF.1 _ _) ?_
  refine a_getI (k := 11) hB e_C_pace_4 fl_C_189 (sf_lt hF (by decide)) kk_15 tt_15_11 ?_
  cases h
  exact a_iret hB rfl e_C_pace_7 (by decide) (by decide)
set_option maxRecDepth 100000 in
theorem c_C_pace {G : Gt} (hG : GOK G) {φ : Ph} (hF : SF 134 φ)   {M : Mm}  {o : Int32} (h : f_C_pace M = some o) : CT G I_C_pace [.ref 0] M φ (.inl (some (.int o))) M φ :=
  ct_of hG (by decide) (Nat.le_of_ble_eq_true rfl) (fun B hB => t_C_pace hB hF  h)
set_option maxRecDepth 100000 in
theorem t_C_undoableChanges {G : Gt} {φ : Ph} {B : Bag} (hB : BF G I_C_undoableChanges B) (hF : SF 134 φ)   {M : Mm} {o : Int32}   (h : f_C_undoableChanges M = some o) : AW G I_C_undoableChanges B (QM G I_C_undoableChanges B (.inl (some (.int o))) M φ) 0 0 0 [(0, .ref 0)] [] M φ := by
  unfold f_C_undoableChanges at h
  refine a_aload_n (j := 0) hB e_C_undoableChanges_0 rfl rfl ?_
  refine a_getI (k := 12) hB e_C_undoableChanges_1 fl_C_196 (sf_lt hF (by decide)) kk_0 tt_0_12 ?_
  cases h
  exact a_iret hB rfl e_C_undoableChanges_4 (by decide) (by decide)
set_option maxRecDepth 100000 in
theorem c_C_undoableChanges {G : Gt} (hG : GOK G) {φ : Ph} (hF : SF 134 φ)   {M : Mm}  {o : Int32} (h : f_C_undoableChanges M = some o) : CT G I_C_undoableChanges [.ref 0] M φ (.inl (some (.int o))) M φ :=
  ct_of hG (by decide) (Nat.le_of_ble_eq_true rfl) (fun B hB => t_C_undoableChanges hB hF  h)
set_option maxRecDepth 100000 in
theorem t_C_isAdjusted {G : Gt} {φ : Ph} {B : Bag} (hB : BF G I_C_isAdjusted B) (hF : SF 134 φ)   {M : Mm} {o : Int32}   (h : f_C_isAdjusted M = some o) : AW G I_C_isAdjusted B (QM G I_C_isAdjusted B (.inl (some (.int o))) M φ) 0 0 0 [(0, .ref 0)] [] M φ := by
  unfold f_C_isAdjusted at h
  refine a_aload_n (j := 0) hB e_C_isAdjusted_0 rfl rfl ?_
  refine a_getR (r := 15) (k := 7) hB e_C_isAdjusted_1 fl_C_39 (sf_lt hF (by decide)) kk_0 tt_0_7 (hF.1 _ _) ?_
  refine a_getI (k := 12) hB e_C_isAdjusted_4 fl_C_192 (sf_lt hF (by decide)) kk_15 tt_15_12 ?_
  obtain ⟨z7, h⟩ := chk_i h
  cases h
  exact a_zret hB rfl z7 e_C_isAdjusted_7 (by decide) (by decide)
set_option maxRecDepth 100000 in
theorem c_C_isAdjusted {G : Gt} (hG : GOK G) {φ : Ph} (hF : SF 134 φ)   {M : Mm}  {o : Int32} (h : f_C_isAdjusted M = some o) : CT G I_C_isAdjusted [.ref 0] M φ (.inl (some (.int o))) M φ :=
  ct_of hG (by decide) (Nat.le_of_ble_eq_true rfl) (fun B hB => t_C_isAdjusted hB hF  h)
set_option maxRecDepth 100000 in
theorem t_C_bearing {G : Gt} {φ : Ph} {B : Bag} (hB : BF G I_C_bearing B) (hF : SF 134 φ)   {M : Mm} {o : Nat ⊕ Int32} {l1 : Int32}  (h : f_C_bearing M l1 = some o) : AW G I_C_bearing B (QM G I_C_bearing B (oSi o) M (pS o φ)) 0 0 0 [(0, .ref 0), (1, .int l1)] [] M φ := by
  unfold f_C_bearing at h
  refine a_aload_n (j := 0) hB e_C_bearing_0 rfl rfl ?_
  refine a_iload_n (j := 1) hB e_C_bearing_1 rfl rfl ?_
  rcases bt_i h with ⟨e2, hr2, rfl⟩ | ⟨r2, hr2, h⟩
  · exact a_thr (E := exS e2) (M1 := M) (φ1 := dirt φ) hB (ar_V (As := [.int l1]) (rest := []) hB (c_C_requireLeg (bf_G hB) hF hr2) ml_C_163 md_C_requireLeg rc_C_requireLeg (sf_lt hF (by decide)) kk_0 rfl rfl (Nat.le_of_ble_eq_true rfl) rm_C_bearing_C_requireLeg e_C_bearing_2) rfl (by decide) (by decide)
  · refine a_ret (v := none) (M1 := M) (φ1 := φ) (st1 := []) (j1 := 1) (j2 := 6) (ar_V (As := [.int l1]) (rest := []) hB (c_C_requireLeg (bf_G hB) hF hr2) ml_C_163 md_C_requireLeg rc_C_requireLeg (sf_lt hF (by decide)) kk_0 rfl rfl (Nat.le_of_ble_eq_true rfl) rm_C_bearing_C_requireLeg e_C_bearing_2) rfl rfl rfl ?_
    refine a_aload_n (j := 0) hB e_C_bearing_5 rfl rfl ?_
    refine a_getR (r := 15) (k := 7) hB e_C_bearing_6 fl_C_39 (sf_lt hF (by decide)) kk_0 tt_0_7 (hF.1 _ _) ?_
    refine a_getR (r := 17) (k := 1) hB e_C_bearing_9 fl_C_215 (sf_lt hF (by decide)) kk_15 tt_15_1 (hF.1 _ _) ?_
    refine a_iload_n (j := 1) hB e_C_bearing_12 rfl rfl ?_
    obtain ⟨c13, h⟩ := chk_i h
    refine a_iald' hB e_C_bearing_13 (sf_lt hF (by decide)) kk_17 ll_17 c13 ?_
    cases h
    exact a_iret hB rfl e_C_bearing_14 (by decide) (by decide)
set_option maxRecDepth 100000 in
theorem c_C_bearing {G : Gt} (hG : GOK G) {φ : Ph} (hF : SF 134 φ)   {M : Mm} {l1 : Int32} {o : Nat ⊕ Int32} (h : f_C_bearing M l1 = some o) : CT G I_C_bearing [.ref 0, .int l1] M φ (oSi o) M (pS o φ) :=
  ct_of hG (by decide) (Nat.le_of_ble_eq_true rfl) (fun B hB => t_C_bearing hB hF  h)
set_option maxRecDepth 100000 in
theorem t_C_pins {G : Gt} {φ : Ph} {B : Bag} (hB : BF G I_C_pins B) (hF : SF 134 φ)   {M : Mm} {o : Nat ⊕ Int32} {l1 : Int32}  (h : f_C_pins M l1 = some o) : AW G I_C_pins B (QM G I_C_pins B (oSi o) M (pS o φ)) 0 0 0 [(0, .ref 0), (1, .int l1)] [] M φ := by
  unfold f_C_pins at h
  refine a_aload_n (j := 0) hB e_C_pins_0 rfl rfl ?_
  refine a_iload_n (j := 1) hB e_C_pins_1 rfl rfl ?_
  rcases bt_i h with ⟨e2, hr2, rfl⟩ | ⟨r2, hr2, h⟩
  · exact a_thr (E := exS e2) (M1 := M) (φ1 := dirt φ) hB (ar_V (As := [.int l1]) (rest := []) hB (c_C_requireLeg (bf_G hB) hF hr2) ml_C_163 md_C_requireLeg rc_C_requireLeg (sf_lt hF (by decide)) kk_0 rfl rfl (Nat.le_of_ble_eq_true rfl) rm_C_pins_C_requireLeg e_C_pins_2) rfl (by decide) (by decide)
  · refine a_ret (v := none) (M1 := M) (φ1 := φ) (st1 := []) (j1 := 1) (j2 := 6) (ar_V (As := [.int l1]) (rest := []) hB (c_C_requireLeg (bf_G hB) hF hr2) ml_C_163 md_C_requireLeg rc_C_requireLeg (sf_lt hF (by decide)) kk_0 rfl rfl (Nat.le_of_ble_eq_true rfl) rm_C_pins_C_requireLeg e_C_pins_2) rfl rfl rfl ?_
    refine a_aload_n (j := 0) hB e_C_pins_5 rfl rfl ?_
    refine a_getR (r := 15) (k := 7) hB e_C_pins_6 fl_C_39 (sf_lt hF (by decide)) kk_0 tt_0_7 (hF.1 _ _) ?_
    refine a_getR (r := 20) (k := 4) hB e_C_pins_9 fl_C_218 (sf_lt hF (by decide)) kk_15 tt_15_4 (hF.1 _ _) ?_
    refine a_iload_n (j := 1) hB e_C_pins_12 rfl rfl ?_
    obtain ⟨c13, h⟩ := chk_i h
    refine a_iald' hB e_C_pins_13 (sf_lt hF (by decide)) kk_20 ll_20 c13 ?_
    cases h
    exact a_iret hB rfl e_C_pins_14 (by decide) (by decide)
set_option maxRecDepth 100000 in
theorem c_C_pins {G : Gt} (hG : GOK G) {φ : Ph} (hF : SF 134 φ)   {M : Mm} {l1 : Int32} {o : Nat ⊕ Int32} (h : f_C_pins M l1 = some o) : CT G I_C_pins [.ref 0, .int l1] M φ (oSi o) M (pS o φ) :=
  ct_of hG (by decide) (Nat.le_of_ble_eq_true rfl) (fun B hB => t_C_pins hB hF  h)
set_option maxRecDepth 100000 in
theorem t_C_droppedPins {G : Gt} {φ : Ph} {B : Bag} (hB : BF G I_C_droppedPins B) (hF : SF 134 φ)   {M : Mm} {o : Nat ⊕ Int32} {l1 : Int32}  (h : f_C_droppedPins M l1 = some o) : AW G I_C_droppedPins B (QM G I_C_droppedPins B (oSi o) M (pS o φ)) 0 0 0 [(0, .ref 0), (1, .int l1)] [] M φ := by
  unfold f_C_droppedPins at h
  refine a_aload_n (j := 0) hB e_C_droppedPins_0 rfl rfl ?_
  refine a_iload_n (j := 1) hB e_C_droppedPins_1 rfl rfl ?_
  rcases bt_i h with ⟨e2, hr2, rfl⟩ | ⟨r2, hr2, h⟩
  · exact a_thr (E := exS e2) (M1 := M) (φ1 := dirt φ) hB (ar_V (As := [.int l1]) (rest := []) hB (c_C_requireLeg (bf_G hB) hF hr2) ml_C_163 md_C_requireLeg rc_C_requireLeg (sf_lt hF (by decide)) kk_0 rfl rfl (Nat.le_of_ble_eq_true rfl) rm_C_droppedPins_C_requireLeg e_C_droppedPins_2) rfl (by decide) (by decide)
  · refine a_ret (v := none) (M1 := M) (φ1 := φ) (st1 := []) (j1 := 1) (j2 := 6) (ar_V (As := [.int l1]) (rest := []) hB (c_C_requireLeg (bf_G hB) hF hr2) ml_C_163 md_C_requireLeg rc_C_requireLeg (sf_lt hF (by decide)) kk_0 rfl rfl (Nat.le_of_ble_eq_true rfl) rm_C_droppedPins_C_requireLeg e_C_droppedPins_2) rfl rfl rfl ?_
    refine a_aload_n (j := 0) hB e_C_droppedPins_5 rfl rfl ?_
    refine a_getR (r := 15) (k := 7) hB e_C_droppedPins_6 fl_C_39 (sf_lt hF (by decide)) kk_0 tt_0_7 (hF.1 _ _) ?_
    refine a_getR (r := 22) (k := 6) hB e_C_droppedPins_9 fl_C_171 (sf_lt hF (by decide)) kk_15 tt_15_6 (hF.1 _ _) ?_
    refine a_iload_n (j := 1) hB e_C_droppedPins_12 rfl rfl ?_
    obtain ⟨c13, h⟩ := chk_i h
    refine a_iald' hB e_C_droppedPins_13 (sf_lt hF (by decide)) kk_22 ll_22 c13 ?_
    cases h
    exact a_iret hB rfl e_C_droppedPins_14 (by decide) (by decide)
set_option maxRecDepth 100000 in
theorem c_C_droppedPins {G : Gt} (hG : GOK G) {φ : Ph} (hF : SF 134 φ)   {M : Mm} {l1 : Int32} {o : Nat ⊕ Int32} (h : f_C_droppedPins M l1 = some o) : CT G I_C_droppedPins [.ref 0, .int l1] M φ (oSi o) M (pS o φ) :=
  ct_of hG (by decide) (Nat.le_of_ble_eq_true rfl) (fun B hB => t_C_droppedPins hB hF  h)
set_option maxRecDepth 100000 in
theorem t_C_readLength {G : Gt} {φ : Ph} {B : Bag} (hB : BF G I_C_readLength B) (hF : SF 134 φ)   {M : Mm} {o : Nat ⊕ Int32} {l1 : Int32}  (h : f_C_readLength M l1 = some o) : AW G I_C_readLength B (QM G I_C_readLength B (oSi o) M (pS o φ)) 0 0 0 [(0, .ref 0), (1, .int l1)] [] M φ := by
  unfold f_C_readLength at h
  refine a_aload_n (j := 0) hB e_C_readLength_0 rfl rfl ?_
  refine a_iload_n (j := 1) hB e_C_readLength_1 rfl rfl ?_
  rcases bt_i h with ⟨e2, hr2, rfl⟩ | ⟨r2, hr2, h⟩
  · exact a_thr (E := exS e2) (M1 := M) (φ1 := dirt φ) hB (ar_V (As := [.int l1]) (rest := []) hB (c_C_requireLeg (bf_G hB) hF hr2) ml_C_163 md_C_requireLeg rc_C_requireLeg (sf_lt hF (by decide)) kk_0 rfl rfl (Nat.le_of_ble_eq_true rfl) rm_C_readLength_C_requireLeg e_C_readLength_2) rfl (by decide) (by decide)
  · refine a_ret (v := none) (M1 := M) (φ1 := φ) (st1 := []) (j1 := 1) (j2 := 6) (ar_V (As := [.int l1]) (rest := []) hB (c_C_requireLeg (bf_G hB) hF hr2) ml_C_163 md_C_requireLeg rc_C_requireLeg (sf_lt hF (by decide)) kk_0 rfl rfl (Nat.le_of_ble_eq_true rfl) rm_C_readLength_C_requireLeg e_C_readLength_2) rfl rfl rfl ?_
    refine a_aload_n (j := 0) hB e_C_readLength_5 rfl rfl ?_
    refine a_getR (r := 15) (k := 7) hB e_C_readLength_6 fl_C_39 (sf_lt hF (by decide)) kk_0 tt_0_7 (hF.1 _ _) ?_
    refine a_iload_n (j := 1) hB e_C_readLength_9 rfl rfl ?_
    obtain ⟨r10, hr10, h⟩ := bn_i h
    refine a_ret (v := (some (.int r10))) (M1 := M) (φ1 := φ) (st1 := [.int r10]) (j1 := 1) (j2 := 6) (ar_V (As := [.int l1]) (rest := []) hB (c_S_readUnits (bf_G hB) hF sv_15 hr10) ml_C_221 md_S_readUnits rc_S_readUnits (sf_lt hF (by decide)) kk_15 rfl rfl (Nat.le_of_ble_eq_true rfl) rm_C_readLength_S_readUnits_1_6 e_C_readLength_10) rfl rfl rfl ?_
    cases h
    exact a_iret hB rfl e_C_readLength_13 (by decide) (by decide)
set_option maxRecDepth 100000 in
theorem c_C_readLength {G : Gt} (hG : GOK G) {φ : Ph} (hF : SF 134 φ)   {M : Mm} {l1 : Int32} {o : Nat ⊕ Int32} (h : f_C_readLength M l1 = some o) : CT G I_C_readLength [.ref 0, .int l1] M φ (oSi o) M (pS o φ) :=
  ct_of hG (by decide) (Nat.le_of_ble_eq_true rfl) (fun B hB => t_C_readLength hB hF  h)
set_option maxRecDepth 100000 in
theorem t_C_slopeLength {G : Gt} {φ : Ph} {B : Bag} (hB : BF G I_C_slopeLength B) (hF : SF 134 φ)   {M : Mm} {o : Nat ⊕ Int32} {l1 : Int32}  (h : f_C_slopeLength M l1 = some o) : AW G I_C_slopeLength B (QM G I_C_slopeLength B (oSi o) M (pS o φ)) 0 0 0 [(0, .ref 0), (1, .int l1)] [] M φ := by
  unfold f_C_slopeLength at h
  refine a_aload_n (j := 0) hB e_C_slopeLength_0 rfl rfl ?_
  refine a_iload_n (j := 1) hB e_C_slopeLength_1 rfl rfl ?_
  rcases bt_i h with ⟨e2, hr2, rfl⟩ | ⟨r2, hr2, h⟩
  · exact a_thr (E := exS e2) (M1 := M) (φ1 := dirt φ) hB (ar_V (As := [.int l1]) (rest := []) hB (c_C_requireLeg (bf_G hB) hF hr2) ml_C_163 md_C_requireLeg rc_C_requireLeg (sf_lt hF (by decide)) kk_0 rfl rfl (Nat.le_of_ble_eq_true rfl) rm_C_slopeLength_C_requireLeg e_C_slopeLength_2) rfl (by decide) (by decide)
  · refine a_ret (v := none) (M1 := M) (φ1 := φ) (st1 := []) (j1 := 1) (j2 := 6) (ar_V (As := [.int l1]) (rest := []) hB (c_C_requireLeg (bf_G hB) hF hr2) ml_C_163 md_C_requireLeg rc_C_requireLeg (sf_lt hF (by decide)) kk_0 rfl rfl (Nat.le_of_ble_eq_true rfl) rm_C_slopeLength_C_requireLeg e_C_slopeLength_2) rfl rfl rfl ?_
    refine a_aload_n (j := 0) hB e_C_slopeLength_5 rfl rfl ?_
    refine a_getR (r := 15) (k := 7) hB e_C_slopeLength_6 fl_C_39 (sf_lt hF (by decide)) kk_0 tt_0_7 (hF.1 _ _) ?_
    refine a_iload_n (j := 1) hB e_C_slopeLength_9 rfl rfl ?_
    obtain ⟨r10, hr10, h⟩ := bn_i h
    refine a_ret (v := (some (.int r10))) (M1 := M) (φ1 := φ) (st1 := [.int r10]) (j1 := 1) (j2 := 6) (ar_V (As := [.int l1]) (rest := []) hB (c_S_slopeUnits (bf_G hB) hF sv_15 hr10) ml_C_224 md_S_slopeUnits rc_S_slopeUnits (sf_lt hF (by decide)) kk_15 rfl rfl (Nat.le_of_ble_eq_true rfl) rm_C_slopeLength_S_slopeUnits_1_6 e_C_slopeLength_10) rfl rfl rfl ?_
    cases h
    exact a_iret hB rfl e_C_slopeLength_13 (by decide) (by decide)
set_option maxRecDepth 100000 in
theorem c_C_slopeLength {G : Gt} (hG : GOK G) {φ : Ph} (hF : SF 134 φ)   {M : Mm} {l1 : Int32} {o : Nat ⊕ Int32} (h : f_C_slopeLength M l1 = some o) : CT G I_C_slopeLength [.ref 0, .int l1] M φ (oSi o) M (pS o φ) :=
  ct_of hG (by decide) (Nat.le_of_ble_eq_true rfl) (fun B hB => t_C_slopeLength hB hF  h)
set_option maxRecDepth 100000 in
theorem t_C_horizontalLength {G : Gt} {φ : Ph} {B : Bag} (hB : BF G I_C_horizontalLength B) (hF : SF 134 φ)   {M : Mm} {o : Nat ⊕ Int32} {l1 : Int32}  (h : f_C_horizontalLength M l1 = some o) : AW G I_C_horizontalLength B (QM G I_C_horizontalLength B (oSi o) M (pS o φ)) 0 0 0 [(0, .ref 0), (1, .int l1)] [] M φ := by
  unfold f_C_horizontalLength at h
  refine a_aload_n (j := 0) hB e_C_horizontalLength_0 rfl rfl ?_
  refine a_iload_n (j := 1) hB e_C_horizontalLength_1 rfl rfl ?_
  rcases bt_i h with ⟨e2, hr2, rfl⟩ | ⟨r2, hr2, h⟩
  · exact a_thr (E := exS e2) (M1 := M) (φ1 := dirt φ) hB (ar_V (As := [.int l1]) (rest := []) hB (c_C_requireLeg (bf_G hB) hF hr2) ml_C_163 md_C_requireLeg rc_C_requireLeg (sf_lt hF (by decide)) kk_0 rfl rfl (Nat.le_of_ble_eq_true rfl) rm_C_horizontalLength_C_requireLeg e_C_horizontalLength_2) rfl (by decide) (by decide)
  · refine a_ret (v := none) (M1 := M) (φ1 := φ) (st1 := []) (j1 := 1) (j2 := 6) (ar_V (As := [.int l1]) (rest := []) hB (c_C_requireLeg (bf_G hB) hF hr2) ml_C_163 md_C_requireLeg rc_C_requireLeg (sf_lt hF (by decide)) kk_0 rfl rfl (Nat.le_of_ble_eq_true rfl) rm_C_horizontalLength_C_requireLeg e_C_horizontalLength_2) rfl rfl rfl ?_
    refine a_aload_n (j := 0) hB e_C_horizontalLength_5 rfl rfl ?_
    refine a_getR (r := 15) (k := 7) hB e_C_horizontalLength_6 fl_C_39 (sf_lt hF (by decide)) kk_0 tt_0_7 (hF.1 _ _) ?_
    refine a_iload_n (j := 1) hB e_C_horizontalLength_9 rfl rfl ?_
    obtain ⟨r10, hr10, h⟩ := bn_i h
    refine a_ret (v := (some (.int r10))) (M1 := M) (φ1 := φ) (st1 := [.int r10]) (j1 := 1) (j2 := 6) (ar_V (As := [.int l1]) (rest := []) hB (c_S_horizontalUnits (bf_G hB) hF sv_15 hr10) ml_C_227 md_S_horizontalUnits rc_S_horizontalUnits (sf_lt hF (by decide)) kk_15 rfl rfl (Nat.le_of_ble_eq_true rfl) rm_C_horizontalLength_S_horizontalUnits_1_6 e_C_horizontalLength_10) rfl rfl rfl ?_
    cases h
    exact a_iret hB rfl e_C_horizontalLength_13 (by decide) (by decide)
set_option maxRecDepth 100000 in
theorem c_C_horizontalLength {G : Gt} (hG : GOK G) {φ : Ph} (hF : SF 134 φ)   {M : Mm} {l1 : Int32} {o : Nat ⊕ Int32} (h : f_C_horizontalLength M l1 = some o) : CT G I_C_horizontalLength [.ref 0, .int l1] M φ (oSi o) M (pS o φ) :=
  ct_of hG (by decide) (Nat.le_of_ble_eq_true rfl) (fun B hB => t_C_horizontalLength hB hF  h)
set_option maxRecDepth 100000 in
theorem t_C_eastStep {G : Gt} {φ : Ph} {B : Bag} (hB : BF G I_C_eastStep B) (hF : SF 134 φ)   {M : Mm} {o : Nat ⊕ Int32} {l1 : Int32}  (h : f_C_eastStep M l1 = some o) : AW G I_C_eastStep B (QM G I_C_eastStep B (oSi o) M (pS o φ)) 0 0 0 [(0, .ref 0), (1, .int l1)] [] M φ := by
  unfold f_C_eastStep at h
  refine a_aload_n (j := 0) hB e_C_eastStep_0 rfl rfl ?_
  refine a_iload_n (j := 1) hB e_C_eastStep_1 rfl rfl ?_
  rcases bt_i h with ⟨e2, hr2, rfl⟩ | ⟨r2, hr2, h⟩
  · exact a_thr (E := exS e2) (M1 := M) (φ1 := dirt φ) hB (ar_V (As := [.int l1]) (rest := []) hB (c_C_requireLeg (bf_G hB) hF hr2) ml_C_163 md_C_requireLeg rc_C_requireLeg (sf_lt hF (by decide)) kk_0 rfl rfl (Nat.le_of_ble_eq_true rfl) rm_C_eastStep_C_requireLeg e_C_eastStep_2) rfl (by decide) (by decide)
  · refine a_ret (v := none) (M1 := M) (φ1 := φ) (st1 := []) (j1 := 1) (j2 := 6) (ar_V (As := [.int l1]) (rest := []) hB (c_C_requireLeg (bf_G hB) hF hr2) ml_C_163 md_C_requireLeg rc_C_requireLeg (sf_lt hF (by decide)) kk_0 rfl rfl (Nat.le_of_ble_eq_true rfl) rm_C_eastStep_C_requireLeg e_C_eastStep_2) rfl rfl rfl ?_
    refine a_aload_n (j := 0) hB e_C_eastStep_5 rfl rfl ?_
    refine a_getR (r := 15) (k := 7) hB e_C_eastStep_6 fl_C_39 (sf_lt hF (by decide)) kk_0 tt_0_7 (hF.1 _ _) ?_
    refine a_iload_n (j := 1) hB e_C_eastStep_9 rfl rfl ?_
    obtain ⟨r10, hr10, h⟩ := bn_i h
    refine a_ret (v := (some (.int r10))) (M1 := M) (φ1 := φ) (st1 := [.int r10]) (j1 := 1) (j2 := 6) (ar_V (As := [.int l1]) (rest := []) hB (c_S_horizontalUnits (bf_G hB) hF sv_15 hr10) ml_C_227 md_S_horizontalUnits rc_S_horizontalUnits (sf_lt hF (by decide)) kk_15 rfl rfl (Nat.le_of_ble_eq_true rfl) rm_C_eastStep_S_horizontalUnits_1_6 e_C_eastStep_10) rfl rfl rfl ?_
    refine a_aload_n (j := 0) hB e_C_eastStep_13 rfl rfl ?_
    refine a_getR (r := 15) (k := 7) hB e_C_eastStep_14 fl_C_39 (sf_lt hF (by decide)) kk_0 tt_0_7 (hF.1 _ _) ?_
    refine a_getR (r := 17) (k := 1) hB e_C_eastStep_17 fl_C_215 (sf_lt hF (by decide)) kk_15 tt_15_1 (hF.1 _ _) ?_
    refine a_iload_n (j := 1) hB e_C_eastStep_20 rfl rfl ?_
    obtain ⟨c21, h⟩ := chk_i h
    refine a_iald' hB e_C_eastStep_21 (sf_lt hF (by decide)) kk_17 ll_17 c21 ?_
    obtain ⟨r22, hr22, h⟩ := bn_i h
    refine a_ret (v := (some (.int r22))) (M1 := M) (φ1 := φ) (st1 := [.int r22, .int r10]) (j1 := 1) (j2 := 6) (ar_S (As := [.int (M 17 (ix l1))]) (rest := [.int r10]) hB (c_C_sine (bf_G hB) hF hr22) ml_C_230 md_C_sine rfl rfl (Nat.le_of_ble_eq_true rfl) rm_C_eastStep_C_sine_1_6 e_C_eastStep_22) rfl rfl rfl ?_
    obtain ⟨r25, hr25, h⟩ := bn_i h
    refine a_ret (v := (some (.int r25))) (M1 := M) (φ1 := φ) (st1 := [.int r25]) (j1 := 1) (j2 := 6) (ar_S (As := [.int r10, .int r22]) (rest := []) hB (c_C_stepOf (bf_G hB) hF hr25) ml_C_233 md_C_stepOf rfl rfl (Nat.le_of_ble_eq_true rfl) rm_C_eastStep_C_stepOf_1_6 e_C_eastStep_25) rfl rfl rfl ?_
    cases h
    exact a_iret hB rfl e_C_eastStep_28 (by decide) (by decide)
set_option maxRecDepth 100000 in
theorem c_C_eastStep {G : Gt} (hG : GOK G) {φ : Ph} (hF : SF 134 φ)   {M : Mm} {l1 : Int32} {o : Nat ⊕ Int32} (h : f_C_eastStep M l1 = some o) : CT G I_C_eastStep [.ref 0, .int l1] M φ (oSi o) M (pS o φ) :=
  ct_of hG (by decide) (Nat.le_of_ble_eq_true rfl) (fun B hB => t_C_eastStep hB hF  h)
set_option maxRecDepth 100000 in
theorem t_C_northStep {G : Gt} {φ : Ph} {B : Bag} (hB : BF G I_C_northStep B) (hF : SF 134 φ)   {M : Mm} {o : Nat ⊕ Int32} {l1 : Int32}  (h : f_C_northStep M l1 = some o) : AW G I_C_northStep B (QM G I_C_northStep B (oSi o) M (pS o φ)) 0 0 0 [(0, .ref 0), (1, .int l1)] [] M φ := by
  unfold f_C_northStep at h
  refine a_aload_n (j := 0) hB e_C_northStep_0 rfl rfl ?_
  refine a_iload_n (j := 1) hB e_C_northStep_1 rfl rfl ?_
  rcases bt_i h with ⟨e2, hr2, rfl⟩ | ⟨r2, hr2, h⟩
  · exact a_thr (E := exS e2) (M1 := M) (φ1 := dirt φ) hB (ar_V (As := [.int l1]) (rest := []) hB (c_C_requireLeg (bf_G hB) hF hr2) ml_C_163 md_C_requireLeg rc_C_requireLeg (sf_lt hF (by decide)) kk_0 rfl rfl (Nat.le_of_ble_eq_true rfl) rm_C_northStep_C_requireLeg e_C_northStep_2) rfl (by decide) (by decide)
  · refine a_ret (v := none) (M1 := M) (φ1 := φ) (st1 := []) (j1 := 1) (j2 := 6) (ar_V (As := [.int l1]) (rest := []) hB (c_C_requireLeg (bf_G hB) hF hr2) ml_C_163 md_C_requireLeg rc_C_requireLeg (sf_lt hF (by decide)) kk_0 rfl rfl (Nat.le_of_ble_eq_true rfl) rm_C_northStep_C_requireLeg e_C_northStep_2) rfl rfl rfl ?_
    refine a_aload_n (j := 0) hB e_C_northStep_5 rfl rfl ?_
    refine a_getR (r := 15) (k := 7) hB e_C_northStep_6 fl_C_39 (sf_lt hF (by decide)) kk_0 tt_0_7 (hF.1 _ _) ?_
    refine a_iload_n (j := 1) hB e_C_northStep_9 rfl rfl ?_
    obtain ⟨r10, hr10, h⟩ := bn_i h
    refine a_ret (v := (some (.int r10))) (M1 := M) (φ1 := φ) (st1 := [.int r10]) (j1 := 1) (j2 := 6) (ar_V (As := [.int l1]) (rest := []) hB (c_S_horizontalUnits (bf_G hB) hF sv_15 hr10) ml_C_227 md_S_horizontalUnits rc_S_horizontalUnits (sf_lt hF (by decide)) kk_15 rfl rfl (Nat.le_of_ble_eq_true rfl) rm_C_northStep_S_horizontalUnits_1_6 e_C_northStep_10) rfl rfl rfl ?_
    refine a_aload_n (j := 0) hB e_C_northStep_13 rfl rfl ?_
    refine a_getR (r := 15) (k := 7) hB e_C_northStep_14 fl_C_39 (sf_lt hF (by decide)) kk_0 tt_0_7 (hF.1 _ _) ?_
    refine a_getR (r := 17) (k := 1) hB e_C_northStep_17 fl_C_215 (sf_lt hF (by decide)) kk_15 tt_15_1 (hF.1 _ _) ?_
    refine a_iload_n (j := 1) hB e_C_northStep_20 rfl rfl ?_
    obtain ⟨c21, h⟩ := chk_i h
    refine a_iald' hB e_C_northStep_21 (sf_lt hF (by decide)) kk_17 ll_17 c21 ?_
    obtain ⟨r22, hr22, h⟩ := bn_i h
    refine a_ret (v := (some (.int r22))) (M1 := M) (φ1 := φ) (st1 := [.int r22, .int r10]) (j1 := 1) (j2 := 6) (ar_S (As := [.int (M 17 (ix l1))]) (rest := [.int r10]) hB (c_C_cosine (bf_G hB) hF hr22) ml_C_236 md_C_cosine rfl rfl (Nat.le_of_ble_eq_true rfl) rm_C_northStep_C_cosine_1_6 e_C_northStep_22) rfl rfl rfl ?_
    obtain ⟨r25, hr25, h⟩ := bn_i h
    refine a_ret (v := (some (.int r25))) (M1 := M) (φ1 := φ) (st1 := [.int r25]) (j1 := 1) (j2 := 6) (ar_S (As := [.int r10, .int r22]) (rest := []) hB (c_C_stepOf (bf_G hB) hF hr25) ml_C_233 md_C_stepOf rfl rfl (Nat.le_of_ble_eq_true rfl) rm_C_northStep_C_stepOf_1_6 e_C_northStep_25) rfl rfl rfl ?_
    cases h
    exact a_iret hB rfl e_C_northStep_28 (by decide) (by decide)
set_option maxRecDepth 100000 in
theorem c_C_northStep {G : Gt} (hG : GOK G) {φ : Ph} (hF : SF 134 φ)   {M : Mm} {l1 : Int32} {o : Nat ⊕ Int32} (h : f_C_northStep M l1 = some o) : CT G I_C_northStep [.ref 0, .int l1] M φ (oSi o) M (pS o φ) :=
  ct_of hG (by decide) (Nat.le_of_ble_eq_true rfl) (fun B hB => t_C_northStep hB hF  h)
set_option maxRecDepth 100000 in
theorem t_C_tallies {G : Gt} {φ : Ph} {B : Bag} (hB : BF G I_C_tallies B) (hF : SF 134 φ)   {M : Mm} {o : Nat ⊕ Int32} {l1 : Int32}  (h : f_C_tallies M l1 = some o) : AW G I_C_tallies B (QM G I_C_tallies B (oSi o) M (pS o φ)) 0 0 0 [(0, .ref 0), (1, .int l1)] [] M φ := by
  unfold f_C_tallies at h
  refine a_aload_n (j := 0) hB e_C_tallies_0 rfl rfl ?_
  refine a_iload_n (j := 1) hB e_C_tallies_1 rfl rfl ?_
  rcases bt_i h with ⟨e2, hr2, rfl⟩ | ⟨r2, hr2, h⟩
  · exact a_thr (E := exS e2) (M1 := M) (φ1 := dirt φ) hB (ar_V (As := [.int l1]) (rest := []) hB (c_C_requireLeg (bf_G hB) hF hr2) ml_C_163 md_C_requireLeg rc_C_requireLeg (sf_lt hF (by decide)) kk_0 rfl rfl (Nat.le_of_ble_eq_true rfl) rm_C_tallies_C_requireLeg e_C_tallies_2) rfl (by decide) (by decide)
  · refine a_ret (v := none) (M1 := M) (φ1 := φ) (st1 := []) (j1 := 1) (j2 := 6) (ar_V (As := [.int l1]) (rest := []) hB (c_C_requireLeg (bf_G hB) hF hr2) ml_C_163 md_C_requireLeg rc_C_requireLeg (sf_lt hF (by decide)) kk_0 rfl rfl (Nat.le_of_ble_eq_true rfl) rm_C_tallies_C_requireLeg e_C_tallies_2) rfl rfl rfl ?_
    refine a_aload_n (j := 0) hB e_C_tallies_5 rfl rfl ?_
    refine a_getR (r := 15) (k := 7) hB e_C_tallies_6 fl_C_39 (sf_lt hF (by decide)) kk_0 tt_0_7 (hF.1 _ _) ?_
    refine a_getR (r := 20) (k := 4) hB e_C_tallies_9 fl_C_218 (sf_lt hF (by decide)) kk_15 tt_15_4 (hF.1 _ _) ?_
    refine a_iload_n (j := 1) hB e_C_tallies_12 rfl rfl ?_
    obtain ⟨c13, h⟩ := chk_i h
    refine a_iald' hB e_C_tallies_13 (sf_lt hF (by decide)) kk_20 ll_20 c13 ?_
    refine a_aload_n (j := 0) hB e_C_tallies_14 rfl rfl ?_
    refine a_getR (r := 15) (k := 7) hB e_C_tallies_15 fl_C_39 (sf_lt hF (by decide)) kk_0 tt_0_7 (hF.1 _ _) ?_
    refine a_getR (r := 22) (k := 6) hB e_C_tallies_18 fl_C_171 (sf_lt hF (by decide)) kk_15 tt_15_6 (hF.1 _ _) ?_
    refine a_iload_n (j := 1) hB e_C_tallies_21 rfl rfl ?_
    refine a_iald' hB e_C_tallies_22 (sf_lt hF (by decide)) kk_22 ll_22 c13 ?_
    refine a_iadd hB e_C_tallies_23 ?_
    refine a_bipush (v := 10) hB e_C_tallies_24 bp_10 ?_
    refine a_idiv hB e_C_tallies_26 (by decide) ?_
    cases h
    exact a_iret hB rfl e_C_tallies_27 (by decide) (by decide)
set_option maxRecDepth 100000 in
theorem c_C_tallies {G : Gt} (hG : GOK G) {φ : Ph} (hF : SF 134 φ)   {M : Mm} {l1 : Int32} {o : Nat ⊕ Int32} (h : f_C_tallies M l1 = some o) : CT G I_C_tallies [.ref 0, .int l1] M φ (oSi o) M (pS o φ) :=
  ct_of hG (by decide) (Nat.le_of_ble_eq_true rfl) (fun B hB => t_C_tallies hB hF  h)
set_option maxRecDepth 100000 in
theorem t_C_isBog {G : Gt} {φ : Ph} {B : Bag} (hB : BF G I_C_isBog B) (hF : SF 134 φ)   {M : Mm} {o : Nat ⊕ Int32} {l1 : Int32}  (h : f_C_isBog M l1 = some o) : AW G I_C_isBog B (QM G I_C_isBog B (oSi o) M (pS o φ)) 0 0 0 [(0, .ref 0), (1, .int l1)] [] M φ := by
  unfold f_C_isBog at h
  refine a_aload_n (j := 0) hB e_C_isBog_0 rfl rfl ?_
  refine a_iload_n (j := 1) hB e_C_isBog_1 rfl rfl ?_
  rcases bt_i h with ⟨e2, hr2, rfl⟩ | ⟨r2, hr2, h⟩
  · exact a_thr (E := exS e2) (M1 := M) (φ1 := dirt φ) hB (ar_V (As := [.int l1]) (rest := []) hB (c_C_requireLeg (bf_G hB) hF hr2) ml_C_163 md_C_requireLeg rc_C_requireLeg (sf_lt hF (by decide)) kk_0 rfl rfl (Nat.le_of_ble_eq_true rfl) rm_C_isBog_C_requireLeg e_C_isBog_2) rfl (by decide) (by decide)
  · refine a_ret (v := none) (M1 := M) (φ1 := φ) (st1 := []) (j1 := 1) (j2 := 6) (ar_V (As := [.int l1]) (rest := []) hB (c_C_requireLeg (bf_G hB) hF hr2) ml_C_163 md_C_requireLeg rc_C_requireLeg (sf_lt hF (by decide)) kk_0 rfl rfl (Nat.le_of_ble_eq_true rfl) rm_C_isBog_C_requireLeg e_C_isBog_2) rfl rfl rfl ?_
    refine a_aload_n (j := 0) hB e_C_isBog_5 rfl rfl ?_
    refine a_getR (r := 15) (k := 7) hB e_C_isBog_6 fl_C_39 (sf_lt hF (by decide)) kk_0 tt_0_7 (hF.1 _ _) ?_
    refine a_getR (r := 18) (k := 2) hB e_C_isBog_9 fl_C_239 (sf_lt hF (by decide)) kk_15 tt_15_2 (hF.1 _ _) ?_
    refine a_iload_n (j := 1) hB e_C_isBog_12 rfl rfl ?_
    obtain ⟨c13, h⟩ := chk_i h
    refine a_zald' hB e_C_isBog_13 (sf_lt hF (by decide)) kk_18 ll_18 c13 ?_
    obtain ⟨z14, h⟩ := chk_i h
    cases h
    exact a_zret hB rfl z14 e_C_isBog_14 (by decide) (by decide)
set_option maxRecDepth 100000 in
theorem c_C_isBog {G : Gt} (hG : GOK G) {φ : Ph} (hF : SF 134 φ)   {M : Mm} {l1 : Int32} {o : Nat ⊕ Int32} (h : f_C_isBog M l1 = some o) : CT G I_C_isBog [.ref 0, .int l1] M φ (oSi o) M (pS o φ) :=
  ct_of hG (by decide) (Nat.le_of_ble_eq_true rfl) (fun B hB => t_C_isBog hB hF  h)
set_option maxRecDepth 100000 in
theorem t_C_nameLength_4 {G : Gt} {φ : Ph} {B : Bag} (hB : BF G I_C_nameLength B) (hF : SF 134 φ)   {M : Mm} {o : Int32} : ∀ (n : Nat) (l1 : Int32) (l2 : Int32), f_C_nameLength_4 n l1 l2 = some o → AW G I_C_nameLength B (QM G I_C_nameLength B (.inl (some (.int o))) M φ) 0 0 4 [(1, .int l1), (2, .int l2)] [] M φ := by
  intro n
  induction n with
  | zero => intro l1 l2 h; cases h
  | succ n hr4 =>
    intro l1 l2 h
    rw [f_C_nameLength_4] at h
    refine a_iload_n (j := 1) hB e_C_nameLength_4 rfl rfl ?_
    refine a_if_le (tgt := 18) hB e_C_nameLength_5 (by decide) (fun c => ?_) (fun c => ?_)
    · have h := ip c h
      refine a_iload_n (j := 0) hB e_C_nameLength_18 rfl rfl ?_
      cases h
      exact a_iret hB rfl e_C_nameLength_19 (by decide) (by decide)
    · have h := iq c h
      refine a_iinc (j := 0) (v := l1 + 1) (ls' := [(1, .int (l1 + 1)), (2, .int l2)]) hB e_C_nameLength_8 rfl (inc_1 _) (Nat.le_of_ble_eq_true rfl) rfl ?_
      refine a_iload_n (j := 1) hB e_C_nameLength_11 rfl rfl ?_
      refine a_iconst (v := 5) hB e_C_nameLength_12 ic_5 ?_
      refine a_ishr hB e_C_nameLength_13 ?_
      refine a_istore_n (ls' := [(2, .int (l2 >>> ((5 : Int32) &&& 31))), (1, .int (l1 + 1))]) hB e_C_nameLength_14 rfl (Nat.le_of_ble_eq_true rfl) rfl ?_
      refine a_goto (tgt := 4) hB e_C_nameLength_15 (by decide) ?_
      refine a_ls [1, 0] (ls' := [(1, .int (l1 + 1)), (2, .int (l2 >>> ((5 : Int32) &&& 31)))]) rfl ?_
      exact hr4 _ _ h
set_option maxRecDepth 100000 in
theorem t_C_nameLength {G : Gt} {φ : Ph} {B : Bag} (hB : BF G I_C_nameLength B) (hF : SF 134 φ)   {M : Mm} {o : Int32} {l0 : Int32}  (h : f_C_nameLength l0 = some o) : AW G I_C_nameLength B (QM G I_C_nameLength B (.inl (some (.int o))) M φ) 0 0 0 [(0, .int l0)] [] M φ := by
  unfold f_C_nameLength at h
  refine a_iconst (v := 0) hB e_C_nameLength_0 ic_0 ?_
  refine a_istore_n (ls' := [(1, .int (0 : Int32)), (0, .int l0)]) hB e_C_nameLength_1 rfl (Nat.le_of_ble_eq_true rfl) rfl ?_
  refine a_iload_n (j := 1) hB e_C_nameLength_2 rfl rfl ?_
  refine a_istore_n (ls' := [(2, .int l0), (1, .int (0 : Int32)), (0, .int l0)]) hB e_C_nameLength_3 rfl (Nat.le_of_ble_eq_true rfl) rfl ?_
  refine a_ls [1, 0] (ls' := [(1, .int (0 : Int32)), (2, .int l0)]) rfl ?_
  exact t_C_nameLength_4 hB hF _ _ _ h
set_option maxRecDepth 100000 in
theorem c_C_nameLength {G : Gt} (hG : GOK G) {φ : Ph} (hF : SF 134 φ)   {M : Mm} {l0 : Int32} {o : Int32} (h : f_C_nameLength l0 = some o) : CT G I_C_nameLength [.int l0] M φ (.inl (some (.int o))) M φ :=
  ct_of hG (by decide) (Nat.le_of_ble_eq_true rfl) (fun B hB => t_C_nameLength hB hF  h)
set_option maxRecDepth 100000 in
theorem t_C_nameByte {G : Gt} {φ : Ph} {B : Bag} (hB : BF G I_C_nameByte B) (hF : SF 134 φ)   {M : Mm} {o : Nat ⊕ Int32} {l1 : Int32} {l2 : Int32}  (h : f_C_nameByte M l1 l2 = some o) : AW G I_C_nameByte B (QM G I_C_nameByte B (oSi o) M (pS o φ)) 0 0 0 [(0, .ref 0), (1, .int l1), (2, .int l2)] [] M φ := by
  unfold f_C_nameByte at h
  refine a_aload_n (j := 0) hB e_C_nameByte_0 rfl rfl ?_
  refine a_iload_n (j := 1) hB e_C_nameByte_1 rfl rfl ?_
  rcases bt_i h with ⟨e2, hr2, rfl⟩ | ⟨r2, hr2, h⟩
  · exact a_thr (E := exS e2) (M1 := M) (φ1 := dirt φ) hB (ar_V (As := [.int l1]) (rest := []) hB (c_C_requireLeg (bf_G hB) hF hr2) ml_C_163 md_C_requireLeg rc_C_requireLeg (sf_lt hF (by decide)) kk_0 rfl rfl (Nat.le_of_ble_eq_true rfl) rm_C_nameByte_C_requireLeg e_C_nameByte_2) rfl (by decide) (by decide)
  · refine a_ret (v := none) (M1 := M) (φ1 := φ) (st1 := []) (j1 := 1) (j2 := 6) (ar_V (As := [.int l1]) (rest := []) hB (c_C_requireLeg (bf_G hB) hF hr2) ml_C_163 md_C_requireLeg rc_C_requireLeg (sf_lt hF (by decide)) kk_0 rfl rfl (Nat.le_of_ble_eq_true rfl) rm_C_nameByte_C_requireLeg e_C_nameByte_2) rfl rfl rfl ?_
    refine a_aload_n (j := 0) hB e_C_nameByte_5 rfl rfl ?_
    refine a_getR (r := 15) (k := 7) hB e_C_nameByte_6 fl_C_39 (sf_lt hF (by decide)) kk_0 tt_0_7 (hF.1 _ _) ?_
    refine a_getR (r := 16) (k := 0) hB e_C_nameByte_9 fl_C_242 (sf_lt hF (by decide)) kk_15 tt_15_0 (hF.1 _ _) ?_
    refine a_iload_n (j := 1) hB e_C_nameByte_12 rfl rfl ?_
    obtain ⟨c13, h⟩ := chk_i h
    refine a_iald' hB e_C_nameByte_13 (sf_lt hF (by decide)) kk_16 ll_16 c13 ?_
    refine a_istore_n (ls' := [(3, .int (M 16 (ix l1))), (0, .ref 0), (1, .int l1), (2, .int l2)]) hB e_C_nameByte_14 rfl (Nat.le_of_ble_eq_true rfl) rfl ?_
    refine a_iload_n (j := 0) hB e_C_nameByte_15 rfl rfl ?_
    obtain ⟨r16, hr16, h⟩ := bn_i h
    refine a_ret (v := (some (.int r16))) (M1 := M) (φ1 := φ) (st1 := [.int r16]) (j1 := 1) (j2 := 6) (ar_S (As := [.int (M 16 (ix l1))]) (rest := []) hB (c_C_nameLength (bf_G hB) hF hr16) ml_C_245 md_C_nameLength rfl rfl (Nat.le_of_ble_eq_true rfl) rm_C_nameByte_C_nameLength_1_6 e_C_nameByte_16) rfl rfl rfl ?_
    refine a_istore (ls' := [(4, .int r16), (3, .int (M 16 (ix l1))), (0, .ref 0), (1, .int l1), (2, .int l2)]) hB e_C_nameByte_19 (Nat.le_of_ble_eq_true rfl) rfl ?_
    refine a_iload_n (j := 4) hB e_C_nameByte_21 rfl rfl ?_
    refine a_iconst (v := 0) hB e_C_nameByte_22 ic_0 ?_
    refine a_iload (j := 0) hB e_C_nameByte_23 rfl ?_
    refine a_iconst (v := 1) hB e_C_nameByte_25 ic_1 ?_
    refine a_isub hB e_C_nameByte_26 ?_
    obtain ⟨r27, hr27, h⟩ := bn_i h
    refine a_ret (v := (some (.int r27))) (M1 := M) (φ1 := φ) (st1 := [.int r27]) (j1 := 1) (j2 := 6) (ar_S (As := [.int l2, .int (0 : Int32), .int (r16 - (1 : Int32))]) (rest := []) hB (c_C_isBetween (bf_G hB) hF hr27) ml_C_100 md_C_isBetween rfl rfl (Nat.le_of_ble_eq_true rfl) rm_C_nameByte_C_isBetween_1_6 e_C_nameByte_27) rfl rfl rfl ?_
    refine a_if_ne (tgt := 35) hB e_C_nameByte_30 (by decide) (fun c => ?_) (fun c => ?_)
    · have h := iq c h
      refine a_iconst (v := 5) hB e_C_nameByte_35 ic_5 ?_
      refine a_iload (j := 0) hB e_C_nameByte_36 rfl ?_
      refine a_iconst (v := 1) hB e_C_nameByte_38 ic_1 ?_
      refine a_isub hB e_C_nameByte_39 ?_
      refine a_iload_n (j := 4) hB e_C_nameByte_40 rfl rfl ?_
      refine a_isub hB e_C_nameByte_41 ?_
      refine a_imul hB e_C_nameByte_42 ?_
      refine a_istore (ls' := [(5, .int ((5 : Int32) * ((r16 - (1 : Int32)) - l2))), (4, .int r16), (3, .int (M 16 (ix l1))), (0, .ref 0), (1, .int l1), (2, .int l2)]) hB e_C_nameByte_43 (Nat.le_of_ble_eq_true rfl) rfl ?_
      refine a_bipush (v := 96) hB e_C_nameByte_45 bp_96 ?_
      refine a_iload_n (j := 2) hB e_C_nameByte_47 rfl rfl ?_
      refine a_iload (j := 0) hB e_C_nameByte_48 rfl ?_
      refine a_ishr hB e_C_nameByte_50 ?_
      refine a_bipush (v := 31) hB e_C_nameByte_51 bp_31 ?_
      refine a_iand hB e_C_nameByte_53 ?_
      refine a_iadd hB e_C_nameByte_54 ?_
      cases h
      exact a_iret hB rfl e_C_nameByte_55 (by decide) (by decide)
    · have h := ip c h
      refine a_iconst (v := -1) hB e_C_nameByte_33 ic_m1 ?_
      cases h
      exact a_iret hB rfl e_C_nameByte_34 (by decide) (by decide)
set_option maxRecDepth 100000 in
theorem c_C_nameByte {G : Gt} (hG : GOK G) {φ : Ph} (hF : SF 134 φ)   {M : Mm} {l1 : Int32} {l2 : Int32} {o : Nat ⊕ Int32} (h : f_C_nameByte M l1 l2 = some o) : CT G I_C_nameByte [.ref 0, .int l1, .int l2] M φ (oSi o) M (pS o φ) :=
  ct_of hG (by decide) (Nat.le_of_ble_eq_true rfl) (fun B hB => t_C_nameByte hB hF  h)
set_option maxRecDepth 100000 in
theorem t_C_findLeg_30 {G : Gt} {φ : Ph} {B : Bag} (hB : BF G I_C_findLeg B) (hF : SF 134 φ)   {M : Mm} {o : Int32} {t0 : Int32}  (h : f_C_findLeg_30 M t0 = some o) : AW G I_C_findLeg B (QM G I_C_findLeg B (.inl (some (.int o))) M φ) 0 0 30 [] [.int t0] M φ := by
  unfold f_C_findLeg_30 at h
  cases h
  exact a_iret hB rfl e_C_findLeg_30 (by decide) (by decide)
set_option maxRecDepth 100000 in
theorem t_C_findLeg {G : Gt} {φ : Ph} {B : Bag} (hB : BF G I_C_findLeg B) (hF : SF 134 φ)   {M : Mm} {o : Int32}   (h : f_C_findLeg M = some o) : AW G I_C_findLeg B (QM G I_C_findLeg B (.inl (some (.int o))) M φ) 0 0 0 [(0, .ref 0)] [] M φ := by
  unfold f_C_findLeg at h
  refine a_aload_n (j := 0) hB e_C_findLeg_0 rfl rfl ?_
  refine a_getR (r := 3) (k := 1) hB e_C_findLeg_1 fl_C_26 (sf_lt hF (by decide)) kk_0 tt_0_1 (hF.1 _ _) ?_
  refine a_iconst (v := 0) hB e_C_findLeg_4 ic_0 ?_
  refine a_aload_n (j := 0) hB e_C_findLeg_5 rfl rfl ?_
  refine a_getI (k := 2) hB e_C_findLeg_6 fl_C_94 (sf_lt hF (by decide)) kk_0 tt_0_2 ?_
  obtain ⟨r9, hr9, h⟩ := bn_i h
  refine a_ret (v := (some (.int r9))) (M1 := M) (φ1 := φ) (st1 := [.int r9]) (j1 := 0) (j2 := 0) (ar_S (As := [.ref 3, .int (0 : Int32), .int (M 0 2)]) (rest := []) hB (c_C_packedName (bf_G hB) hF hr9) ml_C_248 md_C_packedName rfl rfl (Nat.le_of_ble_eq_true rfl) rm_C_findLeg_C_packedName e_C_findLeg_9) rfl rfl rfl ?_
  refine a_istore_n (ls' := [(1, .int r9), (0, .ref 0)]) hB e_C_findLeg_12 rfl (Nat.le_of_ble_eq_true rfl) rfl ?_
  refine a_iload_n (j := 0) hB e_C_findLeg_13 rfl rfl ?_
  refine a_iconst (v := -1) hB e_C_findLeg_14 ic_m1 ?_
  refine a_icmp_ne (tgt := 22) hB e_C_findLeg_15 (by decide) (fun c => ?_) (fun c => ?_)
  · have h := iq c h
    refine a_aload_n (j := 1) hB e_C_findLeg_22 rfl rfl ?_
    refine a_getR (r := 15) (k := 7) hB e_C_findLeg_23 fl_C_39 (sf_lt hF (by decide)) kk_0 tt_0_7 (hF.1 _ _) ?_
    refine a_iload_n (j := 0) hB e_C_findLeg_26 rfl rfl ?_
    obtain ⟨r27, hr27, h⟩ := bn_i h
    refine a_ret (v := (some (.int r27))) (M1 := M) (φ1 := φ) (st1 := [.int r27]) (j1 := 0) (j2 := 0) (ar_V (As := [.int r9]) (rest := []) hB (c_S_legNamed (bf_G hB) hF sv_15 hr27) ml_C_157 md_S_legNamed rc_S_legNamed (sf_lt hF (by decide)) kk_15 rfl rfl (Nat.le_of_ble_eq_true rfl) rm_C_findLeg_S_legNamed e_C_findLeg_27) rfl rfl rfl ?_
    refine a_ls [] (ls' := []) rfl ?_
    exact t_C_findLeg_30 hB hF h
  · have h := ip c h
    refine a_iconst (v := -1) hB e_C_findLeg_18 ic_m1 ?_
    refine a_goto (tgt := 30) hB e_C_findLeg_19 (by decide) ?_
    refine a_ls [] (ls' := []) rfl ?_
    exact t_C_findLeg_30 hB hF h
set_option maxRecDepth 100000 in
theorem c_C_findLeg {G : Gt} (hG : GOK G) {φ : Ph} (hF : SF 134 φ)   {M : Mm}  {o : Int32} (h : f_C_findLeg M = some o) : CT G I_C_findLeg [.ref 0] M φ (.inl (some (.int o))) M φ :=
  ct_of hG (by decide) (Nat.le_of_ble_eq_true rfl) (fun B hB => t_C_findLeg hB hF  h)
set_option maxRecDepth 100000 in
theorem t_C_requireStation {G : Gt} {φ : Ph} {B : Bag} (hB : BF G I_C_requireStation B) (hF : SF 134 φ)   {M : Mm} {o : Nat ⊕ Unit} {l1 : Int32}  (h : f_C_requireStation M l1 = some o) : AW G I_C_requireStation B (QM G I_C_requireStation B (oSv o) M (pS o φ)) 0 0 0 [(0, .ref 0), (1, .int l1)] [] M φ := by
  unfold f_C_requireStation at h
  refine a_iload_n (j := 1) hB e_C_requireStation_0 rfl rfl ?_
  refine a_iconst (v := 0) hB e_C_requireStation_1 ic_0 ?_
  refine a_aload_n (j := 0) hB e_C_requireStation_2 rfl rfl ?_
  refine a_getR (r := 15) (k := 7) hB e_C_requireStation_3 fl_C_39 (sf_lt hF (by decide)) kk_0 tt_0_7 (hF.1 _ _) ?_
  refine a_getI (k := 9) hB e_C_requireStation_6 fl_C_115 (sf_lt hF (by decide)) kk_15 tt_15_9 ?_
  obtain ⟨r9, hr9, h⟩ := bn_i h
  refine a_ret (v := (some (.int r9))) (M1 := M) (φ1 := φ) (st1 := [.int r9]) (j1 := 0) (j2 := 0) (ar_S (As := [.int l1, .int (0 : Int32), .int (M 15 9)]) (rest := []) hB (c_C_isBetween (bf_G hB) hF hr9) ml_C_100 md_C_isBetween rfl rfl (Nat.le_of_ble_eq_true rfl) rm_C_requireStation_C_isBetween e_C_requireStation_9) rfl rfl rfl ?_
  refine a_if_ne (tgt := 26) hB e_C_requireStation_12 (by decide) (fun c => ?_) (fun c => ?_)
  · have h := iq c h
    cases h
    exact a_vret hB rfl e_C_requireStation_26 (by decide) (by decide)
  · have h := ip c h
    cases h
    exact a_throwSW (E := "java/lang/IndexOutOfBoundsException") (i := 28) hB (by decide) cl_C_336 ini_3 rfl at_C_340 rfl e_C_requireStation_15 e_C_requireStation_18 e_C_requireStation_19 e_C_requireStation_22 e_C_requireStation_25 (by decide) (by decide) (by decide) (by decide)
set_option maxRecDepth 100000 in
theorem c_C_requireStation {G : Gt} (hG : GOK G) {φ : Ph} (hF : SF 134 φ)   {M : Mm} {l1 : Int32} {o : Nat ⊕ Unit} (h : f_C_requireStation M l1 = some o) : CT G I_C_requireStation [.ref 0, .int l1] M φ (oSv o) M (pS o φ) :=
  ct_of hG (by decide) (Nat.le_of_ble_eq_true rfl) (fun B hB => t_C_requireStation hB hF  h)
set_option maxRecDepth 100000 in
theorem t_C_followed {G : Gt} {φ : Ph} {B : Bag} (hB : BF G I_C_followed B) (hF : SF 134 φ)    {M9 : Mm}  {M : Mm} (h : f_C_followed M = some M9) : AW G I_C_followed B (QM G I_C_followed B (.inl (some (.ref 25))) M9 φ) 0 0 0 [(0, .ref 0)] [] M φ := by
  unfold f_C_followed at h
  refine a_aload_n (j := 0) hB e_C_followed_0 rfl rfl ?_
  refine a_getR (r := 25) (k := 9) hB e_C_followed_1 fl_C_52 (sf_lt hF (by decide)) kk_0 tt_0_9 (hF.1 _ _) ?_
  refine a_aload_n (j := 0) hB e_C_followed_4 rfl rfl ?_
  refine a_getR (r := 15) (k := 7) hB e_C_followed_5 fl_C_39 (sf_lt hF (by decide)) kk_0 tt_0_7 (hF.1 _ _) ?_
  obtain ⟨M8, hr8, h⟩ := bn_i h
  refine a_ret (v := none) (M1 := M8) (φ1 := φ) (st1 := []) (j1 := 0) (j2 := 0) (ar_V (As := [.ref 15]) (rest := []) hB (c_T_follow (bf_G hB) hF sv_15 hr8) ml_C_301 md_T_follow rc_T_follow (sf_lt hF (by decide)) kk_25 rfl rfl (Nat.le_of_ble_eq_true rfl) rm_C_followed_T_follow e_C_followed_8) rfl rfl rfl ?_
  refine a_aload_n (j := 0) hB e_C_followed_11 rfl rfl ?_
  refine a_getR (r := 25) (k := 9) hB e_C_followed_12 fl_C_52 (sf_lt hF (by decide)) kk_0 tt_0_9 (hF.1 _ _) ?_
  cases h
  exact a_aret hB rfl e_C_followed_15 (by decide) (by decide)
set_option maxRecDepth 100000 in
theorem c_C_followed {G : Gt} (hG : GOK G) {φ : Ph} (hF : SF 134 φ)   {M : Mm}  {M9 : Mm} (h : f_C_followed M = some M9) : CT G I_C_followed [.ref 0] M φ (.inl (some (.ref 25))) M9 φ :=
  ct_of hG (by decide) (Nat.le_of_ble_eq_true rfl) (fun B hB => t_C_followed hB hF  h)
set_option maxRecDepth 100000 in
theorem t_C_rawEast {G : Gt} {φ : Ph} {B : Bag} (hB : BF G I_C_rawEast B) (hF : SF 134 φ)    {o : Nat ⊕ Int32} {M9 : Mm} {l1 : Int32} {M : Mm} (h : f_C_rawEast l1 M = some (o, M9)) : AW G I_C_rawEast B (QM G I_C_rawEast B (oSi o) M9 (pS o φ)) 0 0 0 [(0, .ref 0), (1, .int l1)] [] M φ := by
  unfold f_C_rawEast at h
  refine a_aload_n (j := 0) hB e_C_rawEast_0 rfl rfl ?_
  refine a_iload_n (j := 1) hB e_C_rawEast_1 rfl rfl ?_
  rcases bti_i h with ⟨e2, hr2, rfl, hz⟩ | ⟨r2, hr2, h⟩
  · obtain rfl := hz.symm
    exact a_thr (E := exS e2) (M1 := M) (φ1 := dirt φ) hB (ar_V (As := [.int l1]) (rest := []) hB (c_C_requireStation (bf_G hB) hF hr2) ml_C_252 md_C_requireStation rc_C_requireStation (sf_lt hF (by decide)) kk_0 rfl rfl (Nat.le_of_ble_eq_true rfl) rm_C_rawEast_C_requireStation e_C_rawEast_2) rfl (by decide) (by decide)
  · refine a_ret (v := none) (M1 := M) (φ1 := φ) (st1 := []) (j1 := 1) (j2 := 6) (ar_V (As := [.int l1]) (rest := []) hB (c_C_requireStation (bf_G hB) hF hr2) ml_C_252 md_C_requireStation rc_C_requireStation (sf_lt hF (by decide)) kk_0 rfl rfl (Nat.le_of_ble_eq_true rfl) rm_C_rawEast_C_requireStation e_C_rawEast_2) rfl rfl rfl ?_
    refine a_aload_n (j := 0) hB e_C_rawEast_5 rfl rfl ?_
    obtain ⟨M6, hr6, h⟩ := bn_i h
    refine a_ret (v := (some (.ref 25))) (M1 := M6) (φ1 := φ) (st1 := [.ref 25]) (j1 := 1) (j2 := 6) (ar_V (As := []) (rest := []) hB (c_C_followed (bf_G hB) hF hr6) ml_C_255 md_C_followed rc_C_followed (sf_lt hF (by decide)) kk_0 rfl rfl (Nat.le_of_ble_eq_true rfl) rm_C_rawEast_C_followed_1_6 e_C_rawEast_6) rfl rfl rfl ?_
    refine a_getR (r := 27) (k := 1) hB e_C_rawEast_9 fl_C_259 (sf_lt hF (by decide)) kk_25 tt_25_1 (hF.1 _ _) ?_
    refine a_iload_n (j := 1) hB e_C_rawEast_12 rfl rfl ?_
    obtain ⟨c13, h⟩ := chk_i h
    refine a_iald' hB e_C_rawEast_13 (sf_lt hF (by decide)) kk_27 ll_27 c13 ?_
    cases h
    exact a_iret hB rfl e_C_rawEast_14 (by decide) (by decide)
set_option maxRecDepth 100000 in
theorem c_C_rawEast {G : Gt} (hG : GOK G) {φ : Ph} (hF : SF 134 φ)   {M : Mm} {l1 : Int32} {o : Nat ⊕ Int32} {M9 : Mm} (h : f_C_rawEast l1 M = some (o, M9)) : CT G I_C_rawEast [.ref 0, .int l1] M φ (oSi o) M9 (pS o φ) :=
  ct_of hG (by decide) (Nat.le_of_ble_eq_true rfl) (fun B hB => t_C_rawEast hB hF  h)
set_option maxRecDepth 100000 in
theorem t_C_rawNorth {G : Gt} {φ : Ph} {B : Bag} (hB : BF G I_C_rawNorth B) (hF : SF 134 φ)    {o : Nat ⊕ Int32} {M9 : Mm} {l1 : Int32} {M : Mm} (h : f_C_rawNorth l1 M = some (o, M9)) : AW G I_C_rawNorth B (QM G I_C_rawNorth B (oSi o) M9 (pS o φ)) 0 0 0 [(0, .ref 0), (1, .int l1)] [] M φ := by
  unfold f_C_rawNorth at h
  refine a_aload_n (j := 0) hB e_C_rawNorth_0 rfl rfl ?_
  refine a_iload_n (j := 1) hB e_C_rawNorth_1 rfl rfl ?_
  rcases bti_i h with ⟨e2, hr2, rfl, hz⟩ | ⟨r2, hr2, h⟩
  · obtain rfl := hz.symm
    exact a_thr (E := exS e2) (M1 := M) (φ1 := dirt φ) hB (ar_V (As := [.int l1]) (rest := []) hB (c_C_requireStation (bf_G hB) hF hr2) ml_C_252 md_C_requireStation rc_C_requireStation (sf_lt hF (by decide)) kk_0 rfl rfl (Nat.le_of_ble_eq_true rfl) rm_C_rawNorth_C_requireStation e_C_rawNorth_2) rfl (by decide) (by decide)
  · refine a_ret (v := none) (M1 := M) (φ1 := φ) (st1 := []) (j1 := 1) (j2 := 6) (ar_V (As := [.int l1]) (rest := []) hB (c_C_requireStation (bf_G hB) hF hr2) ml_C_252 md_C_requireStation rc_C_requireStation (sf_lt hF (by decide)) kk_0 rfl rfl (Nat.le_of_ble_eq_true rfl) rm_C_rawNorth_C_requireStation e_C_rawNorth_2) rfl rfl rfl ?_
    refine a_aload_n (j := 0) hB e_C_rawNorth_5 rfl rfl ?_
    obtain ⟨M6, hr6, h⟩ := bn_i h
    refine a_ret (v := (some (.ref 25))) (M1 := M6) (φ1 := φ) (st1 := [.ref 25]) (j1 := 1) (j2 := 6) (ar_V (As := []) (rest := []) hB (c_C_followed (bf_G hB) hF hr6) ml_C_255 md_C_followed rc_C_followed (sf_lt hF (by decide)) kk_0 rfl rfl (Nat.le_of_ble_eq_true rfl) rm_C_rawNorth_C_followed_1_6 e_C_rawNorth_6) rfl rfl rfl ?_
    refine a_getR (r := 28) (k := 2) hB e_C_rawNorth_9 fl_C_262 (sf_lt hF (by decide)) kk_25 tt_25_2 (hF.1 _ _) ?_
    refine a_iload_n (j := 1) hB e_C_rawNorth_12 rfl rfl ?_
    obtain ⟨c13, h⟩ := chk_i h
    refine a_iald' hB e_C_rawNorth_13 (sf_lt hF (by decide)) kk_28 ll_28 c13 ?_
    cases h
    exact a_iret hB rfl e_C_rawNorth_14 (by decide) (by decide)
set_option maxRecDepth 100000 in
theorem c_C_rawNorth {G : Gt} (hG : GOK G) {φ : Ph} (hF : SF 134 φ)   {M : Mm} {l1 : Int32} {o : Nat ⊕ Int32} {M9 : Mm} (h : f_C_rawNorth l1 M = some (o, M9)) : CT G I_C_rawNorth [.ref 0, .int l1] M φ (oSi o) M9 (pS o φ) :=
  ct_of hG (by decide) (Nat.le_of_ble_eq_true rfl) (fun B hB => t_C_rawNorth hB hF  h)
set_option maxRecDepth 100000 in
theorem t_C_east {G : Gt} {φ : Ph} {B : Bag} (hB : BF G I_C_east B) (hF : SF 134 φ)    {o : Nat ⊕ Int32} {M9 : Mm} {l1 : Int32} {M : Mm} (h : f_C_east l1 M = some (o, M9)) : AW G I_C_east B (QM G I_C_east B (oSi o) M9 (pS o φ)) 0 0 0 [(0, .ref 0), (1, .int l1)] [] M φ := by
  unfold f_C_east at h
  refine a_aload_n (j := 0) hB e_C_east_0 rfl rfl ?_
  refine a_iload_n (j := 1) hB e_C_east_1 rfl rfl ?_
  rcases bti_i h with ⟨e2, hr2, rfl, hz⟩ | ⟨r2, hr2, h⟩
  · obtain rfl := hz.symm
    exact a_thr (E := exS e2) (M1 := M) (φ1 := dirt φ) hB (ar_V (As := [.int l1]) (rest := []) hB (c_C_requireStation (bf_G hB) hF hr2) ml_C_252 md_C_requireStation rc_C_requireStation (sf_lt hF (by decide)) kk_0 rfl rfl (Nat.le_of_ble_eq_true rfl) rm_C_east_C_requireStation e_C_east_2) rfl (by decide) (by decide)
  · refine a_ret (v := none) (M1 := M) (φ1 := φ) (st1 := []) (j1 := 1) (j2 := 6) (ar_V (As := [.int l1]) (rest := []) hB (c_C_requireStation (bf_G hB) hF hr2) ml_C_252 md_C_requireStation rc_C_requireStation (sf_lt hF (by decide)) kk_0 rfl rfl (Nat.le_of_ble_eq_true rfl) rm_C_east_C_requireStation e_C_east_2) rfl rfl rfl ?_
    refine a_aload_n (j := 0) hB e_C_east_5 rfl rfl ?_
    obtain ⟨M6, hr6, h⟩ := bn_i h
    refine a_ret (v := (some (.ref 25))) (M1 := M6) (φ1 := φ) (st1 := [.ref 25]) (j1 := 1) (j2 := 6) (ar_V (As := []) (rest := []) hB (c_C_followed (bf_G hB) hF hr6) ml_C_255 md_C_followed rc_C_followed (sf_lt hF (by decide)) kk_0 rfl rfl (Nat.le_of_ble_eq_true rfl) rm_C_east_C_followed_1_6 e_C_east_6) rfl rfl rfl ?_
    refine a_getR (r := 29) (k := 3) hB e_C_east_9 fl_C_265 (sf_lt hF (by decide)) kk_25 tt_25_3 (hF.1 _ _) ?_
    refine a_iload_n (j := 1) hB e_C_east_12 rfl rfl ?_
    obtain ⟨c13, h⟩ := chk_i h
    refine a_iald' hB e_C_east_13 (sf_lt hF (by decide)) kk_29 ll_29 c13 ?_
    cases h
    exact a_iret hB rfl e_C_east_14 (by decide) (by decide)
set_option maxRecDepth 100000 in
theorem c_C_east {G : Gt} (hG : GOK G) {φ : Ph} (hF : SF 134 φ)   {M : Mm} {l1 : Int32} {o : Nat ⊕ Int32} {M9 : Mm} (h : f_C_east l1 M = some (o, M9)) : CT G I_C_east [.ref 0, .int l1] M φ (oSi o) M9 (pS o φ) :=
  ct_of hG (by decide) (Nat.le_of_ble_eq_true rfl) (fun B hB => t_C_east hB hF  h)
