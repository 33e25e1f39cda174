/-! the functions are what the machine does -/
set_option maxRecDepth 100000 in
theorem t_S_hasBog_2 {G : Gt} {φ : Ph} {B : Bag} (hB : BF G I_S_hasBog B) (hF : SF 134 φ) {a : Nat} (hs_a : isSv a) {M : Mm} {o : Int32} : ∀ (n : Nat) (l1 : Int32), f_S_hasBog_2 a M n l1 = some o → AW G I_S_hasBog B (QM G I_S_hasBog B (.inl (some (.int o))) M φ) 0 0 2 [(0, .ref a), (1, .int l1)] [] M φ := by
  intro n
  induction n with
  | zero => intro l1 h; cases h
  | succ n hr2 =>
    intro l1 h
    rw [f_S_hasBog_2] at h
    refine a_iload_n (j := 1) hB e_S_hasBog_2 rfl rfl ?_
    refine a_aload_n (j := 0) hB e_S_hasBog_3 rfl rfl ?_
    refine a_getI (k := 9) hB e_S_hasBog_4 fl_S_44 (sv_lt hs_a hF (by decide)) (sv_kd hs_a) (sv_t0 hs_a 0 (by decide)) ?_
    refine a_icmp_ge (tgt := 27) hB e_S_hasBog_7 (by decide) (fun c => ?_) (fun c => ?_)
    · have h := ip c h
      refine a_iconst (v := 0) hB e_S_hasBog_27 ic_0 ?_
      cases h
      exact a_zret hB rfl (Or.inl rfl) e_S_hasBog_28 (by decide) (by decide)
    · have h := iq c h
      refine a_aload_n (j := 0) hB e_S_hasBog_10 rfl rfl ?_
      refine a_getR (r := a + 1 + 2) (k := 2) hB e_S_hasBog_11 fl_S_18 (sv_lt hs_a hF (by decide)) (sv_kd hs_a) (sv_t hs_a 2 (by decide)) (hF.1 _ _) ?_
      refine a_iload_n (j := 1) hB e_S_hasBog_14 rfl rfl ?_
      obtain ⟨c15, h⟩ := chk_i h
      refine a_zald' hB e_S_hasBog_15 (sv_la hs_a hF (by decide) 2 (by decide)) (sv_kz hs_a) (sv_ln hs_a 2 (by decide)) c15 ?_
      refine a_if_eq (tgt := 21) hB e_S_hasBog_16 (by decide) (fun c => ?_) (fun c => ?_)
      · have h := ip c h
        refine a_iinc (j := 1) (v := l1 + 1) (ls' := [(1, .int (l1 + 1)), (0, .ref a)]) hB e_S_hasBog_21 rfl (inc_1 _) (Nat.le_of_ble_eq_true rfl) rfl ?_
        refine a_goto (tgt := 2) hB e_S_hasBog_24 (by decide) ?_
        refine a_ls [1, 0] (ls' := [(0, .ref a), (1, .int (l1 + 1))]) rfl ?_
        exact hr2 _ h
      · have h := iq c h
        refine a_iconst (v := 1) hB e_S_hasBog_19 ic_1 ?_
        cases h
        exact a_zret hB rfl (Or.inr rfl) e_S_hasBog_20 (by decide) (by decide)
set_option maxRecDepth 100000 in
theorem t_S_hasBog {G : Gt} {φ : Ph} {B : Bag} (hB : BF G I_S_hasBog B) (hF : SF 134 φ) {a : Nat} (hs_a : isSv a) {M : Mm} {o : Int32}   (h : f_S_hasBog a M = some o) : AW G I_S_hasBog B (QM G I_S_hasBog B (.inl (some (.int o))) M φ) 0 0 0 [(0, .ref a)] [] M φ := by
  unfold f_S_hasBog at h
  refine a_iconst (v := 0) hB e_S_hasBog_0 ic_0 ?_
  refine a_istore_n (ls' := [(1, .int (0 : Int32)), (0, .ref a)]) hB e_S_hasBog_1 rfl (Nat.le_of_ble_eq_true rfl) rfl ?_
  refine a_ls [1, 0] (ls' := [(0, .ref a), (1, .int (0 : Int32))]) rfl ?_
  exact t_S_hasBog_2 hB hF hs_a _ _ h
set_option maxRecDepth 100000 in
theorem c_S_hasBog {G : Gt} (hG : GOK G) {φ : Ph} (hF : SF 134 φ) {a : Nat} (hs_a : isSv a) {M : Mm}  {o : Int32} (h : f_S_hasBog a M = some o) : CT G I_S_hasBog [.ref a] M φ (.inl (some (.int o))) M φ :=
  ct_of hG (by decide) (Nat.le_of_ble_eq_true rfl) (fun B hB => t_S_hasBog hB hF hs_a h)
set_option maxRecDepth 100000 in
theorem t_S_readUnits {G : Gt} {φ : Ph} {B : Bag} (hB : BF G I_S_readUnits B) (hF : SF 134 φ) {a : Nat} (hs_a : isSv a) {M : Mm} {o : Int32} {l1 : Int32}  (h : f_S_readUnits a M l1 = some o) : AW G I_S_readUnits B (QM G I_S_readUnits B (.inl (some (.int o))) M φ) 0 0 0 [(0, .ref a), (1, .int l1)] [] M φ := by
  unfold f_S_readUnits at h
  refine a_aload_n (j := 0) hB e_S_readUnits_0 rfl rfl ?_
  refine a_getR (r := a + 1 + 2) (k := 2) hB e_S_readUnits_1 fl_S_18 (sv_lt hs_a hF (by decide)) (sv_kd hs_a) (sv_t hs_a 2 (by decide)) (hF.1 _ _) ?_
  refine a_iload_n (j := 1) hB e_S_readUnits_4 rfl rfl ?_
  obtain ⟨c5, h⟩ := chk_i h
  refine a_zald' hB e_S_readUnits_5 (sv_la hs_a hF (by decide) 2 (by decide)) (sv_kz hs_a) (sv_ln hs_a 2 (by decide)) c5 ?_
  refine a_if_eq (tgt := 21) hB e_S_readUnits_6 (by decide) (fun c => ?_) (fun c => ?_)
  · have h := ip c h
    refine a_aload_n (j := 0) hB e_S_readUnits_21 rfl rfl ?_
    refine a_getR (r := a + 1 + 4) (k := 4) hB e_S_readUnits_22 fl_S_25 (sv_lt hs_a hF (by decide)) (sv_kd hs_a) (sv_t hs_a 4 (by decide)) (hF.1 _ _) ?_
    refine a_iload_n (j := 1) hB e_S_readUnits_25 rfl rfl ?_
    refine a_iald' hB e_S_readUnits_26 (sv_la hs_a hF (by decide) 4 (by decide)) (sv_ki hs_a 4 (by decide) (by decide)) (sv_ln hs_a 4 (by decide)) c5 ?_
    refine a_aload_n (j := 0) hB e_S_readUnits_27 rfl rfl ?_
    refine a_getR (r := a + 1 + 6) (k := 6) hB e_S_readUnits_28 fl_S_31 (sv_lt hs_a hF (by decide)) (sv_kd hs_a) (sv_t hs_a 6 (by decide)) (hF.1 _ _) ?_
    refine a_iload_n (j := 1) hB e_S_readUnits_31 rfl rfl ?_
    refine a_iald' hB e_S_readUnits_32 (sv_la hs_a hF (by decide) 6 (by decide)) (sv_ki hs_a 6 (by decide) (by decide)) (sv_ln hs_a 6 (by decide)) c5 ?_
    refine a_iadd hB e_S_readUnits_33 ?_
    refine a_sipush (v := 10000) hB e_S_readUnits_34 sp_10000 ?_
    refine a_imul hB e_S_readUnits_37 ?_
    refine a_aload_n (j := 0) hB e_S_readUnits_38 rfl rfl ?_
    refine a_getR (r := a + 1 + 5) (k := 5) hB e_S_readUnits_39 fl_S_28 (sv_lt hs_a hF (by decide)) (sv_kd hs_a) (sv_t hs_a 5 (by decide)) (hF.1 _ _) ?_
    refine a_iload_n (j := 1) hB e_S_readUnits_42 rfl rfl ?_
    refine a_iald' hB e_S_readUnits_43 (sv_la hs_a hF (by decide) 5 (by decide)) (sv_ki hs_a 5 (by decide) (by decide)) (sv_ln hs_a 5 (by decide)) c5 ?_
    refine a_bipush (v := 100) hB e_S_readUnits_44 bp_100 ?_
    refine a_imul hB e_S_readUnits_46 ?_
    refine a_iadd hB e_S_readUnits_47 ?_
    cases h
    exact a_iret hB rfl e_S_readUnits_48 (by decide) (by decide)
  · have h := iq c h
    refine a_aload_n (j := 0) hB e_S_readUnits_9 rfl rfl ?_
    refine a_getR (r := a + 1 + 3) (k := 3) hB e_S_readUnits_10 fl_S_22 (sv_lt hs_a hF (by decide)) (sv_kd hs_a) (sv_t hs_a 3 (by decide)) (hF.1 _ _) ?_
    refine a_iload_n (j := 1) hB e_S_readUnits_13 rfl rfl ?_
    refine a_iald' hB e_S_readUnits_14 (sv_la hs_a hF (by decide) 3 (by decide)) (sv_ki hs_a 3 (by decide) (by decide)) (sv_ln hs_a 3 (by decide)) c5 ?_
    refine a_aload_n (j := 0) hB e_S_readUnits_15 rfl rfl ?_
    refine a_getI (k := 11) hB e_S_readUnits_16 fl_S_40 (sv_lt hs_a hF (by decide)) (sv_kd hs_a) (sv_t0 hs_a 2 (by decide)) ?_
    refine a_imul hB e_S_readUnits_19 ?_
    cases h
    exact a_iret hB rfl e_S_readUnits_20 (by decide) (by decide)
set_option maxRecDepth 100000 in
theorem c_S_readUnits {G : Gt} (hG : GOK G) {φ : Ph} (hF : SF 134 φ) {a : Nat} (hs_a : isSv a) {M : Mm} {l1 : Int32} {o : Int32} (h : f_S_readUnits a M l1 = some o) : CT G I_S_readUnits [.ref a, .int l1] M φ (.inl (some (.int o))) M φ :=
  ct_of hG (by decide) (Nat.le_of_ble_eq_true rfl) (fun B hB => t_S_readUnits hB hF hs_a h)
set_option maxRecDepth 100000 in
theorem t_S_slopeUnits_53 {G : Gt} {φ : Ph} {B : Bag} (hB : BF G I_S_slopeUnits B) (hF : SF 134 φ) {a : Nat} (hs_a : isSv a) {M : Mm} {o : Int32} {l2 : Int64}  (h : f_S_slopeUnits_53 a M l2 = some o) : AW G I_S_slopeUnits B (QM G I_S_slopeUnits B (.inl (some (.int o))) M φ) 0 0 53 [(2, .long l2)] [] M φ := by
  unfold f_S_slopeUnits_53 at h
  refine a_lload_n (j := 0) hB e_S_slopeUnits_53 rfl rfl ?_
  refine a_l2i hB e_S_slopeUnits_54 ?_
  cases h
  exact a_iret hB rfl e_S_slopeUnits_55 (by decide) (by decide)
set_option maxRecDepth 100000 in
theorem t_S_slopeUnits {G : Gt} {φ : Ph} {B : Bag} (hB : BF G I_S_slopeUnits B) (hF : SF 134 φ) {a : Nat} (hs_a : isSv a) {M : Mm} {o : Int32} {l1 : Int32}  (h : f_S_slopeUnits a M l1 = some o) : AW G I_S_slopeUnits B (QM G I_S_slopeUnits B (.inl (some (.int o))) M φ) 0 0 0 [(0, .ref a), (1, .int l1)] [] M φ := by
  unfold f_S_slopeUnits at h
  refine a_aload_n (j := 0) hB e_S_slopeUnits_0 rfl rfl ?_
  refine a_iload_n (j := 1) hB e_S_slopeUnits_1 rfl rfl ?_
  obtain ⟨r2, hr2, h⟩ := bn_i h
  refine a_ret (v := (some (.int r2))) (M1 := M) (φ1 := φ) (st1 := [.int r2]) (j1 := 0) (j2 := 0) (ar_V (As := [.int l1]) (rest := []) hB (c_S_readUnits (bf_G hB) hF hs_a hr2) ml_S_58 md_S_readUnits rc_S_readUnits (sv_lt hs_a hF (by decide)) (sv_kd hs_a) rfl rfl (Nat.le_of_ble_eq_true rfl) rm_S_slopeUnits_S_readUnits e_S_slopeUnits_2) rfl rfl rfl ?_
  refine a_i2l hB e_S_slopeUnits_5 ?_
  refine a_lstore_n (ls' := [(2, .long r2.toInt64), (0, .ref a), (1, .int l1)]) hB e_S_slopeUnits_6 rfl (Nat.le_of_ble_eq_true rfl) rfl ?_
  refine a_aload_n (j := 1) hB e_S_slopeUnits_7 rfl rfl ?_
  refine a_getR (r := a + 1 + 2) (k := 2) hB e_S_slopeUnits_8 fl_S_18 (sv_lt hs_a hF (by decide)) (sv_kd hs_a) (sv_t hs_a 2 (by decide)) (hF.1 _ _) ?_
  refine a_iload_n (j := 2) hB e_S_slopeUnits_11 rfl rfl ?_
  obtain ⟨c12, h⟩ := chk_i h
  refine a_zald' hB e_S_slopeUnits_12 (sv_la hs_a hF (by decide) 2 (by decide)) (sv_kz hs_a) (sv_ln hs_a 2 (by decide)) c12 ?_
  refine a_if_ne (tgt := 53) hB e_S_slopeUnits_13 (by decide) (fun c => ?_) (fun c => ?_)
  · have h := iq c h
    refine a_ls [0] (ls' := [(2, .long r2.toInt64)]) rfl ?_
    exact t_S_slopeUnits_53 hB hF hs_a h
  · have h := ip c h
    refine a_lload_n (j := 0) hB e_S_slopeUnits_16 rfl rfl ?_
    refine a_lload_n (j := 0) hB e_S_slopeUnits_17 rfl rfl ?_
    refine a_aload_n (j := 1) hB e_S_slopeUnits_18 rfl rfl ?_
    refine a_getI (k := 10) hB e_S_slopeUnits_19 fl_S_51 (sv_lt hs_a hF (by decide)) (sv_kd hs_a) (sv_t0 hs_a 1 (by decide)) ?_
    refine a_i2l hB e_S_slopeUnits_22 ?_
    refine a_lmul hB e_S_slopeUnits_23 ?_
    refine a_ldc2 (v := 10000) hB cj_S_62 e_S_slopeUnits_24 ?_
    refine a_ldiv hB e_S_slopeUnits_27 (by decide) ?_
    refine a_ladd hB e_S_slopeUnits_28 ?_
    refine a_lstore_n (ls' := [(2, .long (r2.toInt64 + ((r2.toInt64 * ((M a 10).toInt64)) / (10000 : Int64)))), (0, .ref a), (1, .int l1)]) hB e_S_slopeUnits_29 rfl (Nat.le_of_ble_eq_true rfl) rfl ?_
    refine a_lload_n (j := 0) hB e_S_slopeUnits_30 rfl rfl ?_
    refine a_lload_n (j := 0) hB e_S_slopeUnits_31 rfl rfl ?_
    refine a_aload_n (j := 1) hB e_S_slopeUnits_32 rfl rfl ?_
    refine a_getR (r := a + 1 + 8) (k := 8) hB e_S_slopeUnits_33 fl_S_37 (sv_lt hs_a hF (by decide)) (sv_kd hs_a) (sv_t hs_a 8 (by decide)) (hF.1 _ _) ?_
    refine a_iload_n (j := 2) hB e_S_slopeUnits_36 rfl rfl ?_
    refine a_iald' hB e_S_slopeUnits_37 (sv_la hs_a hF (by decide) 8 (by decide)) (sv_ki hs_a 8 (by decide) (by decide)) (sv_ln hs_a 8 (by decide)) c12 ?_
    refine a_bipush (v := 15) hB e_S_slopeUnits_38 bp_15 ?_
    refine a_isub hB e_S_slopeUnits_40 ?_
    refine a_i2l hB e_S_slopeUnits_41 ?_
    refine a_lmul hB e_S_slopeUnits_42 ?_
    refine a_ldc2 (v := 12) hB cj_S_64 e_S_slopeUnits_43 ?_
    refine a_lmul hB e_S_slopeUnits_46 ?_
    refine a_ldc2 (v := 1000000) hB cj_S_66 e_S_slopeUnits_47 ?_
    refine a_ldiv hB e_S_slopeUnits_50 (by decide) ?_
    refine a_ladd hB e_S_slopeUnits_51 ?_
    refine a_lstore_n (ls' := [(2, .long ((r2.toInt64 + ((r2.toInt64 * ((M a 10).toInt64)) / (10000 : Int64))) + ((((r2.toInt64 + ((r2.toInt64 * ((M a 10).toInt64)) / (10000 : Int64))) * (((M (a + 1 + 8) (ix l1)) - (15 : Int32)).toInt64)) * (12 : Int64)) / (1000000 : Int64)))), (0, .ref a), (1, .int l1)]) hB e_S_slopeUnits_52 rfl (Nat.le_of_ble_eq_true rfl) rfl ?_
    refine a_ls [0] (ls' := [(2, .long ((r2.toInt64 + ((r2.toInt64 * ((M a 10).toInt64)) / (10000 : Int64))) + ((((r2.toInt64 + ((r2.toInt64 * ((M a 10).toInt64)) / (10000 : Int64))) * (((M (a + 1 + 8) (ix l1)) - (15 : Int32)).toInt64)) * (12 : Int64)) / (1000000 : Int64))))]) rfl ?_
    exact t_S_slopeUnits_53 hB hF hs_a h
set_option maxRecDepth 100000 in
theorem c_S_slopeUnits {G : Gt} (hG : GOK G) {φ : Ph} (hF : SF 134 φ) {a : Nat} (hs_a : isSv a) {M : Mm} {l1 : Int32} {o : Int32} (h : f_S_slopeUnits a M l1 = some o) : CT G I_S_slopeUnits [.ref a, .int l1] M φ (.inl (some (.int o))) M φ :=
  ct_of hG (by decide) (Nat.le_of_ble_eq_true rfl) (fun B hB => t_S_slopeUnits hB hF hs_a h)
set_option maxRecDepth 100000 in
theorem t_C_root_30 {G : Gt} {φ : Ph} {B : Bag} (hB : BF G I_C_root B) (hF : SF 134 φ)   {M : Mm} {o : Int32} {r6 : Int64 → Int32 → Int32 → Option Int32} (hr6 : ∀ (l0 : Int64) (l2 : Int32) (l3 : Int32), r6 l0 l2 l3 = some o → AW G I_C_root B (QM G I_C_root B (.inl (some (.int o))) M φ) 0 0 6 [(0, .long l0), (2, .int l2), (3, .int l3)] [] M φ) {l0 : Int64} {l2 : Int32} {l3 : Int32}  (h : f_C_root_30 r6 l0 l2 l3 = some o) : AW G I_C_root B (QM G I_C_root B (.inl (some (.int o))) M φ) 0 0 30 [(0, .long l0), (2, .int l2), (3, .int l3)] [] M φ := by
  unfold f_C_root_30 at h
  refine a_iload_n (j := 2) hB e_C_root_30 rfl rfl ?_
  refine a_iconst (v := 1) hB e_C_root_31 ic_1 ?_
  refine a_ishr hB e_C_root_32 ?_
  refine a_istore_n (ls' := [(3, .int (l3 >>> ((1 : Int32) &&& 31))), (0, .long l0), (2, .int l2)]) hB e_C_root_33 rfl (Nat.le_of_ble_eq_true rfl) rfl ?_
  refine a_goto (tgt := 6) hB e_C_root_34 (by decide) ?_
  refine a_ls [1, 2, 0] (ls' := [(0, .long l0), (2, .int l2), (3, .int (l3 >>> ((1 : Int32) &&& 31)))]) rfl ?_
  exact hr6 _ _ _ h
set_option maxRecDepth 100000 in
theorem t_C_root_6 {G : Gt} {φ : Ph} {B : Bag} (hB : BF G I_C_root B) (hF : SF 134 φ)   {M : Mm} {o : Int32} : ∀ (n : Nat) (l0 : Int64) (l2 : Int32) (l3 : Int32), f_C_root_6 n l0 l2 l3 = some o → AW G I_C_root B (QM G I_C_root B (.inl (some (.int o))) M φ) 0 0 6 [(0, .long l0), (2, .int l2), (3, .int l3)] [] M φ := by
  intro n
  induction n with
  | zero => intro l0 l2 l3 h; cases h
  | succ n hr6 =>
    intro l0 l2 l3 h
    rw [f_C_root_6] at h
    refine a_iload_n (j := 2) hB e_C_root_6 rfl rfl ?_
    refine a_if_le (tgt := 37) hB e_C_root_7 (by decide) (fun c => ?_) (fun c => ?_)
    · have h := ip c h
      refine a_iload_n (j := 1) hB e_C_root_37 rfl rfl ?_
      cases h
      exact a_iret hB rfl e_C_root_38 (by decide) (by decide)
    · have h := iq c h
      refine a_iload_n (j := 1) hB e_C_root_10 rfl rfl ?_
      refine a_iload_n (j := 2) hB e_C_root_11 rfl rfl ?_
      refine a_ior hB e_C_root_12 ?_
      refine a_i2l hB e_C_root_13 ?_
      refine a_lstore (ls' := [(4, .long ((l2 ||| l3).toInt64)), (0, .long l0), (2, .int l2), (3, .int l3)]) hB e_C_root_14 (Nat.le_of_ble_eq_true rfl) rfl ?_
      refine a_lload (j := 0) hB e_C_root_16 rfl ?_
      refine a_lload (j := 0) hB e_C_root_18 rfl ?_
      refine a_lmul hB e_C_root_20 ?_
      refine a_lload_n (j := 1) hB e_C_root_21 rfl rfl ?_
      refine a_lcmp hB e_C_root_22 ?_
      refine a_if_gt (tgt := 30) hB e_C_root_23 (by decide) (fun c => ?_) (fun c => ?_)
      · have h := ip c h
        refine a_ls [1, 2, 3] (ls' := [(0, .long l0), (2, .int l2), (3, .int l3)]) rfl ?_
        exact t_C_root_30 hB hF hr6 h
      · have h := iq c h
        refine a_iload_n (j := 2) hB e_C_root_26 rfl rfl ?_
        refine a_iload_n (j := 3) hB e_C_root_27 rfl rfl ?_
        refine a_ior hB e_C_root_28 ?_
        refine a_istore_n (ls' := [(2, .int (l2 ||| l3)), (4, .long ((l2 ||| l3).toInt64)), (0, .long l0), (3, .int l3)]) hB e_C_root_29 rfl (Nat.le_of_ble_eq_true rfl) rfl ?_
        refine a_ls [2, 0, 3] (ls' := [(0, .long l0), (2, .int (l2 ||| l3)), (3, .int l3)]) rfl ?_
        exact t_C_root_30 hB hF hr6 h
set_option maxRecDepth 100000 in
theorem t_C_root {G : Gt} {φ : Ph} {B : Bag} (hB : BF G I_C_root B) (hF : SF 134 φ)   {M : Mm} {o : Int32} {l0 : Int64}  (h : f_C_root l0 = some o) : AW G I_C_root B (QM G I_C_root B (.inl (some (.int o))) M φ) 0 0 0 [(0, .long l0)] [] M φ := by
  unfold f_C_root at h
  refine a_iconst (v := 0) hB e_C_root_0 ic_0 ?_
  refine a_istore_n (ls' := [(2, .int (0 : Int32)), (0, .long l0)]) hB e_C_root_1 rfl (Nat.le_of_ble_eq_true rfl) rfl ?_
  refine a_ldcw (v := 1073741824) hB cn_C_357 e_C_root_2 ?_
  refine a_istore_n (ls' := [(3, .int (1073741824 : Int32)), (2, .int (0 : Int32)), (0, .long l0)]) hB e_C_root_5 rfl (Nat.le_of_ble_eq_true rfl) rfl ?_
  refine a_ls [2, 1, 0] (ls' := [(0, .long l0), (2, .int (0 : Int32)), (3, .int (1073741824 : Int32))]) rfl ?_
  exact t_C_root_6 hB hF _ _ _ _ h
set_option maxRecDepth 100000 in
theorem c_C_root {G : Gt} (hG : GOK G) {φ : Ph} (hF : SF 134 φ)   {M : Mm} {l0 : Int64} {o : Int32} (h : f_C_root l0 = some o) : CT G I_C_root [.long l0] M φ (.inl (some (.int o))) M φ :=
  ct_of hG (by decide) (Nat.le_of_ble_eq_true rfl) (fun B hB => t_C_root hB hF  h)
set_option maxRecDepth 100000 in
theorem t_S_horizontalUnits_51 {G : Gt} {φ : Ph} {B : Bag} (hB : BF G I_S_horizontalUnits B) (hF : SF 134 φ) {a : Nat} (hs_a : isSv a) {M : Mm} {o : Int32} {t0 : Int32}  (h : f_S_horizontalUnits_51 a M t0 = some o) : AW G I_S_horizontalUnits B (QM G I_S_horizontalUnits B (.inl (some (.int o))) M φ) 0 0 51 [] [.int t0] M φ := by
  unfold f_S_horizontalUnits_51 at h
  cases h
  exact a_iret hB rfl e_S_horizontalUnits_51 (by decide) (by decide)
set_option maxRecDepth 100000 in
theorem t_S_horizontalUnits {G : Gt} {φ : Ph} {B : Bag} (hB : BF G I_S_horizontalUnits B) (hF : SF 134 φ) {a : Nat} (hs_a : isSv a) {M : Mm} {o : Int32} {l1 : Int32}  (h : f_S_horizontalUnits a M l1 = some o) : AW G I_S_horizontalUnits B (QM G I_S_horizontalUnits B (.inl (some (.int o))) M φ) 0 0 0 [(0, .ref a), (1, .int l1)] [] M φ := by
  unfold f_S_horizontalUnits at h
  refine a_aload_n (j := 0) hB e_S_horizontalUnits_0 rfl rfl ?_
  refine a_iload_n (j := 1) hB e_S_horizontalUnits_1 rfl rfl ?_
  obtain ⟨r2, hr2, h⟩ := bn_i h
  refine a_ret (v := (some (.int r2))) (M1 := M) (φ1 := φ) (st1 := [.int r2]) (j1 := 0) (j2 := 0) (ar_V (As := [.int l1]) (rest := []) hB (c_S_slopeUnits (bf_G hB) hF hs_a hr2) ml_S_68 md_S_slopeUnits rc_S_slopeUnits (sv_lt hs_a hF (by decide)) (sv_kd hs_a) rfl rfl (Nat.le_of_ble_eq_true rfl) rm_S_horizontalUnits_S_slopeUnits e_S_horizontalUnits_2) rfl rfl rfl ?_
  refine a_istore_n (ls' := [(2, .int r2), (0, .ref a), (1, .int l1)]) hB e_S_horizontalUnits_5 rfl (Nat.le_of_ble_eq_true rfl) rfl ?_
  refine a_aload_n (j := 1) hB e_S_horizontalUnits_6 rfl rfl ?_
  refine a_getR (r := a + 1 + 7) (k := 7) hB e_S_horizontalUnits_7 fl_S_34 (sv_lt hs_a hF (by decide)) (sv_kd hs_a) (sv_t hs_a 7 (by decide)) (hF.1 _ _) ?_
  refine a_iload_n (j := 2) hB e_S_horizontalUnits_10 rfl rfl ?_
  obtain ⟨c11, h⟩ := chk_i h
  refine a_iald' hB e_S_horizontalUnits_11 (sv_la hs_a hF (by decide) 7 (by decide)) (sv_ki hs_a 7 (by decide) (by decide)) (sv_ln hs_a 7 (by decide)) c11 ?_
  refine a_if_ne (tgt := 17) hB e_S_horizontalUnits_12 (by decide) (fun c => ?_) (fun c => ?_)
  · have h := iq c h
    refine a_aload_n (j := 1) hB e_S_horizontalUnits_17 rfl rfl ?_
    refine a_getR (r := a + 1 + 7) (k := 7) hB e_S_horizontalUnits_18 fl_S_34 (sv_lt hs_a hF (by decide)) (sv_kd hs_a) (sv_t hs_a 7 (by decide)) (hF.1 _ _) ?_
    refine a_iload_n (j := 2) hB e_S_horizontalUnits_21 rfl rfl ?_
    refine a_iald' hB e_S_horizontalUnits_22 (sv_la hs_a hF (by decide) 7 (by decide)) (sv_ki hs_a 7 (by decide) (by decide)) (sv_ln hs_a 7 (by decide)) c11 ?_
    refine a_bipush (v := 100) hB e_S_horizontalUnits_23 bp_100 ?_
    refine a_imul hB e_S_horizontalUnits_25 ?_
    refine a_i2l hB e_S_horizontalUnits_26 ?_
    refine a_lstore_n (ls' := [(3, .long (((M (a + 1 + 7) (ix l1)) * (100 : Int32)).toInt64)), (2, .int r2), (0, .ref a), (1, .int l1)]) hB e_S_horizontalUnits_27 rfl (Nat.le_of_ble_eq_true rfl) rfl ?_
    refine a_lload_n (j := 0) hB e_S_horizontalUnits_28 rfl rfl ?_
    refine a_iload_n (j := 1) hB e_S_horizontalUnits_29 rfl rfl ?_
    refine a_i2l hB e_S_horizontalUnits_30 ?_
    refine a_lcmp hB e_S_horizontalUnits_31 ?_
    refine a_if_le (tgt := 39) hB e_S_horizontalUnits_32 (by decide) (fun c => ?_) (fun c => ?_)
    · have h := ip c h
      refine a_iload_n (j := 1) hB e_S_horizontalUnits_39 rfl rfl ?_
      refine a_i2l hB e_S_horizontalUnits_40 ?_
      refine a_iload_n (j := 1) hB e_S_horizontalUnits_41 rfl rfl ?_
      refine a_i2l hB e_S_horizontalUnits_42 ?_
      refine a_lmul hB e_S_horizontalUnits_43 ?_
      refine a_lload_n (j := 0) hB e_S_horizontalUnits_44 rfl rfl ?_
      refine a_lload_n (j := 0) hB e_S_horizontalUnits_45 rfl rfl ?_
      refine a_lmul hB e_S_horizontalUnits_46 ?_
      refine a_lsub hB e_S_horizontalUnits_47 ?_
      obtain ⟨r48, hr48, h⟩ := bn_i h
      refine a_ret (v := (some (.int r48))) (M1 := M) (φ1 := φ) (st1 := [.int r48]) (j1 := 0) (j2 := 0) (ar_SN (As := [.long ((r2.toInt64 * r2.toInt64) - ((((M (a + 1 + 7) (ix l1)) * (100 : Int32)).toInt64) * (((M (a + 1 + 7) (ix l1)) * (100 : Int32)).toInt64)))]) (rest := []) hB (c_C_root (bf_G hB) hF hr48) mn_S_71 md_C_root rfl rfl (Nat.le_of_ble_eq_true rfl) rm_S_horizontalUnits_C_root e_S_horizontalUnits_48) rfl rfl rfl ?_
      refine a_ls [] (ls' := []) rfl ?_
      exact t_S_horizontalUnits_51 hB hF hs_a h
    · have h := iq c h
      refine a_iconst (v := 0) hB e_S_horizontalUnits_35 ic_0 ?_
      refine a_goto (tgt := 51) hB e_S_horizontalUnits_36 (by decide) ?_
      refine a_ls [] (ls' := []) rfl ?_
      exact t_S_horizontalUnits_51 hB hF hs_a h
  · have h := ip c h
    refine a_iload_n (j := 0) hB e_S_horizontalUnits_15 rfl rfl ?_
    cases h
    exact a_iret hB rfl e_S_horizontalUnits_16 (by decide) (by decide)
set_option maxRecDepth 100000 in
theorem c_S_horizontalUnits {G : Gt} (hG : GOK G) {φ : Ph} (hF : SF 134 φ) {a : Nat} (hs_a : isSv a) {M : Mm} {l1 : Int32} {o : Int32} (h : f_S_horizontalUnits a M l1 = some o) : CT G I_S_horizontalUnits [.ref a, .int l1] M φ (.inl (some (.int o))) M φ :=
  ct_of hG (by decide) (Nat.le_of_ble_eq_true rfl) (fun B hB => t_S_horizontalUnits hB hF hs_a h)
set_option maxRecDepth 100000 in
theorem t_Q_floorMod_18 {G : Gt} {φ : Ph} {B : Bag} (hB : BF G I_Q_floorMod B) (hF : SF 0 φ)   {M : Mm} {o : Int32} {l2 : Int32}  (h : f_Q_floorMod_18 l2 = some o) : AW G I_Q_floorMod B (QM G I_Q_floorMod B (.inl (some (.int o))) M φ) 0 0 18 [(2, .int l2)] [] M φ := by
  unfold f_Q_floorMod_18 at h
  refine a_iload_n (j := 0) hB e_Q_floorMod_18 rfl rfl ?_
  cases h
  exact a_iret hB rfl e_Q_floorMod_19 (by decide) (by decide)
set_option maxRecDepth 100000 in
theorem t_Q_floorMod {G : Gt} {φ : Ph} {B : Bag} (hB : BF G I_Q_floorMod B) (hF : SF 0 φ)   {M : Mm} {o : Int32} {l0 : Int32} {l1 : Int32}  (h : f_Q_floorMod l0 l1 = some o) : AW G I_Q_floorMod B (QM G I_Q_floorMod B (.inl (some (.int o))) M φ) 0 0 0 [(0, .int l0), (1, .int l1)] [] M φ := by
  unfold f_Q_floorMod at h
  refine a_iload_n (j := 0) hB e_Q_floorMod_0 rfl rfl ?_
  refine a_iload_n (j := 1) hB e_Q_floorMod_1 rfl rfl ?_
  obtain ⟨c2, h⟩ := chk_i h
  refine a_irem hB e_Q_floorMod_2 c2 ?_
  refine a_istore_n (ls' := [(2, .int (l0 - l0 / l1 * l1)), (0, .int l0), (1, .int l1)]) hB e_Q_floorMod_3 rfl (Nat.le_of_ble_eq_true rfl) rfl ?_
  refine a_iload_n (j := 1) hB e_Q_floorMod_4 rfl rfl ?_
  refine a_iload_n (j := 2) hB e_Q_floorMod_5 rfl rfl ?_
  refine a_ixor hB e_Q_floorMod_6 ?_
  refine a_if_ge (tgt := 18) hB e_Q_floorMod_7 (by decide) (fun c => ?_) (fun c => ?_)
  · have h := ip c h
    refine a_ls [0] (ls' := [(2, .int (l0 - l0 / l1 * l1))]) rfl ?_
    exact t_Q_floorMod_18 hB hF h
  · have h := iq c h
    refine a_iload_n (j := 0) hB e_Q_floorMod_10 rfl rfl ?_
    refine a_if_eq (tgt := 18) hB e_Q_floorMod_11 (by decide) (fun c => ?_) (fun c => ?_)
    · have h := ip c h
      refine a_ls [0] (ls' := [(2, .int (l0 - l0 / l1 * l1))]) rfl ?_
      exact t_Q_floorMod_18 hB hF h
    · have h := iq c h
      refine a_iload_n (j := 0) hB e_Q_floorMod_14 rfl rfl ?_
      refine a_iload_n (j := 2) hB e_Q_floorMod_15 rfl rfl ?_
      refine a_iadd hB e_Q_floorMod_16 ?_
      cases h
      exact a_iret hB rfl e_Q_floorMod_17 (by decide) (by decide)
set_option maxRecDepth 100000 in
theorem c_Q_floorMod {G : Gt} (hG : GOK G) {φ : Ph} (hF : SF 0 φ)   {M : Mm} {l0 : Int32} {l1 : Int32} {o : Int32} (h : f_Q_floorMod l0 l1 = some o) : CT G I_Q_floorMod [.int l0, .int l1] M φ (.inl (some (.int o))) M φ :=
  ct_ofF hG rfl (by decide +kernel) (Nat.le_of_ble_eq_true rfl) (fun B hB => t_Q_floorMod hB hF  h)
set_option maxRecDepth 100000 in
theorem t_C_cosine_24 {G : Gt} {φ : Ph} {B : Bag} (hB : BF G I_C_cosine B) (hF : SF 134 φ)   {M : Mm} {o : Int32} {t0 : Int32}  (h : f_C_cosine_24 t0 = some o) : AW G I_C_cosine B (QM G I_C_cosine B (.inl (some (.int o))) M φ) 0 0 24 [] [.int t0] M φ := by
  unfold f_C_cosine_24 at h
  refine a_istore_n (ls' := [(2, .int t0)]) hB e_C_cosine_24 rfl (Nat.le_of_ble_eq_true rfl) rfl ?_
  refine a_iload_n (j := 0) hB e_C_cosine_25 rfl rfl ?_
  refine a_bipush (v := 90) hB e_C_cosine_26 bp_90 ?_
  refine a_icmp_le (tgt := 45) hB e_C_cosine_28 (by decide) (fun c => ?_) (fun c => ?_)
  · have h := ip c h
    refine a_gsCos hB gs_C_348 e_C_cosine_45 ?_
    refine a_iload_n (j := 0) hB e_C_cosine_48 rfl rfl ?_
    refine a_bipush (v := 15) hB e_C_cosine_49 bp_15 ?_
    refine a_idiv hB e_C_cosine_51 (by decide) ?_
    obtain ⟨c52, h⟩ := chk_i h
    refine a_ialdC hB c52 e_C_cosine_52 ?_
    cases h
    exact a_iret hB rfl e_C_cosine_53 (by decide) (by decide)
  · have h := iq c h
    refine a_gsCos hB gs_C_348 e_C_cosine_31 ?_
    refine a_sipush (v := 180) hB e_C_cosine_34 sp_180 ?_
    refine a_iload_n (j := 0) hB e_C_cosine_37 rfl rfl ?_
    refine a_isub hB e_C_cosine_38 ?_
    refine a_bipush (v := 15) hB e_C_cosine_39 bp_15 ?_
    refine a_idiv hB e_C_cosine_41 (by decide) ?_
    obtain ⟨c42, h⟩ := chk_i h
    refine a_ialdC hB c42 e_C_cosine_42 ?_
    refine a_ineg hB e_C_cosine_43 ?_
    cases h
    exact a_iret hB rfl e_C_cosine_44 (by decide) (by decide)
set_option maxRecDepth 100000 in
theorem t_C_cosine {G : Gt} {φ : Ph} {B : Bag} (hB : BF G I_C_cosine B) (hF : SF 134 φ)   {M : Mm} {o : Int32} {l0 : Int32}  (h : f_C_cosine l0 = some o) : AW G I_C_cosine B (QM G I_C_cosine B (.inl (some (.int o))) M φ) 0 0 0 [(0, .int l0)] [] M φ := by
  unfold f_C_cosine at h
  refine a_iload_n (j := 0) hB e_C_cosine_0 rfl rfl ?_
  refine a_sipush (v := 360) hB e_C_cosine_1 sp_360 ?_
  obtain ⟨r4, hr4, h⟩ := bn_i h
  refine a_ret (v := (some (.int r4))) (M1 := M) (φ1 := φ) (st1 := [.int r4]) (j1 := 0) (j2 := 0) (ar_S (As := [.int l0, .int (360 : Int32)]) (rest := []) hB (c_Q_floorMod (bf_G hB) (sf_m hF (by decide)) hr4) ml_C_345 md_Q_floorMod rfl rfl (Nat.le_of_ble_eq_true rfl) rm_C_cosine_Q_floorMod e_C_cosine_4) rfl rfl rfl ?_
  refine a_istore_n (ls' := [(1, .int r4), (0, .int l0)]) hB e_C_cosine_7 rfl (Nat.le_of_ble_eq_true rfl) rfl ?_
  refine a_iload_n (j := 0) hB e_C_cosine_8 rfl rfl ?_
  refine a_sipush (v := 180) hB e_C_cosine_9 sp_180 ?_
  refine a_icmp_le (tgt := 23) hB e_C_cosine_12 (by decide) (fun c => ?_) (fun c => ?_)
  · have h := ip c h
    refine a_iload_n (j := 0) hB e_C_cosine_23 rfl rfl ?_
    refine a_ls [] (ls' := []) rfl ?_
    exact t_C_cosine_24 hB hF h
  · have h := iq c h
    refine a_sipush (v := 360) hB e_C_cosine_15 sp_360 ?_
    refine a_iload_n (j := 0) hB e_C_cosine_18 rfl rfl ?_
    refine a_isub hB e_C_cosine_19 ?_
    refine a_goto (tgt := 24) hB e_C_cosine_20 (by decide) ?_
    refine a_ls [] (ls' := []) rfl ?_
    exact t_C_cosine_24 hB hF h
set_option maxRecDepth 100000 in
theorem c_C_cosine {G : Gt} (hG : GOK G) {φ : Ph} (hF : SF 134 φ)   {M : Mm} {l0 : Int32} {o : Int32} (h : f_C_cosine l0 = some o) : CT G I_C_cosine [.int l0] M φ (.inl (some (.int o))) M φ :=
  ct_of hG (by decide) (Nat.le_of_ble_eq_true rfl) (fun B hB => t_C_cosine hB hF  h)
set_option maxRecDepth 100000 in
theorem t_C_sine {G : Gt} {φ : Ph} {B : Bag} (hB : BF G I_C_sine B) (hF : SF 134 φ)   {M : Mm} {o : Int32} {l0 : Int32}  (h : f_C_sine l0 = some o) : AW G I_C_sine B (QM G I_C_sine B (.inl (some (.int o))) M φ) 0 0 0 [(0, .int l0)] [] M φ := by
  unfold f_C_sine at h
  refine a_bipush (v := 90) hB e_C_sine_0 bp_90 ?_
  refine a_iload_n (j := 0) hB e_C_sine_2 rfl rfl ?_
  refine a_isub hB e_C_sine_3 ?_
  obtain ⟨r4, hr4, h⟩ := bn_i h
  refine a_ret (v := (some (.int r4))) (M1 := M) (φ1 := φ) (st1 := [.int r4]) (j1 := 0) (j2 := 0) (ar_S (As := [.int ((90 : Int32) - l0)]) (rest := []) hB (c_C_cosine (bf_G hB) hF hr4) ml_C_236 md_C_cosine rfl rfl (Nat.le_of_ble_eq_true rfl) rm_C_sine_C_cosine e_C_sine_4) rfl rfl rfl ?_
  cases h
  exact a_iret hB rfl e_C_sine_7 (by decide) (by decide)
set_option maxRecDepth 100000 in
theorem c_C_sine {G : Gt} (hG : GOK G) {φ : Ph} (hF : SF 134 φ)   {M : Mm} {l0 : Int32} {o : Int32} (h : f_C_sine l0 = some o) : CT G I_C_sine [.int l0] M φ (.inl (some (.int o))) M φ :=
  ct_of hG (by decide) (Nat.le_of_ble_eq_true rfl) (fun B hB => t_C_sine hB hF  h)
set_option maxRecDepth 100000 in
theorem t_C_stepOf {G : Gt} {φ : Ph} {B : Bag} (hB : BF G I_C_stepOf B) (hF : SF 134 φ)   {M : Mm} {o : Int32} {l0 : Int32} {l1 : Int32}  (h : f_C_stepOf l0 l1 = some o) : AW G I_C_stepOf B (QM G I_C_stepOf B (.inl (some (.int o))) M φ) 0 0 0 [(0, .int l0), (1, .int l1)] [] M φ := by
  unfold f_C_stepOf at h
  refine a_iload_n (j := 0) hB e_C_stepOf_0 rfl rfl ?_
  refine a_i2l hB e_C_stepOf_1 ?_
  refine a_iload_n (j := 1) hB e_C_stepOf_2 rfl rfl ?_
  refine a_i2l hB e_C_stepOf_3 ?_
  refine a_lmul hB e_C_stepOf_4 ?_
  refine a_ldc2 (v := 10000) hB cj_C_351 e_C_stepOf_5 ?_
  refine a_ldiv hB e_C_stepOf_8 (by decide) ?_
  refine a_l2i hB e_C_stepOf_9 ?_
  cases h
  exact a_iret hB rfl e_C_stepOf_10 (by decide) (by decide)
set_option maxRecDepth 100000 in
theorem c_C_stepOf {G : Gt} (hG : GOK G) {φ : Ph} (hF : SF 134 φ)   {M : Mm} {l0 : Int32} {l1 : Int32} {o : Int32} (h : f_C_stepOf l0 l1 = some o) : CT G I_C_stepOf [.int l0, .int l1] M φ (.inl (some (.int o))) M φ :=
  ct_of hG (by decide) (Nat.le_of_ble_eq_true rfl) (fun B hB => t_C_stepOf hB hF  h)
set_option maxRecDepth 100000 in
theorem t_T_endEast {G : Gt} {φ : Ph} {B : Bag} (hB : BF G I_T_endEast B) (hF : SF 134 φ)   {M : Mm} {o : Int32}   (h : f_T_endEast M = some o) : AW G I_T_endEast B (QM G I_T_endEast B (.inl (some (.int o))) M φ) 0 0 0 [(0, .ref 25)] [] M φ := by
  unfold f_T_endEast at h
  refine a_aload_n (j := 0) hB e_T_endEast_0 rfl rfl ?_
  refine a_getR (r := 27) (k := 1) hB e_T_endEast_1 fl_T_15 (sf_lt hF (by decide)) kk_25 tt_25_1 (hF.1 _ _) ?_
  refine a_aload_n (j := 0) hB e_T_endEast_4 rfl rfl ?_
  refine a_getI (k := 5) hB e_T_endEast_5 fl_T_33 (sf_lt hF (by decide)) kk_25 tt_25_5 ?_
  obtain ⟨c8, h⟩ := chk_i h
  refine a_iald' hB e_T_endEast_8 (sf_lt hF (by decide)) kk_27 ll_27 c8 ?_
  cases h
  exact a_iret hB rfl e_T_endEast_9 (by decide) (by decide)
set_option maxRecDepth 100000 in
theorem c_T_endEast {G : Gt} (hG : GOK G) {φ : Ph} (hF : SF 134 φ)   {M : Mm}  {o : Int32} (h : f_T_endEast M = some o) : CT G I_T_endEast [.ref 25] M φ (.inl (some (.int o))) M φ :=
  ct_of hG (by decide) (Nat.le_of_ble_eq_true rfl) (fun B hB => t_T_endEast hB hF  h)
set_option maxRecDepth 100000 in
theorem t_T_totalRun {G : Gt} {φ : Ph} {B : Bag} (hB : BF G I_T_totalRun B) (hF : SF 134 φ)   {M : Mm} {o : Int32}   (h : f_T_totalRun M = some o) : AW G I_T_totalRun B (QM G I_T_totalRun B (.inl (some (.int o))) M φ) 0 0 0 [(0, .ref 25)] [] M φ := by
  unfold f_T_totalRun at h
  refine a_aload_n (j := 0) hB e_T_totalRun_0 rfl rfl ?_
  refine a_getR (r := 26) (k := 0) hB e_T_totalRun_1 fl_T_9 (sf_lt hF (by decide)) kk_25 tt_25_0 (hF.1 _ _) ?_
  refine a_aload_n (j := 0) hB e_T_totalRun_4 rfl rfl ?_
  refine a_getI (k := 5) hB e_T_totalRun_5 fl_T_33 (sf_lt hF (by decide)) kk_25 tt_25_5 ?_
  obtain ⟨c8, h⟩ := chk_i h
  refine a_iald' hB e_T_totalRun_8 (sf_lt hF (by decide)) kk_26 ll_26 c8 ?_
  cases h
  exact a_iret hB rfl e_T_totalRun_9 (by decide) (by decide)
set_option maxRecDepth 100000 in
theorem c_T_totalRun {G : Gt} (hG : GOK G) {φ : Ph} (hF : SF 134 φ)   {M : Mm}  {o : Int32} (h : f_T_totalRun M = some o) : CT G I_T_totalRun [.ref 25] M φ (.inl (some (.int o))) M φ :=
  ct_of hG (by decide) (Nat.le_of_ble_eq_true rfl) (fun B hB => t_T_totalRun hB hF  h)
set_option maxRecDepth 100000 in
theorem t_T_shareAt_27 {G : Gt} {φ : Ph} {B : Bag} (hB : BF G I_T_shareAt B) (hF : SF 134 φ)   {M : Mm} {o : Int32} {t0 : Int32}  (h : f_T_shareAt_27 M t0 = some o) : AW G I_T_shareAt B (QM G I_T_shareAt B (.inl (some (.int o))) M φ) 0 0 27 [] [.int t0] M φ := by
  unfold f_T_shareAt_27 at h
  cases h
  exact a_iret hB rfl e_T_shareAt_27 (by decide) (by decide)
set_option maxRecDepth 100000 in
theorem t_T_shareAt {G : Gt} {φ : Ph} {B : Bag} (hB : BF G I_T_shareAt B) (hF : SF 134 φ)   {M : Mm} {o : Int32} {l1 : Int32} {l2 : Int32}  (h : f_T_shareAt M l1 l2 = some o) : AW G I_T_shareAt B (QM G I_T_shareAt B (.inl (some (.int o))) M φ) 0 0 0 [(0, .ref 25), (1, .int l1), (2, .int l2)] [] M φ := by
  unfold f_T_shareAt at h
  refine a_aload_n (j := 0) hB e_T_shareAt_0 rfl rfl ?_
  obtain ⟨r1, hr1, h⟩ := bn_i h
  refine a_ret (v := (some (.int r1))) (M1 := M) (φ1 := φ) (st1 := [.int r1]) (j1 := 0) (j2 := 0) (ar_V (As := []) (rest := []) hB (c_T_totalRun (bf_G hB) hF hr1) ml_T_65 md_T_totalRun rc_T_totalRun (sf_lt hF (by decide)) kk_25 rfl rfl (Nat.le_of_ble_eq_true rfl) rm_T_shareAt_T_totalRun e_T_shareAt_1) rfl rfl rfl ?_
  refine a_istore_n (ls' := [(3, .int r1), (0, .ref 25), (1, .int l1), (2, .int l2)]) hB e_T_shareAt_4 rfl (Nat.le_of_ble_eq_true rfl) rfl ?_
  refine a_iload_n (j := 0) hB e_T_shareAt_5 rfl rfl ?_
  refine a_if_ne (tgt := 13) hB e_T_shareAt_6 (by decide) (fun c => ?_) (fun c => ?_)
  · have h := iq c h
    refine a_iload_n (j := 3) hB e_T_shareAt_13 rfl rfl ?_
    refine a_i2l hB e_T_shareAt_14 ?_
    refine a_aload_n (j := 1) hB e_T_shareAt_15 rfl rfl ?_
    refine a_getR (r := 26) (k := 0) hB e_T_shareAt_16 fl_T_9 (sf_lt hF (by decide)) kk_25 tt_25_0 (hF.1 _ _) ?_
    refine a_iload_n (j := 2) hB e_T_shareAt_19 rfl rfl ?_
    obtain ⟨c20, h⟩ := chk_i h
    refine a_iald' hB e_T_shareAt_20 (sf_lt hF (by decide)) kk_26 ll_26 c20 ?_
    refine a_i2l hB e_T_shareAt_21 ?_
    refine a_lmul hB e_T_shareAt_22 ?_
    refine a_iload_n (j := 0) hB e_T_shareAt_23 rfl rfl ?_
    refine a_i2l hB e_T_shareAt_24 ?_
    obtain ⟨c25, h⟩ := chk_i h
    refine a_ldiv hB e_T_shareAt_25 c25 ?_
    refine a_l2i hB e_T_shareAt_26 ?_
    refine a_ls [] (ls' := []) rfl ?_
    exact t_T_shareAt_27 hB hF h
  · have h := ip c h
    refine a_iconst (v := 0) hB e_T_shareAt_9 ic_0 ?_
    refine a_goto (tgt := 27) hB e_T_shareAt_10 (by decide) ?_
    refine a_ls [] (ls' := []) rfl ?_
    exact t_T_shareAt_27 hB hF h
set_option maxRecDepth 100000 in
theorem c_T_shareAt {G : Gt} (hG : GOK G) {φ : Ph} (hF : SF 134 φ)   {M : Mm} {l1 : Int32} {l2 : Int32} {o : Int32} (h : f_T_shareAt M l1 l2 = some o) : CT G I_T_shareAt [.ref 25, .int l1, .int l2] M φ (.inl (some (.int o))) M φ :=
  ct_of hG (by decide) (Nat.le_of_ble_eq_true rfl) (fun B hB => t_T_shareAt hB hF  h)
set_option maxRecDepth 100000 in
theorem t_T_endNorth {G : Gt} {φ : Ph} {B : Bag} (hB : BF G I_T_endNorth B) (hF : SF 134 φ)   {M : Mm} {o : Int32}   (h : f_T_endNorth M = some o) : AW G I_T_endNorth B (QM G I_T_endNorth B (.inl (some (.int o))) M φ) 0 0 0 [(0, .ref 25)] [] M φ := by
  unfold f_T_endNorth at h
  refine a_aload_n (j := 0) hB e_T_endNorth_0 rfl rfl ?_
  refine a_getR (r := 28) (k := 2) hB e_T_endNorth_1 fl_T_18 (sf_lt hF (by decide)) kk_25 tt_25_2 (hF.1 _ _) ?_
  refine a_aload_n (j := 0) hB e_T_endNorth_4 rfl rfl ?_
  refine a_getI (k := 5) hB e_T_endNorth_5 fl_T_33 (sf_lt hF (by decide)) kk_25 tt_25_5 ?_
  obtain ⟨c8, h⟩ := chk_i h
  refine a_iald' hB e_T_endNorth_8 (sf_lt hF (by decide)) kk_28 ll_28 c8 ?_
  cases h
  exact a_iret hB rfl e_T_endNorth_9 (by decide) (by decide)
set_option maxRecDepth 100000 in
theorem c_T_endNorth {G : Gt} (hG : GOK G) {φ : Ph} (hF : SF 134 φ)   {M : Mm}  {o : Int32} (h : f_T_endNorth M = some o) : CT G I_T_endNorth [.ref 25] M φ (.inl (some (.int o))) M φ :=
  ct_of hG (by decide) (Nat.le_of_ble_eq_true rfl) (fun B hB => t_T_endNorth hB hF  h)
set_option maxRecDepth 100000 in
theorem t_T_follow_179 {G : Gt} {φ : Ph} {B : Bag} (hB : BF G I_T_follow B) (hF : SF 134 φ) {a : Nat} (hs_a : isSv a)  {M9 : Mm} {r104 : Int32 → Mm → Option Mm} (hr104 : ∀ (l2 : Int32) (M : Mm), r104 l2 M = some M9 → AW G I_T_follow B (QM G I_T_follow B (.inl none) M9 φ) 0 0 104 [(0, .ref 25), (1, .ref a), (2, .int l2)] [] M φ) {l2 : Int32} {M : Mm} (h : f_T_follow_179 a r104 l2 M = some M9) : AW G I_T_follow B (QM G I_T_follow B (.inl none) M9 φ) 0 0 179 [(0, .ref 25), (1, .ref a), (2, .int l2)] [] M φ := by
  unfold f_T_follow_179 at h
  refine a_iinc (j := 2) (v := l2 + 1) (ls' := [(2, .int (l2 + 1)), (0, .ref 25), (1, .ref a)]) hB e_T_follow_179 rfl (inc_1 _) (Nat.le_of_ble_eq_true rfl) rfl ?_
  refine a_goto (tgt := 104) hB e_T_follow_182 (by decide) ?_
  refine a_ls [1, 2, 0] (ls' := [(0, .ref 25), (1, .ref a), (2, .int (l2 + 1))]) rfl ?_
  exact hr104 _ _ h
set_option maxRecDepth 100000 in
theorem t_T_follow_104 {G : Gt} {φ : Ph} {B : Bag} (hB : BF G I_T_follow B) (hF : SF 134 φ) {a : Nat} (hs_a : isSv a)  {M9 : Mm} : ∀ (n : Nat) (l2 : Int32) (M : Mm), f_T_follow_104 a n l2 M = some M9 → AW G I_T_follow B (QM G I_T_follow B (.inl none) M9 φ) 0 0 104 [(0, .ref 25), (1, .ref a), (2, .int l2)] [] M φ := by
  intro n
  induction n with
  | zero => intro l2 M h; cases h
  | succ n hr104 =>
    intro l2 M h
    rw [f_T_follow_104] at h
    refine a_iload_n (j := 2) hB e_T_follow_104 rfl rfl ?_
    refine a_aload_n (j := 0) hB e_T_follow_105 rfl rfl ?_
    refine a_getI (k := 5) hB e_T_follow_106 fl_T_33 (sf_lt hF (by decide)) kk_25 tt_25_5 ?_
    refine a_icmp_gt (tgt := 185) hB e_T_follow_109 (by decide) (fun c => ?_) (fun c => ?_)
    · have h := ip c h
      cases h
      exact a_vret hB rfl e_T_follow_185 (by decide) (by decide)
    · have h := iq c h
      refine a_aload_n (j := 0) hB e_T_follow_112 rfl rfl ?_
      refine a_getR (r := 29) (k := 3) hB e_T_follow_113 fl_T_21 (sf_lt hF (by decide)) kk_25 tt_25_3 (hF.1 _ _) ?_
      refine a_iload_n (j := 2) hB e_T_follow_116 rfl rfl ?_
      refine a_aload_n (j := 0) hB e_T_follow_117 rfl rfl ?_
      refine a_getR (r := 27) (k := 1) hB e_T_follow_118 fl_T_15 (sf_lt hF (by decide)) kk_25 tt_25_1 (hF.1 _ _) ?_
      refine a_iload_n (j := 2) hB e_T_follow_121 rfl rfl ?_
      obtain ⟨c122, h⟩ := chk_i h
      refine a_iald' hB e_T_follow_122 (sf_lt hF (by decide)) kk_27 ll_27 c122 ?_
      obtain ⟨M123, hM123, h⟩ := bm_i h
      refine a_iast' hB e_T_follow_123 (sf_lt hF (by decide)) kk_29 ll_29 c122 ?_
      refine a_mem hM123 ?_
      refine a_aload_n (j := 0) hB e_T_follow_124 rfl rfl ?_
      refine a_getR (r := 30) (k := 4) hB e_T_follow_125 fl_T_24 (sf_lt hF (by decide)) kk_25 tt_25_4 (hF.1 _ _) ?_
      refine a_iload_n (j := 2) hB e_T_follow_128 rfl rfl ?_
      refine a_aload_n (j := 0) hB e_T_follow_129 rfl rfl ?_
      refine a_getR (r := 28) (k := 2) hB e_T_follow_130 fl_T_18 (sf_lt hF (by decide)) kk_25 tt_25_2 (hF.1 _ _) ?_
      refine a_iload_n (j := 2) hB e_T_follow_133 rfl rfl ?_
      refine a_iald' hB e_T_follow_134 (sf_lt hF (by decide)) kk_28 ll_28 c122 ?_
      obtain ⟨M135, hM135, h⟩ := bm_i h
      refine a_iast' hB e_T_follow_135 (sf_lt hF (by decide)) kk_30 ll_30 c122 ?_
      refine a_mem hM135 ?_
      refine a_aload_n (j := 1) hB e_T_follow_136 rfl rfl ?_
      refine a_getI (k := 12) hB e_T_follow_137 fl_T_51 (sv_lt hs_a hF (by decide)) (sv_kd hs_a) (sv_t0 hs_a 3 (by decide)) ?_
      refine a_if_eq (tgt := 179) hB e_T_follow_140 (by decide) (fun c => ?_) (fun c => ?_)
      · have h := ip c h
        exact t_T_follow_179 hB hF hs_a hr104 h
      · have h := iq c h
        refine a_aload_n (j := 0) hB e_T_follow_143 rfl rfl ?_
        refine a_getR (r := 29) (k := 3) hB e_T_follow_144 fl_T_21 (sf_lt hF (by decide)) kk_25 tt_25_3 (hF.1 _ _) ?_
        refine a_iload_n (j := 2) hB e_T_follow_147 rfl rfl ?_
        refine a_dup2 hB e_T_follow_148 rfl rfl ?_
        refine a_iald' hB e_T_follow_149 (sf_lt hF (by decide)) kk_29 ll_29 c122 ?_
        refine a_aload_n (j := 0) hB e_T_follow_150 rfl rfl ?_
        refine a_iload_n (j := 2) hB e_T_follow_151 rfl rfl ?_
        refine a_aload_n (j := 0) hB e_T_follow_152 rfl rfl ?_
        obtain ⟨r153, hr153, h⟩ := bn_i h
        refine a_ret (v := (some (.int r153))) (M1 := M135) (φ1 := φ) (st1 := [.int r153, .int l2, .ref 25, .int (M135 29 (ix l2)), .int l2, .ref 29]) (j1 := 0) (j2 := 0) (ar_V (As := []) (rest := [.int l2, .ref 25, .int (M135 29 (ix l2)), .int l2, .ref 29]) hB (c_T_endEast (bf_G hB) hF hr153) ml_T_55 md_T_endEast rc_T_endEast (sf_lt hF (by decide)) kk_25 rfl rfl (Nat.le_of_ble_eq_true rfl) rm_T_follow_T_endEast e_T_follow_153) rfl rfl rfl ?_
        obtain ⟨r156, hr156, h⟩ := bn_i h
        refine a_ret (v := (some (.int r156))) (M1 := M135) (φ1 := φ) (st1 := [.int r156, .int (M135 29 (ix l2)), .int l2, .ref 29]) (j1 := 0) (j2 := 0) (ar_V (As := [.int l2, .int r153]) (rest := [.int (M135 29 (ix l2)), .int l2, .ref 29]) hB (c_T_shareAt (bf_G hB) hF hr156) ml_T_59 md_T_shareAt rc_T_shareAt (sf_lt hF (by decide)) kk_25 rfl rfl (Nat.le_of_ble_eq_true rfl) rm_T_follow_T_shareAt e_T_follow_156) rfl rfl rfl ?_
        refine a_isub hB e_T_follow_159 ?_
        obtain ⟨M160, hM160, h⟩ := bm_i h
        refine a_iast' hB e_T_follow_160 (sf_lt hF (by decide)) kk_29 ll_29 c122 ?_
        refine a_mem hM160 ?_
        refine a_aload_n (j := 0) hB e_T_follow_161 rfl rfl ?_
        refine a_getR (r := 30) (k := 4) hB e_T_follow_162 fl_T_24 (sf_lt hF (by decide)) kk_25 tt_25_4 (hF.1 _ _) ?_
        refine a_iload_n (j := 2) hB e_T_follow_165 rfl rfl ?_
        refine a_dup2 hB e_T_follow_166 rfl rfl ?_
        refine a_iald' hB e_T_follow_167 (sf_lt hF (by decide)) kk_30 ll_30 c122 ?_
        refine a_aload_n (j := 0) hB e_T_follow_168 rfl rfl ?_
        refine a_iload_n (j := 2) hB e_T_follow_169 rfl rfl ?_
        refine a_aload_n (j := 0) hB e_T_follow_170 rfl rfl ?_
        obtain ⟨r171, hr171, h⟩ := bn_i h
        refine a_ret (v := (some (.int r171))) (M1 := M160) (φ1 := φ) (st1 := [.int r171, .int l2, .ref 25, .int (M160 30 (ix l2)), .int l2, .ref 30]) (j1 := 0) (j2 := 0) (ar_V (As := []) (rest := [.int l2, .ref 25, .int (M160 30 (ix l2)), .int l2, .ref 30]) hB (c_T_endNorth (bf_G hB) hF hr171) ml_T_62 md_T_endNorth rc_T_endNorth (sf_lt hF (by decide)) kk_25 rfl rfl (Nat.le_of_ble_eq_true rfl) rm_T_follow_T_endNorth e_T_follow_171) rfl rfl rfl ?_
        obtain ⟨r174, hr174, h⟩ := bn_i h
        refine a_ret (v := (some (.int r174))) (M1 := M160) (φ1 := φ) (st1 := [.int r174, .int (M160 30 (ix l2)), .int l2, .ref 30]) (j1 := 0) (j2 := 0) (ar_V (As := [.int l2, .int r171]) (rest := [.int (M160 30 (ix l2)), .int l2, .ref 30]) hB (c_T_shareAt (bf_G hB) hF hr174) ml_T_59 md_T_shareAt rc_T_shareAt (sf_lt hF (by decide)) kk_25 rfl rfl (Nat.le_of_ble_eq_true rfl) rm_T_follow_T_shareAt e_T_follow_174) rfl rfl rfl ?_
        refine a_isub hB e_T_follow_177 ?_
        obtain ⟨M178, hM178, h⟩ := bm_i h
        refine a_iast' hB e_T_follow_178 (sf_lt hF (by decide)) kk_30 ll_30 c122 ?_
        refine a_mem hM178 ?_
        exact t_T_follow_179 hB hF hs_a hr104 h
set_option maxRecDepth 100000 in
theorem t_T_follow_10 {G : Gt} {φ : Ph} {B : Bag} (hB : BF G I_T_follow B) (hF : SF 134 φ) {a : Nat} (hs_a : isSv a)  {M9 : Mm} : ∀ (n : Nat) (l2 : Int32) (M : Mm), f_T_follow_10 a n l2 M = some M9 → AW G I_T_follow B (QM G I_T_follow B (.inl none) M9 φ) 0 0 10 [(0, .ref 25), (1, .ref a), (2, .int l2)] [] M φ := by
  intro n
  induction n with
  | zero => intro l2 M h; cases h
  | succ n hr10 =>
    intro l2 M h
    rw [f_T_follow_10] at h
    refine a_iload_n (j := 2) hB e_T_follow_10 rfl rfl ?_
    refine a_aload_n (j := 0) hB e_T_follow_11 rfl rfl ?_
    refine a_getI (k := 5) hB e_T_follow_12 fl_T_33 (sf_lt hF (by decide)) kk_25 tt_25_5 ?_
    refine a_icmp_ge (tgt := 102) hB e_T_follow_15 (by decide) (fun c => ?_) (fun c => ?_)
    · have h := ip c h
      refine a_iconst (v := 0) hB e_T_follow_102 ic_0 ?_
      refine a_istore_n (ls' := [(2, .int (0 : Int32)), (0, .ref 25), (1, .ref a)]) hB e_T_follow_103 rfl (Nat.le_of_ble_eq_true rfl) rfl ?_
      refine a_ls [1, 2, 0] (ls' := [(0, .ref 25), (1, .ref a), (2, .int (0 : Int32))]) rfl ?_
      exact t_T_follow_104 hB hF hs_a _ _ _ h
    · have h := iq c h
      refine a_aload_n (j := 1) hB e_T_follow_18 rfl rfl ?_
      refine a_iload_n (j := 2) hB e_T_follow_19 rfl rfl ?_
      obtain ⟨r20, hr20, h⟩ := bn_i h
      refine a_ret (v := (some (.int r20))) (M1 := M) (φ1 := φ) (st1 := [.int r20]) (j1 := 0) (j2 := 0) (ar_V (As := [.int l2]) (rest := []) hB (c_S_horizontalUnits (bf_G hB) hF hs_a hr20) ml_T_34 md_S_horizontalUnits rc_S_horizontalUnits (sv_lt hs_a hF (by decide)) (sv_kd hs_a) rfl rfl (Nat.le_of_ble_eq_true rfl) rm_T_follow_S_horizontalUnits e_T_follow_20) rfl rfl rfl ?_
      refine a_istore_n (ls' := [(3, .int r20), (0, .ref 25), (1, .ref a), (2, .int l2)]) hB e_T_follow_23 rfl (Nat.le_of_ble_eq_true rfl) rfl ?_
      refine a_aload_n (j := 2) hB e_T_follow_24 rfl rfl ?_
      refine a_getR (r := a + 1 + 1) (k := 1) hB e_T_follow_25 fl_T_38 (sv_lt hs_a hF (by decide)) (sv_kd hs_a) (sv_t hs_a 1 (by decide)) (hF.1 _ _) ?_
      refine a_iload_n (j := 3) hB e_T_follow_28 rfl rfl ?_
      obtain ⟨c29, h⟩ := chk_i h
      refine a_iald' hB e_T_follow_29 (sv_la hs_a hF (by decide) 1 (by decide)) (sv_ki hs_a 1 (by decide) (by decide)) (sv_ln hs_a 1 (by decide)) c29 ?_
      refine a_istore (ls' := [(4, .int (M (a + 1 + 1) (ix l2))), (3, .int r20), (0, .ref 25), (1, .ref a), (2, .int l2)]) hB e_T_follow_30 (Nat.le_of_ble_eq_true rfl) rfl ?_
      refine a_aload_n (j := 2) hB e_T_follow_32 rfl rfl ?_
      refine a_getR (r := 26) (k := 0) hB e_T_follow_33 fl_T_9 (sf_lt hF (by decide)) kk_25 tt_25_0 (hF.1 _ _) ?_
      refine a_iload_n (j := 4) hB e_T_follow_36 rfl rfl ?_
      refine a_iconst (v := 1) hB e_T_follow_37 ic_1 ?_
      refine a_iadd hB e_T_follow_38 ?_
      refine a_aload_n (j := 2) hB e_T_follow_39 rfl rfl ?_
      refine a_getR (r := 26) (k := 0) hB e_T_follow_40 fl_T_9 (sf_lt hF (by decide)) kk_25 tt_25_0 (hF.1 _ _) ?_
      refine a_iload_n (j := 4) hB e_T_follow_43 rfl rfl ?_
      obtain ⟨c44, h⟩ := chk_i h
      refine a_iald' hB e_T_follow_44 (sf_lt hF (by decide)) kk_26 ll_26 c44 ?_
      refine a_iload_n (j := 1) hB e_T_follow_45 rfl rfl ?_
      refine a_iadd hB e_T_follow_46 ?_
      obtain ⟨c47, h⟩ := chk_i h
      obtain ⟨M47, hM47, h⟩ := bm_i h
      refine a_iast' hB e_T_follow_47 (sf_lt hF (by decide)) kk_26 ll_26 c47 ?_
      refine a_mem hM47 ?_
      refine a_aload_n (j := 2) hB e_T_follow_48 rfl rfl ?_
      refine a_getR (r := 27) (k := 1) hB e_T_follow_49 fl_T_15 (sf_lt hF (by decide)) kk_25 tt_25_1 (hF.1 _ _) ?_
      refine a_iload_n (j := 4) hB e_T_follow_52 rfl rfl ?_
      refine a_iconst (v := 1) hB e_T_follow_53 ic_1 ?_
      refine a_iadd hB e_T_follow_54 ?_
      refine a_aload_n (j := 2) hB e_T_follow_55 rfl rfl ?_
      refine a_getR (r := 27) (k := 1) hB e_T_follow_56 fl_T_15 (sf_lt hF (by decide)) kk_25 tt_25_1 (hF.1 _ _) ?_
      refine a_iload_n (j := 4) hB e_T_follow_59 rfl rfl ?_
      refine a_iald' hB e_T_follow_60 (sf_lt hF (by decide)) kk_27 ll_27 c44 ?_
      refine a_iload_n (j := 1) hB e_T_follow_61 rfl rfl ?_
      refine a_iload (j := 0) hB e_T_follow_62 rfl ?_
      obtain ⟨r64, hr64, h⟩ := bn_i h
      refine a_ret (v := (some (.int r64))) (M1 := M47) (φ1 := φ) (st1 := [.int r64, .int r20, .int (M47 27 (ix l2)), .int (l2 + (1 : Int32)), .ref 27]) (j1 := 0) (j2 := 0) (ar_SN (As := [.int (M (a + 1 + 1) (ix l2))]) (rest := [.int r20, .int (M47 27 (ix l2)), .int (l2 + (1 : Int32)), .ref 27]) hB (c_C_sine (bf_G hB) hF hr64) mn_T_41 md_C_sine rfl rfl (Nat.le_of_ble_eq_true rfl) rm_T_follow_C_sine e_T_follow_64) rfl rfl rfl ?_
      obtain ⟨r67, hr67, h⟩ := bn_i h
      refine a_ret (v := (some (.int r67))) (M1 := M47) (φ1 := φ) (st1 := [.int r67, .int (M47 27 (ix l2)), .int (l2 + (1 : Int32)), .ref 27]) (j1 := 0) (j2 := 0) (ar_SN (As := [.int r20, .int r64]) (rest := [.int (M47 27 (ix l2)), .int (l2 + (1 : Int32)), .ref 27]) hB (c_C_stepOf (bf_G hB) hF hr67) mn_T_44 md_C_stepOf rfl rfl (Nat.le_of_ble_eq_true rfl) rm_T_follow_C_stepOf e_T_follow_67) rfl rfl rfl ?_
      refine a_iadd hB e_T_follow_70 ?_
      obtain ⟨M71, hM71, h⟩ := bm_i h
      refine a_iast' hB e_T_follow_71 (sf_lt hF (by decide)) kk_27 ll_27 c47 ?_
      refine a_mem hM71 ?_
      refine a_aload_n (j := 2) hB e_T_follow_72 rfl rfl ?_
      refine a_getR (r := 28) (k := 2) hB e_T_follow_73 fl_T_18 (sf_lt hF (by decide)) kk_25 tt_25_2 (hF.1 _ _) ?_
      refine a_iload_n (j := 4) hB e_T_follow_76 rfl rfl ?_
      refine a_iconst (v := 1) hB e_T_follow_77 ic_1 ?_
      refine a_iadd hB e_T_follow_78 ?_
      refine a_aload_n (j := 2) hB e_T_follow_79 rfl rfl ?_
      refine a_getR (r := 28) (k := 2) hB e_T_follow_80 fl_T_18 (sf_lt hF (by decide)) kk_25 tt_25_2 (hF.1 _ _) ?_
      refine a_iload_n (j := 4) hB e_T_follow_83 rfl rfl ?_
      refine a_iald' hB e_T_follow_84 (sf_lt hF (by decide)) kk_28 ll_28 c44 ?_
      refine a_iload_n (j := 1) hB e_T_follow_85 rfl rfl ?_
      refine a_iload (j := 0) hB e_T_follow_86 rfl ?_
      obtain ⟨r88, hr88, h⟩ := bn_i h
      refine a_ret (v := (some (.int r88))) (M1 := M71) (φ1 := φ) (st1 := [.int r88, .int r20, .int (M71 28 (ix l2)), .int (l2 + (1 : Int32)), .ref 28]) (j1 := 0) (j2 := 0) (ar_SN (As := [.int (M (a + 1 + 1) (ix l2))]) (rest := [.int r20, .int (M71 28 (ix l2)), .int (l2 + (1 : Int32)), .ref 28]) hB (c_C_cosine (bf_G hB) hF hr88) mn_T_48 md_C_cosine rfl rfl (Nat.le_of_ble_eq_true rfl) rm_T_follow_C_cosine e_T_follow_88) rfl rfl rfl ?_
      obtain ⟨r91, hr91, h⟩ := bn_i h
      refine a_ret (v := (some (.int r91))) (M1 := M71) (φ1 := φ) (st1 := [.int r91, .int (M71 28 (ix l2)), .int (l2 + (1 : Int32)), .ref 28]) (j1 := 0) (j2 := 0) (ar_SN (As := [.int r20, .int r88]) (rest := [.int (M71 28 (ix l2)), .int (l2 + (1 : Int32)), .ref 28]) hB (c_C_stepOf (bf_G hB) hF hr91) mn_T_44 md_C_stepOf rfl rfl (Nat.le_of_ble_eq_true rfl) rm_T_follow_C_stepOf e_T_follow_91) rfl rfl rfl ?_
      refine a_iadd hB e_T_follow_94 ?_
      obtain ⟨M95, hM95, h⟩ := bm_i h
      refine a_iast' hB e_T_follow_95 (sf_lt hF (by decide)) kk_28 ll_28 c47 ?_
      refine a_mem hM95 ?_
      refine a_iinc (j := 4) (v := l2 + 1) (ls' := [(2, .int (l2 + 1)), (4, .int (M (a + 1 + 1) (ix l2))), (3, .int r20), (0, .ref 25), (1, .ref a)]) hB e_T_follow_96 rfl (inc_1 _) (Nat.le_of_ble_eq_true rfl) rfl ?_
      refine a_goto (tgt := 10) hB e_T_follow_99 (by decide) ?_
      refine a_ls [3, 4, 0] (ls' := [(0, .ref 25), (1, .ref a), (2, .int (l2 + 1))]) rfl ?_
      exact hr10 _ _ h
set_option maxRecDepth 100000 in
theorem t_T_follow {G : Gt} {φ : Ph} {B : Bag} (hB : BF G I_T_follow B) (hF : SF 134 φ) {a : Nat} (hs_a : isSv a)  {M9 : Mm}  {M : Mm} (h : f_T_follow a M = some M9) : AW G I_T_follow B (QM G I_T_follow B (.inl none) M9 φ) 0 0 0 [(0, .ref 25), (1, .ref a)] [] M φ := by
  unfold f_T_follow at h
  refine a_aload_n (j := 0) hB e_T_follow_0 rfl rfl ?_
  refine a_aload_n (j := 1) hB e_T_follow_1 rfl rfl ?_
  refine a_getI (k := 9) hB e_T_follow_2 fl_T_27 (sv_lt hs_a hF (by decide)) (sv_kd hs_a) (sv_t0 hs_a 0 (by decide)) ?_
  obtain ⟨M5, hM5, h⟩ := bm_i h
  refine a_putI (k := 5) hB e_T_follow_5 fw_T_33 (sf_lt hF (by decide)) kk_25 tt_25_5 ?_
  refine a_mem hM5 ?_
  refine a_iconst (v := 0) hB e_T_follow_8 ic_0 ?_
  refine a_istore_n (ls' := [(2, .int (0 : Int32)), (0, .ref 25), (1, .ref a)]) hB e_T_follow_9 rfl (Nat.le_of_ble_eq_true rfl) rfl ?_
  refine a_ls [1, 2, 0] (ls' := [(0, .ref 25), (1, .ref a), (2, .int (0 : Int32))]) rfl ?_
  exact t_T_follow_10 hB hF hs_a _ _ _ h
set_option maxRecDepth 100000 in
theorem c_T_follow {G : Gt} (hG : GOK G) {φ : Ph} (hF : SF 134 φ) {a : Nat} (hs_a : isSv a) {M : Mm}  {M9 : Mm} (h : f_T_follow a M = some M9) : CT G I_T_follow [.ref 25, .ref a] M φ (.inl none) M9 φ :=
  ct_of hG (by decide) (Nat.le_of_ble_eq_true rfl) (fun B hB => t_T_follow hB hF hs_a h)
set_option maxRecDepth 100000 in
theorem t_C_distance {G : Gt} {φ : Ph} {B : Bag} (hB : BF G I_C_distance B) (hF : SF 134 φ)   {M : Mm} {o : Int32} {l0 : Int32} {l1 : Int32}  (h : f_C_distance l0 l1 = some o) : AW G I_C_distance B (QM G I_C_distance B (.inl (some (.int o))) M φ) 0 0 0 [(0, .int l0), (1, .int l1)] [] M φ := by
  unfold f_C_distance at h
  refine a_iload_n (j := 0) hB e_C_distance_0 rfl rfl ?_
  refine a_i2l hB e_C_distance_1 ?_
  refine a_iload_n (j := 0) hB e_C_distance_2 rfl rfl ?_
  refine a_i2l hB e_C_distance_3 ?_
  refine a_lmul hB e_C_distance_4 ?_
  refine a_iload_n (j := 1) hB e_C_distance_5 rfl rfl ?_
  refine a_i2l hB e_C_distance_6 ?_
  refine a_iload_n (j := 1) hB e_C_distance_7 rfl rfl ?_
  refine a_i2l hB e_C_distance_8 ?_
  refine a_lmul hB e_C_distance_9 ?_
  refine a_ladd hB e_C_distance_10 ?_
  obtain ⟨r11, hr11, h⟩ := bn_i h
  refine a_ret (v := (some (.int r11))) (M1 := M) (φ1 := φ) (st1 := [.int r11]) (j1 := 0) (j2 := 0) (ar_S (As := [.long ((l0.toInt64 * l0.toInt64) + (l1.toInt64 * l1.toInt64))]) (rest := []) hB (c_C_root (bf_G hB) hF hr11) ml_C_353 md_C_root rfl rfl (Nat.le_of_ble_eq_true rfl) rm_C_distance_C_root e_C_distance_11) rfl rfl rfl ?_
  cases h
  exact a_iret hB rfl e_C_distance_14 (by decide) (by decide)
set_option maxRecDepth 100000 in
theorem c_C_distance {G : Gt} (hG : GOK G) {φ : Ph} (hF : SF 134 φ)   {M : Mm} {l0 : Int32} {l1 : Int32} {o : Int32} (h : f_C_distance l0 l1 = some o) : CT G I_C_distance [.int l0, .int l1] M φ (.inl (some (.int o))) M φ :=
  ct_of hG (by decide) (Nat.le_of_ble_eq_true rfl) (fun B hB => t_C_distance hB hF  h)
set_option maxRecDepth 100000 in
theorem t_T_closingDistance {G : Gt} {φ : Ph} {B : Bag} (hB : BF G I_T_closingDistance B) (hF : SF 134 φ)   {M : Mm} {o : Int32}   (h : f_T_closingDistance M = some o) : AW G I_T_closingDistance B (QM G I_T_closingDistance B (.inl (some (.int o))) M φ) 0 0 0 [(0, .ref 25)] [] M φ := by
  unfold f_T_closingDistance at h
  refine a_aload_n (j := 0) hB e_T_closingDistance_0 rfl rfl ?_
  obtain ⟨r1, hr1, h⟩ := bn_i h
  refine a_ret (v := (some (.int r1))) (M1 := M) (φ1 := φ) (st1 := [.int r1]) (j1 := 0) (j2 := 0) (ar_V (As := []) (rest := []) hB (c_T_endEast (bf_G hB) hF hr1) ml_T_55 md_T_endEast rc_T_endEast (sf_lt hF (by decide)) kk_25 rfl rfl (Nat.le_of_ble_eq_true rfl) rm_T_closingDistance_T_endEast e_T_closingDistance_1) rfl rfl rfl ?_
  refine a_aload_n (j := 0) hB e_T_closingDistance_4 rfl rfl ?_
  obtain ⟨r5, hr5, h⟩ := bn_i h
  refine a_ret (v := (some (.int r5))) (M1 := M) (φ1 := φ) (st1 := [.int r5, .int r1]) (j1 := 0) (j2 := 0) (ar_V (As := []) (rest := [.int r1]) hB (c_T_endNorth (bf_G hB) hF hr5) ml_T_62 md_T_endNorth rc_T_endNorth (sf_lt hF (by decide)) kk_25 rfl rfl (Nat.le_of_ble_eq_true rfl) rm_T_closingDistance_T_endNorth e_T_closingDistance_5) rfl rfl rfl ?_
  obtain ⟨r8, hr8, h⟩ := bn_i h
  refine a_ret (v := (some (.int r8))) (M1 := M) (φ1 := φ) (st1 := [.int r8]) (j1 := 0) (j2 := 0) (ar_SN (As := [.int r1, .int r5]) (rest := []) hB (c_C_distance (bf_G hB) hF hr8) mn_T_68 md_C_distance rfl rfl (Nat.le_of_ble_eq_true rfl) rm_T_closingDistance_C_distance e_T_closingDistance_8) rfl rfl rfl ?_
  cases h
  exact a_iret hB rfl e_T_closingDistance_11 (by decide) (by decide)
set_option maxRecDepth 100000 in
theorem c_T_closingDistance {G : Gt} (hG : GOK G) {φ : Ph} (hF : SF 134 φ)   {M : Mm}  {o : Int32} (h : f_T_closingDistance M = some o) : CT G I_T_closingDistance [.ref 25] M φ (.inl (some (.int o))) M φ :=
  ct_of hG (by decide) (Nat.le_of_ble_eq_true rfl) (fun B hB => t_T_closingDistance hB hF  h)
set_option maxRecDepth 100000 in
theorem t_T_distanceOf {G : Gt} {φ : Ph} {B : Bag} (hB : BF G I_T_distanceOf B) (hF : SF 134 φ)   {M : Mm} {o : Int32} {l1 : Int32}  (h : f_T_distanceOf M l1 = some o) : AW G I_T_distanceOf B (QM G I_T_distanceOf B (.inl (some (.int o))) M φ) 0 0 0 [(0, .ref 25), (1, .int l1)] [] M φ := by
  unfold f_T_distanceOf at h
  refine a_aload_n (j := 0) hB e_T_distanceOf_0 rfl rfl ?_
  refine a_getR (r := 29) (k := 3) hB e_T_distanceOf_1 fl_T_21 (sf_lt hF (by decide)) kk_25 tt_25_3 (hF.1 _ _) ?_
  refine a_iload_n (j := 1) hB e_T_distanceOf_4 rfl rfl ?_
  obtain ⟨c5, h⟩ := chk_i h
  refine a_iald' hB e_T_distanceOf_5 (sf_lt hF (by decide)) kk_29 ll_29 c5 ?_
  refine a_aload_n (j := 0) hB e_T_distanceOf_6 rfl rfl ?_
  refine a_getR (r := 30) (k := 4) hB e_T_distanceOf_7 fl_T_24 (sf_lt hF (by decide)) kk_25 tt_25_4 (hF.1 _ _) ?_
  refine a_iload_n (j := 1) hB e_T_distanceOf_10 rfl rfl ?_
  refine a_iald' hB e_T_distanceOf_11 (sf_lt hF (by decide)) kk_30 ll_30 c5 ?_
  obtain ⟨r12, hr12, h⟩ := bn_i h
  refine a_ret (v := (some (.int r12))) (M1 := M) (φ1 := φ) (st1 := [.int r12]) (j1 := 0) (j2 := 0) (ar_SN (As := [.int (M 29 (ix l1)), .int (M 30 (ix l1))]) (rest := []) hB (c_C_distance (bf_G hB) hF hr12) mn_T_68 md_C_distance rfl rfl (Nat.le_of_ble_eq_true rfl) rm_T_distanceOf_C_distance e_T_distanceOf_12) rfl rfl rfl ?_
  cases h
  exact a_iret hB rfl e_T_distanceOf_15 (by decide) (by decide)
set_option maxRecDepth 100000 in
theorem c_T_distanceOf {G : Gt} (hG : GOK G) {φ : Ph} (hF : SF 134 φ)   {M : Mm} {l1 : Int32} {o : Int32} (h : f_T_distanceOf M l1 = some o) : CT G I_T_distanceOf [.ref 25, .int l1] M φ (.inl (some (.int o))) M φ :=
  ct_of hG (by decide) (Nat.le_of_ble_eq_true rfl) (fun B hB => t_T_distanceOf hB hF  h)
set_option maxRecDepth 100000 in
theorem t_T_enclosedArea_4 {G : Gt} {φ : Ph} {B : Bag} (hB : BF G I_T_enclosedArea B) (hF : SF 134 φ)   {M : Mm} {o : Int64} : ∀ (n : Nat) (l1 : Int64) (l3 : Int32), f_T_enclosedArea_4 M n l1 l3 = some o → AW G I_T_enclosedArea B (QM G I_T_enclosedArea B (.inl (some (.long o))) M φ) 0 0 4 [(0, .ref 25), (1, .long l1), (3, .int l3)] [] M φ := by
  intro n
  induction n with
  | zero => intro l1 l3 h; cases h
  | succ n hr4 =>
    intro l1 l3 h
    rw [f_T_enclosedArea_4] at h
    refine a_iload_n (j := 2) hB e_T_enclosedArea_4 rfl rfl ?_
    refine a_aload_n (j := 0) hB e_T_enclosedArea_5 rfl rfl ?_
    refine a_getI (k := 5) hB e_T_enclosedArea_6 fl_T_33 (sf_lt hF (by decide)) kk_25 tt_25_5 ?_
    refine a_icmp_ge (tgt := 56) hB e_T_enclosedArea_9 (by decide) (fun c => ?_) (fun c => ?_)
    · have h := ip c h
      refine a_lload_n (j := 1) hB e_T_enclosedArea_56 rfl rfl ?_
      refine a_absJ hB ml_T_71 ms_absJ ini_math mc_absJ (by decide) (Nat.le_of_ble_eq_true rfl) (by decide) (by decide) e_T_enclosedArea_57 ?_
      refine a_ldc2 (v := 2) hB cj_T_77 e_T_enclosedArea_60 ?_
      refine a_ldiv hB e_T_enclosedArea_63 (by decide) ?_
      cases h
      exact a_lret hB rfl e_T_enclosedArea_64 (by decide) (by decide)
    · have h := iq c h
      refine a_lload_n (j := 1) hB e_T_enclosedArea_12 rfl rfl ?_
      refine a_aload_n (j := 0) hB e_T_enclosedArea_13 rfl rfl ?_
      refine a_getR (r := 29) (k := 3) hB e_T_enclosedArea_14 fl_T_21 (sf_lt hF (by decide)) kk_25 tt_25_3 (hF.1 _ _) ?_
      refine a_iload_n (j := 2) hB e_T_enclosedArea_17 rfl rfl ?_
      obtain ⟨c18, h⟩ := chk_i h
      refine a_iald' hB e_T_enclosedArea_18 (sf_lt hF (by decide)) kk_29 ll_29 c18 ?_
      refine a_i2l hB e_T_enclosedArea_19 ?_
      refine a_aload_n (j := 0) hB e_T_enclosedArea_20 rfl rfl ?_
      refine a_getR (r := 30) (k := 4) hB e_T_enclosedArea_21 fl_T_24 (sf_lt hF (by decide)) kk_25 tt_25_4 (hF.1 _ _) ?_
      refine a_iload_n (j := 2) hB e_T_enclosedArea_24 rfl rfl ?_
      refine a_iconst (v := 1) hB e_T_enclosedArea_25 ic_1 ?_
      refine a_iadd hB e_T_enclosedArea_26 ?_
      obtain ⟨c27, h⟩ := chk_i h
      refine a_iald' hB e_T_enclosedArea_27 (sf_lt hF (by decide)) kk_30 ll_30 c27 ?_
      refine a_i2l hB e_T_enclosedArea_28 ?_
      refine a_lmul hB e_T_enclosedArea_29 ?_
      refine a_aload_n (j := 0) hB e_T_enclosedArea_30 rfl rfl ?_
      refine a_getR (r := 29) (k := 3) hB e_T_enclosedArea_31 fl_T_21 (sf_lt hF (by decide)) kk_25 tt_25_3 (hF.1 _ _) ?_
      refine a_iload_n (j := 2) hB e_T_enclosedArea_34 rfl rfl ?_
      refine a_iconst (v := 1) hB e_T_enclosedArea_35 ic_1 ?_
      refine a_iadd hB e_T_enclosedArea_36 ?_
      refine a_iald' hB e_T_enclosedArea_37 (sf_lt hF (by decide)) kk_29 ll_29 c27 ?_
      refine a_i2l hB e_T_enclosedArea_38 ?_
      refine a_aload_n (j := 0) hB e_T_enclosedArea_39 rfl rfl ?_
      refine a_getR (r := 30) (k := 4) hB e_T_enclosedArea_40 fl_T_24 (sf_lt hF (by decide)) kk_25 tt_25_4 (hF.1 _ _) ?_
      refine a_iload_n (j := 2) hB e_T_enclosedArea_43 rfl rfl ?_
      refine a_iald' hB e_T_enclosedArea_44 (sf_lt hF (by decide)) kk_30 ll_30 c18 ?_
      refine a_i2l hB e_T_enclosedArea_45 ?_
      refine a_lmul hB e_T_enclosedArea_46 ?_
      refine a_lsub hB e_T_enclosedArea_47 ?_
      refine a_ladd hB e_T_enclosedArea_48 ?_
      refine a_lstore_n (ls' := [(1, .long (l1 + ((((M 29 (ix l3)).toInt64) * ((M 30 (ix (l3 + (1 : Int32)))).toInt64)) - (((M 29 (ix (l3 + (1 : Int32)))).toInt64) * ((M 30 (ix l3)).toInt64))))), (0, .ref 25), (3, .int l3)]) hB e_T_enclosedArea_49 rfl (Nat.le_of_ble_eq_true rfl) rfl ?_
      refine a_iinc (j := 2) (v := l3 + 1) (ls' := [(3, .int (l3 + 1)), (1, .long (l1 + ((((M 29 (ix l3)).toInt64) * ((M 30 (ix (l3 + (1 : Int32)))).toInt64)) - (((M 29 (ix (l3 + (1 : Int32)))).toInt64) * ((M 30 (ix l3)).toInt64))))), (0, .ref 25)]) hB e_T_enclosedArea_50 rfl (inc_1 _) (Nat.le_of_ble_eq_true rfl) rfl ?_
      refine a_goto (tgt := 4) hB e_T_enclosedArea_53 (by decide) ?_
      refine a_ls [2, 1, 0] (ls' := [(0, .ref 25), (1, .long (l1 + ((((M 29 (ix l3)).toInt64) * ((M 30 (ix (l3 + (1 : Int32)))).toInt64)) - (((M 29 (ix (l3 + (1 : Int32)))).toInt64) * ((M 30 (ix l3)).toInt64))))), (3, .int (l3 + 1))]) rfl ?_
      exact hr4 _ _ h
set_option maxRecDepth 100000 in
theorem t_T_enclosedArea {G : Gt} {φ : Ph} {B : Bag} (hB : BF G I_T_enclosedArea B) (hF : SF 134 φ)   {M : Mm} {o : Int64}   (h : f_T_enclosedArea M = some o) : AW G I_T_enclosedArea B (QM G I_T_enclosedArea B (.inl (some (.long o))) M φ) 0 0 0 [(0, .ref 25)] [] M φ := by
  unfold f_T_enclosedArea at h
  refine a_lconst (v := 0) hB e_T_enclosedArea_0 rfl ?_
  refine a_lstore_n (ls' := [(1, .long (0 : Int64)), (0, .ref 25)]) hB e_T_enclosedArea_1 rfl (Nat.le_of_ble_eq_true rfl) rfl ?_
  refine a_iconst (v := 0) hB e_T_enclosedArea_2 ic_0 ?_
  refine a_istore_n (ls' := [(3, .int (0 : Int32)), (1, .long (0 : Int64)), (0, .ref 25)]) hB e_T_enclosedArea_3 rfl (Nat.le_of_ble_eq_true rfl) rfl ?_
  refine a_ls [2, 1, 0] (ls' := [(0, .ref 25), (1, .long (0 : Int64)), (3, .int (0 : Int32))]) rfl ?_
  exact t_T_enclosedArea_4 hB hF _ _ _ h
set_option maxRecDepth 100000 in
theorem c_T_enclosedArea {G : Gt} (hG : GOK G) {φ : Ph} (hF : SF 134 φ)   {M : Mm}  {o : Int64} (h : f_T_enclosedArea M = some o) : CT G I_T_enclosedArea [.ref 25] M φ (.inl (some (.long o))) M φ :=
  ct_of hG (by decide) (Nat.le_of_ble_eq_true rfl) (fun B hB => t_T_enclosedArea hB hF  h)
