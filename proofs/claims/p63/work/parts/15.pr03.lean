/-! the functions are what the machine does -/
set_option maxRecDepth 100000 in
theorem c_I_readsCommand {G : Gt} (hG : GOK G) {φ : Ph} (hF : SF 134 φ)   {M : Mm}  {o : Int32} {M9 : Mm} (h : f_I_readsCommand M = some (o, M9)) : CT G I_I_readsCommand [.ref 1] M φ (.inl (some (.int o))) M9 φ :=
  ct_of hG (by decide) (Nat.le_of_ble_eq_true rfl) (fun B hB => t_I_readsCommand hB hF  h)
set_option maxRecDepth 100000 in
theorem t_I_readsCommands_47 {G : Gt} {φ : Ph} {B : Bag} (hB : BF G I_I_readsCommands B) (hF : SF 134 φ)    {o : Int32} {M9 : Mm}  {M : Mm} (h : f_I_readsCommands_47 M = some (o, M9)) : AW G I_I_readsCommands B (QM G I_I_readsCommands B (.inl (some (.int o))) M9 φ) 0 0 47 [] [] M φ := by
  unfold f_I_readsCommands_47 at h
  refine a_iconst (v := 1) hB e_I_readsCommands_47 ic_1 ?_
  cases h
  exact a_zret hB rfl (Or.inr rfl) e_I_readsCommands_48 (by decide) (by decide)
set_option maxRecDepth 100000 in
theorem t_I_readsCommands_5 {G : Gt} {φ : Ph} {B : Bag} (hB : BF G I_I_readsCommands B) (hF : SF 134 φ)    {o : Int32} {M9 : Mm} : ∀ (n : Nat)  (M : Mm), f_I_readsCommands_5 n M = some (o, M9) → AW G I_I_readsCommands B (QM G I_I_readsCommands B (.inl (some (.int o))) M9 φ) 0 0 5 [(0, .ref 1)] [] M φ := by
  intro n
  induction n with
  | zero => intro M h; cases h
  | succ n hr5 =>
    intro M h
    rw [f_I_readsCommands_5] at h
    refine a_aload_n (j := 0) hB e_I_readsCommands_5 rfl rfl ?_
    refine a_getI (k := 2) hB e_I_readsCommands_6 fl_I_64 (sf_lt hF (by decide)) kk_1 tt_1_2 ?_
    refine a_sipush (v := 900) hB e_I_readsCommands_9 sp_900 ?_
    refine a_icmp_ge (tgt := 47) hB e_I_readsCommands_12 (by decide) (fun c => ?_) (fun c => ?_)
    · have h := ip c h
      refine a_ls [] (ls' := []) rfl ?_
      exact t_I_readsCommands_47 hB hF h
    · have h := iq c h
      refine a_aload_n (j := 0) hB e_I_readsCommands_15 rfl rfl ?_
      refine a_getR (r := 2) (k := 0) hB e_I_readsCommands_16 fl_I_12 (sf_lt hF (by decide)) kk_1 tt_1_0 (hF.1 _ _) ?_
      refine a_getI (k := 2) hB e_I_readsCommands_19 fl_I_67 (sf_lt hF (by decide)) kk_2 tt_2_2 ?_
      refine a_if_eq (tgt := 47) hB e_I_readsCommands_22 (by decide) (fun c => ?_) (fun c => ?_)
      · have h := ip c h
        refine a_ls [] (ls' := []) rfl ?_
        exact t_I_readsCommands_47 hB hF h
      · have h := iq c h
        refine a_aload_n (j := 0) hB e_I_readsCommands_25 rfl rfl ?_
        obtain ⟨r26, M26, hr26, h⟩ := bn2_i h
        refine a_ret (v := (some (.int r26))) (M1 := M26) (φ1 := φ) (st1 := [.int r26]) (j1 := 0) (j2 := 0) (ar_V (As := []) (rest := []) hB (c_I_readsCommand (bf_G hB) hF hr26) ml_I_70 md_I_readsCommand rc_I_readsCommand (sf_lt hF (by decide)) kk_1 rfl rfl (Nat.le_of_ble_eq_true rfl) rm_I_readsCommands_I_readsCommand e_I_readsCommands_26) rfl rfl rfl ?_
        refine a_if_ne (tgt := 34) hB e_I_readsCommands_29 (by decide) (fun c => ?_) (fun c => ?_)
        · have h := iq c h
          refine a_aload_n (j := 0) hB e_I_readsCommands_34 rfl rfl ?_
          refine a_dup hB e_I_readsCommands_35 rfl ?_
          refine a_getI (k := 2) hB e_I_readsCommands_36 fl_I_64 (sf_lt hF (by decide)) kk_1 tt_1_2 ?_
          refine a_iconst (v := 1) hB e_I_readsCommands_39 ic_1 ?_
          refine a_iadd hB e_I_readsCommands_40 ?_
          obtain ⟨M41, hM41, h⟩ := bm_i h
          refine a_putI (k := 2) hB e_I_readsCommands_41 fw_I_64 (sf_lt hF (by decide)) kk_1 tt_1_2 ?_
          refine a_mem hM41 ?_
          refine a_goto (tgt := 5) hB e_I_readsCommands_44 (by decide) ?_
          exact hr5 _ h
        · have h := ip c h
          refine a_iconst (v := 0) hB e_I_readsCommands_32 ic_0 ?_
          cases h
          exact a_zret hB rfl (Or.inl rfl) e_I_readsCommands_33 (by decide) (by decide)
set_option maxRecDepth 100000 in
theorem t_I_readsCommands {G : Gt} {φ : Ph} {B : Bag} (hB : BF G I_I_readsCommands B) (hF : SF 134 φ)    {o : Int32} {M9 : Mm}  {M : Mm} (h : f_I_readsCommands M = some (o, M9)) : AW G I_I_readsCommands B (QM G I_I_readsCommands B (.inl (some (.int o))) M9 φ) 0 0 0 [(0, .ref 1)] [] M φ := by
  unfold f_I_readsCommands at h
  refine a_aload_n (j := 0) hB e_I_readsCommands_0 rfl rfl ?_
  refine a_iconst (v := 0) hB e_I_readsCommands_1 ic_0 ?_
  obtain ⟨M2, hM2, h⟩ := bm_i h
  refine a_putI (k := 2) hB e_I_readsCommands_2 fw_I_64 (sf_lt hF (by decide)) kk_1 tt_1_2 ?_
  refine a_mem hM2 ?_
  exact t_I_readsCommands_5 hB hF _ _ h
set_option maxRecDepth 100000 in
theorem c_I_readsCommands {G : Gt} (hG : GOK G) {φ : Ph} (hF : SF 134 φ)   {M : Mm}  {o : Int32} {M9 : Mm} (h : f_I_readsCommands M = some (o, M9)) : CT G I_I_readsCommands [.ref 1] M φ (.inl (some (.int o))) M9 φ :=
  ct_of hG (by decide) (Nat.le_of_ble_eq_true rfl) (fun B hB => t_I_readsCommands hB hF  h)
set_option maxRecDepth 100000 in
theorem t_S_copyFrom_34 {G : Gt} {φ : Ph} {B : Bag} (hB : BF G I_S_copyFrom B) (hF : SF 134 φ) {a : Nat} {b : Nat} (hs_a : isSv a) (hs_b : isSv b)  {M9 : Mm} : ∀ (n : Nat) (l2 : Int32) (M : Mm), f_S_copyFrom_34 a b n l2 M = some M9 → AW G I_S_copyFrom B (QM G I_S_copyFrom B (.inl none) M9 φ) 0 0 34 [(0, .ref a), (1, .ref b), (2, .int l2)] [] M φ := by
  intro n
  induction n with
  | zero => intro l2 M h; cases h
  | succ n hr34 =>
    intro l2 M h
    rw [f_S_copyFrom_34] at h
    refine a_iload_n (j := 2) hB e_S_copyFrom_34 rfl rfl ?_
    refine a_bipush (v := 20) hB e_S_copyFrom_35 bp_20 ?_
    refine a_icmp_ge (tgt := 154) hB e_S_copyFrom_37 (by decide) (fun c => ?_) (fun c => ?_)
    · have h := ip c h
      cases h
      exact a_vret hB rfl e_S_copyFrom_154 (by decide) (by decide)
    · have h := iq c h
      refine a_aload_n (j := 0) hB e_S_copyFrom_40 rfl rfl ?_
      refine a_getR (r := a + 1 + 0) (k := 0) hB e_S_copyFrom_41 fl_S_9 (sv_lt hs_a hF (by decide)) (sv_kd hs_a) (sv_t hs_a 0 (by decide)) (hF.1 _ _) ?_
      refine a_iload_n (j := 2) hB e_S_copyFrom_44 rfl rfl ?_
      refine a_aload_n (j := 1) hB e_S_copyFrom_45 rfl rfl ?_
      refine a_getR (r := b + 1 + 0) (k := 0) hB e_S_copyFrom_46 fl_S_9 (sv_lt hs_b hF (by decide)) (sv_kd hs_b) (sv_t hs_b 0 (by decide)) (hF.1 _ _) ?_
      refine a_iload_n (j := 2) hB e_S_copyFrom_49 rfl rfl ?_
      obtain ⟨c50, h⟩ := chk_i h
      refine a_iald' hB e_S_copyFrom_50 (sv_la hs_b hF (by decide) 0 (by decide)) (sv_ki hs_b 0 (by decide) (by decide)) (sv_ln hs_b 0 (by decide)) c50 ?_
      obtain ⟨M51, hM51, h⟩ := bm_i h
      refine a_iast' hB e_S_copyFrom_51 (sv_la hs_a hF (by decide) 0 (by decide)) (sv_ki hs_a 0 (by decide) (by decide)) (sv_ln hs_a 0 (by decide)) c50 ?_
      refine a_mem hM51 ?_
      refine a_aload_n (j := 0) hB e_S_copyFrom_52 rfl rfl ?_
      refine a_getR (r := a + 1 + 1) (k := 1) hB e_S_copyFrom_53 fl_S_15 (sv_lt hs_a hF (by decide)) (sv_kd hs_a) (sv_t hs_a 1 (by decide)) (hF.1 _ _) ?_
      refine a_iload_n (j := 2) hB e_S_copyFrom_56 rfl rfl ?_
      refine a_aload_n (j := 1) hB e_S_copyFrom_57 rfl rfl ?_
      refine a_getR (r := b + 1 + 1) (k := 1) hB e_S_copyFrom_58 fl_S_15 (sv_lt hs_b hF (by decide)) (sv_kd hs_b) (sv_t hs_b 1 (by decide)) (hF.1 _ _) ?_
      refine a_iload_n (j := 2) hB e_S_copyFrom_61 rfl rfl ?_
      refine a_iald' hB e_S_copyFrom_62 (sv_la hs_b hF (by decide) 1 (by decide)) (sv_ki hs_b 1 (by decide) (by decide)) (sv_ln hs_b 1 (by decide)) c50 ?_
      obtain ⟨M63, hM63, h⟩ := bm_i h
      refine a_iast' hB e_S_copyFrom_63 (sv_la hs_a hF (by decide) 1 (by decide)) (sv_ki hs_a 1 (by decide) (by decide)) (sv_ln hs_a 1 (by decide)) c50 ?_
      refine a_mem hM63 ?_
      refine a_aload_n (j := 0) hB e_S_copyFrom_64 rfl rfl ?_
      refine a_getR (r := a + 1 + 2) (k := 2) hB e_S_copyFrom_65 fl_S_18 (sv_lt hs_a hF (by decide)) (sv_kd hs_a) (sv_t hs_a 2 (by decide)) (hF.1 _ _) ?_
      refine a_iload_n (j := 2) hB e_S_copyFrom_68 rfl rfl ?_
      refine a_aload_n (j := 1) hB e_S_copyFrom_69 rfl rfl ?_
      refine a_getR (r := b + 1 + 2) (k := 2) hB e_S_copyFrom_70 fl_S_18 (sv_lt hs_b hF (by decide)) (sv_kd hs_b) (sv_t hs_b 2 (by decide)) (hF.1 _ _) ?_
      refine a_iload_n (j := 2) hB e_S_copyFrom_73 rfl rfl ?_
      refine a_zald' hB e_S_copyFrom_74 (sv_la hs_b hF (by decide) 2 (by decide)) (sv_kz hs_b) (sv_ln hs_b 2 (by decide)) c50 ?_
      obtain ⟨z75, h⟩ := chk_i h
      obtain ⟨M75, hM75, h⟩ := bm_i h
      refine a_zast' hB e_S_copyFrom_75 (sv_la hs_a hF (by decide) 2 (by decide)) (sv_kz hs_a) (sv_ln hs_a 2 (by decide)) c50 z75 ?_
      refine a_mem hM75 ?_
      refine a_aload_n (j := 0) hB e_S_copyFrom_76 rfl rfl ?_
      refine a_getR (r := a + 1 + 3) (k := 3) hB e_S_copyFrom_77 fl_S_22 (sv_lt hs_a hF (by decide)) (sv_kd hs_a) (sv_t hs_a 3 (by decide)) (hF.1 _ _) ?_
      refine a_iload_n (j := 2) hB e_S_copyFrom_80 rfl rfl ?_
      refine a_aload_n (j := 1) hB e_S_copyFrom_81 rfl rfl ?_
      refine a_getR (r := b + 1 + 3) (k := 3) hB e_S_copyFrom_82 fl_S_22 (sv_lt hs_b hF (by decide)) (sv_kd hs_b) (sv_t hs_b 3 (by decide)) (hF.1 _ _) ?_
      refine a_iload_n (j := 2) hB e_S_copyFrom_85 rfl rfl ?_
      refine a_iald' hB e_S_copyFrom_86 (sv_la hs_b hF (by decide) 3 (by decide)) (sv_ki hs_b 3 (by decide) (by decide)) (sv_ln hs_b 3 (by decide)) c50 ?_
      obtain ⟨M87, hM87, h⟩ := bm_i h
      refine a_iast' hB e_S_copyFrom_87 (sv_la hs_a hF (by decide) 3 (by decide)) (sv_ki hs_a 3 (by decide) (by decide)) (sv_ln hs_a 3 (by decide)) c50 ?_
      refine a_mem hM87 ?_
      refine a_aload_n (j := 0) hB e_S_copyFrom_88 rfl rfl ?_
      refine a_getR (r := a + 1 + 4) (k := 4) hB e_S_copyFrom_89 fl_S_25 (sv_lt hs_a hF (by decide)) (sv_kd hs_a) (sv_t hs_a 4 (by decide)) (hF.1 _ _) ?_
      refine a_iload_n (j := 2) hB e_S_copyFrom_92 rfl rfl ?_
      refine a_aload_n (j := 1) hB e_S_copyFrom_93 rfl rfl ?_
      refine a_getR (r := b + 1 + 4) (k := 4) hB e_S_copyFrom_94 fl_S_25 (sv_lt hs_b hF (by decide)) (sv_kd hs_b) (sv_t hs_b 4 (by decide)) (hF.1 _ _) ?_
      refine a_iload_n (j := 2) hB e_S_copyFrom_97 rfl rfl ?_
      refine a_iald' hB e_S_copyFrom_98 (sv_la hs_b hF (by decide) 4 (by decide)) (sv_ki hs_b 4 (by decide) (by decide)) (sv_ln hs_b 4 (by decide)) c50 ?_
      obtain ⟨M99, hM99, h⟩ := bm_i h
      refine a_iast' hB e_S_copyFrom_99 (sv_la hs_a hF (by decide) 4 (by decide)) (sv_ki hs_a 4 (by decide) (by decide)) (sv_ln hs_a 4 (by decide)) c50 ?_
      refine a_mem hM99 ?_
      refine a_aload_n (j := 0) hB e_S_copyFrom_100 rfl rfl ?_
      refine a_getR (r := a + 1 + 5) (k := 5) hB e_S_copyFrom_101 fl_S_28 (sv_lt hs_a hF (by decide)) (sv_kd hs_a) (sv_t hs_a 5 (by decide)) (hF.1 _ _) ?_
      refine a_iload_n (j := 2) hB e_S_copyFrom_104 rfl rfl ?_
      refine a_aload_n (j := 1) hB e_S_copyFrom_105 rfl rfl ?_
      refine a_getR (r := b + 1 + 5) (k := 5) hB e_S_copyFrom_106 fl_S_28 (sv_lt hs_b hF (by decide)) (sv_kd hs_b) (sv_t hs_b 5 (by decide)) (hF.1 _ _) ?_
      refine a_iload_n (j := 2) hB e_S_copyFrom_109 rfl rfl ?_
      refine a_iald' hB e_S_copyFrom_110 (sv_la hs_b hF (by decide) 5 (by decide)) (sv_ki hs_b 5 (by decide) (by decide)) (sv_ln hs_b 5 (by decide)) c50 ?_
      obtain ⟨M111, hM111, h⟩ := bm_i h
      refine a_iast' hB e_S_copyFrom_111 (sv_la hs_a hF (by decide) 5 (by decide)) (sv_ki hs_a 5 (by decide) (by decide)) (sv_ln hs_a 5 (by decide)) c50 ?_
      refine a_mem hM111 ?_
      refine a_aload_n (j := 0) hB e_S_copyFrom_112 rfl rfl ?_
      refine a_getR (r := a + 1 + 6) (k := 6) hB e_S_copyFrom_113 fl_S_31 (sv_lt hs_a hF (by decide)) (sv_kd hs_a) (sv_t hs_a 6 (by decide)) (hF.1 _ _) ?_
      refine a_iload_n (j := 2) hB e_S_copyFrom_116 rfl rfl ?_
      refine a_aload_n (j := 1) hB e_S_copyFrom_117 rfl rfl ?_
      refine a_getR (r := b + 1 + 6) (k := 6) hB e_S_copyFrom_118 fl_S_31 (sv_lt hs_b hF (by decide)) (sv_kd hs_b) (sv_t hs_b 6 (by decide)) (hF.1 _ _) ?_
      refine a_iload_n (j := 2) hB e_S_copyFrom_121 rfl rfl ?_
      refine a_iald' hB e_S_copyFrom_122 (sv_la hs_b hF (by decide) 6 (by decide)) (sv_ki hs_b 6 (by decide) (by decide)) (sv_ln hs_b 6 (by decide)) c50 ?_
      obtain ⟨M123, hM123, h⟩ := bm_i h
      refine a_iast' hB e_S_copyFrom_123 (sv_la hs_a hF (by decide) 6 (by decide)) (sv_ki hs_a 6 (by decide) (by decide)) (sv_ln hs_a 6 (by decide)) c50 ?_
      refine a_mem hM123 ?_
      refine a_aload_n (j := 0) hB e_S_copyFrom_124 rfl rfl ?_
      refine a_getR (r := a + 1 + 7) (k := 7) hB e_S_copyFrom_125 fl_S_34 (sv_lt hs_a hF (by decide)) (sv_kd hs_a) (sv_t hs_a 7 (by decide)) (hF.1 _ _) ?_
      refine a_iload_n (j := 2) hB e_S_copyFrom_128 rfl rfl ?_
      refine a_aload_n (j := 1) hB e_S_copyFrom_129 rfl rfl ?_
      refine a_getR (r := b + 1 + 7) (k := 7) hB e_S_copyFrom_130 fl_S_34 (sv_lt hs_b hF (by decide)) (sv_kd hs_b) (sv_t hs_b 7 (by decide)) (hF.1 _ _) ?_
      refine a_iload_n (j := 2) hB e_S_copyFrom_133 rfl rfl ?_
      refine a_iald' hB e_S_copyFrom_134 (sv_la hs_b hF (by decide) 7 (by decide)) (sv_ki hs_b 7 (by decide) (by decide)) (sv_ln hs_b 7 (by decide)) c50 ?_
      obtain ⟨M135, hM135, h⟩ := bm_i h
      refine a_iast' hB e_S_copyFrom_135 (sv_la hs_a hF (by decide) 7 (by decide)) (sv_ki hs_a 7 (by decide) (by decide)) (sv_ln hs_a 7 (by decide)) c50 ?_
      refine a_mem hM135 ?_
      refine a_aload_n (j := 0) hB e_S_copyFrom_136 rfl rfl ?_
      refine a_getR (r := a + 1 + 8) (k := 8) hB e_S_copyFrom_137 fl_S_37 (sv_lt hs_a hF (by decide)) (sv_kd hs_a) (sv_t hs_a 8 (by decide)) (hF.1 _ _) ?_
      refine a_iload_n (j := 2) hB e_S_copyFrom_140 rfl rfl ?_
      refine a_aload_n (j := 1) hB e_S_copyFrom_141 rfl rfl ?_
      refine a_getR (r := b + 1 + 8) (k := 8) hB e_S_copyFrom_142 fl_S_37 (sv_lt hs_b hF (by decide)) (sv_kd hs_b) (sv_t hs_b 8 (by decide)) (hF.1 _ _) ?_
      refine a_iload_n (j := 2) hB e_S_copyFrom_145 rfl rfl ?_
      refine a_iald' hB e_S_copyFrom_146 (sv_la hs_b hF (by decide) 8 (by decide)) (sv_ki hs_b 8 (by decide) (by decide)) (sv_ln hs_b 8 (by decide)) c50 ?_
      obtain ⟨M147, hM147, h⟩ := bm_i h
      refine a_iast' hB e_S_copyFrom_147 (sv_la hs_a hF (by decide) 8 (by decide)) (sv_ki hs_a 8 (by decide) (by decide)) (sv_ln hs_a 8 (by decide)) c50 ?_
      refine a_mem hM147 ?_
      refine a_iinc (j := 2) (v := l2 + 1) (ls' := [(2, .int (l2 + 1)), (0, .ref a), (1, .ref b)]) hB e_S_copyFrom_148 rfl (inc_1 _) (Nat.le_of_ble_eq_true rfl) rfl ?_
      refine a_goto (tgt := 34) hB e_S_copyFrom_151 (by decide) ?_
      refine a_ls [1, 2, 0] (ls' := [(0, .ref a), (1, .ref b), (2, .int (l2 + 1))]) rfl ?_
      exact hr34 _ _ h
set_option maxRecDepth 100000 in
theorem t_S_copyFrom {G : Gt} {φ : Ph} {B : Bag} (hB : BF G I_S_copyFrom B) (hF : SF 134 φ) {a : Nat} {b : Nat} (hs_a : isSv a) (hs_b : isSv b)  {M9 : Mm}  {M : Mm} (h : f_S_copyFrom a b M = some M9) : AW G I_S_copyFrom B (QM G I_S_copyFrom B (.inl none) M9 φ) 0 0 0 [(0, .ref a), (1, .ref b)] [] M φ := by
  unfold f_S_copyFrom at h
  refine a_aload_n (j := 0) hB e_S_copyFrom_0 rfl rfl ?_
  refine a_aload_n (j := 1) hB e_S_copyFrom_1 rfl rfl ?_
  refine a_getI (k := 9) hB e_S_copyFrom_2 fl_S_44 (sv_lt hs_b hF (by decide)) (sv_kd hs_b) (sv_t0 hs_b 0 (by decide)) ?_
  obtain ⟨M5, hM5, h⟩ := bm_i h
  refine a_putI (k := 9) hB e_S_copyFrom_5 fw_S_44 (sv_lt hs_a hF (by decide)) (sv_kd hs_a) (sv_t0 hs_a 0 (by decide)) ?_
  refine a_mem hM5 ?_
  refine a_aload_n (j := 0) hB e_S_copyFrom_8 rfl rfl ?_
  refine a_aload_n (j := 1) hB e_S_copyFrom_9 rfl rfl ?_
  refine a_getI (k := 10) hB e_S_copyFrom_10 fl_S_51 (sv_lt hs_b hF (by decide)) (sv_kd hs_b) (sv_t0 hs_b 1 (by decide)) ?_
  obtain ⟨M13, hM13, h⟩ := bm_i h
  refine a_putI (k := 10) hB e_S_copyFrom_13 fw_S_51 (sv_lt hs_a hF (by decide)) (sv_kd hs_a) (sv_t0 hs_a 1 (by decide)) ?_
  refine a_mem hM13 ?_
  refine a_aload_n (j := 0) hB e_S_copyFrom_16 rfl rfl ?_
  refine a_aload_n (j := 1) hB e_S_copyFrom_17 rfl rfl ?_
  refine a_getI (k := 11) hB e_S_copyFrom_18 fl_S_40 (sv_lt hs_b hF (by decide)) (sv_kd hs_b) (sv_t0 hs_b 2 (by decide)) ?_
  obtain ⟨M21, hM21, h⟩ := bm_i h
  refine a_putI (k := 11) hB e_S_copyFrom_21 fw_S_40 (sv_lt hs_a hF (by decide)) (sv_kd hs_a) (sv_t0 hs_a 2 (by decide)) ?_
  refine a_mem hM21 ?_
  refine a_aload_n (j := 0) hB e_S_copyFrom_24 rfl rfl ?_
  refine a_aload_n (j := 1) hB e_S_copyFrom_25 rfl rfl ?_
  refine a_getI (k := 12) hB e_S_copyFrom_26 fl_S_47 (sv_lt hs_b hF (by decide)) (sv_kd hs_b) (sv_t0 hs_b 3 (by decide)) ?_
  obtain ⟨z29, h⟩ := chk_i h
  obtain ⟨M29, hM29, h⟩ := bm_i h
  refine a_putZ (k := 12) hB e_S_copyFrom_29 fw_S_47 (sv_lt hs_a hF (by decide)) (sv_kd hs_a) (sv_t0 hs_a 3 (by decide)) z29 ?_
  refine a_mem hM29 ?_
  refine a_iconst (v := 0) hB e_S_copyFrom_32 ic_0 ?_
  refine a_istore_n (ls' := [(2, .int (0 : Int32)), (0, .ref a), (1, .ref b)]) hB e_S_copyFrom_33 rfl (Nat.le_of_ble_eq_true rfl) rfl ?_
  refine a_ls [1, 2, 0] (ls' := [(0, .ref a), (1, .ref b), (2, .int (0 : Int32))]) rfl ?_
  exact t_S_copyFrom_34 hB hF hs_a hs_b _ _ _ h
set_option maxRecDepth 100000 in
theorem c_S_copyFrom {G : Gt} (hG : GOK G) {φ : Ph} (hF : SF 134 φ) {a : Nat} {b : Nat} (hs_a : isSv a) (hs_b : isSv b) {M : Mm}  {M9 : Mm} (h : f_S_copyFrom a b M = some M9) : CT G I_S_copyFrom [.ref a, .ref b] M φ (.inl none) M9 φ :=
  ct_of hG (by decide) (Nat.le_of_ble_eq_true rfl) (fun B hB => t_S_copyFrom hB hF hs_a hs_b h)
set_option maxRecDepth 100000 in
theorem t_S_hasBog_2 {G : Gt} {φ : Ph} {B : Bag} (hB : BF G I_S_hasBog B) (hF : SF 134 φ) {a : Nat} (hs_a : isSv a) {M : Mm} {o : Int32} : ∀ (n : Nat) (l1 : Int32), f_S_hasBog_2 a M n l1 = some o → AW G I_S_hasBog B (QM G I_S_hasBog B (.inl (some (.int o))) M φ) 0 0 2 [(0, .ref a), (1, .int l1)] [] M φ := by
  intro n
  induction n with
  | zero => intro l1 h; cases h
  | succ n hr2 =>
    intro l1 h
    rw [f_S_hasBog_2] at h
    refine a_iload_n (j := 1) hB e_S_hasBog_2 rfl rfl ?_
    refine a_aload_n (j := 0) hB e_S_hasBog_3 rfl rfl ?_
    refine a_getI (k := 9) hB e_S_hasBog_4 fl_S_44 (sv_lt hs_a hF (by decide)) (sv_kd hs_a) (sv_t0 hs_a 0 (by decide)) ?_
    refine a_icmp_ge (tgt := 27) hB e_S_hasBog_7 (by decide) (fun c => ?_) (fun c => ?_)
    · have h := ip c h
      refine a_iconst (v := 0) hB e_S_hasBog_27 ic_0 ?_
      cases h
      exact a_zret hB rfl (Or.inl rfl) e_S_hasBog_28 (by decide) (by decide)
    · have h := iq c h
      refine a_aload_n (j := 0) hB e_S_hasBog_10 rfl rfl ?_
      refine a_getR (r := a + 1 + 2) (k := 2) hB e_S_hasBog_11 fl_S_18 (sv_lt hs_a hF (by decide)) (sv_kd hs_a) (sv_t hs_a 2 (by decide)) (hF.1 _ _) ?_
      refine a_iload_n (j := 1) hB e_S_hasBog_14 rfl rfl ?_
      obtain ⟨c15, h⟩ := chk_i h
      refine a_zald' hB e_S_hasBog_15 (sv_la hs_a hF (by decide) 2 (by decide)) (sv_kz hs_a) (sv_ln hs_a 2 (by decide)) c15 ?_
      refine a_if_eq (tgt := 21) hB e_S_hasBog_16 (by decide) (fun c => ?_) (fun c => ?_)
      · have h := ip c h
        refine a_iinc (j := 1) (v := l1 + 1) (ls' := [(1, .int (l1 + 1)), (0, .ref a)]) hB e_S_hasBog_21 rfl (inc_1 _) (Nat.le_of_ble_eq_true rfl) rfl ?_
        refine a_goto (tgt := 2) hB e_S_hasBog_24 (by decide) ?_
        refine a_ls [1, 0] (ls' := [(0, .ref a), (1, .int (l1 + 1))]) rfl ?_
        exact hr2 _ h
      · have h := iq c h
        refine a_iconst (v := 1) hB e_S_hasBog_19 ic_1 ?_
        cases h
        exact a_zret hB rfl (Or.inr rfl) e_S_hasBog_20 (by decide) (by decide)
set_option maxRecDepth 100000 in
theorem t_S_hasBog {G : Gt} {φ : Ph} {B : Bag} (hB : BF G I_S_hasBog B) (hF : SF 134 φ) {a : Nat} (hs_a : isSv a) {M : Mm} {o : Int32}   (h : f_S_hasBog a M = some o) : AW G I_S_hasBog B (QM G I_S_hasBog B (.inl (some (.int o))) M φ) 0 0 0 [(0, .ref a)] [] M φ := by
  unfold f_S_hasBog at h
  refine a_iconst (v := 0) hB e_S_hasBog_0 ic_0 ?_
  refine a_istore_n (ls' := [(1, .int (0 : Int32)), (0, .ref a)]) hB e_S_hasBog_1 rfl (Nat.le_of_ble_eq_true rfl) rfl ?_
  refine a_ls [1, 0] (ls' := [(0, .ref a), (1, .int (0 : Int32))]) rfl ?_
  exact t_S_hasBog_2 hB hF hs_a _ _ h
set_option maxRecDepth 100000 in
theorem c_S_hasBog {G : Gt} (hG : GOK G) {φ : Ph} (hF : SF 134 φ) {a : Nat} (hs_a : isSv a) {M : Mm}  {o : Int32} (h : f_S_hasBog a M = some o) : CT G I_S_hasBog [.ref a] M φ (.inl (some (.int o))) M φ :=
  ct_of hG (by decide) (Nat.le_of_ble_eq_true rfl) (fun B hB => t_S_hasBog hB hF hs_a h)
set_option maxRecDepth 100000 in
theorem t_S_readUnits {G : Gt} {φ : Ph} {B : Bag} (hB : BF G I_S_readUnits B) (hF : SF 134 φ) {a : Nat} (hs_a : isSv a) {M : Mm} {o : Int32} {l1 : Int32}  (h : f_S_readUnits a M l1 = some o) : AW G I_S_readUnits B (QM G I_S_readUnits B (.inl (some (.int o))) M φ) 0 0 0 [(0, .ref a), (1, .int l1)] [] M φ := by
  unfold f_S_readUnits at h
  refine a_aload_n (j := 0) hB e_S_readUnits_0 rfl rfl ?_
  refine a_getR (r := a + 1 + 2) (k := 2) hB e_S_readUnits_1 fl_S_18 (sv_lt hs_a hF (by decide)) (sv_kd hs_a) (sv_t hs_a 2 (by decide)) (hF.1 _ _) ?_
  refine a_iload_n (j := 1) hB e_S_readUnits_4 rfl rfl ?_
  obtain ⟨c5, h⟩ := chk_i h
  refine a_zald' hB e_S_readUnits_5 (sv_la hs_a hF (by decide) 2 (by decide)) (sv_kz hs_a) (sv_ln hs_a 2 (by decide)) c5 ?_
  refine a_if_eq (tgt := 21) hB e_S_readUnits_6 (by decide) (fun c => ?_) (fun c => ?_)
  · have h := ip c h
    refine a_aload_n (j := 0) hB e_S_readUnits_21 rfl rfl ?_
    refine a_getR (r := a + 1 + 4) (k := 4) hB e_S_readUnits_22 fl_S_25 (sv_lt hs_a hF (by decide)) (sv_kd hs_a) (sv_t hs_a 4 (by decide)) (hF.1 _ _) ?_
    refine a_iload_n (j := 1) hB e_S_readUnits_25 rfl rfl ?_
    refine a_iald' hB e_S_readUnits_26 (sv_la hs_a hF (by decide) 4 (by decide)) (sv_ki hs_a 4 (by decide) (by decide)) (sv_ln hs_a 4 (by decide)) c5 ?_
    refine a_aload_n (j := 0) hB e_S_readUnits_27 rfl rfl ?_
    refine a_getR (r := a + 1 + 6) (k := 6) hB e_S_readUnits_28 fl_S_31 (sv_lt hs_a hF (by decide)) (sv_kd hs_a) (sv_t hs_a 6 (by decide)) (hF.1 _ _) ?_
    refine a_iload_n (j := 1) hB e_S_readUnits_31 rfl rfl ?_
    refine a_iald' hB e_S_readUnits_32 (sv_la hs_a hF (by decide) 6 (by decide)) (sv_ki hs_a 6 (by decide) (by decide)) (sv_ln hs_a 6 (by decide)) c5 ?_
    refine a_iadd hB e_S_readUnits_33 ?_
    refine a_sipush (v := 10000) hB e_S_readUnits_34 sp_10000 ?_
    refine a_imul hB e_S_readUnits_37 ?_
    refine a_aload_n (j := 0) hB e_S_readUnits_38 rfl rfl ?_
    refine a_getR (r := a + 1 + 5) (k := 5) hB e_S_readUnits_39 fl_S_28 (sv_lt hs_a hF (by decide)) (sv_kd hs_a) (sv_t hs_a 5 (by decide)) (hF.1 _ _) ?_
    refine a_iload_n (j := 1) hB e_S_readUnits_42 rfl rfl ?_
    refine a_iald' hB e_S_readUnits_43 (sv_la hs_a hF (by decide) 5 (by decide)) (sv_ki hs_a 5 (by decide) (by decide)) (sv_ln hs_a 5 (by decide)) c5 ?_
    refine a_bipush (v := 100) hB e_S_readUnits_44 bp_100 ?_
    refine a_imul hB e_S_readUnits_46 ?_
    refine a_iadd hB e_S_readUnits_47 ?_
    cases h
    exact a_iret hB rfl e_S_readUnits_48 (by decide) (by decide)
  · have h := iq c h
    refine a_aload_n (j := 0) hB e_S_readUnits_9 rfl rfl ?_
    refine a_getR (r := a + 1 + 3) (k := 3) hB e_S_readUnits_10 fl_S_22 (sv_lt hs_a hF (by decide)) (sv_kd hs_a) (sv_t hs_a 3 (by decide)) (hF.1 _ _) ?_
    refine a_iload_n (j := 1) hB e_S_readUnits_13 rfl rfl ?_
    refine a_iald' hB e_S_readUnits_14 (sv_la hs_a hF (by decide) 3 (by decide)) (sv_ki hs_a 3 (by decide) (by decide)) (sv_ln hs_a 3 (by decide)) c5 ?_
    refine a_aload_n (j := 0) hB e_S_readUnits_15 rfl rfl ?_
    refine a_getI (k := 11) hB e_S_readUnits_16 fl_S_40 (sv_lt hs_a hF (by decide)) (sv_kd hs_a) (sv_t0 hs_a 2 (by decide)) ?_
    refine a_imul hB e_S_readUnits_19 ?_
    cases h
    exact a_iret hB rfl e_S_readUnits_20 (by decide) (by decide)
set_option maxRecDepth 100000 in
theorem c_S_readUnits {G : Gt} (hG : GOK G) {φ : Ph} (hF : SF 134 φ) {a : Nat} (hs_a : isSv a) {M : Mm} {l1 : Int32} {o : Int32} (h : f_S_readUnits a M l1 = some o) : CT G I_S_readUnits [.ref a, .int l1] M φ (.inl (some (.int o))) M φ :=
  ct_of hG (by decide) (Nat.le_of_ble_eq_true rfl) (fun B hB => t_S_readUnits hB hF hs_a h)
set_option maxRecDepth 100000 in
theorem t_S_slopeUnits_53 {G : Gt} {φ : Ph} {B : Bag} (hB : BF G I_S_slopeUnits B) (hF : SF 134 φ) {a : Nat} (hs_a : isSv a) {M : Mm} {o : Int32} {l2 : Int64}  (h : f_S_slopeUnits_53 a M l2 = some o) : AW G I_S_slopeUnits B (QM G I_S_slopeUnits B (.inl (some (.int o))) M φ) 0 0 53 [(2, .long l2)] [] M φ := by
  unfold f_S_slopeUnits_53 at h
  refine a_lload_n (j := 0) hB e_S_slopeUnits_53 rfl rfl ?_
  refine a_l2i hB e_S_slopeUnits_54 ?_
  cases h
  exact a_iret hB rfl e_S_slopeUnits_55 (by decide) (by decide)
set_option maxRecDepth 100000 in
theorem t_S_slopeUnits {G : Gt} {φ : Ph} {B : Bag} (hB : BF G I_S_slopeUnits B) (hF : SF 134 φ) {a : Nat} (hs_a : isSv a) {M : Mm} {o : Int32} {l1 : Int32}  (h : f_S_slopeUnits a M l1 = some o) : AW G I_S_slopeUnits B (QM G I_S_slopeUnits B (.inl (some (.int o))) M φ) 0 0 0 [(0, .ref a), (1, .int l1)] [] M φ := by
  unfold f_S_slopeUnits at h
  refine a_aload_n (j := 0) hB e_S_slopeUnits_0 rfl rfl ?_
  refine a_iload_n (j := 1) hB e_S_slopeUnits_1 rfl rfl ?_
  obtain ⟨r2, hr2, h⟩ := bn_i h
  refine a_ret (v := (some (.int r2))) (M1 := M) (φ1 := φ) (st1 := [.int r2]) (j1 := 0) (j2 := 0) (ar_V (As := [.int l1]) (rest := []) hB (c_S_readUnits (bf_G hB) hF hs_a hr2) ml_S_58 md_S_readUnits rc_S_readUnits (sv_lt hs_a hF (by decide)) (sv_kd hs_a) rfl rfl (Nat.le_of_ble_eq_true rfl) rm_S_slopeUnits_S_readUnits e_S_slopeUnits_2) rfl rfl rfl ?_
  refine a_i2l hB e_S_slopeUnits_5 ?_
  refine a_lstore_n (ls' := [(2, .long r2.toInt64), (0, .ref a), (1, .int l1)]) hB e_S_slopeUnits_6 rfl (Nat.le_of_ble_eq_true rfl) rfl ?_
  refine a_aload_n (j := 1) hB e_S_slopeUnits_7 rfl rfl ?_
  refine a_getR (r := a + 1 + 2) (k := 2) hB e_S_slopeUnits_8 fl_S_18 (sv_lt hs_a hF (by decide)) (sv_kd hs_a) (sv_t hs_a 2 (by decide)) (hF.1 _ _) ?_
  refine a_iload_n (j := 2) hB e_S_slopeUnits_11 rfl rfl ?_
  obtain ⟨c12, h⟩ := chk_i h
  refine a_zald' hB e_S_slopeUnits_12 (sv_la hs_a hF (by decide) 2 (by decide)) (sv_kz hs_a) (sv_ln hs_a 2 (by decide)) c12 ?_
  refine a_if_ne (tgt := 53) hB e_S_slopeUnits_13 (by decide) (fun c => ?_) (fun c => ?_)
  · have h := iq c h
    refine a_ls [0] (ls' := [(2, .long r2.toInt64)]) rfl ?_
    exact t_S_slopeUnits_53 hB hF hs_a h
  · have h := ip c h
    refine a_lload_n (j := 0) hB e_S_slopeUnits_16 rfl rfl ?_
    refine a_lload_n (j := 0) hB e_S_slopeUnits_17 rfl rfl ?_
    refine a_aload_n (j := 1) hB e_S_slopeUnits_18 rfl rfl ?_
    refine a_getI (k := 10) hB e_S_slopeUnits_19 fl_S_51 (sv_lt hs_a hF (by decide)) (sv_kd hs_a) (sv_t0 hs_a 1 (by decide)) ?_
    refine a_i2l hB e_S_slopeUnits_22 ?_
    refine a_lmul hB e_S_slopeUnits_23 ?_
    refine a_ldc2 (v := 10000) hB cj_S_62 e_S_slopeUnits_24 ?_
    refine a_ldiv hB e_S_slopeUnits_27 (by decide) ?_
    refine a_ladd hB e_S_slopeUnits_28 ?_
    refine a_lstore_n (ls' := [(2, .long (r2.toInt64 + ((r2.toInt64 * ((M a 10).toInt64)) / (10000 : Int64)))), (0, .ref a), (1, .int l1)]) hB e_S_slopeUnits_29 rfl (Nat.le_of_ble_eq_true rfl) rfl ?_
    refine a_lload_n (j := 0) hB e_S_slopeUnits_30 rfl rfl ?_
    refine a_lload_n (j := 0) hB e_S_slopeUnits_31 rfl rfl ?_
    refine a_aload_n (j := 1) hB e_S_slopeUnits_32 rfl rfl ?_
    refine a_getR (r := a + 1 + 8) (k := 8) hB e_S_slopeUnits_33 fl_S_37 (sv_lt hs_a hF (by decide)) (sv_kd hs_a) (sv_t hs_a 8 (by decide)) (hF.1 _ _) ?_
    refine a_iload_n (j := 2) hB e_S_slopeUnits_36 rfl rfl ?_
    refine a_iald' hB e_S_slopeUnits_37 (sv_la hs_a hF (by decide) 8 (by decide)) (sv_ki hs_a 8 (by decide) (by decide)) (sv_ln hs_a 8 (by decide)) c12 ?_
    refine a_bipush (v := 15) hB e_S_slopeUnits_38 bp_15 ?_
    refine a_isub hB e_S_slopeUnits_40 ?_
    refine a_i2l hB e_S_slopeUnits_41 ?_
    refine a_lmul hB e_S_slopeUnits_42 ?_
    refine a_ldc2 (v := 12) hB cj_S_64 e_S_slopeUnits_43 ?_
    refine a_lmul hB e_S_slopeUnits_46 ?_
    refine a_ldc2 (v := 1000000) hB cj_S_66 e_S_slopeUnits_47 ?_
    refine a_ldiv hB e_S_slopeUnits_50 (by decide) ?_
    refine a_ladd hB e_S_slopeUnits_51 ?_
    refine a_lstore_n (ls' := [(2, .long ((r2.toInt64 + ((r2.toInt64 * ((M a 10).toInt64)) / (10000 : Int64))) + ((((r2.toInt64 + ((r2.toInt64 * ((M a 10).toInt64)) / (10000 : Int64))) * (((M (a + 1 + 8) (ix l1)) - (15 : Int32)).toInt64)) * (12 : Int64)) / (1000000 : Int64)))), (0, .ref a), (1, .int l1)]) hB e_S_slopeUnits_52 rfl (Nat.le_of_ble_eq_true rfl) rfl ?_
    refine a_ls [0] (ls' := [(2, .long ((r2.toInt64 + ((r2.toInt64 * ((M a 10).toInt64)) / (10000 : Int64))) + ((((r2.toInt64 + ((r2.toInt64 * ((M a 10).toInt64)) / (10000 : Int64))) * (((M (a + 1 + 8) (ix l1)) - (15 : Int32)).toInt64)) * (12 : Int64)) / (1000000 : Int64))))]) rfl ?_
    exact t_S_slopeUnits_53 hB hF hs_a h
set_option maxRecDepth 100000 in
theorem c_S_slopeUnits {G : Gt} (hG : GOK G) {φ : Ph} (hF : SF 134 φ) {a : Nat} (hs_a : isSv a) {M : Mm} {l1 : Int32} {o : Int32} (h : f_S_slopeUnits a M l1 = some o) : CT G I_S_slopeUnits [.ref a, .int l1] M φ (.inl (some (.int o))) M φ :=
  ct_of hG (by decide) (Nat.le_of_ble_eq_true rfl) (fun B hB => t_S_slopeUnits hB hF hs_a h)
set_option maxRecDepth 100000 in
theorem t_C_root_30 {G : Gt} {φ : Ph} {B : Bag} (hB : BF G I_C_root B) (hF : SF 134 φ)   {M : Mm} {o : Int32} {r6 : Int64 → Int32 → Int32 → Option Int32} (hr6 : ∀ (l0 : Int64) (l2 : Int32) (l3 : Int32), r6 l0 l2 l3 = some o → AW G I_C_root B (QM G I_C_root B (.inl (some (.int o))) M φ) 0 0 6 [(0, .long l0), (2, .int l2), (3, .int l3)] [] M φ) {l0 : Int64} {l2 : Int32} {l3 : Int32}  (h : f_C_root_30 r6 l0 l2 l3 = some o) : AW G I_C_root B (QM G I_C_root B (.inl (some (.int o))) M φ) 0 0 30 [(0, .long l0), (2, .int l2), (3, .int l3)] [] M φ := by
  unfold f_C_root_30 at h
  refine a_iload_n (j := 2) hB e_C_root_30 rfl rfl ?_
  refine a_iconst (v := 1) hB e_C_root_31 ic_1 ?_
  refine a_ishr hB e_C_root_32 ?_
  refine a_istore_n (ls' := [(3, .int (l3 >>> ((1 : Int32) &&& 31))), (0, .long l0), (2, .int l2)]) hB e_C_root_33 rfl (Nat.le_of_ble_eq_true rfl) rfl ?_
  refine a_goto (tgt := 6) hB e_C_root_34 (by decide) ?_
  refine a_ls [1, 2, 0] (ls' := [(0, .long l0), (2, .int l2), (3, .int (l3 >>> ((1 : Int32) &&& 31)))]) rfl ?_
  exact hr6 _ _ _ h
set_option maxRecDepth 100000 in
theorem t_C_root_6 {G : Gt} {φ : Ph} {B : Bag} (hB : BF G I_C_root B) (hF : SF 134 φ)   {M : Mm} {o : Int32} : ∀ (n : Nat) (l0 : Int64) (l2 : Int32) (l3 : Int32), f_C_root_6 n l0 l2 l3 = some o → AW G I_C_root B (QM G I_C_root B (.inl (some (.int o))) M φ) 0 0 6 [(0, .long l0), (2, .int l2), (3, .int l3)] [] M φ := by
  intro n
  induction n with
  | zero => intro l0 l2 l3 h; cases h
  | succ n hr6 =>
    intro l0 l2 l3 h
    rw [f_C_root_6] at h
    refine a_iload_n (j := 2) hB e_C_root_6 rfl rfl ?_
    refine a_if_le (tgt := 37) hB e_C_root_7 (by decide) (fun c => ?_) (fun c => ?_)
    · have h := ip c h
      refine a_iload_n (j := 1) hB e_C_root_37 rfl rfl ?_
      cases h
      exact a_iret hB rfl e_C_root_38 (by decide) (by decide)
    · have h := iq c h
      refine a_iload_n (j := 1) hB e_C_root_10 rfl rfl ?_
      refine a_iload_n (j := 2) hB e_C_root_11 rfl rfl ?_
      refine a_ior hB e_C_root_12 ?_
      refine a_i2l hB e_C_root_13 ?_
      refine a_lstore (ls' := [(4, .long ((l2 ||| l3).toInt64)), (0, .long l0), (2, .int l2), (3, .int l3)]) hB e_C_root_14 (Nat.le_of_ble_eq_true rfl) rfl ?_
      refine a_lload (j := 0) hB e_C_root_16 rfl ?_
      refine a_lload (j := 0) hB e_C_root_18 rfl ?_
      refine a_lmul hB e_C_root_20 ?_
      refine a_lload_n (j := 1) hB e_C_root_21 rfl rfl ?_
      refine a_lcmp hB e_C_root_22 ?_
      refine a_if_gt (tgt := 30) hB e_C_root_23 (by decide) (fun c => ?_) (fun c => ?_)
      · have h := ip c h
        refine a_ls [1, 2, 3] (ls' := [(0, .long l0), (2, .int l2), (3, .int l3)]) rfl ?_
        exact t_C_root_30 hB hF hr6 h
      · have h := iq c h
        refine a_iload_n (j := 2) hB e_C_root_26 rfl rfl ?_
        refine a_iload_n (j := 3) hB e_C_root_27 rfl rfl ?_
        refine a_ior hB e_C_root_28 ?_
        refine a_istore_n (ls' := [(2, .int (l2 ||| l3)), (4, .long ((l2 ||| l3).toInt64)), (0, .long l0), (3, .int l3)]) hB e_C_root_29 rfl (Nat.le_of_ble_eq_true rfl) rfl ?_
        refine a_ls [2, 0, 3] (ls' := [(0, .long l0), (2, .int (l2 ||| l3)), (3, .int l3)]) rfl ?_
        exact t_C_root_30 hB hF hr6 h
set_option maxRecDepth 100000 in
theorem t_C_root {G : Gt} {φ : Ph} {B : Bag} (hB : BF G I_C_root B) (hF : SF 134 φ)   {M : Mm} {o : Int32} {l0 : Int64}  (h : f_C_root l0 = some o) : AW G I_C_root B (QM G I_C_root B (.inl (some (.int o))) M φ) 0 0 0 [(0, .long l0)] [] M φ := by
  unfold f_C_root at h
  refine a_iconst (v := 0) hB e_C_root_0 ic_0 ?_
  refine a_istore_n (ls' := [(2, .int (0 : Int32)), (0, .long l0)]) hB e_C_root_1 rfl (Nat.le_of_ble_eq_true rfl) rfl ?_
  refine a_ldcw (v := 1073741824) hB cn_C_357 e_C_root_2 ?_
  refine a_istore_n (ls' := [(3, .int (1073741824 : Int32)), (2, .int (0 : Int32)), (0, .long l0)]) hB e_C_root_5 rfl (Nat.le_of_ble_eq_true rfl) rfl ?_
  refine a_ls [2, 1, 0] (ls' := [(0, .long l0), (2, .int (0 : Int32)), (3, .int (1073741824 : Int32))]) rfl ?_
  exact t_C_root_6 hB hF _ _ _ _ h
set_option maxRecDepth 100000 in
theorem c_C_root {G : Gt} (hG : GOK G) {φ : Ph} (hF : SF 134 φ)   {M : Mm} {l0 : Int64} {o : Int32} (h : f_C_root l0 = some o) : CT G I_C_root [.long l0] M φ (.inl (some (.int o))) M φ :=
  ct_of hG (by decide) (Nat.le_of_ble_eq_true rfl) (fun B hB => t_C_root hB hF  h)
set_option maxRecDepth 100000 in
theorem t_S_horizontalUnits_51 {G : Gt} {φ : Ph} {B : Bag} (hB : BF G I_S_horizontalUnits B) (hF : SF 134 φ) {a : Nat} (hs_a : isSv a) {M : Mm} {o : Int32} {t0 : Int32}  (h : f_S_horizontalUnits_51 a M t0 = some o) : AW G I_S_horizontalUnits B (QM G I_S_horizontalUnits B (.inl (some (.int o))) M φ) 0 0 51 [] [.int t0] M φ := by
  unfold f_S_horizontalUnits_51 at h
  cases h
  exact a_iret hB rfl e_S_horizontalUnits_51 (by decide) (by decide)
set_option maxRecDepth 100000 in
theorem t_S_horizontalUnits {G : Gt} {φ : Ph} {B : Bag} (hB : BF G I_S_horizontalUnits B) (hF : SF 134 φ) {a : Nat} (hs_a : isSv a) {M : Mm} {o : Int32} {l1 : Int32}  (h : f_S_horizontalUnits a M l1 = some o) : AW G I_S_horizontalUnits B (QM G I_S_horizontalUnits B (.inl (some (.int o))) M φ) 0 0 0 [(0, .ref a), (1, .int l1)] [] M φ := by
  unfold f_S_horizontalUnits at h
  refine a_aload_n (j := 0) hB e_S_horizontalUnits_0 rfl rfl ?_
  refine a_iload_n (j := 1) hB e_S_horizontalUnits_1 rfl rfl ?_
  obtain ⟨r2, hr2, h⟩ := bn_i h
  refine a_ret (v := (some (.int r2))) (M1 := M) (φ1 := φ) (st1 := [.int r2]) (j1 := 0) (j2 := 0) (ar_V (As := [.int l1]) (rest := []) hB (c_S_slopeUnits (bf_G hB) hF hs_a hr2) ml_S_68 md_S_slopeUnits rc_S_slopeUnits (sv_lt hs_a hF (by decide)) (sv_kd hs_a) rfl rfl (Nat.le_of_ble_eq_true rfl) rm_S_horizontalUnits_S_slopeUnits e_S_horizontalUnits_2) rfl rfl rfl ?_
  refine a_istore_n (ls' := [(2, .int r2), (0, .ref a), (1, .int l1)]) hB e_S_horizontalUnits_5 rfl (Nat.le_of_ble_eq_true rfl) rfl ?_
  refine a_aload_n (j := 1) hB e_S_horizontalUnits_6 rfl rfl ?_
  refine a_getR (r := a + 1 + 7) (k := 7) hB e_S_horizontalUnits_7 fl_S_34 (sv_lt hs_a hF (by decide)) (sv_kd hs_a) (sv_t hs_a 7 (by decide)) (hF.1 _ _) ?_
  refine a_iload_n (j := 2) hB e_S_horizontalUnits_10 rfl rfl ?_
  obtain ⟨c11, h⟩ := chk_i h
  refine a_iald' hB e_S_horizontalUnits_11 (sv_la hs_a hF (by decide) 7 (by decide)) (sv_ki hs_a 7 (by decide) (by decide)) (sv_ln hs_a 7 (by decide)) c11 ?_
  refine a_if_ne (tgt := 17) hB e_S_horizontalUnits_12 (by decide) (fun c => ?_) (fun c => ?_)
  · have h := iq c h
    refine a_aload_n (j := 1) hB e_S_horizontalUnits_17 rfl rfl ?_
    refine a_getR (r := a + 1 + 7) (k := 7) hB e_S_horizontalUnits_18 fl_S_34 (sv_lt hs_a hF (by decide)) (sv_kd hs_a) (sv_t hs_a 7 (by decide)) (hF.1 _ _) ?_
    refine a_iload_n (j := 2) hB e_S_horizontalUnits_21 rfl rfl ?_
    refine a_iald' hB e_S_horizontalUnits_22 (sv_la hs_a hF (by decide) 7 (by decide)) (sv_ki hs_a 7 (by decide) (by decide)) (sv_ln hs_a 7 (by decide)) c11 ?_
    refine a_bipush (v := 100) hB e_S_horizontalUnits_23 bp_100 ?_
    refine a_imul hB e_S_horizontalUnits_25 ?_
    refine a_i2l hB e_S_horizontalUnits_26 ?_
    refine a_lstore_n (ls' := [(3, .long (((M (a + 1 + 7) (ix l1)) * (100 : Int32)).toInt64)), (2, .int r2), (0, .ref a), (1, .int l1)]) hB e_S_horizontalUnits_27 rfl (Nat.le_of_ble_eq_true rfl) rfl ?_
    refine a_lload_n (j := 0) hB e_S_horizontalUnits_28 rfl rfl ?_
    refine a_iload_n (j := 1) hB e_S_horizontalUnits_29 rfl rfl ?_
    refine a_i2l hB e_S_horizontalUnits_30 ?_
    refine a_lcmp hB e_S_horizontalUnits_31 ?_
    refine a_if_le (tgt := 39) hB e_S_horizontalUnits_32 (by decide) (fun c => ?_) (fun c => ?_)
    · have h := ip c h
      refine a_iload_n (j := 1) hB e_S_horizontalUnits_39 rfl rfl ?_
      refine a_i2l hB e_S_horizontalUnits_40 ?_
      refine a_iload_n (j := 1) hB e_S_horizontalUnits_41 rfl rfl ?_
      refine a_i2l hB e_S_horizontalUnits_42 ?_
      refine a_lmul hB e_S_horizontalUnits_43 ?_
      refine a_lload_n (j := 0) hB e_S_horizontalUnits_44 rfl rfl ?_
      refine a_lload_n (j := 0) hB e_S_horizontalUnits_45 rfl rfl ?_
      refine a_lmul hB e_S_horizontalUnits_46 ?_
      refine a_lsub hB e_S_horizontalUnits_47 ?_
      obtain ⟨r48, hr48, h⟩ := bn_i h
      refine a_ret (v := (some (.int r48))) (M1 := M) (φ1 := φ) (st1 := [.int r48]) (j1 := 0) (j2 := 0) (ar_SN (As := [.long ((r2.toInt64 * r2.toInt64) - ((((M (a + 1 + 7) (ix l1)) * (100 : Int32)).toInt64) * (((M (a + 1 + 7) (ix l1)) * (100 : Int32)).toInt64)))]) (rest := []) hB (c_C_root (bf_G hB) hF hr48) mn_S_71 md_C_root rfl rfl (Nat.le_of_ble_eq_true rfl) rm_S_horizontalUnits_C_root e_S_horizontalUnits_48) rfl rfl rfl ?_
      refine a_ls [] (ls' := []) rfl ?_
      exact t_S_horizontalUnits_51 hB hF hs_a h
    · have h := iq c h
      refine a_iconst (v := 0) hB e_S_horizontalUnits_35 ic_0 ?_
      refine a_goto (tgt := 51) hB e_S_horizontalUnits_36 (by decide) ?_
      refine a_ls [] (ls' := []) rfl ?_
      exact t_S_horizontalUnits_51 hB hF hs_a h
  · have h := ip c h
    refine a_iload_n (j := 0) hB e_S_horizontalUnits_15 rfl rfl ?_
    cases h
    exact a_iret hB rfl e_S_horizontalUnits_16 (by decide) (by decide)
set_option maxRecDepth 100000 in
theorem c_S_horizontalUnits {G : Gt} (hG : GOK G) {φ : Ph} (hF : SF 134 φ) {a : Nat} (hs_a : isSv a) {M : Mm} {l1 : Int32} {o : Int32} (h : f_S_horizontalUnits a M l1 = some o) : CT G I_S_horizontalUnits [.ref a, .int l1] M φ (.inl (some (.int o))) M φ :=
  ct_of hG (by decide) (Nat.le_of_ble_eq_true rfl) (fun B hB => t_S_horizontalUnits hB hF hs_a h)
set_option maxRecDepth 100000 in
theorem t_Q_floorMod_18 {G : Gt} {φ : Ph} {B : Bag} (hB : BF G I_Q_floorMod B) (hF : SF 0 φ)   {M : Mm} {o : Int32} {l2 : Int32}  (h : f_Q_floorMod_18 l2 = some o) : AW G I_Q_floorMod B (QM G I_Q_floorMod B (.inl (some (.int o))) M φ) 0 0 18 [(2, .int l2)] [] M φ := by
  unfold f_Q_floorMod_18 at h
  refine a_iload_n (j := 0) hB e_Q_floorMod_18 rfl rfl ?_
  cases h
  exact a_iret hB rfl e_Q_floorMod_19 (by decide) (by decide)
set_option maxRecDepth 100000 in
theorem t_Q_floorMod {G : Gt} {φ : Ph} {B : Bag} (hB : BF G I_Q_floorMod B) (hF : SF 0 φ)   {M : Mm} {o : Int32} {l0 : Int32} {l1 : Int32}  (h : f_Q_floorMod l0 l1 = some o) : AW G I_Q_floorMod B (QM G I_Q_floorMod B (.inl (some (.int o))) M φ) 0 0 0 [(0, .int l0), (1, .int l1)] [] M φ := by
  unfold f_Q_floorMod at h
  refine a_iload_n (j := 0) hB e_Q_floorMod_0 rfl rfl ?_
  refine a_iload_n (j := 1) hB e_Q_floorMod_1 rfl rfl ?_
  obtain ⟨c2, h⟩ := chk_i h
  refine a_irem hB e_Q_floorMod_2 c2 ?_
  refine a_istore_n (ls' := [(2, .int (l0 - l0 / l1 * l1)), (0, .int l0), (1, .int l1)]) hB e_Q_floorMod_3 rfl (Nat.le_of_ble_eq_true rfl) rfl ?_
  refine a_iload_n (j := 1) hB e_Q_floorMod_4 rfl rfl ?_
  refine a_iload_n (j := 2) hB e_Q_floorMod_5 rfl rfl ?_
  refine a_ixor hB e_Q_floorMod_6 ?_
  refine a_if_ge (tgt := 18) hB e_Q_floorMod_7 (by decide) (fun c => ?_) (fun c => ?_)
  · have h := ip c h
    refine a_ls [0] (ls' := [(2, .int (l0 - l0 / l1 * l1))]) rfl ?_
    exact t_Q_floorMod_18 hB hF h
  · have h := iq c h
    refine a_iload_n (j := 0) hB e_Q_floorMod_10 rfl rfl ?_
    refine a_if_eq (tgt := 18) hB e_Q_floorMod_11 (by decide) (fun c => ?_) (fun c => ?_)
    · have h := ip c h
      refine a_ls [0] (ls' := [(2, .int (l0 - l0 / l1 * l1))]) rfl ?_
      exact t_Q_floorMod_18 hB hF h
    · have h := iq c h
      refine a_iload_n (j := 0) hB e_Q_floorMod_14 rfl rfl ?_
      refine a_iload_n (j := 2) hB e_Q_floorMod_15 rfl rfl ?_
      refine a_iadd hB e_Q_floorMod_16 ?_
      cases h
      exact a_iret hB rfl e_Q_floorMod_17 (by decide) (by decide)
set_option maxRecDepth 100000 in
theorem c_Q_floorMod {G : Gt} (hG : GOK G) {φ : Ph} (hF : SF 0 φ)   {M : Mm} {l0 : Int32} {l1 : Int32} {o : Int32} (h : f_Q_floorMod l0 l1 = some o) : CT G I_Q_floorMod [.int l0, .int l1] M φ (.inl (some (.int o))) M φ :=
  ct_ofF hG rfl (by decide +kernel) (Nat.le_of_ble_eq_true rfl) (fun B hB => t_Q_floorMod hB hF  h)
set_option maxRecDepth 100000 in
theorem t_C_cosine_24 {G : Gt} {φ : Ph} {B : Bag} (hB : BF G I_C_cosine B) (hF : SF 134 φ)   {M : Mm} {o : Int32} {t0 : Int32}  (h : f_C_cosine_24 t0 = some o) : AW G I_C_cosine B (QM G I_C_cosine B (.inl (some (.int o))) M φ) 0 0 24 [] [.int t0] M φ := by
  unfold f_C_cosine_24 at h
  refine a_istore_n (ls' := [(2, .int t0)]) hB e_C_cosine_24 rfl (Nat.le_of_ble_eq_true rfl) rfl ?_
  refine a_iload_n (j := 0) hB e_C_cosine_25 rfl rfl ?_
  refine a_bipush (v := 90) hB e_C_cosine_26 bp_90 ?_
  refine a_icmp_le (tgt := 45) hB e_C_cosine_28 (by decide) (fun c => ?_) (fun c => ?_)
  · have h := ip c h
    refine a_gsCos hB gs_C_348 e_C_cosine_45 ?_
    refine a_iload_n (j := 0) hB e_C_cosine_48 rfl rfl ?_
    refine a_bipush (v := 15) hB e_C_cosine_49 bp_15 ?_
    refine a_idiv hB e_C_cosine_51 (by decide) ?_
    obtain ⟨c52, h⟩ := chk_i h
    refine a_ialdC hB c52 e_C_cosine_52 ?_
    cases h
    exact a_iret hB rfl e_C_cosine_53 (by decide) (by decide)
  · have h := iq c h
    refine a_gsCos hB gs_C_348 e_C_cosine_31 ?_
    refine a_sipush (v := 180) hB e_C_cosine_34 sp_180 ?_
    refine a_iload_n (j := 0) hB e_C_cosine_37 rfl rfl ?_
    refine a_isub hB e_C_cosine_38 ?_
    refine a_bipush (v := 15) hB e_C_cosine_39 bp_15 ?_
    refine a_idiv hB e_C_cosine_41 (by decide) ?_
    obtain ⟨c42, h⟩ := chk_i h
    refine a_ialdC hB c42 e_C_cosine_42 ?_
    refine a_ineg hB e_C_cosine_43 ?_
    cases h
    exact a_iret hB rfl e_C_cosine_44 (by decide) (by decide)
set_option maxRecDepth 100000 in
theorem t_C_cosine {G : Gt} {φ : Ph} {B : Bag} (hB : BF G I_C_cosine B) (hF : SF 134 φ)   {M : Mm} {o : Int32} {l0 : Int32}  (h : f_C_cosine l0 = some o) : AW G I_C_cosine B (QM G I_C_cosine B (.inl (some (.int o))) M φ) 0 0 0 [(0, .int l0)] [] M φ := by
  unfold f_C_cosine at h
  refine a_iload_n (j := 0) hB e_C_cosine_0 rfl rfl ?_
  refine a_sipush (v := 360) hB e_C_cosine_1 sp_360 ?_
  obtain ⟨r4, hr4, h⟩ := bn_i h
  refine a_ret (v := (some (.int r4))) (M1 := M) (φ1 := φ) (st1 := [.int r4]) (j1 := 0) (j2 := 0) (ar_S (As := [.int l0, .int (360 : Int32)]) (rest := []) hB (c_Q_floorMod (bf_G hB) (sf_m hF (by decide)) hr4) ml_C_345 md_Q_floorMod rfl rfl (Nat.le_of_ble_eq_true rfl) rm_C_cosine_Q_floorMod e_C_cosine_4) rfl rfl rfl ?_
  refine a_istore_n (ls' := [(1, .int r4), (0, .int l0)]) hB e_C_cosine_7 rfl (Nat.le_of_ble_eq_true rfl) rfl ?_
  refine a_iload_n (j := 0) hB e_C_cosine_8 rfl rfl ?_
  refine a_sipush (v := 180) hB e_C_cosine_9 sp_180 ?_
  refine a_icmp_le (tgt := 23) hB e_C_cosine_12 (by decide) (fun c => ?_) (fun c => ?_)
  · have h := ip c h
    refine a_iload_n (j := 0) hB e_C_cosine_23 rfl rfl ?_
    refine a_ls [] (ls' := []) rfl ?_
    exact t_C_cosine_24 hB hF h
  · have h := iq c h
    refine a_sipush (v := 360) hB e_C_cosine_15 sp_360 ?_
    refine a_iload_n (j := 0) hB e_C_cosine_18 rfl rfl ?_
    refine a_isub hB e_C_cosine_19 ?_
    refine a_goto (tgt := 24) hB e_C_cosine_20 (by decide) ?_
    refine a_ls [] (ls' := []) rfl ?_
    exact t_C_cosine_24 hB hF h
set_option maxRecDepth 100000 in
theorem c_C_cosine {G : Gt} (hG : GOK G) {φ : Ph} (hF : SF 134 φ)   {M : Mm} {l0 : Int32} {o : Int32} (h : f_C_cosine l0 = some o) : CT G I_C_cosine [.int l0] M φ (.inl (some (.int o))) M φ :=
  ct_of hG (by decide) (Nat.le_of_ble_eq_true rfl) (fun B hB => t_C_cosine hB hF  h)
set_option maxRecDepth 100000 in
theorem t_C_sine {G : Gt} {φ : Ph} {B : Bag} (hB : BF G I_C_sine B) (hF : SF 134 φ)   {M : Mm} {o : Int32} {l0 : Int32}  (h : f_C_sine l0 = some o) : AW G I_C_sine B (QM G I_C_sine B (.inl (some (.int o))) M φ) 0 0 0 [(0, .int l0)] [] M φ := by
  unfold f_C_sine at h
  refine a_bipush (v := 90) hB e_C_sine_0 bp_90 ?_
  refine a_iload_n (j := 0) hB e_C_sine_2 rfl rfl ?_
  refine a_isub hB e_C_sine_3 ?_
  obtain ⟨r4, hr4, h⟩ := bn_i h
  refine a_ret (v := (some (.int r4))) (M1 := M) (φ1 := φ) (st1 := [.int r4]) (j1 := 0) (j2 := 0) (ar_S (As := [.int ((90 : Int32) - l0)]) (rest := []) hB (c_C_cosine (bf_G hB) hF hr4) ml_C_236 md_C_cosine rfl rfl (Nat.le_of_ble_eq_true rfl) rm_C_sine_C_cosine e_C_sine_4) rfl rfl rfl ?_
  cases h
  exact a_iret hB rfl e_C_sine_7 (by decide) (by decide)
set_option maxRecDepth 100000 in
theorem c_C_sine {G : Gt} (hG : GOK G) {φ : Ph} (hF : SF 134 φ)   {M : Mm} {l0 : Int32} {o : Int32} (h : f_C_sine l0 = some o) : CT G I_C_sine [.int l0] M φ (.inl (some (.int o))) M φ :=
  ct_of hG (by decide) (Nat.le_of_ble_eq_true rfl) (fun B hB => t_C_sine hB hF  h)
set_option maxRecDepth 100000 in
theorem t_C_stepOf {G : Gt} {φ : Ph} {B : Bag} (hB : BF G I_C_stepOf B) (hF : SF 134 φ)   {M : Mm} {o : Int32} {l0 : Int32} {l1 : Int32}  (h : f_C_stepOf l0 l1 = some o) : AW G I_C_stepOf B (QM G I_C_stepOf B (.inl (some (.int o))) M φ) 0 0 0 [(0, .int l0), (1, .int l1)] [] M φ := by
  unfold f_C_stepOf at h
  refine a_iload_n (j := 0) hB e_C_stepOf_0 rfl rfl ?_
  refine a_i2l hB e_C_stepOf_1 ?_
  refine a_iload_n (j := 1) hB e_C_stepOf_2 rfl rfl ?_
  refine a_i2l hB e_C_stepOf_3 ?_
  refine a_lmul hB e_C_stepOf_4 ?_
  refine a_ldc2 (v := 10000) hB cj_C_351 e_C_stepOf_5 ?_
  refine a_ldiv hB e_C_stepOf_8 (by decide) ?_
  refine a_l2i hB e_C_stepOf_9 ?_
  cases h
  exact a_iret hB rfl e_C_stepOf_10 (by decide) (by decide)
set_option maxRecDepth 100000 in
theorem c_C_stepOf {G : Gt} (hG : GOK G) {φ : Ph} (hF : SF 134 φ)   {M : Mm} {l0 : Int32} {l1 : Int32} {o : Int32} (h : f_C_stepOf l0 l1 = some o) : CT G I_C_stepOf [.int l0, .int l1] M φ (.inl (some (.int o))) M φ :=
  ct_of hG (by decide) (Nat.le_of_ble_eq_true rfl) (fun B hB => t_C_stepOf hB hF  h)
set_option maxRecDepth 100000 in
theorem t_T_endEast {G : Gt} {φ : Ph} {B : Bag} (hB : BF G I_T_endEast B) (hF : SF 134 φ)   {M : Mm} {o : Int32}   (h : f_T_endEast M = some o) : AW G I_T_endEast B (QM G I_T_endEast B (.inl (some (.int o))) M φ) 0 0 0 [(0, .ref 25)] [] M φ := by
  unfold f_T_endEast at h
  refine a_aload_n (j := 0) hB e_T_endEast_0 rfl rfl ?_
  refine a_getR (r := 27) (k := 1) hB e_T_endEast_1 fl_T_15 (sf_lt hF (by decide)) kk_25 tt_25_1 (hF.1 _ _) ?_
  refine a_aload_n (j := 0) hB e_T_endEast_4 rfl rfl ?_
  refine a_getI (k := 5) hB e_T_endEast_5 fl_T_33 (sf_lt hF (by decide)) kk_25 tt_25_5 ?_
  obtain ⟨c8, h⟩ := chk_i h
  refine a_iald' hB e_T_endEast_8 (sf_lt hF (by decide)) kk_27 ll_27 c8 ?_
  cases h
  exact a_iret hB rfl e_T_endEast_9 (by decide) (by decide)
set_option maxRecDepth 100000 in
theorem c_T_endEast {G : Gt} (hG : GOK G) {φ : Ph} (hF : SF 134 φ)   {M : Mm}  {o : Int32} (h : f_T_endEast M = some o) : CT G I_T_endEast [.ref 25] M φ (.inl (some (.int o))) M φ :=
  ct_of hG (by decide) (Nat.le_of_ble_eq_true rfl) (fun B hB => t_T_endEast hB hF  h)
set_option maxRecDepth 100000 in
theorem t_T_totalRun {G : Gt} {φ : Ph} {B : Bag} (hB : BF G I_T_totalRun B) (hF : SF 134 φ)   {M : Mm} {o : Int32}   (h : f_T_totalRun M = some o) : AW G I_T_totalRun B (QM G I_T_totalRun B (.inl (some (.int o))) M φ) 0 0 0 [(0, .ref 25)] [] M φ := by
  unfold f_T_totalRun at h
  refine a_aload_n (j := 0) hB e_T_totalRun_0 rfl rfl ?_
  refine a_getR (r := 26) (k := 0) hB e_T_totalRun_1 fl_T_9 (sf_lt hF (by decide)) kk_25 tt_25_0 (hF.1 _ _) ?_
  refine a_aload_n (j := 0) hB e_T_totalRun_4 rfl rfl ?_
  refine a_getI (k := 5) hB e_T_totalRun_5 fl_T_33 (sf_lt hF (by decide)) kk_25 tt_25_5 ?_
  obtain ⟨c8, h⟩ := chk_i h
  refine a_iald' hB e_T_totalRun_8 (sf_lt hF (by decide)) kk_26 ll_26 c8 ?_
  cases h
  exact a_iret hB rfl e_T_totalRun_9 (by decide) (by decide)
set_option maxRecDepth 100000 in
theorem c_T_totalRun {G : Gt} (hG : GOK G) {φ : Ph} (hF : SF 134 φ)   {M : Mm}  {o : Int32} (h : f_T_totalRun M = some o) : CT G I_T_totalRun [.ref 25] M φ (.inl (some (.int o))) M φ :=
  ct_of hG (by decide) (Nat.le_of_ble_eq_true rfl) (fun B hB => t_T_totalRun hB hF  h)
set_option maxRecDepth 100000 in
theorem t_T_shareAt_27 {G : Gt} {φ : Ph} {B : Bag} (hB : BF G I_T_shareAt B) (hF : SF 134 φ)   {M : Mm} {o : Int32} {t0 : Int32}  (h : f_T_shareAt_27 M t0 = some o) : AW G I_T_shareAt B (QM G I_T_shareAt B (.inl (some (.int o))) M φ) 0 0 27 [] [.int t0] M φ := by
  unfold f_T_shareAt_27 at h
  cases h
  exact a_iret hB rfl e_T_shareAt_27 (by decide) (by decide)
set_option maxRecDepth 100000 in
theorem t_T_shareAt {G : Gt} {φ : Ph} {B : Bag} (hB : BF G I_T_shareAt B) (hF : SF 134 φ)   {M : Mm} {o : Int32} {l1 : Int32} {l2 : Int32}  (h : f_T_shareAt M l1 l2 = some o) : AW G I_T_shareAt B (QM G I_T_shareAt B (.inl (some (.int o))) M φ) 0 0 0 [(0, .ref 25), (1, .int l1), (2, .int l2)] [] M φ := by
  unfold f_T_shareAt at h
  refine a_aload_n (j := 0) hB e_T_shareAt_0 rfl rfl ?_
  obtain ⟨r1, hr1, h⟩ := bn_i h
  refine a_ret (v := (some (.int r1))) (M1 := M) (φ1 := φ) (st1 := [.int r1]) (j1 := 0) (j2 := 0) (ar_V (As := []) (rest := []) hB (c_T_totalRun (bf_G hB) hF hr1) ml_T_65 md_T_totalRun rc_T_totalRun (sf_lt hF (by decide)) kk_25 rfl rfl (Nat.le_of_ble_eq_true rfl) rm_T_shareAt_T_totalRun e_T_shareAt_1) rfl rfl rfl ?_
  refine a_istore_n (ls' := [(3, .int r1), (0, .ref 25), (1, .int l1), (2, .int l2)]) hB e_T_shareAt_4 rfl (Nat.le_of_ble_eq_true rfl) rfl ?_
  refine a_iload_n (j := 0) hB e_T_shareAt_5 rfl rfl ?_
  refine a_if_ne (tgt := 13) hB e_T_shareAt_6 (by decide) (fun c => ?_) (fun c => ?_)
  · have h := iq c h
    refine a_iload_n (j := 3) hB e_T_shareAt_13 rfl rfl ?_
    refine a_i2l hB e_T_shareAt_14 ?_
    refine a_aload_n (j := 1) hB e_T_shareAt_15 rfl rfl ?_
    refine a_getR (r := 26) (k := 0) hB e_T_shareAt_16 fl_T_9 (sf_lt hF (by decide)) kk_25 tt_25_0 (hF.1 _ _) ?_
    refine a_iload_n (j := 2) hB e_T_shareAt_19 rfl rfl ?_
    obtain ⟨c20, h⟩ := chk_i h
    refine a_iald' hB e_T_shareAt_20 (sf_lt hF (by decide)) kk_26 ll_26 c20 ?_
    refine a_i2l hB e_T_shareAt_21 ?_
    refine a_lmul hB e_T_shareAt_22 ?_
    refine a_iload_n (j := 0) hB e_T_shareAt_23 rfl rfl ?_
    refine a_i2l hB e_T_shareAt_24 ?_
    obtain ⟨c25, h⟩ := chk_i h
    refine a_ldiv hB e_T_shareAt_25 c25 ?_
    refine a_l2i hB e_T_shareAt_26 ?_
    refine a_ls [] (ls' := []) rfl ?_
    exact t_T_shareAt_27 hB hF h
  · have h := ip c h
    refine a_iconst (v := 0) hB e_T_shareAt_9 ic_0 ?_
    refine a_goto (tgt := 27) hB e_T_shareAt_10 (by decide) ?_
    refine a_ls [] (ls' := []) rfl ?_
    exact t_T_shareAt_27 hB hF h
set_option maxRecDepth 100000 in
theorem c_T_shareAt {G : Gt} (hG : GOK G) {φ : Ph} (hF : SF 134 φ)   {M : Mm} {l1 : Int32} {l2 : Int32} {o : Int32} (h : f_T_shareAt M l1 l2 = some o) : CT G I_T_shareAt [.ref 25, .int l1, .int l2] M φ (.inl (some (.int o))) M φ :=
  ct_of hG (by decide) (Nat.le_of_ble_eq_true rfl) (fun B hB => t_T_shareAt hB hF  h)
set_option maxRecDepth 100000 in
theorem t_T_endNorth {G : Gt} {φ : Ph} {B : Bag} (hB : BF G I_T_endNorth B) (hF : SF 134 φ)   {M : Mm} {o : Int32}   (h : f_T_endNorth M = some o) : AW G I_T_endNorth B (QM G I_T_endNorth B (.inl (some (.int o))) M φ) 0 0 0 [(0, .ref 25)] [] M φ := by
  unfold f_T_endNorth at h
  refine a_aload_n (j := 0) hB e_T_endNorth_0 rfl rfl ?_
  refine a_getR (r := 28) (k := 2) hB e_T_endNorth_1 fl_T_18 (sf_lt hF (by decide)) kk_25 tt_25_2 (hF.1 _ _) ?_
  refine a_aload_n (j := 0) hB e_T_endNorth_4 rfl rfl ?_
  refine a_getI (k := 5) hB e_T_endNorth_5 fl_T_33 (sf_lt hF (by decide)) kk_25 tt_25_5 ?_
  obtain ⟨c8, h⟩ := chk_i h
  refine a_iald' hB e_T_endNorth_8 (sf_lt hF (by decide)) kk_28 ll_28 c8 ?_
  cases h
  exact a_iret hB rfl e_T_endNorth_9 (by decide) (by decide)
