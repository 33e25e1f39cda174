/-! the functions are what the machine does -/
set_option maxRecDepth 100000 in
set_option maxHeartbeats 4000000 in
theorem t_S_clear {G : Gt} {φ : Ph} {B : Bag} (hB : BF G I_S_clear B) (hF : SF 134 φ) {a : Nat} (hs_a : isSv a)  {M9 : Mm}  {M : Mm} (h : f_S_clear a M = some M9) : AW G I_S_clear B (QM G I_S_clear B (.inl none) M9 φ) 0 0 0 [(0, .ref a)] [] M φ := by
  unfold f_S_clear at h
  refine a_aload_n (j := 0) hB e_S_clear_0 rfl rfl ?_
  refine a_iconst (v := 0) hB e_S_clear_1 ic_0 ?_
  obtain ⟨M2, hM2, h⟩ := bm_i h
  refine a_putI (k := 9) hB e_S_clear_2 fw_S_44 (sv_lt hs_a hF (by decide)) (sv_kd hs_a) (sv_t0 hs_a 0 (by decide)) ?_
  refine a_mem hM2 ?_
  refine a_aload_n (j := 0) hB e_S_clear_5 rfl rfl ?_
  refine a_iconst (v := 0) hB e_S_clear_6 ic_0 ?_
  obtain ⟨M7, hM7, h⟩ := bm_i h
  refine a_putZ (k := 12) hB e_S_clear_7 fw_S_47 (sv_lt hs_a hF (by decide)) (sv_kd hs_a) (sv_t0 hs_a 3 (by decide)) (Or.inl rfl) ?_
  refine a_mem hM7 ?_
  cases h
  exact a_vret hB rfl e_S_clear_10 (by decide) (by decide)
set_option maxRecDepth 100000 in
theorem c_S_clear {G : Gt} (hG : GOK G) {φ : Ph} (hF : SF 134 φ) {a : Nat} (hs_a : isSv a) {M : Mm}  {M9 : Mm} (h : f_S_clear a M = some M9) : CT G I_S_clear [.ref a] M φ (.inl none) M9 φ :=
  ct_of hG (by decide) (Nat.le_of_ble_eq_true rfl) (fun B hB => t_S_clear hB hF hs_a h)
set_option maxRecDepth 100000 in
set_option maxHeartbeats 4000000 in
theorem t_S_copyFrom_34 {G : Gt} {φ : Ph} {B : Bag} (hB : BF G I_S_copyFrom B) (hF : SF 134 φ) {a : Nat} {b : Nat} (hs_a : isSv a) (hs_b : isSv b)  {M9 : Mm} : ∀ (n : Nat) (l2 : Int32) (M : Mm), f_S_copyFrom_34 a b n l2 M = some M9 → AW G I_S_copyFrom B (QM G I_S_copyFrom B (.inl none) M9 φ) 0 0 34 [(0, .ref a), (1, .ref b), (2, .int l2)] [] M φ := by
  intro n
  induction n with
  | zero => intro l2 M h; cases h
  | succ n hr34 =>
    intro l2 M h
    rw [f_S_copyFrom_34] at h
    refine a_iload_n (j := 2) hB e_S_copyFrom_34 rfl rfl ?_
    refine a_bipush (v := 20) hB e_S_copyFrom_35 bp_20 ?_
    refine a_icmp_ge (tgt := 154) hB e_S_copyFrom_37 (by decide) (fun c => ?_) (fun c => ?_)
    · have h := ip c h
      cases h
      exact a_vret hB rfl e_S_copyFrom_154 (by decide) (by decide)
    · have h := iq c h
      refine a_aload_n (j := 0) hB e_S_copyFrom_40 rfl rfl ?_
      refine a_getR (r := a + 1 + 0) (k := 0) hB e_S_copyFrom_41 fl_S_9 (sv_lt hs_a hF (by decide)) (sv_kd hs_a) (sv_t hs_a 0 (by decide)) (hF.1 _ _) ?_
      refine a_iload_n (j := 2) hB e_S_copyFrom_44 rfl rfl ?_
      refine a_aload_n (j := 1) hB e_S_copyFrom_45 rfl rfl ?_
      refine a_getR (r := b + 1 + 0) (k := 0) hB e_S_copyFrom_46 fl_S_9 (sv_lt hs_b hF (by decide)) (sv_kd hs_b) (sv_t hs_b 0 (by decide)) (hF.1 _ _) ?_
      refine a_iload_n (j := 2) hB e_S_copyFrom_49 rfl rfl ?_
      obtain ⟨c50, h⟩ := chk_i h
      refine a_iald' hB e_S_copyFrom_50 (sv_la hs_b hF (by decide) 0 (by decide)) (sv_ki hs_b 0 (by decide) (by decide)) (sv_ln hs_b 0 (by decide)) c50 ?_
      obtain ⟨M51, hM51, h⟩ := bm_i h
      refine a_iast' hB e_S_copyFrom_51 (sv_la hs_a hF (by decide) 0 (by decide)) (sv_ki hs_a 0 (by decide) (by decide)) (sv_ln hs_a 0 (by decide)) c50 ?_
      refine a_mem hM51 ?_
      refine a_aload_n (j := 0) hB e_S_copyFrom_52 rfl rfl ?_
      refine a_getR (r := a + 1 + 1) (k := 1) hB e_S_copyFrom_53 fl_S_15 (sv_lt hs_a hF (by decide)) (sv_kd hs_a) (sv_t hs_a 1 (by decide)) (hF.1 _ _) ?_
      refine a_iload_n (j := 2) hB e_S_copyFrom_56 rfl rfl ?_
      refine a_aload_n (j := 1) hB e_S_copyFrom_57 rfl rfl ?_
      refine a_getR (r := b + 1 + 1) (k := 1) hB e_S_copyFrom_58 fl_S_15 (sv_lt hs_b hF (by decide)) (sv_kd hs_b) (sv_t hs_b 1 (by decide)) (hF.1 _ _) ?_
      refine a_iload_n (j := 2) hB e_S_copyFrom_61 rfl rfl ?_
      refine a_iald' hB e_S_copyFrom_62 (sv_la hs_b hF (by decide) 1 (by decide)) (sv_ki hs_b 1 (by decide) (by decide)) (sv_ln hs_b 1 (by decide)) c50 ?_
      obtain ⟨M63, hM63, h⟩ := bm_i h
      refine a_iast' hB e_S_copyFrom_63 (sv_la hs_a hF (by decide) 1 (by decide)) (sv_ki hs_a 1 (by decide) (by decide)) (sv_ln hs_a 1 (by decide)) c50 ?_
      refine a_mem hM63 ?_
      refine a_aload_n (j := 0) hB e_S_copyFrom_64 rfl rfl ?_
      refine a_getR (r := a + 1 + 2) (k := 2) hB e_S_copyFrom_65 fl_S_18 (sv_lt hs_a hF (by decide)) (sv_kd hs_a) (sv_t hs_a 2 (by decide)) (hF.1 _ _) ?_
      refine a_iload_n (j := 2) hB e_S_copyFrom_68 rfl rfl ?_
      refine a_aload_n (j := 1) hB e_S_copyFrom_69 rfl rfl ?_
      refine a_getR (r := b + 1 + 2) (k := 2) hB e_S_copyFrom_70 fl_S_18 (sv_lt hs_b hF (by decide)) (sv_kd hs_b) (sv_t hs_b 2 (by decide)) (hF.1 _ _) ?_
      refine a_iload_n (j := 2) hB e_S_copyFrom_73 rfl rfl ?_
      refine a_zald' hB e_S_copyFrom_74 (sv_la hs_b hF (by decide) 2 (by decide)) (sv_kz hs_b) (sv_ln hs_b 2 (by decide)) c50 ?_
      obtain ⟨z75, h⟩ := chk_i h
      obtain ⟨M75, hM75, h⟩ := bm_i h
      refine a_zast' hB e_S_copyFrom_75 (sv_la hs_a hF (by decide) 2 (by decide)) (sv_kz hs_a) (sv_ln hs_a 2 (by decide)) c50 z75 ?_
      refine a_mem hM75 ?_
      refine a_aload_n (j := 0) hB e_S_copyFrom_76 rfl rfl ?_
      refine a_getR (r := a + 1 + 3) (k := 3) hB e_S_copyFrom_77 fl_S_22 (sv_lt hs_a hF (by decide)) (sv_kd hs_a) (sv_t hs_a 3 (by decide)) (hF.1 _ _) ?_
      refine a_iload_n (j := 2) hB e_S_copyFrom_80 rfl rfl ?_
      refine a_aload_n (j := 1) hB e_S_copyFrom_81 rfl rfl ?_
      refine a_getR (r := b + 1 + 3) (k := 3) hB e_S_copyFrom_82 fl_S_22 (sv_lt hs_b hF (by decide)) (sv_kd hs_b) (sv_t hs_b 3 (by decide)) (hF.1 _ _) ?_
      refine a_iload_n (j := 2) hB e_S_copyFrom_85 rfl rfl ?_
      refine a_iald' hB e_S_copyFrom_86 (sv_la hs_b hF (by decide) 3 (by decide)) (sv_ki hs_b 3 (by decide) (by decide)) (sv_ln hs_b 3 (by decide)) c50 ?_
      obtain ⟨M87, hM87, h⟩ := bm_i h
      refine a_iast' hB e_S_copyFrom_87 (sv_la hs_a hF (by decide) 3 (by decide)) (sv_ki hs_a 3 (by decide) (by decide)) (sv_ln hs_a 3 (by decide)) c50 ?_
      refine a_mem hM87 ?_
      refine a_aload_n (j := 0) hB e_S_copyFrom_88 rfl rfl ?_
      refine a_getR (r := a + 1 + 4) (k := 4) hB e_S_copyFrom_89 fl_S_25 (sv_lt hs_a hF (by decide)) (sv_kd hs_a) (sv_t hs_a 4 (by decide)) (hF.1 _ _) ?_
      refine a_iload_n (j := 2) hB e_S_copyFrom_92 rfl rfl ?_
      refine a_aload_n (j := 1) hB e_S_copyFrom_93 rfl rfl ?_
      refine a_getR (r := b + 1 + 4) (k := 4) hB e_S_copyFrom_94 fl_S_25 (sv_lt hs_b hF (by decide)) (sv_kd hs_b) (sv_t hs_b 4 (by decide)) (hF.1 _ _) ?_
      refine a_iload_n (j := 2) hB e_S_copyFrom_97 rfl rfl ?_
      refine a_iald' hB e_S_copyFrom_98 (sv_la hs_b hF (by decide) 4 (by decide)) (sv_ki hs_b 4 (by decide) (by decide)) (sv_ln hs_b 4 (by decide)) c50 ?_
      obtain ⟨M99, hM99, h⟩ := bm_i h
      refine a_iast' hB e_S_copyFrom_99 (sv_la hs_a hF (by decide) 4 (by decide)) (sv_ki hs_a 4 (by decide) (by decide)) (sv_ln hs_a 4 (by decide)) c50 ?_
      refine a_mem hM99 ?_
      refine a_aload_n (j := 0) hB e_S_copyFrom_100 rfl rfl ?_
      refine a_getR (r := a + 1 + 5) (k := 5) hB e_S_copyFrom_101 fl_S_28 (sv_lt hs_a hF (by decide)) (sv_kd hs_a) (sv_t hs_a 5 (by decide)) (hF.1 _ _) ?_
      refine a_iload_n (j := 2) hB e_S_copyFrom_104 rfl rfl ?_
      refine a_aload_n (j := 1) hB e_S_copyFrom_105 rfl rfl ?_
      refine a_getR (r := b + 1 + 5) (k := 5) hB e_S_copyFrom_106 fl_S_28 (sv_lt hs_b hF (by decide)) (sv_kd hs_b) (sv_t hs_b 5 (by decide)) (hF.1 _ _) ?_
      refine a_iload_n (j := 2) hB e_S_copyFrom_109 rfl rfl ?_
      refine a_iald' hB e_S_copyFrom_110 (sv_la hs_b hF (by decide) 5 (by decide)) (sv_ki hs_b 5 (by decide) (by decide)) (sv_ln hs_b 5 (by decide)) c50 ?_
      obtain ⟨M111, hM111, h⟩ := bm_i h
      refine a_iast' hB e_S_copyFrom_111 (sv_la hs_a hF (by decide) 5 (by decide)) (sv_ki hs_a 5 (by decide) (by decide)) (sv_ln hs_a 5 (by decide)) c50 ?_
      refine a_mem hM111 ?_
      refine a_aload_n (j := 0) hB e_S_copyFrom_112 rfl rfl ?_
      refine a_getR (r := a + 1 + 6) (k := 6) hB e_S_copyFrom_113 fl_S_31 (sv_lt hs_a hF (by decide)) (sv_kd hs_a) (sv_t hs_a 6 (by decide)) (hF.1 _ _) ?_
      refine a_iload_n (j := 2) hB e_S_copyFrom_116 rfl rfl ?_
      refine a_aload_n (j := 1) hB e_S_copyFrom_117 rfl rfl ?_
      refine a_getR (r := b + 1 + 6) (k := 6) hB e_S_copyFrom_118 fl_S_31 (sv_lt hs_b hF (by decide)) (sv_kd hs_b) (sv_t hs_b 6 (by decide)) (hF.1 _ _) ?_
      refine a_iload_n (j := 2) hB e_S_copyFrom_121 rfl rfl ?_
      refine a_iald' hB e_S_copyFrom_122 (sv_la hs_b hF (by decide) 6 (by decide)) (sv_ki hs_b 6 (by decide) (by decide)) (sv_ln hs_b 6 (by decide)) c50 ?_
      obtain ⟨M123, hM123, h⟩ := bm_i h
      refine a_iast' hB e_S_copyFrom_123 (sv_la hs_a hF (by decide) 6 (by decide)) (sv_ki hs_a 6 (by decide) (by decide)) (sv_ln hs_a 6 (by decide)) c50 ?_
      refine a_mem hM123 ?_
      refine a_aload_n (j := 0) hB e_S_copyFrom_124 rfl rfl ?_
      refine a_getR (r := a + 1 + 7) (k := 7) hB e_S_copyFrom_125 fl_S_34 (sv_lt hs_a hF (by decide)) (sv_kd hs_a) (sv_t hs_a 7 (by decide)) (hF.1 _ _) ?_
      refine a_iload_n (j := 2) hB e_S_copyFrom_128 rfl rfl ?_
      refine a_aload_n (j := 1) hB e_S_copyFrom_129 rfl rfl ?_
      refine a_getR (r := b + 1 + 7) (k := 7) hB e_S_copyFrom_130 fl_S_34 (sv_lt hs_b hF (by decide)) (sv_kd hs_b) (sv_t hs_b 7 (by decide)) (hF.1 _ _) ?_
      refine a_iload_n (j := 2) hB e_S_copyFrom_133 rfl rfl ?_
      refine a_iald' hB e_S_copyFrom_134 (sv_la hs_b hF (by decide) 7 (by decide)) (sv_ki hs_b 7 (by decide) (by decide)) (sv_ln hs_b 7 (by decide)) c50 ?_
      obtain ⟨M135, hM135, h⟩ := bm_i h
      refine a_iast' hB e_S_copyFrom_135 (sv_la hs_a hF (by decide) 7 (by decide)) (sv_ki hs_a 7 (by decide) (by decide)) (sv_ln hs_a 7 (by decide)) c50 ?_
      refine a_mem hM135 ?_
      refine a_aload_n (j := 0) hB e_S_copyFrom_136 rfl rfl ?_
      refine a_getR (r := a + 1 + 8) (k := 8) hB e_S_copyFrom_137 fl_S_37 (sv_lt hs_a hF (by decide)) (sv_kd hs_a) (sv_t hs_a 8 (by decide)) (hF.1 _ _) ?_
      refine a_iload_n (j := 2) hB e_S_copyFrom_140 rfl rfl ?_
      refine a_aload_n (j := 1) hB e_S_copyFrom_141 rfl rfl ?_
      refine a_getR (r := b + 1 + 8) (k := 8) hB e_S_copyFrom_142 fl_S_37 (sv_lt hs_b hF (by decide)) (sv_kd hs_b) (sv_t hs_b 8 (by decide)) (hF.1 _ _) ?_
      refine a_iload_n (j := 2) hB e_S_copyFrom_145 rfl rfl ?_
      refine a_iald' hB e_S_copyFrom_146 (sv_la hs_b hF (by decide) 8 (by decide)) (sv_ki hs_b 8 (by decide) (by decide)) (sv_ln hs_b 8 (by decide)) c50 ?_
      obtain ⟨M147, hM147, h⟩ := bm_i h
      refine a_iast' hB e_S_copyFrom_147 (sv_la hs_a hF (by decide) 8 (by decide)) (sv_ki hs_a 8 (by decide) (by decide)) (sv_ln hs_a 8 (by decide)) c50 ?_
      refine a_mem hM147 ?_
      refine a_iinc (j := 2) (v := l2 + 1) (ls' := [(2, .int (l2 + 1)), (0, .ref a), (1, .ref b)]) hB e_S_copyFrom_148 rfl (inc_1 _) (Nat.le_of_ble_eq_true rfl) rfl ?_
      refine a_goto (tgt := 34) hB e_S_copyFrom_151 (by decide) ?_
      refine a_ls [1, 2, 0] (ls' := [(0, .ref a), (1, .ref b), (2, .int (l2 + 1))]) rfl ?_
      exact hr34 _ _ h
set_option maxRecDepth 100000 in
set_option maxHeartbeats 4000000 in
theorem t_S_copyFrom {G : Gt} {φ : Ph} {B : Bag} (hB : BF G I_S_copyFrom B) (hF : SF 134 φ) {a : Nat} {b : Nat} (hs_a : isSv a) (hs_b : isSv b)  {M9 : Mm}  {M : Mm} (h : f_S_copyFrom a b M = some M9) : AW G I_S_copyFrom B (QM G I_S_copyFrom B (.inl none) M9 φ) 0 0 0 [(0, .ref a), (1, .ref b)] [] M φ := by
  unfold f_S_copyFrom at h
  refine a_aload_n (j := 0) hB e_S_copyFrom_0 rfl rfl ?_
  refine a_aload_n (j := 1) hB e_S_copyFrom_1 rfl rfl ?_
  refine a_getI (k := 9) hB e_S_copyFrom_2 fl_S_44 (sv_lt hs_b hF (by decide)) (sv_kd hs_b) (sv_t0 hs_b 0 (by decide)) ?_
  obtain ⟨M5, hM5, h⟩ := bm_i h
  refine a_putI (k := 9) hB e_S_copyFrom_5 fw_S_44 (sv_lt hs_a hF (by decide)) (sv_kd hs_a) (sv_t0 hs_a 0 (by decide)) ?_
  refine a_mem hM5 ?_
  refine a_aload_n (j := 0) hB e_S_copyFrom_8 rfl rfl ?_
  refine a_aload_n (j := 1) hB e_S_copyFrom_9 rfl rfl ?_
  refine a_getI (k := 10) hB e_S_copyFrom_10 fl_S_51 (sv_lt hs_b hF (by decide)) (sv_kd hs_b) (sv_t0 hs_b 1 (by decide)) ?_
  obtain ⟨M13, hM13, h⟩ := bm_i h
  refine a_putI (k := 10) hB e_S_copyFrom_13 fw_S_51 (sv_lt hs_a hF (by decide)) (sv_kd hs_a) (sv_t0 hs_a 1 (by decide)) ?_
  refine a_mem hM13 ?_
  refine a_aload_n (j := 0) hB e_S_copyFrom_16 rfl rfl ?_
  refine a_aload_n (j := 1) hB e_S_copyFrom_17 rfl rfl ?_
  refine a_getI (k := 11) hB e_S_copyFrom_18 fl_S_40 (sv_lt hs_b hF (by decide)) (sv_kd hs_b) (sv_t0 hs_b 2 (by decide)) ?_
  obtain ⟨M21, hM21, h⟩ := bm_i h
  refine a_putI (k := 11) hB e_S_copyFrom_21 fw_S_40 (sv_lt hs_a hF (by decide)) (sv_kd hs_a) (sv_t0 hs_a 2 (by decide)) ?_
  refine a_mem hM21 ?_
  refine a_aload_n (j := 0) hB e_S_copyFrom_24 rfl rfl ?_
  refine a_aload_n (j := 1) hB e_S_copyFrom_25 rfl rfl ?_
  refine a_getI (k := 12) hB e_S_copyFrom_26 fl_S_47 (sv_lt hs_b hF (by decide)) (sv_kd hs_b) (sv_t0 hs_b 3 (by decide)) ?_
  obtain ⟨z29, h⟩ := chk_i h
  obtain ⟨M29, hM29, h⟩ := bm_i h
  refine a_putZ (k := 12) hB e_S_copyFrom_29 fw_S_47 (sv_lt hs_a hF (by decide)) (sv_kd hs_a) (sv_t0 hs_a 3 (by decide)) z29 ?_
  refine a_mem hM29 ?_
  refine a_iconst (v := 0) hB e_S_copyFrom_32 ic_0 ?_
  refine a_istore_n (ls' := [(2, .int (0 : Int32)), (0, .ref a), (1, .ref b)]) hB e_S_copyFrom_33 rfl (Nat.le_of_ble_eq_true rfl) rfl ?_
  refine a_ls [1, 2, 0] (ls' := [(0, .ref a), (1, .ref b), (2, .int (0 : Int32))]) rfl ?_
  exact t_S_copyFrom_34 hB hF hs_a hs_b _ _ _ h
set_option maxRecDepth 100000 in
theorem c_S_copyFrom {G : Gt} (hG : GOK G) {φ : Ph} (hF : SF 134 φ) {a : Nat} {b : Nat} (hs_a : isSv a) (hs_b : isSv b) {M : Mm}  {M9 : Mm} (h : f_S_copyFrom a b M = some M9) : CT G I_S_copyFrom [.ref a, .ref b] M φ (.inl none) M9 φ :=
  ct_of hG (by decide) (Nat.le_of_ble_eq_true rfl) (fun B hB => t_S_copyFrom hB hF hs_a hs_b h)
set_option maxRecDepth 100000 in
set_option maxHeartbeats 4000000 in
theorem t_S_addChained {G : Gt} {φ : Ph} {B : Bag} (hB : BF G I_S_addChained B) (hF : SF 134 φ) {a : Nat} (hs_a : isSv a)  {M9 : Mm} {l1 : Int32} {l2 : Int32} {l3 : Int32} {l4 : Int32} {l5 : Int32} {l6 : Int32} {l7 : Int32} {M : Mm} (h : f_S_addChained a l1 l2 l3 l4 l5 l6 l7 M = some M9) : AW G I_S_addChained B (QM G I_S_addChained B (.inl none) M9 φ) 0 0 0 [(0, .ref a), (1, .int l1), (2, .int l2), (3, .int l3), (4, .int l4), (5, .int l5), (6, .int l6), (7, .int l7)] [] M φ := by
  unfold f_S_addChained at h
  refine a_aload_n (j := 0) hB e_S_addChained_0 rfl rfl ?_
  refine a_getI (k := 9) hB e_S_addChained_1 fl_S_44 (sv_lt hs_a hF (by decide)) (sv_kd hs_a) (sv_t0 hs_a 0 (by decide)) ?_
  refine a_bipush (v := 20) hB e_S_addChained_4 bp_20 ?_
  refine a_icmp_lt (tgt := 10) hB e_S_addChained_6 (by decide) (fun c => ?_) (fun c => ?_)
  · have h := ip c h
    refine a_aload_n (j := 0) hB e_S_addChained_10 rfl rfl ?_
    refine a_getR (r := a + 1 + 0) (k := 0) hB e_S_addChained_11 fl_S_9 (sv_lt hs_a hF (by decide)) (sv_kd hs_a) (sv_t hs_a 0 (by decide)) (hF.1 _ _) ?_
    refine a_aload_n (j := 0) hB e_S_addChained_14 rfl rfl ?_
    refine a_getI (k := 9) hB e_S_addChained_15 fl_S_44 (sv_lt hs_a hF (by decide)) (sv_kd hs_a) (sv_t0 hs_a 0 (by decide)) ?_
    refine a_iload_n (j := 1) hB e_S_addChained_18 rfl rfl ?_
    obtain ⟨c19, h⟩ := chk_i h
    obtain ⟨M19, hM19, h⟩ := bm_i h
    refine a_iast' hB e_S_addChained_19 (sv_la hs_a hF (by decide) 0 (by decide)) (sv_ki hs_a 0 (by decide) (by decide)) (sv_ln hs_a 0 (by decide)) c19 ?_
    refine a_mem hM19 ?_
    refine a_aload_n (j := 0) hB e_S_addChained_20 rfl rfl ?_
    refine a_getR (r := a + 1 + 1) (k := 1) hB e_S_addChained_21 fl_S_15 (sv_lt hs_a hF (by decide)) (sv_kd hs_a) (sv_t hs_a 1 (by decide)) (hF.1 _ _) ?_
    refine a_aload_n (j := 0) hB e_S_addChained_24 rfl rfl ?_
    refine a_getI (k := 9) hB e_S_addChained_25 fl_S_44 (sv_lt hs_a hF (by decide)) (sv_kd hs_a) (sv_t0 hs_a 0 (by decide)) ?_
    refine a_iload_n (j := 2) hB e_S_addChained_28 rfl rfl ?_
    obtain ⟨c29, h⟩ := chk_i h
    obtain ⟨M29, hM29, h⟩ := bm_i h
    refine a_iast' hB e_S_addChained_29 (sv_la hs_a hF (by decide) 1 (by decide)) (sv_ki hs_a 1 (by decide) (by decide)) (sv_ln hs_a 1 (by decide)) c29 ?_
    refine a_mem hM29 ?_
    refine a_aload_n (j := 0) hB e_S_addChained_30 rfl rfl ?_
    refine a_getR (r := a + 1 + 2) (k := 2) hB e_S_addChained_31 fl_S_18 (sv_lt hs_a hF (by decide)) (sv_kd hs_a) (sv_t hs_a 2 (by decide)) (hF.1 _ _) ?_
    refine a_aload_n (j := 0) hB e_S_addChained_34 rfl rfl ?_
    refine a_getI (k := 9) hB e_S_addChained_35 fl_S_44 (sv_lt hs_a hF (by decide)) (sv_kd hs_a) (sv_t0 hs_a 0 (by decide)) ?_
    refine a_iconst (v := 0) hB e_S_addChained_38 ic_0 ?_
    obtain ⟨c39, h⟩ := chk_i h
    obtain ⟨M39, hM39, h⟩ := bm_i h
    refine a_zast' hB e_S_addChained_39 (sv_la hs_a hF (by decide) 2 (by decide)) (sv_kz hs_a) (sv_ln hs_a 2 (by decide)) c39 (Or.inl rfl) ?_
    refine a_mem hM39 ?_
    refine a_aload_n (j := 0) hB e_S_addChained_40 rfl rfl ?_
    refine a_getR (r := a + 1 + 3) (k := 3) hB e_S_addChained_41 fl_S_22 (sv_lt hs_a hF (by decide)) (sv_kd hs_a) (sv_t hs_a 3 (by decide)) (hF.1 _ _) ?_
    refine a_aload_n (j := 0) hB e_S_addChained_44 rfl rfl ?_
    refine a_getI (k := 9) hB e_S_addChained_45 fl_S_44 (sv_lt hs_a hF (by decide)) (sv_kd hs_a) (sv_t0 hs_a 0 (by decide)) ?_
    refine a_iconst (v := 0) hB e_S_addChained_48 ic_0 ?_
    obtain ⟨c49, h⟩ := chk_i h
    obtain ⟨M49, hM49, h⟩ := bm_i h
    refine a_iast' hB e_S_addChained_49 (sv_la hs_a hF (by decide) 3 (by decide)) (sv_ki hs_a 3 (by decide) (by decide)) (sv_ln hs_a 3 (by decide)) c49 ?_
    refine a_mem hM49 ?_
    refine a_aload_n (j := 0) hB e_S_addChained_50 rfl rfl ?_
    refine a_getR (r := a + 1 + 4) (k := 4) hB e_S_addChained_51 fl_S_25 (sv_lt hs_a hF (by decide)) (sv_kd hs_a) (sv_t hs_a 4 (by decide)) (hF.1 _ _) ?_
    refine a_aload_n (j := 0) hB e_S_addChained_54 rfl rfl ?_
    refine a_getI (k := 9) hB e_S_addChained_55 fl_S_44 (sv_lt hs_a hF (by decide)) (sv_kd hs_a) (sv_t0 hs_a 0 (by decide)) ?_
    refine a_iload_n (j := 3) hB e_S_addChained_58 rfl rfl ?_
    obtain ⟨c59, h⟩ := chk_i h
    obtain ⟨M59, hM59, h⟩ := bm_i h
    refine a_iast' hB e_S_addChained_59 (sv_la hs_a hF (by decide) 4 (by decide)) (sv_ki hs_a 4 (by decide) (by decide)) (sv_ln hs_a 4 (by decide)) c59 ?_
    refine a_mem hM59 ?_
    refine a_aload_n (j := 0) hB e_S_addChained_60 rfl rfl ?_
    refine a_getR (r := a + 1 + 5) (k := 5) hB e_S_addChained_61 fl_S_28 (sv_lt hs_a hF (by decide)) (sv_kd hs_a) (sv_t hs_a 5 (by decide)) (hF.1 _ _) ?_
    refine a_aload_n (j := 0) hB e_S_addChained_64 rfl rfl ?_
    refine a_getI (k := 9) hB e_S_addChained_65 fl_S_44 (sv_lt hs_a hF (by decide)) (sv_kd hs_a) (sv_t0 hs_a 0 (by decide)) ?_
    refine a_iload (j := 4) hB e_S_addChained_68 rfl ?_
    obtain ⟨c70, h⟩ := chk_i h
    obtain ⟨M70, hM70, h⟩ := bm_i h
    refine a_iast' hB e_S_addChained_70 (sv_la hs_a hF (by decide) 5 (by decide)) (sv_ki hs_a 5 (by decide) (by decide)) (sv_ln hs_a 5 (by decide)) c70 ?_
    refine a_mem hM70 ?_
    refine a_aload_n (j := 0) hB e_S_addChained_71 rfl rfl ?_
    refine a_getR (r := a + 1 + 6) (k := 6) hB e_S_addChained_72 fl_S_31 (sv_lt hs_a hF (by decide)) (sv_kd hs_a) (sv_t hs_a 6 (by decide)) (hF.1 _ _) ?_
    refine a_aload_n (j := 0) hB e_S_addChained_75 rfl rfl ?_
    refine a_getI (k := 9) hB e_S_addChained_76 fl_S_44 (sv_lt hs_a hF (by decide)) (sv_kd hs_a) (sv_t0 hs_a 0 (by decide)) ?_
    refine a_iload (j := 5) hB e_S_addChained_79 rfl ?_
    obtain ⟨c81, h⟩ := chk_i h
    obtain ⟨M81, hM81, h⟩ := bm_i h
    refine a_iast' hB e_S_addChained_81 (sv_la hs_a hF (by decide) 6 (by decide)) (sv_ki hs_a 6 (by decide) (by decide)) (sv_ln hs_a 6 (by decide)) c81 ?_
    refine a_mem hM81 ?_
    refine a_aload_n (j := 0) hB e_S_addChained_82 rfl rfl ?_
    refine a_getR (r := a + 1 + 7) (k := 7) hB e_S_addChained_83 fl_S_34 (sv_lt hs_a hF (by decide)) (sv_kd hs_a) (sv_t hs_a 7 (by decide)) (hF.1 _ _) ?_
    refine a_aload_n (j := 0) hB e_S_addChained_86 rfl rfl ?_
    refine a_getI (k := 9) hB e_S_addChained_87 fl_S_44 (sv_lt hs_a hF (by decide)) (sv_kd hs_a) (sv_t0 hs_a 0 (by decide)) ?_
    refine a_iload (j := 6) hB e_S_addChained_90 rfl ?_
    obtain ⟨c92, h⟩ := chk_i h
    obtain ⟨M92, hM92, h⟩ := bm_i h
    refine a_iast' hB e_S_addChained_92 (sv_la hs_a hF (by decide) 7 (by decide)) (sv_ki hs_a 7 (by decide) (by decide)) (sv_ln hs_a 7 (by decide)) c92 ?_
    refine a_mem hM92 ?_
    refine a_aload_n (j := 0) hB e_S_addChained_93 rfl rfl ?_
    refine a_getR (r := a + 1 + 8) (k := 8) hB e_S_addChained_94 fl_S_37 (sv_lt hs_a hF (by decide)) (sv_kd hs_a) (sv_t hs_a 8 (by decide)) (hF.1 _ _) ?_
    refine a_aload_n (j := 0) hB e_S_addChained_97 rfl rfl ?_
    refine a_getI (k := 9) hB e_S_addChained_98 fl_S_44 (sv_lt hs_a hF (by decide)) (sv_kd hs_a) (sv_t0 hs_a 0 (by decide)) ?_
    refine a_iload (j := 7) hB e_S_addChained_101 rfl ?_
    obtain ⟨c103, h⟩ := chk_i h
    obtain ⟨M103, hM103, h⟩ := bm_i h
    refine a_iast' hB e_S_addChained_103 (sv_la hs_a hF (by decide) 8 (by decide)) (sv_ki hs_a 8 (by decide) (by decide)) (sv_ln hs_a 8 (by decide)) c103 ?_
    refine a_mem hM103 ?_
    refine a_aload_n (j := 0) hB e_S_addChained_104 rfl rfl ?_
    refine a_dup hB e_S_addChained_105 rfl ?_
    refine a_getI (k := 9) hB e_S_addChained_106 fl_S_44 (sv_lt hs_a hF (by decide)) (sv_kd hs_a) (sv_t0 hs_a 0 (by decide)) ?_
    refine a_iconst (v := 1) hB e_S_addChained_109 ic_1 ?_
    refine a_iadd hB e_S_addChained_110 ?_
    obtain ⟨M111, hM111, h⟩ := bm_i h
    refine a_putI (k := 9) hB e_S_addChained_111 fw_S_44 (sv_lt hs_a hF (by decide)) (sv_kd hs_a) (sv_t0 hs_a 0 (by decide)) ?_
    refine a_mem hM111 ?_
    cases h
    exact a_vret hB rfl e_S_addChained_114 (by decide) (by decide)
  · have h := iq c h
    cases h
    exact a_vret hB rfl e_S_addChained_9 (by decide) (by decide)
set_option maxRecDepth 100000 in
theorem c_S_addChained {G : Gt} (hG : GOK G) {φ : Ph} (hF : SF 134 φ) {a : Nat} (hs_a : isSv a) {M : Mm} {l1 : Int32} {l2 : Int32} {l3 : Int32} {l4 : Int32} {l5 : Int32} {l6 : Int32} {l7 : Int32} {M9 : Mm} (h : f_S_addChained a l1 l2 l3 l4 l5 l6 l7 M = some M9) : CT G I_S_addChained [.ref a, .int l1, .int l2, .int l3, .int l4, .int l5, .int l6, .int l7] M φ (.inl none) M9 φ :=
  ct_of hG (by decide) (Nat.le_of_ble_eq_true rfl) (fun B hB => t_S_addChained hB hF hs_a h)
set_option maxRecDepth 100000 in
set_option maxHeartbeats 4000000 in
theorem t_S_addPaced {G : Gt} {φ : Ph} {B : Bag} (hB : BF G I_S_addPaced B) (hF : SF 134 φ) {a : Nat} (hs_a : isSv a)  {M9 : Mm} {l1 : Int32} {l2 : Int32} {l3 : Int32} {M : Mm} (h : f_S_addPaced a l1 l2 l3 M = some M9) : AW G I_S_addPaced B (QM G I_S_addPaced B (.inl none) M9 φ) 0 0 0 [(0, .ref a), (1, .int l1), (2, .int l2), (3, .int l3)] [] M φ := by
  unfold f_S_addPaced at h
  refine a_aload_n (j := 0) hB e_S_addPaced_0 rfl rfl ?_
  refine a_getI (k := 9) hB e_S_addPaced_1 fl_S_44 (sv_lt hs_a hF (by decide)) (sv_kd hs_a) (sv_t0 hs_a 0 (by decide)) ?_
  refine a_bipush (v := 20) hB e_S_addPaced_4 bp_20 ?_
  refine a_icmp_lt (tgt := 10) hB e_S_addPaced_6 (by decide) (fun c => ?_) (fun c => ?_)
  · have h := ip c h
    refine a_aload_n (j := 0) hB e_S_addPaced_10 rfl rfl ?_
    refine a_iload_n (j := 1) hB e_S_addPaced_11 rfl rfl ?_
    refine a_iload_n (j := 2) hB e_S_addPaced_12 rfl rfl ?_
    refine a_iconst (v := 0) hB e_S_addPaced_13 ic_0 ?_
    refine a_iconst (v := 0) hB e_S_addPaced_14 ic_0 ?_
    refine a_iconst (v := 0) hB e_S_addPaced_15 ic_0 ?_
    refine a_iconst (v := 0) hB e_S_addPaced_16 ic_0 ?_
    refine a_bipush (v := 15) hB e_S_addPaced_17 bp_15 ?_
    obtain ⟨M19, hr19, h⟩ := bn_i h
    refine a_ret (v := none) (M1 := M19) (φ1 := φ) (st1 := []) (j1 := 0) (j2 := 0) (ar_V (As := [.int l1, .int l2, .int (0 : Int32), .int (0 : Int32), .int (0 : Int32), .int (0 : Int32), .int (15 : Int32)]) (rest := []) hB (c_S_addChained (bf_G hB) hF hs_a hr19) ml_S_54 md_S_addChained rc_S_addChained (sv_lt hs_a hF (by decide)) (sv_kd hs_a) rfl rfl (Nat.le_of_ble_eq_true rfl) rm_S_addPaced_S_addChained e_S_addPaced_19) rfl rfl rfl ?_
    refine a_aload_n (j := 0) hB e_S_addPaced_22 rfl rfl ?_
    refine a_getR (r := a + 1 + 2) (k := 2) hB e_S_addPaced_23 fl_S_18 (sv_lt hs_a hF (by decide)) (sv_kd hs_a) (sv_t hs_a 2 (by decide)) (hF.1 _ _) ?_
    refine a_aload_n (j := 0) hB e_S_addPaced_26 rfl rfl ?_
    refine a_getI (k := 9) hB e_S_addPaced_27 fl_S_44 (sv_lt hs_a hF (by decide)) (sv_kd hs_a) (sv_t0 hs_a 0 (by decide)) ?_
    refine a_iconst (v := 1) hB e_S_addPaced_30 ic_1 ?_
    refine a_isub hB e_S_addPaced_31 ?_
    refine a_iconst (v := 1) hB e_S_addPaced_32 ic_1 ?_
    obtain ⟨c33, h⟩ := chk_i h
    obtain ⟨M33, hM33, h⟩ := bm_i h
    refine a_zast' hB e_S_addPaced_33 (sv_la hs_a hF (by decide) 2 (by decide)) (sv_kz hs_a) (sv_ln hs_a 2 (by decide)) c33 (Or.inr rfl) ?_
    refine a_mem hM33 ?_
    refine a_aload_n (j := 0) hB e_S_addPaced_34 rfl rfl ?_
    refine a_getR (r := a + 1 + 3) (k := 3) hB e_S_addPaced_35 fl_S_22 (sv_lt hs_a hF (by decide)) (sv_kd hs_a) (sv_t hs_a 3 (by decide)) (hF.1 _ _) ?_
    refine a_aload_n (j := 0) hB e_S_addPaced_38 rfl rfl ?_
    refine a_getI (k := 9) hB e_S_addPaced_39 fl_S_44 (sv_lt hs_a hF (by decide)) (sv_kd hs_a) (sv_t0 hs_a 0 (by decide)) ?_
    refine a_iconst (v := 1) hB e_S_addPaced_42 ic_1 ?_
    refine a_isub hB e_S_addPaced_43 ?_
    refine a_iload_n (j := 3) hB e_S_addPaced_44 rfl rfl ?_
    obtain ⟨c45, h⟩ := chk_i h
    obtain ⟨M45, hM45, h⟩ := bm_i h
    refine a_iast' hB e_S_addPaced_45 (sv_la hs_a hF (by decide) 3 (by decide)) (sv_ki hs_a 3 (by decide) (by decide)) (sv_ln hs_a 3 (by decide)) c45 ?_
    refine a_mem hM45 ?_
    cases h
    exact a_vret hB rfl e_S_addPaced_46 (by decide) (by decide)
  · have h := iq c h
    cases h
    exact a_vret hB rfl e_S_addPaced_9 (by decide) (by decide)
set_option maxRecDepth 100000 in
theorem c_S_addPaced {G : Gt} (hG : GOK G) {φ : Ph} (hF : SF 134 φ) {a : Nat} (hs_a : isSv a) {M : Mm} {l1 : Int32} {l2 : Int32} {l3 : Int32} {M9 : Mm} (h : f_S_addPaced a l1 l2 l3 M = some M9) : CT G I_S_addPaced [.ref a, .int l1, .int l2, .int l3] M φ (.inl none) M9 φ :=
  ct_of hG (by decide) (Nat.le_of_ble_eq_true rfl) (fun B hB => t_S_addPaced hB hF hs_a h)
set_option maxRecDepth 100000 in
set_option maxHeartbeats 4000000 in
theorem t_S_hasBog_2 {G : Gt} {φ : Ph} {B : Bag} (hB : BF G I_S_hasBog B) (hF : SF 134 φ) {a : Nat} (hs_a : isSv a) {M : Mm} {o : Int32} : ∀ (n : Nat) (l1 : Int32), f_S_hasBog_2 a M n l1 = some o → AW G I_S_hasBog B (QM G I_S_hasBog B (.inl (some (.int o))) M φ) 0 0 2 [(0, .ref a), (1, .int l1)] [] M φ := by
  intro n
  induction n with
  | zero => intro l1 h; cases h
  | succ n hr2 =>
    intro l1 h
    rw [f_S_hasBog_2] at h
    refine a_iload_n (j := 1) hB e_S_hasBog_2 rfl rfl ?_
    refine a_aload_n (j := 0) hB e_S_hasBog_3 rfl rfl ?_
    refine a_getI (k := 9) hB e_S_hasBog_4 fl_S_44 (sv_lt hs_a hF (by decide)) (sv_kd hs_a) (sv_t0 hs_a 0 (by decide)) ?_
    refine a_icmp_ge (tgt := 27) hB e_S_hasBog_7 (by decide) (fun c => ?_) (fun c => ?_)
    · have h := ip c h
      refine a_iconst (v := 0) hB e_S_hasBog_27 ic_0 ?_
      cases h
      exact a_zret hB rfl (Or.inl rfl) e_S_hasBog_28 (by decide) (by decide)
    · have h := iq c h
      refine a_aload_n (j := 0) hB e_S_hasBog_10 rfl rfl ?_
      refine a_getR (r := a + 1 + 2) (k := 2) hB e_S_hasBog_11 fl_S_18 (sv_lt hs_a hF (by decide)) (sv_kd hs_a) (sv_t hs_a 2 (by decide)) (hF.1 _ _) ?_
      refine a_iload_n (j := 1) hB e_S_hasBog_14 rfl rfl ?_
      obtain ⟨c15, h⟩ := chk_i h
      refine a_zald' hB e_S_hasBog_15 (sv_la hs_a hF (by decide) 2 (by decide)) (sv_kz hs_a) (sv_ln hs_a 2 (by decide)) c15 ?_
      refine a_if_eq (tgt := 21) hB e_S_hasBog_16 (by decide) (fun c => ?_) (fun c => ?_)
      · have h := ip c h
        refine a_iinc (j := 1) (v := l1 + 1) (ls' := [(1, .int (l1 + 1)), (0, .ref a)]) hB e_S_hasBog_21 rfl (inc_1 _) (Nat.le_of_ble_eq_true rfl) rfl ?_
        refine a_goto (tgt := 2) hB e_S_hasBog_24 (by decide) ?_
        refine a_ls [1, 0] (ls' := [(0, .ref a), (1, .int (l1 + 1))]) rfl ?_
        exact hr2 _ h
      · have h := iq c h
        refine a_iconst (v := 1) hB e_S_hasBog_19 ic_1 ?_
        cases h
        exact a_zret hB rfl (Or.inr rfl) e_S_hasBog_20 (by decide) (by decide)
set_option maxRecDepth 100000 in
set_option maxHeartbeats 4000000 in
theorem t_S_hasBog {G : Gt} {φ : Ph} {B : Bag} (hB : BF G I_S_hasBog B) (hF : SF 134 φ) {a : Nat} (hs_a : isSv a) {M : Mm} {o : Int32}   (h : f_S_hasBog a M = some o) : AW G I_S_hasBog B (QM G I_S_hasBog B (.inl (some (.int o))) M φ) 0 0 0 [(0, .ref a)] [] M φ := by
  unfold f_S_hasBog at h
  refine a_iconst (v := 0) hB e_S_hasBog_0 ic_0 ?_
  refine a_istore_n (ls' := [(1, .int (0 : Int32)), (0, .ref a)]) hB e_S_hasBog_1 rfl (Nat.le_of_ble_eq_true rfl) rfl ?_
  refine a_ls [1, 0] (ls' := [(0, .ref a), (1, .int (0 : Int32))]) rfl ?_
  exact t_S_hasBog_2 hB hF hs_a _ _ h
set_option maxRecDepth 100000 in
theorem c_S_hasBog {G : Gt} (hG : GOK G) {φ : Ph} (hF : SF 134 φ) {a : Nat} (hs_a : isSv a) {M : Mm}  {o : Int32} (h : f_S_hasBog a M = some o) : CT G I_S_hasBog [.ref a] M φ (.inl (some (.int o))) M φ :=
  ct_of hG (by decide) (Nat.le_of_ble_eq_true rfl) (fun B hB => t_S_hasBog hB hF hs_a h)
set_option maxRecDepth 100000 in
set_option maxHeartbeats 4000000 in
theorem t_S_legNamed_2 {G : Gt} {φ : Ph} {B : Bag} (hB : BF G I_S_legNamed B) (hF : SF 134 φ) {a : Nat} (hs_a : isSv a) {M : Mm} {o : Int32} : ∀ (n : Nat) (l1 : Int32) (l2 : Int32), f_S_legNamed_2 a M n l1 l2 = some o → AW G I_S_legNamed B (QM G I_S_legNamed B (.inl (some (.int o))) M φ) 0 0 2 [(0, .ref a), (1, .int l1), (2, .int l2)] [] M φ := by
  intro n
  induction n with
  | zero => intro l1 l2 h; cases h
  | succ n hr2 =>
    intro l1 l2 h
    rw [f_S_legNamed_2] at h
    refine a_iload_n (j := 2) hB e_S_legNamed_2 rfl rfl ?_
    refine a_aload_n (j := 0) hB e_S_legNamed_3 rfl rfl ?_
    refine a_getI (k := 9) hB e_S_legNamed_4 fl_S_44 (sv_lt hs_a hF (by decide)) (sv_kd hs_a) (sv_t0 hs_a 0 (by decide)) ?_
    refine a_icmp_ge (tgt := 28) hB e_S_legNamed_7 (by decide) (fun c => ?_) (fun c => ?_)
    · have h := ip c h
      refine a_iconst (v := -1) hB e_S_legNamed_28 ic_m1 ?_
      cases h
      exact a_iret hB rfl e_S_legNamed_29 (by decide) (by decide)
    · have h := iq c h
      refine a_aload_n (j := 0) hB e_S_legNamed_10 rfl rfl ?_
      refine a_getR (r := a + 1 + 0) (k := 0) hB e_S_legNamed_11 fl_S_9 (sv_lt hs_a hF (by decide)) (sv_kd hs_a) (sv_t hs_a 0 (by decide)) (hF.1 _ _) ?_
      refine a_iload_n (j := 2) hB e_S_legNamed_14 rfl rfl ?_
      obtain ⟨c15, h⟩ := chk_i h
      refine a_iald' hB e_S_legNamed_15 (sv_la hs_a hF (by decide) 0 (by decide)) (sv_ki hs_a 0 (by decide) (by decide)) (sv_ln hs_a 0 (by decide)) c15 ?_
      refine a_iload_n (j := 1) hB e_S_legNamed_16 rfl rfl ?_
      refine a_icmp_ne (tgt := 22) hB e_S_legNamed_17 (by decide) (fun c => ?_) (fun c => ?_)
      · have h := iq c h
        refine a_iinc (j := 2) (v := l2 + 1) (ls' := [(2, .int (l2 + 1)), (0, .ref a), (1, .int l1)]) hB e_S_legNamed_22 rfl (inc_1 _) (Nat.le_of_ble_eq_true rfl) rfl ?_
        refine a_goto (tgt := 2) hB e_S_legNamed_25 (by decide) ?_
        refine a_ls [1, 2, 0] (ls' := [(0, .ref a), (1, .int l1), (2, .int (l2 + 1))]) rfl ?_
        exact hr2 _ _ h
      · have h := ip c h
        refine a_iload_n (j := 2) hB e_S_legNamed_20 rfl rfl ?_
        cases h
        exact a_iret hB rfl e_S_legNamed_21 (by decide) (by decide)
set_option maxRecDepth 100000 in
set_option maxHeartbeats 4000000 in
theorem t_S_legNamed {G : Gt} {φ : Ph} {B : Bag} (hB : BF G I_S_legNamed B) (hF : SF 134 φ) {a : Nat} (hs_a : isSv a) {M : Mm} {o : Int32} {l1 : Int32}  (h : f_S_legNamed a M l1 = some o) : AW G I_S_legNamed B (QM G I_S_legNamed B (.inl (some (.int o))) M φ) 0 0 0 [(0, .ref a), (1, .int l1)] [] M φ := by
  unfold f_S_legNamed at h
  refine a_iconst (v := 0) hB e_S_legNamed_0 ic_0 ?_
  refine a_istore_n (ls' := [(2, .int (0 : Int32)), (0, .ref a), (1, .int l1)]) hB e_S_legNamed_1 rfl (Nat.le_of_ble_eq_true rfl) rfl ?_
  refine a_ls [1, 2, 0] (ls' := [(0, .ref a), (1, .int l1), (2, .int (0 : Int32))]) rfl ?_
  exact t_S_legNamed_2 hB hF hs_a _ _ _ h
set_option maxRecDepth 100000 in
theorem c_S_legNamed {G : Gt} (hG : GOK G) {φ : Ph} (hF : SF 134 φ) {a : Nat} (hs_a : isSv a) {M : Mm} {l1 : Int32} {o : Int32} (h : f_S_legNamed a M l1 = some o) : CT G I_S_legNamed [.ref a, .int l1] M φ (.inl (some (.int o))) M φ :=
  ct_of hG (by decide) (Nat.le_of_ble_eq_true rfl) (fun B hB => t_S_legNamed hB hF hs_a h)
set_option maxRecDepth 100000 in
set_option maxHeartbeats 4000000 in
theorem t_S_canDrop_25 {G : Gt} {φ : Ph} {B : Bag} (hB : BF G I_S_canDrop B) (hF : SF 134 φ) {a : Nat} (hs_a : isSv a) {M : Mm} {o : Int32} {t0 : Int32}  (h : f_S_canDrop_25 a M t0 = some o) : AW G I_S_canDrop B (QM G I_S_canDrop B (.inl (some (.int o))) M φ) 0 0 25 [] [.int t0] M φ := by
  unfold f_S_canDrop_25 at h
  obtain ⟨z25, h⟩ := chk_i h
  cases h
  exact a_zret hB rfl z25 e_S_canDrop_25 (by decide) (by decide)
set_option maxRecDepth 100000 in
set_option maxHeartbeats 4000000 in
theorem t_S_canDrop_24 {G : Gt} {φ : Ph} {B : Bag} (hB : BF G I_S_canDrop B) (hF : SF 134 φ) {a : Nat} (hs_a : isSv a) {M : Mm} {o : Int32}   (h : f_S_canDrop_24 a M = some o) : AW G I_S_canDrop B (QM G I_S_canDrop B (.inl (some (.int o))) M φ) 0 0 24 [] [] M φ := by
  unfold f_S_canDrop_24 at h
  refine a_iconst (v := 0) hB e_S_canDrop_24 ic_0 ?_
  exact t_S_canDrop_25 hB hF hs_a h
set_option maxRecDepth 100000 in
set_option maxHeartbeats 4000000 in
theorem t_S_canDrop {G : Gt} {φ : Ph} {B : Bag} (hB : BF G I_S_canDrop B) (hF : SF 134 φ) {a : Nat} (hs_a : isSv a) {M : Mm} {o : Int32} {l1 : Int32}  (h : f_S_canDrop a M l1 = some o) : AW G I_S_canDrop B (QM G I_S_canDrop B (.inl (some (.int o))) M φ) 0 0 0 [(0, .ref a), (1, .int l1)] [] M φ := by
  unfold f_S_canDrop at h
  refine a_aload_n (j := 0) hB e_S_canDrop_0 rfl rfl ?_
  refine a_getR (r := a + 1 + 2) (k := 2) hB e_S_canDrop_1 fl_S_18 (sv_lt hs_a hF (by decide)) (sv_kd hs_a) (sv_t hs_a 2 (by decide)) (hF.1 _ _) ?_
  refine a_iload_n (j := 1) hB e_S_canDrop_4 rfl rfl ?_
  obtain ⟨c5, h⟩ := chk_i h
  refine a_zald' hB e_S_canDrop_5 (sv_la hs_a hF (by decide) 2 (by decide)) (sv_kz hs_a) (sv_ln hs_a 2 (by decide)) c5 ?_
  refine a_if_ne (tgt := 24) hB e_S_canDrop_6 (by decide) (fun c => ?_) (fun c => ?_)
  · have h := iq c h
    refine a_ls [] (ls' := []) rfl ?_
    exact t_S_canDrop_24 hB hF hs_a h
  · have h := ip c h
    refine a_aload_n (j := 0) hB e_S_canDrop_9 rfl rfl ?_
    refine a_getR (r := a + 1 + 6) (k := 6) hB e_S_canDrop_10 fl_S_31 (sv_lt hs_a hF (by decide)) (sv_kd hs_a) (sv_t hs_a 6 (by decide)) (hF.1 _ _) ?_
    refine a_iload_n (j := 1) hB e_S_canDrop_13 rfl rfl ?_
    refine a_iald' hB e_S_canDrop_14 (sv_la hs_a hF (by decide) 6 (by decide)) (sv_ki hs_a 6 (by decide) (by decide)) (sv_ln hs_a 6 (by decide)) c5 ?_
    refine a_bipush (v := 9) hB e_S_canDrop_15 bp_9 ?_
    refine a_icmp_ge (tgt := 24) hB e_S_canDrop_17 (by decide) (fun c => ?_) (fun c => ?_)
    · have h := ip c h
      refine a_ls [] (ls' := []) rfl ?_
      exact t_S_canDrop_24 hB hF hs_a h
    · have h := iq c h
      refine a_iconst (v := 1) hB e_S_canDrop_20 ic_1 ?_
      refine a_goto (tgt := 25) hB e_S_canDrop_21 (by decide) ?_
      refine a_ls [] (ls' := []) rfl ?_
      exact t_S_canDrop_25 hB hF hs_a h
set_option maxRecDepth 100000 in
theorem c_S_canDrop {G : Gt} (hG : GOK G) {φ : Ph} (hF : SF 134 φ) {a : Nat} (hs_a : isSv a) {M : Mm} {l1 : Int32} {o : Int32} (h : f_S_canDrop a M l1 = some o) : CT G I_S_canDrop [.ref a, .int l1] M φ (.inl (some (.int o))) M φ :=
  ct_of hG (by decide) (Nat.le_of_ble_eq_true rfl) (fun B hB => t_S_canDrop hB hF hs_a h)
set_option maxRecDepth 100000 in
set_option maxHeartbeats 4000000 in
theorem t_S_canFind_14 {G : Gt} {φ : Ph} {B : Bag} (hB : BF G I_S_canFind B) (hF : SF 134 φ) {a : Nat} (hs_a : isSv a) {M : Mm} {o : Int32} {t0 : Int32}  (h : f_S_canFind_14 a M t0 = some o) : AW G I_S_canFind B (QM G I_S_canFind B (.inl (some (.int o))) M φ) 0 0 14 [] [.int t0] M φ := by
  unfold f_S_canFind_14 at h
  obtain ⟨z14, h⟩ := chk_i h
  cases h
  exact a_zret hB rfl z14 e_S_canFind_14 (by decide) (by decide)
set_option maxRecDepth 100000 in
set_option maxHeartbeats 4000000 in
theorem t_S_canFind {G : Gt} {φ : Ph} {B : Bag} (hB : BF G I_S_canFind B) (hF : SF 134 φ) {a : Nat} (hs_a : isSv a) {M : Mm} {o : Int32} {l1 : Int32}  (h : f_S_canFind a M l1 = some o) : AW G I_S_canFind B (QM G I_S_canFind B (.inl (some (.int o))) M φ) 0 0 0 [(0, .ref a), (1, .int l1)] [] M φ := by
  unfold f_S_canFind at h
  refine a_aload_n (j := 0) hB e_S_canFind_0 rfl rfl ?_
  refine a_getR (r := a + 1 + 6) (k := 6) hB e_S_canFind_1 fl_S_31 (sv_lt hs_a hF (by decide)) (sv_kd hs_a) (sv_t hs_a 6 (by decide)) (hF.1 _ _) ?_
  refine a_iload_n (j := 1) hB e_S_canFind_4 rfl rfl ?_
  obtain ⟨c5, h⟩ := chk_i h
  refine a_iald' hB e_S_canFind_5 (sv_la hs_a hF (by decide) 6 (by decide)) (sv_ki hs_a 6 (by decide) (by decide)) (sv_ln hs_a 6 (by decide)) c5 ?_
  refine a_if_le (tgt := 13) hB e_S_canFind_6 (by decide) (fun c => ?_) (fun c => ?_)
  · have h := ip c h
    refine a_iconst (v := 0) hB e_S_canFind_13 ic_0 ?_
    refine a_ls [] (ls' := []) rfl ?_
    exact t_S_canFind_14 hB hF hs_a h
  · have h := iq c h
    refine a_iconst (v := 1) hB e_S_canFind_9 ic_1 ?_
    refine a_goto (tgt := 14) hB e_S_canFind_10 (by decide) ?_
    refine a_ls [] (ls' := []) rfl ?_
    exact t_S_canFind_14 hB hF hs_a h
set_option maxRecDepth 100000 in
theorem c_S_canFind {G : Gt} (hG : GOK G) {φ : Ph} (hF : SF 134 φ) {a : Nat} (hs_a : isSv a) {M : Mm} {l1 : Int32} {o : Int32} (h : f_S_canFind a M l1 = some o) : CT G I_S_canFind [.ref a, .int l1] M φ (.inl (some (.int o))) M φ :=
  ct_of hG (by decide) (Nat.le_of_ble_eq_true rfl) (fun B hB => t_S_canFind hB hF hs_a h)
set_option maxRecDepth 100000 in
set_option maxHeartbeats 4000000 in
theorem t_S_readUnits {G : Gt} {φ : Ph} {B : Bag} (hB : BF G I_S_readUnits B) (hF : SF 134 φ) {a : Nat} (hs_a : isSv a) {M : Mm} {o : Int32} {l1 : Int32}  (h : f_S_readUnits a M l1 = some o) : AW G I_S_readUnits B (QM G I_S_readUnits B (.inl (some (.int o))) M φ) 0 0 0 [(0, .ref a), (1, .int l1)] [] M φ := by
  unfold f_S_readUnits at h
  refine a_aload_n (j := 0) hB e_S_readUnits_0 rfl rfl ?_
  refine a_getR (r := a + 1 + 2) (k := 2) hB e_S_readUnits_1 fl_S_18 (sv_lt hs_a hF (by decide)) (sv_kd hs_a) (sv_t hs_a 2 (by decide)) (hF.1 _ _) ?_
  refine a_iload_n (j := 1) hB e_S_readUnits_4 rfl rfl ?_
  obtain ⟨c5, h⟩ := chk_i h
  refine a_zald' hB e_S_readUnits_5 (sv_la hs_a hF (by decide) 2 (by decide)) (sv_kz hs_a) (sv_ln hs_a 2 (by decide)) c5 ?_
  refine a_if_eq (tgt := 21) hB e_S_readUnits_6 (by decide) (fun c => ?_) (fun c => ?_)
  · have h := ip c h
    refine a_aload_n (j := 0) hB e_S_readUnits_21 rfl rfl ?_
    refine a_getR (r := a + 1 + 4) (k := 4) hB e_S_readUnits_22 fl_S_25 (sv_lt hs_a hF (by decide)) (sv_kd hs_a) (sv_t hs_a 4 (by decide)) (hF.1 _ _) ?_
    refine a_iload_n (j := 1) hB e_S_readUnits_25 rfl rfl ?_
    refine a_iald' hB e_S_readUnits_26 (sv_la hs_a hF (by decide) 4 (by decide)) (sv_ki hs_a 4 (by decide) (by decide)) (sv_ln hs_a 4 (by decide)) c5 ?_
    refine a_aload_n (j := 0) hB e_S_readUnits_27 rfl rfl ?_
    refine a_getR (r := a + 1 + 6) (k := 6) hB e_S_readUnits_28 fl_S_31 (sv_lt hs_a hF (by decide)) (sv_kd hs_a) (sv_t hs_a 6 (by decide)) (hF.1 _ _) ?_
    refine a_iload_n (j := 1) hB e_S_readUnits_31 rfl rfl ?_
    refine a_iald' hB e_S_readUnits_32 (sv_la hs_a hF (by decide) 6 (by decide)) (sv_ki hs_a 6 (by decide) (by decide)) (sv_ln hs_a 6 (by decide)) c5 ?_
    refine a_iadd hB e_S_readUnits_33 ?_
    refine a_sipush (v := 10000) hB e_S_readUnits_34 sp_10000 ?_
    refine a_imul hB e_S_readUnits_37 ?_
    refine a_aload_n (j := 0) hB e_S_readUnits_38 rfl rfl ?_
    refine a_getR (r := a + 1 + 5) (k := 5) hB e_S_readUnits_39 fl_S_28 (sv_lt hs_a hF (by decide)) (sv_kd hs_a) (sv_t hs_a 5 (by decide)) (hF.1 _ _) ?_
    refine a_iload_n (j := 1) hB e_S_readUnits_42 rfl rfl ?_
    refine a_iald' hB e_S_readUnits_43 (sv_la hs_a hF (by decide) 5 (by decide)) (sv_ki hs_a 5 (by decide) (by decide)) (sv_ln hs_a 5 (by decide)) c5 ?_
    refine a_bipush (v := 100) hB e_S_readUnits_44 bp_100 ?_
    refine a_imul hB e_S_readUnits_46 ?_
    refine a_iadd hB e_S_readUnits_47 ?_
    cases h
    exact a_iret hB rfl e_S_readUnits_48 (by decide) (by decide)
  · have h := iq c h
    refine a_aload_n (j := 0) hB e_S_readUnits_9 rfl rfl ?_
    refine a_getR (r := a + 1 + 3) (k := 3) hB e_S_readUnits_10 fl_S_22 (sv_lt hs_a hF (by decide)) (sv_kd hs_a) (sv_t hs_a 3 (by decide)) (hF.1 _ _) ?_
    refine a_iload_n (j := 1) hB e_S_readUnits_13 rfl rfl ?_
    refine a_iald' hB e_S_readUnits_14 (sv_la hs_a hF (by decide) 3 (by decide)) (sv_ki hs_a 3 (by decide) (by decide)) (sv_ln hs_a 3 (by decide)) c5 ?_
    refine a_aload_n (j := 0) hB e_S_readUnits_15 rfl rfl ?_
    refine a_getI (k := 11) hB e_S_readUnits_16 fl_S_40 (sv_lt hs_a hF (by decide)) (sv_kd hs_a) (sv_t0 hs_a 2 (by decide)) ?_
    refine a_imul hB e_S_readUnits_19 ?_
    cases h
    exact a_iret hB rfl e_S_readUnits_20 (by decide) (by decide)
set_option maxRecDepth 100000 in
theorem c_S_readUnits {G : Gt} (hG : GOK G) {φ : Ph} (hF : SF 134 φ) {a : Nat} (hs_a : isSv a) {M : Mm} {l1 : Int32} {o : Int32} (h : f_S_readUnits a M l1 = some o) : CT G I_S_readUnits [.ref a, .int l1] M φ (.inl (some (.int o))) M φ :=
  ct_of hG (by decide) (Nat.le_of_ble_eq_true rfl) (fun B hB => t_S_readUnits hB hF hs_a h)
set_option maxRecDepth 100000 in
set_option maxHeartbeats 4000000 in
theorem t_S_slopeUnits_53 {G : Gt} {φ : Ph} {B : Bag} (hB : BF G I_S_slopeUnits B) (hF : SF 134 φ) {a : Nat} (hs_a : isSv a) {M : Mm} {o : Int32} {l2 : Int64}  (h : f_S_slopeUnits_53 a M l2 = some o) : AW G I_S_slopeUnits B (QM G I_S_slopeUnits B (.inl (some (.int o))) M φ) 0 0 53 [(2, .long l2)] [] M φ := by
  unfold f_S_slopeUnits_53 at h
  refine a_lload_n (j := 0) hB e_S_slopeUnits_53 rfl rfl ?_
  refine a_l2i hB e_S_slopeUnits_54 ?_
  cases h
  exact a_iret hB rfl e_S_slopeUnits_55 (by decide) (by decide)
set_option maxRecDepth 100000 in
set_option maxHeartbeats 4000000 in
theorem t_S_slopeUnits {G : Gt} {φ : Ph} {B : Bag} (hB : BF G I_S_slopeUnits B) (hF : SF 134 φ) {a : Nat} (hs_a : isSv a) {M : Mm} {o : Int32} {l1 : Int32}  (h : f_S_slopeUnits a M l1 = some o) : AW G I_S_slopeUnits B (QM G I_S_slopeUnits B (.inl (some (.int o))) M φ) 0 0 0 [(0, .ref a), (1, .int l1)] [] M φ := by
  unfold f_S_slopeUnits at h
  refine a_aload_n (j := 0) hB e_S_slopeUnits_0 rfl rfl ?_
  refine a_iload_n (j := 1) hB e_S_slopeUnits_1 rfl rfl ?_
  obtain ⟨r2, hr2, h⟩ := bn_i h
  refine a_ret (v := (some (.int r2))) (M1 := M) (φ1 := φ) (st1 := [.int r2]) (j1 := 0) (j2 := 0) (ar_V (As := [.int l1]) (rest := []) hB (c_S_readUnits (bf_G hB) hF hs_a hr2) ml_S_58 md_S_readUnits rc_S_readUnits (sv_lt hs_a hF (by decide)) (sv_kd hs_a) rfl rfl (Nat.le_of_ble_eq_true rfl) rm_S_slopeUnits_S_readUnits e_S_slopeUnits_2) rfl rfl rfl ?_
  refine a_i2l hB e_S_slopeUnits_5 ?_
  refine a_lstore_n (ls' := [(2, .long r2.toInt64), (0, .ref a), (1, .int l1)]) hB e_S_slopeUnits_6 rfl (Nat.le_of_ble_eq_true rfl) rfl ?_
  refine a_aload_n (j := 1) hB e_S_slopeUnits_7 rfl rfl ?_
  refine a_getR (r := a + 1 + 2) (k := 2) hB e_S_slopeUnits_8 fl_S_18 (sv_lt hs_a hF (by decide)) (sv_kd hs_a) (sv_t hs_a 2 (by decide)) (hF.1 _ _) ?_
  refine a_iload_n (j := 2) hB e_S_slopeUnits_11 rfl rfl ?_
  obtain ⟨c12, h⟩ := chk_i h
  refine a_zald' hB e_S_slopeUnits_12 (sv_la hs_a hF (by decide) 2 (by decide)) (sv_kz hs_a) (sv_ln hs_a 2 (by decide)) c12 ?_
  refine a_if_ne (tgt := 53) hB e_S_slopeUnits_13 (by decide) (fun c => ?_) (fun c => ?_)
  · have h := iq c h
    refine a_ls [0] (ls' := [(2, .long r2.toInt64)]) rfl ?_
    exact t_S_slopeUnits_53 hB hF hs_a h
  · have h := ip c h
    refine a_lload_n (j := 0) hB e_S_slopeUnits_16 rfl rfl ?_
    refine a_lload_n (j := 0) hB e_S_slopeUnits_17 rfl rfl ?_
    refine a_aload_n (j := 1) hB e_S_slopeUnits_18 rfl rfl ?_
    refine a_getI (k := 10) hB e_S_slopeUnits_19 fl_S_51 (sv_lt hs_a hF (by decide)) (sv_kd hs_a) (sv_t0 hs_a 1 (by decide)) ?_
    refine a_i2l hB e_S_slopeUnits_22 ?_
    refine a_lmul hB e_S_slopeUnits_23 ?_
    refine a_ldc2 (v := 10000) hB cj_S_62 e_S_slopeUnits_24 ?_
    refine a_ldiv hB e_S_slopeUnits_27 (by decide) ?_
    refine a_ladd hB e_S_slopeUnits_28 ?_
    refine a_lstore_n (ls' := [(2, .long (r2.toInt64 + ((r2.toInt64 * ((M a 10).toInt64)) / (10000 : Int64)))), (0, .ref a), (1, .int l1)]) hB e_S_slopeUnits_29 rfl (Nat.le_of_ble_eq_true rfl) rfl ?_
    refine a_lload_n (j := 0) hB e_S_slopeUnits_30 rfl rfl ?_
    refine a_lload_n (j := 0) hB e_S_slopeUnits_31 rfl rfl ?_
    refine a_aload_n (j := 1) hB e_S_slopeUnits_32 rfl rfl ?_
    refine a_getR (r := a + 1 + 8) (k := 8) hB e_S_slopeUnits_33 fl_S_37 (sv_lt hs_a hF (by decide)) (sv_kd hs_a) (sv_t hs_a 8 (by decide)) (hF.1 _ _) ?_
    refine a_iload_n (j := 2) hB e_S_slopeUnits_36 rfl rfl ?_
    refine a_iald' hB e_S_slopeUnits_37 (sv_la hs_a hF (by decide) 8 (by decide)) (sv_ki hs_a 8 (by decide) (by decide)) (sv_ln hs_a 8 (by decide)) c12 ?_
    refine a_bipush (v := 15) hB e_S_slopeUnits_38 bp_15 ?_
    refine a_isub hB e_S_slopeUnits_40 ?_
    refine a_i2l hB e_S_slopeUnits_41 ?_
    refine a_lmul hB e_S_slopeUnits_42 ?_
    refine a_ldc2 (v := 12) hB cj_S_64 e_S_slopeUnits_43 ?_
    refine a_lmul hB e_S_slopeUnits_46 ?_
    refine a_ldc2 (v := 1000000) hB cj_S_66 e_S_slopeUnits_47 ?_
    refine a_ldiv hB e_S_slopeUnits_50 (by decide) ?_
    refine a_ladd hB e_S_slopeUnits_51 ?_
    refine a_lstore_n (ls' := [(2, .long ((r2.toInt64 + ((r2.toInt64 * ((M a 10).toInt64)) / (10000 : Int64))) + ((((r2.toInt64 + ((r2.toInt64 * ((M a 10).toInt64)) / (10000 : Int64))) * (((M (a + 1 + 8) (ix l1)) - (15 : Int32)).toInt64)) * (12 : Int64)) / (1000000 : Int64)))), (0, .ref a), (1, .int l1)]) hB e_S_slopeUnits_52 rfl (Nat.le_of_ble_eq_true rfl) rfl ?_
    refine a_ls [0] (ls' := [(2, .long ((r2.toInt64 + ((r2.toInt64 * ((M a 10).toInt64)) / (10000 : Int64))) + ((((r2.toInt64 + ((r2.toInt64 * ((M a 10).toInt64)) / (10000 : Int64))) * (((M (a + 1 + 8) (ix l1)) - (15 : Int32)).toInt64)) * (12 : Int64)) / (1000000 : Int64))))]) rfl ?_
    exact t_S_slopeUnits_53 hB hF hs_a h
set_option maxRecDepth 100000 in
theorem c_S_slopeUnits {G : Gt} (hG : GOK G) {φ : Ph} (hF : SF 134 φ) {a : Nat} (hs_a : isSv a) {M : Mm} {l1 : Int32} {o : Int32} (h : f_S_slopeUnits a M l1 = some o) : CT G I_S_slopeUnits [.ref a, .int l1] M φ (.inl (some (.int o))) M φ :=
  ct_of hG (by decide) (Nat.le_of_ble_eq_true rfl) (fun B hB => t_S_slopeUnits hB hF hs_a h)
set_option maxRecDepth 100000 in
set_option maxHeartbeats 4000000 in
theorem t_C_root_30 {G : Gt} {φ : Ph} {B : Bag} (hB : BF G I_C_root B) (hF : SF 134 φ)   {M : Mm} {o : Int32} {r6 : Int64 → Int32 → Int32 → Option Int32} (hr6 : ∀ (l0 : Int64) (l2 : Int32) (l3 : Int32), r6 l0 l2 l3 = some o → AW G I_C_root B (QM G I_C_root B (.inl (some (.int o))) M φ) 0 0 6 [(0, .long l0), (2, .int l2), (3, .int l3)] [] M φ) {l0 : Int64} {l2 : Int32} {l3 : Int32}  (h : f_C_root_30 r6 l0 l2 l3 = some o) : AW G I_C_root B (QM G I_C_root B (.inl (some (.int o))) M φ) 0 0 30 [(0, .long l0), (2, .int l2), (3, .int l3)] [] M φ := by
  unfold f_C_root_30 at h
  refine a_iload_n (j := 2) hB e_C_root_30 rfl rfl ?_
  refine a_iconst (v := 1) hB e_C_root_31 ic_1 ?_
  refine a_ishr hB e_C_root_32 ?_
  refine a_istore_n (ls' := [(3, .int (l3 >>> ((1 : Int32) &&& 31))), (0, .long l0), (2, .int l2)]) hB e_C_root_33 rfl (Nat.le_of_ble_eq_true rfl) rfl ?_
  refine a_goto (tgt := 6) hB e_C_root_34 (by decide) ?_
  refine a_ls [1, 2, 0] (ls' := [(0, .long l0), (2, .int l2), (3, .int (l3 >>> ((1 : Int32) &&& 31)))]) rfl ?_
  exact hr6 _ _ _ h
set_option maxRecDepth 100000 in
set_option maxHeartbeats 4000000 in
theorem t_C_root_6 {G : Gt} {φ : Ph} {B : Bag} (hB : BF G I_C_root B) (hF : SF 134 φ)   {M : Mm} {o : Int32} : ∀ (n : Nat) (l0 : Int64) (l2 : Int32) (l3 : Int32), f_C_root_6 n l0 l2 l3 = some o → AW G I_C_root B (QM G I_C_root B (.inl (some (.int o))) M φ) 0 0 6 [(0, .long l0), (2, .int l2), (3, .int l3)] [] M φ := by
  intro n
  induction n with
  | zero => intro l0 l2 l3 h; cases h
  | succ n hr6 =>
    intro l0 l2 l3 h
    rw [f_C_root_6] at h
    refine a_iload_n (j := 2) hB e_C_root_6 rfl rfl ?_
    refine a_if_le (tgt := 37) hB e_C_root_7 (by decide) (fun c => ?_) (fun c => ?_)
    · have h := ip c h
      refine a_iload_n (j := 1) hB e_C_root_37 rfl rfl ?_
      cases h
      exact a_iret hB rfl e_C_root_38 (by decide) (by decide)
    · have h := iq c h
      refine a_iload_n (j := 1) hB e_C_root_10 rfl rfl ?_
      refine a_iload_n (j := 2) hB e_C_root_11 rfl rfl ?_
      refine a_ior hB e_C_root_12 ?_
      refine a_i2l hB e_C_root_13 ?_
      refine a_lstore (ls' := [(4, .long ((l2 ||| l3).toInt64)), (0, .long l0), (2, .int l2), (3, .int l3)]) hB e_C_root_14 (Nat.le_of_ble_eq_true rfl) rfl ?_
      refine a_lload (j := 0) hB e_C_root_16 rfl ?_
      refine a_lload (j := 0) hB e_C_root_18 rfl ?_
      refine a_lmul hB e_C_root_20 ?_
      refine a_lload_n (j := 1) hB e_C_root_21 rfl rfl ?_
      refine a_lcmp hB e_C_root_22 ?_
      refine a_if_gt (tgt := 30) hB e_C_root_23 (by decide) (fun c => ?_) (fun c => ?_)
      · have h := ip c h
        refine a_ls [1, 2, 3] (ls' := [(0, .long l0), (2, .int l2), (3, .int l3)]) rfl ?_
        exact t_C_root_30 hB hF hr6 h
      · have h := iq c h
        refine a_iload_n (j := 2) hB e_C_root_26 rfl rfl ?_
        refine a_iload_n (j := 3) hB e_C_root_27 rfl rfl ?_
        refine a_ior hB e_C_root_28 ?_
        refine a_istore_n (ls' := [(2, .int (l2 ||| l3)), (4, .long ((l2 ||| l3).toInt64)), (0, .long l0), (3, .int l3)]) hB e_C_root_29 rfl (Nat.le_of_ble_eq_true rfl) rfl ?_
        refine a_ls [2, 0, 3] (ls' := [(0, .long l0), (2, .int (l2 ||| l3)), (3, .int l3)]) rfl ?_
        exact t_C_root_30 hB hF hr6 h
set_option maxRecDepth 100000 in
set_option maxHeartbeats 4000000 in
theorem t_C_root {G : Gt} {φ : Ph} {B : Bag} (hB : BF G I_C_root B) (hF : SF 134 φ)   {M : Mm} {o : Int32} {l0 : Int64}  (h : f_C_root l0 = some o) : AW G I_C_root B (QM G I_C_root B (.inl (some (.int o))) M φ) 0 0 0 [(0, .long l0)] [] M φ := by
  unfold f_C_root at h
  refine a_iconst (v := 0) hB e_C_root_0 ic_0 ?_
  refine a_istore_n (ls' := [(2, .int (0 : Int32)), (0, .long l0)]) hB e_C_root_1 rfl (Nat.le_of_ble_eq_true rfl) rfl ?_
  refine a_ldcw (v := 1073741824) hB cn_C_357 e_C_root_2 ?_
  refine a_istore_n (ls' := [(3, .int (1073741824 : Int32)), (2, .int (0 : Int32)), (0, .long l0)]) hB e_C_root_5 rfl (Nat.le_of_ble_eq_true rfl) rfl ?_
  refine a_ls [2, 1, 0] (ls' := [(0, .long l0), (2, .int (0 : Int32)), (3, .int (1073741824 : Int32))]) rfl ?_
  exact t_C_root_6 hB hF _ _ _ _ h
set_option maxRecDepth 100000 in
theorem c_C_root {G : Gt} (hG : GOK G) {φ : Ph} (hF : SF 134 φ)   {M : Mm} {l0 : Int64} {o : Int32} (h : f_C_root l0 = some o) : CT G I_C_root [.long l0] M φ (.inl (some (.int o))) M φ :=
  ct_of hG (by decide) (Nat.le_of_ble_eq_true rfl) (fun B hB => t_C_root hB hF  h)
set_option maxRecDepth 100000 in
set_option maxHeartbeats 4000000 in
theorem t_S_horizontalUnits_51 {G : Gt} {φ : Ph} {B : Bag} (hB : BF G I_S_horizontalUnits B) (hF : SF 134 φ) {a : Nat} (hs_a : isSv a) {M : Mm} {o : Int32} {t0 : Int32}  (h : f_S_horizontalUnits_51 a M t0 = some o) : AW G I_S_horizontalUnits B (QM G I_S_horizontalUnits B (.inl (some (.int o))) M φ) 0 0 51 [] [.int t0] M φ := by
  unfold f_S_horizontalUnits_51 at h
  cases h
  exact a_iret hB rfl e_S_horizontalUnits_51 (by decide) (by decide)
set_option maxRecDepth 100000 in
set_option maxHeartbeats 4000000 in
theorem t_S_horizontalUnits {G : Gt} {φ : Ph} {B : Bag} (hB : BF G I_S_horizontalUnits B) (hF : SF 134 φ) {a : Nat} (hs_a : isSv a) {M : Mm} {o : Int32} {l1 : Int32}  (h : f_S_horizontalUnits a M l1 = some o) : AW G I_S_horizontalUnits B (QM G I_S_horizontalUnits B (.inl (some (.int o))) M φ) 0 0 0 [(0, .ref a), (1, .int l1)] [] M φ := by
  unfold f_S_horizontalUnits at h
  refine a_aload_n (j := 0) hB e_S_horizontalUnits_0 rfl rfl ?_
  refine a_iload_n (j := 1) hB e_S_horizontalUnits_1 rfl rfl ?_
  obtain ⟨r2, hr2, h⟩ := bn_i h
  refine a_ret (v := (some (.int r2))) (M1 := M) (φ1 := φ) (st1 := [.int r2]) (j1 := 0) (j2 := 0) (ar_V (As := [.int l1]) (rest := []) hB (c_S_slopeUnits (bf_G hB) hF hs_a hr2) ml_S_68 md_S_slopeUnits rc_S_slopeUnits (sv_lt hs_a hF (by decide)) (sv_kd hs_a) rfl rfl (Nat.le_of_ble_eq_true rfl) rm_S_horizontalUnits_S_slopeUnits e_S_horizontalUnits_2) rfl rfl rfl ?_
  refine a_istore_n (ls' := [(2, .int r2), (0, .ref a), (1, .int l1)]) hB e_S_horizontalUnits_5 rfl (Nat.le_of_ble_eq_true rfl) rfl ?_
  refine a_aload_n (j := 1) hB e_S_horizontalUnits_6 rfl rfl ?_
  refine a_getR (r := a + 1 + 7) (k := 7) hB e_S_horizontalUnits_7 fl_S_34 (sv_lt hs_a hF (by decide)) (sv_kd hs_a) (sv_t hs_a 7 (by decide)) (hF.1 _ _) ?_
  refine a_iload_n (j := 2) hB e_S_horizontalUnits_10 rfl rfl ?_
  obtain ⟨c11, h⟩ := chk_i h
  refine a_iald' hB e_S_horizontalUnits_11 (sv_la hs_a hF (by decide) 7 (by decide)) (sv_ki hs_a 7 (by decide) (by decide)) (sv_ln hs_a 7 (by decide)) c11 ?_
  refine a_if_ne (tgt := 17) hB e_S_horizontalUnits_12 (by decide) (fun c => ?_) (fun c => ?_)
  · have h := iq c h
    refine a_aload_n (j := 1) hB e_S_horizontalUnits_17 rfl rfl ?_
    refine a_getR (r := a + 1 + 7) (k := 7) hB e_S_horizontalUnits_18 fl_S_34 (sv_lt hs_a hF (by decide)) (sv_kd hs_a) (sv_t hs_a 7 (by decide)) (hF.1 _ _) ?_
    refine a_iload_n (j := 2) hB e_S_horizontalUnits_21 rfl rfl ?_
    refine a_iald' hB e_S_horizontalUnits_22 (sv_la hs_a hF (by decide) 7 (by decide)) (sv_ki hs_a 7 (by decide) (by decide)) (sv_ln hs_a 7 (by decide)) c11 ?_
    refine a_bipush (v := 100) hB e_S_horizontalUnits_23 bp_100 ?_
    refine a_imul hB e_S_horizontalUnits_25 ?_
    refine a_i2l hB e_S_horizontalUnits_26 ?_
    refine a_lstore_n (ls' := [(3, .long (((M (a + 1 + 7) (ix l1)) * (100 : Int32)).toInt64)), (2, .int r2), (0, .ref a), (1, .int l1)]) hB e_S_horizontalUnits_27 rfl (Nat.le_of_ble_eq_true rfl) rfl ?_
    refine a_lload_n (j := 0) hB e_S_horizontalUnits_28 rfl rfl ?_
    refine a_iload_n (j := 1) hB e_S_horizontalUnits_29 rfl rfl ?_
    refine a_i2l hB e_S_horizontalUnits_30 ?_
    refine a_lcmp hB e_S_horizontalUnits_31 ?_
    refine a_if_le (tgt := 39) hB e_S_horizontalUnits_32 (by decide) (fun c => ?_) (fun c => ?_)
    · have h := ip c h
      refine a_iload_n (j := 1) hB e_S_horizontalUnits_39 rfl rfl ?_
      refine a_i2l hB e_S_horizontalUnits_40 ?_
      refine a_iload_n (j := 1) hB e_S_horizontalUnits_41 rfl rfl ?_
      refine a_i2l hB e_S_horizontalUnits_42 ?_
      refine a_lmul hB e_S_horizontalUnits_43 ?_
      refine a_lload_n (j := 0) hB e_S_horizontalUnits_44 rfl rfl ?_
      refine a_lload_n (j := 0) hB e_S_horizontalUnits_45 rfl rfl ?_
      refine a_lmul hB e_S_horizontalUnits_46 ?_
      refine a_lsub hB e_S_horizontalUnits_47 ?_
      obtain ⟨r48, hr48, h⟩ := bn_i h
      refine a_ret (v := (some (.int r48))) (M1 := M) (φ1 := φ) (st1 := [.int r48]) (j1 := 0) (j2 := 0) (ar_SN (As := [.long ((r2.toInt64 * r2.toInt64) - ((((M (a + 1 + 7) (ix l1)) * (100 : Int32)).toInt64) * (((M (a + 1 + 7) (ix l1)) * (100 : Int32)).toInt64)))]) (rest := []) hB (c_C_root (bf_G hB) hF hr48) mn_S_71 md_C_root rfl rfl (Nat.le_of_ble_eq_true rfl) rm_S_horizontalUnits_C_root e_S_horizontalUnits_48) rfl rfl rfl ?_
      refine a_ls [] (ls' := []) rfl ?_
      exact t_S_horizontalUnits_51 hB hF hs_a h
    · have h := iq c h
      refine a_iconst (v := 0) hB e_S_horizontalUnits_35 ic_0 ?_
      refine a_goto (tgt := 51) hB e_S_horizontalUnits_36 (by decide) ?_
      refine a_ls [] (ls' := []) rfl ?_
      exact t_S_horizontalUnits_51 hB hF hs_a h
  · have h := ip c h
    refine a_iload_n (j := 0) hB e_S_horizontalUnits_15 rfl rfl ?_
    cases h
    exact a_iret hB rfl e_S_horizontalUnits_16 (by decide) (by decide)
set_option maxRecDepth 100000 in
theorem c_S_horizontalUnits {G : Gt} (hG : GOK G) {φ : Ph} (hF : SF 134 φ) {a : Nat} (hs_a : isSv a) {M : Mm} {l1 : Int32} {o : Int32} (h : f_S_horizontalUnits a M l1 = some o) : CT G I_S_horizontalUnits [.ref a, .int l1] M φ (.inl (some (.int o))) M φ :=
  ct_of hG (by decide) (Nat.le_of_ble_eq_true rfl) (fun B hB => t_S_horizontalUnits hB hF hs_a h)
