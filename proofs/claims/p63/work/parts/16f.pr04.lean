/-! their proofs -/
set_option maxRecDepth 100000 in
theorem t_W_word_4 {G : Gt} {φ : Ph} {B : Bag} (hB : BF G I_W_word B) (hF : SF 138 φ) (hd : dirt φ = φ) {T : Nat} (hT_T : gT G = T) {M : Mm} {o : Int32} : ∀ (n : Nat) (l1 : Int32) (l2 : Int32) (l3 : Int32), f_W_word_4 T M n l1 l2 l3 = some o → AW G I_W_word B (QM G I_W_word B (.inl (some (.int o))) M φ) 0 0 4 [(0, .ref 136), (1, .int l1), (2, .int l2), (3, .int l3)] [] M φ := by
  intro n
  induction n with
  | zero => intro l1 l2 l3 h; cases h
  | succ n hr4 =>
    intro l1 l2 l3 h
    rw [f_W_word_4] at h
    refine a_iload_n (j := 3) hB e_W_word_4 rfl rfl ?_
    refine a_iload_n (j := 1) hB e_W_word_5 rfl rfl ?_
    refine a_iconst (v := 4) hB e_W_word_6 ic_4 ?_
    refine a_iadd hB e_W_word_7 ?_
    refine a_icmp_ge (tgt := 40) hB e_W_word_8 (by decide) (fun c => ?_) (fun c => ?_)
    · have h := ip c h
      refine a_iload_n (j := 2) hB e_W_word_40 rfl rfl ?_
      cases h
      exact a_iret hB rfl e_W_word_41 (by decide) (by decide)
    · have h := iq c h
      refine a_iload_n (j := 2) hB e_W_word_11 rfl rfl ?_
      refine a_bipush (v := 8) hB e_W_word_12 bp_8 ?_
      refine a_ishl hB e_W_word_14 ?_
      refine a_iload_n (j := 3) hB e_W_word_15 rfl rfl ?_
      refine a_aload_n (j := 0) hB e_W_word_16 rfl rfl ?_
      obtain ⟨r17, hr17, h⟩ := bn_i h
      refine a_ret (v := (some (.int r17))) (M1 := M) (φ1 := φ) (st1 := [.int r17, .int l3, .int (l2 <<< ((8 : Int32) &&& 31))]) (j1 := 0) (j2 := 0) (ar_V (As := []) (rest := [.int l3, .int (l2 <<< ((8 : Int32) &&& 31))]) hB (c_X_length (bf_G hB) hF hT_T hr17) ml_W_104 md_X_length rc_X_length (sf_lt hF (by decide)) kk_136 rfl rfl (Nat.le_of_ble_eq_true rfl) rm_W_word_X_length e_W_word_17) rfl rfl rfl ?_
      refine a_icmp_ge (tgt := 31) hB e_W_word_20 (by decide) (fun c => ?_) (fun c => ?_)
      · have h := ip c h
        refine a_iconst (v := 0) hB e_W_word_31 ic_0 ?_
        refine a_ls [0, 1, 3] (ls' := [(0, .ref 136), (1, .int l1), (3, .int l3)]) rfl ?_
        exact t_W_word_32 hB hF hd hT_T hr4 h
      · have h := iq c h
        refine a_aload_n (j := 0) hB e_W_word_23 rfl rfl ?_
        refine a_iload_n (j := 3) hB e_W_word_24 rfl rfl ?_
        obtain ⟨r25, hr25, h⟩ := bn_i h
        refine a_ret (v := (some (.int r25))) (M1 := M) (φ1 := φ) (st1 := [.int r25, .int (l2 <<< ((8 : Int32) &&& 31))]) (j1 := 0) (j2 := 0) (ar_V (As := [.int l3]) (rest := [.int (l2 <<< ((8 : Int32) &&& 31))]) hB (c_X_charAt (bf_G hB) hF hT_T hr25) ml_W_109 md_X_charAt rc_X_charAt (sf_lt hF (by decide)) kk_136 rfl rfl (Nat.le_of_ble_eq_true rfl) rm_W_word_X_charAt e_W_word_25) rfl rfl rfl ?_
        refine a_goto (tgt := 32) hB e_W_word_28 (by decide) ?_
        refine a_ls [0, 1, 3] (ls' := [(0, .ref 136), (1, .int l1), (3, .int l3)]) rfl ?_
        exact t_W_word_32 hB hF hd hT_T hr4 h
set_option maxRecDepth 100000 in
theorem t_W_word {G : Gt} {φ : Ph} {B : Bag} (hB : BF G I_W_word B) (hF : SF 138 φ) (hd : dirt φ = φ) {T : Nat} (hT_T : gT G = T) {M : Mm} {o : Int32} {l1 : Int32}  (h : f_W_word T M l1 = some o) : AW G I_W_word B (QM G I_W_word B (.inl (some (.int o))) M φ) 0 0 0 [(0, .ref 136), (1, .int l1)] [] M φ := by
  unfold f_W_word at h
  refine a_iconst (v := 0) hB e_W_word_0 ic_0 ?_
  refine a_istore_n (ls' := [(2, .int (0 : Int32)), (0, .ref 136), (1, .int l1)]) hB e_W_word_1 rfl (Nat.le_of_ble_eq_true rfl) rfl ?_
  refine a_iload_n (j := 2) hB e_W_word_2 rfl rfl ?_
  refine a_istore_n (ls' := [(3, .int l1), (2, .int (0 : Int32)), (0, .ref 136), (1, .int l1)]) hB e_W_word_3 rfl (Nat.le_of_ble_eq_true rfl) rfl ?_
  refine a_ls [2, 3, 1, 0] (ls' := [(0, .ref 136), (1, .int l1), (2, .int (0 : Int32)), (3, .int l1)]) rfl ?_
  exact t_W_word_4 hB hF hd hT_T _ _ _ _ h
set_option maxRecDepth 100000 in
theorem c_W_word {G : Gt} (hG : GOK G) {φ : Ph} (hF : SF 138 φ) (hd : dirt φ = φ) {T : Nat} (hT_T : gT G = T) {M : Mm} {l1 : Int32} {o : Int32} (h : f_W_word T M l1 = some o) : CT G I_W_word [.ref 136, .int l1] M φ (.inl (some (.int o))) M φ :=
  ct_of hG (by decide) (Nat.le_of_ble_eq_true rfl) (fun B hB => t_W_word hB hF hd hT_T h)
set_option maxRecDepth 100000 in
theorem t_W_write_95 {G : Gt} {φ : Ph} {B : Bag} (hB : BF G I_W_write B) (hF : SF 138 φ) (hd : dirt φ = φ) {T : Nat} (hT_T : gT G = T)  {o : Int32} {M9 : Mm} {t0 : Int32} {M : Mm} (h : f_W_write_95 T t0 M = some (o, M9)) : AW G I_W_write B (QM G I_W_write B (.inl (some (.int o))) M9 φ) 2 12 95 [] [.int t0] M φ := by
  unfold f_W_write_95 at h
  obtain ⟨z95, h⟩ := chk_i h
  cases h
  exact a_zret hB rfl z95 e_W_write_95 (by decide) (by decide)
set_option maxRecDepth 100000 in
theorem t_W_write_12 {G : Gt} {φ : Ph} {B : Bag} (hB : BF G I_W_write B) (hF : SF 138 φ) (hd : dirt φ = φ) {T : Nat} (hT_T : gT G = T)  {o : Int32} {M9 : Mm} : ∀ (n : Nat) (l2 : Int32) (M : Mm), f_W_write_12 T n l2 M = some (o, M9) → AW G I_W_write B (QM G I_W_write B (.inl (some (.int o))) M9 φ) 1 6 12 [(0, .ref 0), (1, .ref 136), (2, .int l2)] [] M φ := by
  intro n
  induction n with
  | zero => intro l2 M h; cases h
  | succ n hr12 =>
    intro l2 M h
    rw [f_W_write_12] at h
    refine a_iload_n (j := 2) hB e_W_write_12 rfl rfl ?_
    refine a_aload_n (j := 1) hB e_W_write_13 rfl rfl ?_
    obtain ⟨r14, hr14, h⟩ := bn_i h
    refine a_ret (v := (some (.int r14))) (M1 := M) (φ1 := φ) (st1 := [.int r14, .int l2]) (j1 := 1) (j2 := 6) (ar_V (As := []) (rest := [.int l2]) hB (c_X_length (bf_G hB) hF hT_T hr14) ml_W_104 md_X_length rc_X_length (sf_lt hF (by decide)) kk_136 rfl rfl (Nat.le_of_ble_eq_true rfl) rm_W_write_X_length_1_6 e_W_write_14) rfl rfl rfl ?_
    refine a_icmp_ge (tgt := 75) hB e_W_write_17 (by decide) (fun c => ?_) (fun c => ?_)
    · have h := ip c h
      refine a_aload_n (j := 0) hB e_W_write_75 rfl rfl ?_
      refine a_aload_n (j := 1) hB e_W_write_76 rfl rfl ?_
      obtain ⟨r77, hr77, h⟩ := bn_i h
      refine a_ret (v := (some (.int r77))) (M1 := M) (φ1 := φ) (st1 := [.int r77, .ref 0]) (j1 := 1) (j2 := 6) (ar_V (As := []) (rest := [.ref 0]) hB (c_X_length (bf_G hB) hF hT_T hr77) ml_W_104 md_X_length rc_X_length (sf_lt hF (by decide)) kk_136 rfl rfl (Nat.le_of_ble_eq_true rfl) rm_W_write_X_length_1_6 e_W_write_77) rfl rfl rfl ?_
      obtain ⟨r80, M80, hr80, h⟩ := bn2_i h
      refine a_ret (v := (some (.int r80))) (M1 := M80) (φ1 := φ) (st1 := [.int r80]) (j1 := 2) (j2 := 12) (ar_SX (As := [.ref 0, .int r77]) (rest := []) hB (c_W_truncateInput (bf_G hB) hF hd hr80) ml_W_113 md_W_truncateInput rfl rfl (Nat.le_of_ble_eq_true rfl) rm_W_write_W_truncateInput_1_6 e_W_write_80) rfl rfl rfl ?_
      refine a_aload_n (j := 1) hB e_W_write_83 rfl rfl ?_
      obtain ⟨r84, hr84, h⟩ := bn_i h
      refine a_ret (v := (some (.int r84))) (M1 := M80) (φ1 := φ) (st1 := [.int r84, .int r80]) (j1 := 2) (j2 := 12) (ar_V (As := []) (rest := [.int r80]) hB (c_X_length (bf_G hB) hF hT_T hr84) ml_W_104 md_X_length rc_X_length (sf_lt hF (by decide)) kk_136 rfl rfl (Nat.le_of_ble_eq_true rfl) rm_W_write_X_length_2_12 e_W_write_84) rfl rfl rfl ?_
      refine a_icmp_ne (tgt := 94) hB e_W_write_87 (by decide) (fun c => ?_) (fun c => ?_)
      · have h := iq c h
        refine a_iconst (v := 0) hB e_W_write_94 ic_0 ?_
        refine a_ls [] (ls' := []) rfl ?_
        exact t_W_write_95 hB hF hd hT_T h
      · have h := ip c h
        refine a_iconst (v := 1) hB e_W_write_90 ic_1 ?_
        refine a_goto (tgt := 95) hB e_W_write_91 (by decide) ?_
        refine a_ls [] (ls' := []) rfl ?_
        exact t_W_write_95 hB hF hd hT_T h
    · have h := iq c h
      refine a_aload_n (j := 0) hB e_W_write_20 rfl rfl ?_
      refine a_aload_n (j := 1) hB e_W_write_21 rfl rfl ?_
      refine a_iload_n (j := 2) hB e_W_write_22 rfl rfl ?_
      obtain ⟨r23, hr23, h⟩ := bn_i h
      refine a_ret (v := (some (.int r23))) (M1 := M) (φ1 := φ) (st1 := [.int r23, .ref 0]) (j1 := 1) (j2 := 6) (ar_S (As := [.ref 136, .int l2]) (rest := [.ref 0]) hB (c_W_word (bf_G hB) hF hd hT_T hr23) ml_W_118 md_W_word rfl rfl (Nat.le_of_ble_eq_true rfl) rm_W_write_W_word_1_6 e_W_write_23) rfl rfl rfl ?_
      refine a_aload_n (j := 1) hB e_W_write_26 rfl rfl ?_
      refine a_iload_n (j := 2) hB e_W_write_27 rfl rfl ?_
      refine a_iconst (v := 4) hB e_W_write_28 ic_4 ?_
      refine a_iadd hB e_W_write_29 ?_
      obtain ⟨r30, hr30, h⟩ := bn_i h
      refine a_ret (v := (some (.int r30))) (M1 := M) (φ1 := φ) (st1 := [.int r30, .int r23, .ref 0]) (j1 := 1) (j2 := 6) (ar_S (As := [.ref 136, .int (l2 + (4 : Int32))]) (rest := [.int r23, .ref 0]) hB (c_W_word (bf_G hB) hF hd hT_T hr30) ml_W_118 md_W_word rfl rfl (Nat.le_of_ble_eq_true rfl) rm_W_write_W_word_1_6 e_W_write_30) rfl rfl rfl ?_
      refine a_aload_n (j := 1) hB e_W_write_33 rfl rfl ?_
      refine a_iload_n (j := 2) hB e_W_write_34 rfl rfl ?_
      refine a_bipush (v := 8) hB e_W_write_35 bp_8 ?_
      refine a_iadd hB e_W_write_37 ?_
      obtain ⟨r38, hr38, h⟩ := bn_i h
      refine a_ret (v := (some (.int r38))) (M1 := M) (φ1 := φ) (st1 := [.int r38, .int r30, .int r23, .ref 0]) (j1 := 1) (j2 := 6) (ar_S (As := [.ref 136, .int (l2 + (8 : Int32))]) (rest := [.int r30, .int r23, .ref 0]) hB (c_W_word (bf_G hB) hF hd hT_T hr38) ml_W_118 md_W_word rfl rfl (Nat.le_of_ble_eq_true rfl) rm_W_write_W_word_1_6 e_W_write_38) rfl rfl rfl ?_
      refine a_aload_n (j := 1) hB e_W_write_41 rfl rfl ?_
      refine a_iload_n (j := 2) hB e_W_write_42 rfl rfl ?_
      refine a_bipush (v := 12) hB e_W_write_43 bp_12 ?_
      refine a_iadd hB e_W_write_45 ?_
      obtain ⟨r46, hr46, h⟩ := bn_i h
      refine a_ret (v := (some (.int r46))) (M1 := M) (φ1 := φ) (st1 := [.int r46, .int r38, .int r30, .int r23, .ref 0]) (j1 := 1) (j2 := 6) (ar_S (As := [.ref 136, .int (l2 + (12 : Int32))]) (rest := [.int r38, .int r30, .int r23, .ref 0]) hB (c_W_word (bf_G hB) hF hd hT_T hr46) ml_W_118 md_W_word rfl rfl (Nat.le_of_ble_eq_true rfl) rm_W_write_W_word_1_6 e_W_write_46) rfl rfl rfl ?_
      refine a_aload_n (j := 1) hB e_W_write_49 rfl rfl ?_
      refine a_iload_n (j := 2) hB e_W_write_50 rfl rfl ?_
      refine a_bipush (v := 16) hB e_W_write_51 bp_16 ?_
      refine a_iadd hB e_W_write_53 ?_
      obtain ⟨r54, hr54, h⟩ := bn_i h
      refine a_ret (v := (some (.int r54))) (M1 := M) (φ1 := φ) (st1 := [.int r54, .int r46, .int r38, .int r30, .int r23, .ref 0]) (j1 := 1) (j2 := 6) (ar_S (As := [.ref 136, .int (l2 + (16 : Int32))]) (rest := [.int r46, .int r38, .int r30, .int r23, .ref 0]) hB (c_W_word (bf_G hB) hF hd hT_T hr54) ml_W_118 md_W_word rfl rfl (Nat.le_of_ble_eq_true rfl) rm_W_write_W_word_1_6 e_W_write_54) rfl rfl rfl ?_
      obtain ⟨r57, M57, hr57, h⟩ := bn2_i h
      refine a_ret (v := (some (.int r57))) (M1 := M57) (φ1 := φ) (st1 := [.int r57]) (j1 := 1) (j2 := 6) (ar_V (As := [.int r23, .int r30, .int r38, .int r46, .int r54]) (rest := []) hB (c_C_append (bf_G hB) (sf_m hF (by decide)) hr57) ml_W_122 md_C_append rc_C_append (sf_lt hF (by decide)) kk_0 rfl rfl (Nat.le_of_ble_eq_true rfl) rm_W_write_C_append_1_6 e_W_write_57) rfl rfl rfl ?_
      refine a_iload_n (j := 2) hB e_W_write_60 rfl rfl ?_
      refine a_bipush (v := 20) hB e_W_write_61 bp_20 ?_
      refine a_iadd hB e_W_write_63 ?_
      refine a_icmp_eq (tgt := 69) hB e_W_write_64 (by decide) (fun c => ?_) (fun c => ?_)
      · have h := ip c h
        refine a_iinc (j := 2) (v := l2 + 20) (ls' := [(2, .int (l2 + 20)), (0, .ref 0), (1, .ref 136)]) hB e_W_write_69 rfl (inc_20 _) (Nat.le_of_ble_eq_true rfl) rfl ?_
        refine a_goto (tgt := 12) hB e_W_write_72 (by decide) ?_
        refine a_ls [1, 2, 0] (ls' := [(0, .ref 0), (1, .ref 136), (2, .int (l2 + 20))]) rfl ?_
        exact hr12 _ _ h
      · have h := iq c h
        refine a_iconst (v := 0) hB e_W_write_67 ic_0 ?_
        cases h
        exact a_zret hB rfl (Or.inl rfl) e_W_write_68 (by decide) (by decide)
set_option maxRecDepth 100000 in
theorem t_W_write {G : Gt} {φ : Ph} {B : Bag} (hB : BF G I_W_write B) (hF : SF 138 φ) (hd : dirt φ = φ) {T : Nat} (hT_T : gT G = T)  {o : Int32} {M9 : Mm}  {M : Mm} (h : f_W_write T M = some (o, M9)) : AW G I_W_write B (QM G I_W_write B (.inl (some (.int o))) M9 φ) 0 0 0 [(0, .ref 0), (1, .ref 136)] [] M φ := by
  unfold f_W_write at h
  refine a_aload_n (j := 0) hB e_W_write_0 rfl rfl ?_
  refine a_iconst (v := 0) hB e_W_write_1 ic_0 ?_
  obtain ⟨r2, M2, hr2, h⟩ := bn2_i h
  refine a_ret (v := (some (.int r2))) (M1 := M2) (φ1 := φ) (st1 := [.int r2]) (j1 := 1) (j2 := 6) (ar_SX (As := [.ref 0, .int (0 : Int32)]) (rest := []) hB (c_W_truncateInput (bf_G hB) hF hd hr2) ml_W_113 md_W_truncateInput rfl rfl (Nat.le_of_ble_eq_true rfl) rm_W_write_W_truncateInput e_W_write_2) rfl rfl rfl ?_
  refine a_if_eq (tgt := 10) hB e_W_write_5 (by decide) (fun c => ?_) (fun c => ?_)
  · have h := ip c h
    refine a_iconst (v := 0) hB e_W_write_10 ic_0 ?_
    refine a_istore_n (ls' := [(2, .int (0 : Int32)), (0, .ref 0), (1, .ref 136)]) hB e_W_write_11 rfl (Nat.le_of_ble_eq_true rfl) rfl ?_
    refine a_ls [1, 2, 0] (ls' := [(0, .ref 0), (1, .ref 136), (2, .int (0 : Int32))]) rfl ?_
    exact t_W_write_12 hB hF hd hT_T _ _ _ h
  · have h := iq c h
    refine a_iconst (v := 0) hB e_W_write_8 ic_0 ?_
    cases h
    exact a_zret hB rfl (Or.inl rfl) e_W_write_9 (by decide) (by decide)
set_option maxRecDepth 100000 in
theorem c_W_write {G : Gt} (hG : GOK G) {φ : Ph} (hF : SF 138 φ) (hd : dirt φ = φ) {T : Nat} (hT_T : gT G = T) {M : Mm}  {o : Int32} {M9 : Mm} (h : f_W_write T M = some (o, M9)) : CT G I_W_write [.ref 0, .ref 136] M φ (.inl (some (.int o))) M9 φ :=
  ct_of hG (by decide) (Nat.le_of_ble_eq_true rfl) (fun B hB => t_W_write hB hF hd hT_T h)
set_option maxRecDepth 100000 in
theorem t_W_draw {G : Gt} {φ : Ph} {B : Bag} (hB : BF G I_W_draw B) (hF : SF 0 φ)    {o : Int32} {M9 : Mm} {l1 : Int32} {M : Mm} (h : f_W_draw l1 M = some (o, M9)) : AW G I_W_draw B (QM G I_W_draw B (.inl (some (.int o))) M9 φ) 0 0 0 [(0, .ref 1999), (1, .int l1)] [] M φ := by
  unfold f_W_draw at h
  refine a_aload_n (j := 0) hB e_W_draw_0 rfl rfl ?_
  refine a_iconst (v := 0) hB e_W_draw_1 ic_0 ?_
  refine a_aload_n (j := 0) hB e_W_draw_2 rfl rfl ?_
  refine a_iconst (v := 0) hB e_W_draw_3 ic_0 ?_
  refine a_iaX hB e_W_draw_4 (by decide) ?_
  refine a_ldc (v := 1103515245) hB cn_W_125 e_W_draw_5 ?_
  refine a_imul hB e_W_draw_7 ?_
  refine a_sipush (v := 12345) hB e_W_draw_8 sp_12345 ?_
  refine a_iadd hB e_W_draw_11 ?_
  obtain ⟨M12, hM12, h⟩ := bm_i h
  refine a_isX hB e_W_draw_12 (by decide) ?_
  refine a_mem hM12 ?_
  refine a_aload_n (j := 0) hB e_W_draw_13 rfl rfl ?_
  refine a_iconst (v := 0) hB e_W_draw_14 ic_0 ?_
  refine a_iaX hB e_W_draw_15 (by decide) ?_
  refine a_bipush (v := 8) hB e_W_draw_16 bp_8 ?_
  refine a_iushr hB e_W_draw_18 ?_
  refine a_iload_n (j := 1) hB e_W_draw_19 rfl rfl ?_
  obtain ⟨c20, h⟩ := chk_i h
  refine a_irem hB e_W_draw_20 c20 ?_
  cases h
  exact a_iret hB rfl e_W_draw_21 (by decide) (by decide)
set_option maxRecDepth 100000 in
theorem c_W_draw {G : Gt} (hG : GOK G) {φ : Ph} (hF : SF 0 φ)   {M : Mm} {l1 : Int32} {o : Int32} {M9 : Mm} (h : f_W_draw l1 M = some (o, M9)) : CT G I_W_draw [.ref 1999, .int l1] M φ (.inl (some (.int o))) M9 φ :=
  ct_of hG (by decide) (Nat.le_of_ble_eq_true rfl) (fun B hB => t_W_draw hB hF  h)
set_option maxRecDepth 100000 in
theorem t_W_isRoot {G : Gt} {φ : Ph} {B : Bag} (hB : BF G I_W_isRoot B) (hF : SF 0 φ)   {M : Mm} {o : Int32} {l0 : Int64} {l2 : Int64}  (h : f_W_isRoot l0 l2 = some o) : AW G I_W_isRoot B (QM G I_W_isRoot B (.inl (some (.int o))) M φ) 0 0 0 [(0, .long l0), (2, .long l2)] [] M φ := by
  unfold f_W_isRoot at h
  refine a_lload_n (j := 0) hB e_W_isRoot_0 rfl rfl ?_
  refine a_lconst (v := 0) hB e_W_isRoot_1 rfl ?_
  refine a_lcmp hB e_W_isRoot_2 ?_
  refine a_if_lt (tgt := 30) hB e_W_isRoot_3 (by decide) (fun c => ?_) (fun c => ?_)
  · have h := ip c h
    refine a_iconst (v := 0) hB e_W_isRoot_30 ic_0 ?_
    cases h
    exact a_zret hB rfl (Or.inl rfl) e_W_isRoot_31 (by decide) (by decide)
  · have h := iq c h
    refine a_lload_n (j := 0) hB e_W_isRoot_6 rfl rfl ?_
    refine a_lload_n (j := 0) hB e_W_isRoot_7 rfl rfl ?_
    refine a_lmul hB e_W_isRoot_8 ?_
    refine a_lload_n (j := 1) hB e_W_isRoot_9 rfl rfl ?_
    refine a_lcmp hB e_W_isRoot_10 ?_
    refine a_if_gt (tgt := 30) hB e_W_isRoot_11 (by decide) (fun c => ?_) (fun c => ?_)
    · have h := ip c h
      refine a_iconst (v := 0) hB e_W_isRoot_30 ic_0 ?_
      cases h
      exact a_zret hB rfl (Or.inl rfl) e_W_isRoot_31 (by decide) (by decide)
    · have h := iq c h
      refine a_lload_n (j := 0) hB e_W_isRoot_14 rfl rfl ?_
      refine a_lconst (v := 1) hB e_W_isRoot_15 rfl ?_
      refine a_ladd hB e_W_isRoot_16 ?_
      refine a_lload_n (j := 0) hB e_W_isRoot_17 rfl rfl ?_
      refine a_lconst (v := 1) hB e_W_isRoot_18 rfl ?_
      refine a_ladd hB e_W_isRoot_19 ?_
      refine a_lmul hB e_W_isRoot_20 ?_
      refine a_lload_n (j := 1) hB e_W_isRoot_21 rfl rfl ?_
      refine a_lcmp hB e_W_isRoot_22 ?_
      refine a_if_le (tgt := 30) hB e_W_isRoot_23 (by decide) (fun c => ?_) (fun c => ?_)
      · have h := ip c h
        refine a_iconst (v := 0) hB e_W_isRoot_30 ic_0 ?_
        cases h
        exact a_zret hB rfl (Or.inl rfl) e_W_isRoot_31 (by decide) (by decide)
      · have h := iq c h
        refine a_iconst (v := 1) hB e_W_isRoot_26 ic_1 ?_
        refine a_goto (tgt := 31) hB e_W_isRoot_27 (by decide) ?_
        cases h
        exact a_zret hB rfl (Or.inr rfl) e_W_isRoot_31 (by decide) (by decide)
set_option maxRecDepth 100000 in
theorem c_W_isRoot {G : Gt} (hG : GOK G) {φ : Ph} (hF : SF 0 φ)   {M : Mm} {l0 : Int64} {l2 : Int64} {o : Int32} (h : f_W_isRoot l0 l2 = some o) : CT G I_W_isRoot [.long l0, .long l2] M φ (.inl (some (.int o))) M φ :=
  ct_of hG (by decide) (Nat.le_of_ble_eq_true rfl) (fun B hB => t_W_isRoot hB hF  h)
