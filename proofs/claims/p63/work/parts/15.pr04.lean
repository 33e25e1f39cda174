/-! the functions are what the machine does -/
set_option maxRecDepth 100000 in
theorem c_T_endNorth {G : Gt} (hG : GOK G) {φ : Ph} (hF : SF 134 φ)   {M : Mm}  {o : Int32} (h : f_T_endNorth M = some o) : CT G I_T_endNorth [.ref 25] M φ (.inl (some (.int o))) M φ :=
  ct_of hG (by decide) (Nat.le_of_ble_eq_true rfl) (fun B hB => t_T_endNorth hB hF  h)
set_option maxRecDepth 100000 in
theorem t_T_follow_179 {G : Gt} {φ : Ph} {B : Bag} (hB : BF G I_T_follow B) (hF : SF 134 φ) {a : Nat} (hs_a : isSv a)  {M9 : Mm} {r104 : Int32 → Mm → Option Mm} (hr104 : ∀ (l2 : Int32) (M : Mm), r104 l2 M = some M9 → AW G I_T_follow B (QM G I_T_follow B (.inl none) M9 φ) 0 0 104 [(0, .ref 25), (1, .ref a), (2, .int l2)] [] M φ) {l2 : Int32} {M : Mm} (h : f_T_follow_179 a r104 l2 M = some M9) : AW G I_T_follow B (QM G I_T_follow B (.inl none) M9 φ) 0 0 179 [(0, .ref 25), (1, .ref a), (2, .int l2)] [] M φ := by
  unfold f_T_follow_179 at h
  refine a_iinc (j := 2) (v := l2 + 1) (ls' := [(2, .int (l2 + 1)), (0, .ref 25), (1, .ref a)]) hB e_T_follow_179 rfl (inc_1 _) (Nat.le_of_ble_eq_true rfl) rfl ?_
  refine a_goto (tgt := 104) hB e_T_follow_182 (by decide) ?_
  refine a_ls [1, 2, 0] (ls' := [(0, .ref 25), (1, .ref a), (2, .int (l2 + 1))]) rfl ?_
  exact hr104 _ _ h
set_option maxRecDepth 100000 in
theorem t_T_follow_104 {G : Gt} {φ : Ph} {B : Bag} (hB : BF G I_T_follow B) (hF : SF 134 φ) {a : Nat} (hs_a : isSv a)  {M9 : Mm} : ∀ (n : Nat) (l2 : Int32) (M : Mm), f_T_follow_104 a n l2 M = some M9 → AW G I_T_follow B (QM G I_T_follow B (.inl none) M9 φ) 0 0 104 [(0, .ref 25), (1, .ref a), (2, .int l2)] [] M φ := by
  intro n
  induction n with
  | zero => intro l2 M h; cases h
  | succ n hr104 =>
    intro l2 M h
    rw [f_T_follow_104] at h
    refine a_iload_n (j := 2) hB e_T_follow_104 rfl rfl ?_
    refine a_aload_n (j := 0) hB e_T_follow_105 rfl rfl ?_
    refine a_getI (k := 5) hB e_T_follow_106 fl_T_33 (sf_lt hF (by decide)) kk_25 tt_25_5 ?_
    refine a_icmp_gt (tgt := 185) hB e_T_follow_109 (by decide) (fun c => ?_) (fun c => ?_)
    · have h := ip c h
      cases h
      exact a_vret hB rfl e_T_follow_185 (by decide) (by decide)
    · have h := iq c h
      refine a_aload_n (j := 0) hB e_T_follow_112 rfl rfl ?_
      refine a_getR (r := 29) (k := 3) hB e_T_follow_113 fl_T_21 (sf_lt hF (by decide)) kk_25 tt_25_3 (hF.1 _ _) ?_
      refine a_iload_n (j := 2) hB e_T_follow_116 rfl rfl ?_
      refine a_aload_n (j := 0) hB e_T_follow_117 rfl rfl ?_
      refine a_getR (r := 27) (k := 1) hB e_T_follow_118 fl_T_15 (sf_lt hF (by decide)) kk_25 tt_25_1 (hF.1 _ _) ?_
      refine a_iload_n (j := 2) hB e_T_follow_121 rfl rfl ?_
      obtain ⟨c122, h⟩ := chk_i h
      refine a_iald' hB e_T_follow_122 (sf_lt hF (by decide)) kk_27 ll_27 c122 ?_
      obtain ⟨M123, hM123, h⟩ := bm_i h
      refine a_iast' hB e_T_follow_123 (sf_lt hF (by decide)) kk_29 ll_29 c122 ?_
      refine a_mem hM123 ?_
      refine a_aload_n (j := 0) hB e_T_follow_124 rfl rfl ?_
      refine a_getR (r := 30) (k := 4) hB e_T_follow_125 fl_T_24 (sf_lt hF (by decide)) kk_25 tt_25_4 (hF.1 _ _) ?_
      refine a_iload_n (j := 2) hB e_T_follow_128 rfl rfl ?_
      refine a_aload_n (j := 0) hB e_T_follow_129 rfl rfl ?_
      refine a_getR (r := 28) (k := 2) hB e_T_follow_130 fl_T_18 (sf_lt hF (by decide)) kk_25 tt_25_2 (hF.1 _ _) ?_
      refine a_iload_n (j := 2) hB e_T_follow_133 rfl rfl ?_
      refine a_iald' hB e_T_follow_134 (sf_lt hF (by decide)) kk_28 ll_28 c122 ?_
      obtain ⟨M135, hM135, h⟩ := bm_i h
      refine a_iast' hB e_T_follow_135 (sf_lt hF (by decide)) kk_30 ll_30 c122 ?_
      refine a_mem hM135 ?_
      refine a_aload_n (j := 1) hB e_T_follow_136 rfl rfl ?_
      refine a_getI (k := 12) hB e_T_follow_137 fl_T_51 (sv_lt hs_a hF (by decide)) (sv_kd hs_a) (sv_t0 hs_a 3 (by decide)) ?_
      refine a_if_eq (tgt := 179) hB e_T_follow_140 (by decide) (fun c => ?_) (fun c => ?_)
      · have h := ip c h
        exact t_T_follow_179 hB hF hs_a hr104 h
      · have h := iq c h
        refine a_aload_n (j := 0) hB e_T_follow_143 rfl rfl ?_
        refine a_getR (r := 29) (k := 3) hB e_T_follow_144 fl_T_21 (sf_lt hF (by decide)) kk_25 tt_25_3 (hF.1 _ _) ?_
        refine a_iload_n (j := 2) hB e_T_follow_147 rfl rfl ?_
        refine a_dup2 hB e_T_follow_148 rfl rfl ?_
        refine a_iald' hB e_T_follow_149 (sf_lt hF (by decide)) kk_29 ll_29 c122 ?_
        refine a_aload_n (j := 0) hB e_T_follow_150 rfl rfl ?_
        refine a_iload_n (j := 2) hB e_T_follow_151 rfl rfl ?_
        refine a_aload_n (j := 0) hB e_T_follow_152 rfl rfl ?_
        obtain ⟨r153, hr153, h⟩ := bn_i h
        refine a_ret (v := (some (.int r153))) (M1 := M135) (φ1 := φ) (st1 := [.int r153, .int l2, .ref 25, .int (M135 29 (ix l2)), .int l2, .ref 29]) (j1 := 0) (j2 := 0) (ar_V (As := []) (rest := [.int l2, .ref 25, .int (M135 29 (ix l2)), .int l2, .ref 29]) hB (c_T_endEast (bf_G hB) hF hr153) ml_T_55 md_T_endEast rc_T_endEast (sf_lt hF (by decide)) kk_25 rfl rfl (Nat.le_of_ble_eq_true rfl) rm_T_follow_T_endEast e_T_follow_153) rfl rfl rfl ?_
        obtain ⟨r156, hr156, h⟩ := bn_i h
        refine a_ret (v := (some (.int r156))) (M1 := M135) (φ1 := φ) (st1 := [.int r156, .int (M135 29 (ix l2)), .int l2, .ref 29]) (j1 := 0) (j2 := 0) (ar_V (As := [.int l2, .int r153]) (rest := [.int (M135 29 (ix l2)), .int l2, .ref 29]) hB (c_T_shareAt (bf_G hB) hF hr156) ml_T_59 md_T_shareAt rc_T_shareAt (sf_lt hF (by decide)) kk_25 rfl rfl (Nat.le_of_ble_eq_true rfl) rm_T_follow_T_shareAt e_T_follow_156) rfl rfl rfl ?_
        refine a_isub hB e_T_follow_159 ?_
        obtain ⟨M160, hM160, h⟩ := bm_i h
        refine a_iast' hB e_T_follow_160 (sf_lt hF (by decide)) kk_29 ll_29 c122 ?_
        refine a_mem hM160 ?_
        refine a_aload_n (j := 0) hB e_T_follow_161 rfl rfl ?_
        refine a_getR (r := 30) (k := 4) hB e_T_follow_162 fl_T_24 (sf_lt hF (by decide)) kk_25 tt_25_4 (hF.1 _ _) ?_
        refine a_iload_n (j := 2) hB e_T_follow_165 rfl rfl ?_
        refine a_dup2 hB e_T_follow_166 rfl rfl ?_
        refine a_iald' hB e_T_follow_167 (sf_lt hF (by decide)) kk_30 ll_30 c122 ?_
        refine a_aload_n (j := 0) hB e_T_follow_168 rfl rfl ?_
        refine a_iload_n (j := 2) hB e_T_follow_169 rfl rfl ?_
        refine a_aload_n (j := 0) hB e_T_follow_170 rfl rfl ?_
        obtain ⟨r171, hr171, h⟩ := bn_i h
        refine a_ret (v := (some (.int r171))) (M1 := M160) (φ1 := φ) (st1 := [.int r171, .int l2, .ref 25, .int (M160 30 (ix l2)), .int l2, .ref 30]) (j1 := 0) (j2 := 0) (ar_V (As := []) (rest := [.int l2, .ref 25, .int (M160 30 (ix l2)), .int l2, .ref 30]) hB (c_T_endNorth (bf_G hB) hF hr171) ml_T_62 md_T_endNorth rc_T_endNorth (sf_lt hF (by decide)) kk_25 rfl rfl (Nat.le_of_ble_eq_true rfl) rm_T_follow_T_endNorth e_T_follow_171) rfl rfl rfl ?_
        obtain ⟨r174, hr174, h⟩ := bn_i h
        refine a_ret (v := (some (.int r174))) (M1 := M160) (φ1 := φ) (st1 := [.int r174, .int (M160 30 (ix l2)), .int l2, .ref 30]) (j1 := 0) (j2 := 0) (ar_V (As := [.int l2, .int r171]) (rest := [.int (M160 30 (ix l2)), .int l2, .ref 30]) hB (c_T_shareAt (bf_G hB) hF hr174) ml_T_59 md_T_shareAt rc_T_shareAt (sf_lt hF (by decide)) kk_25 rfl rfl (Nat.le_of_ble_eq_true rfl) rm_T_follow_T_shareAt e_T_follow_174) rfl rfl rfl ?_
        refine a_isub hB e_T_follow_177 ?_
        obtain ⟨M178, hM178, h⟩ := bm_i h
        refine a_iast' hB e_T_follow_178 (sf_lt hF (by decide)) kk_30 ll_30 c122 ?_
        refine a_mem hM178 ?_
        exact t_T_follow_179 hB hF hs_a hr104 h
set_option maxRecDepth 100000 in
theorem t_T_follow_10 {G : Gt} {φ : Ph} {B : Bag} (hB : BF G I_T_follow B) (hF : SF 134 φ) {a : Nat} (hs_a : isSv a)  {M9 : Mm} : ∀ (n : Nat) (l2 : Int32) (M : Mm), f_T_follow_10 a n l2 M = some M9 → AW G I_T_follow B (QM G I_T_follow B (.inl none) M9 φ) 0 0 10 [(0, .ref 25), (1, .ref a), (2, .int l2)] [] M φ := by
  intro n
  induction n with
  | zero => intro l2 M h; cases h
  | succ n hr10 =>
    intro l2 M h
    rw [f_T_follow_10] at h
    refine a_iload_n (j := 2) hB e_T_follow_10 rfl rfl ?_
    refine a_aload_n (j := 0) hB e_T_follow_11 rfl rfl ?_
    refine a_getI (k := 5) hB e_T_follow_12 fl_T_33 (sf_lt hF (by decide)) kk_25 tt_25_5 ?_
    refine a_icmp_ge (tgt := 102) hB e_T_follow_15 (by decide) (fun c => ?_) (fun c => ?_)
    · have h := ip c h
      refine a_iconst (v := 0) hB e_T_follow_102 ic_0 ?_
      refine a_istore_n (ls' := [(2, .int (0 : Int32)), (0, .ref 25), (1, .ref a)]) hB e_T_follow_103 rfl (Nat.le_of_ble_eq_true rfl) rfl ?_
      refine a_ls [1, 2, 0] (ls' := [(0, .ref 25), (1, .ref a), (2, .int (0 : Int32))]) rfl ?_
      exact t_T_follow_104 hB hF hs_a _ _ _ h
    · have h := iq c h
      refine a_aload_n (j := 1) hB e_T_follow_18 rfl rfl ?_
      refine a_iload_n (j := 2) hB e_T_follow_19 rfl rfl ?_
      obtain ⟨r20, hr20, h⟩ := bn_i h
      refine a_ret (v := (some (.int r20))) (M1 := M) (φ1 := φ) (st1 := [.int r20]) (j1 := 0) (j2 := 0) (ar_V (As := [.int l2]) (rest := []) hB (c_S_horizontalUnits (bf_G hB) hF hs_a hr20) ml_T_34 md_S_horizontalUnits rc_S_horizontalUnits (sv_lt hs_a hF (by decide)) (sv_kd hs_a) rfl rfl (Nat.le_of_ble_eq_true rfl) rm_T_follow_S_horizontalUnits e_T_follow_20) rfl rfl rfl ?_
      refine a_istore_n (ls' := [(3, .int r20), (0, .ref 25), (1, .ref a), (2, .int l2)]) hB e_T_follow_23 rfl (Nat.le_of_ble_eq_true rfl) rfl ?_
      refine a_aload_n (j := 2) hB e_T_follow_24 rfl rfl ?_
      refine a_getR (r := a + 1 + 1) (k := 1) hB e_T_follow_25 fl_T_38 (sv_lt hs_a hF (by decide)) (sv_kd hs_a) (sv_t hs_a 1 (by decide)) (hF.1 _ _) ?_
      refine a_iload_n (j := 3) hB e_T_follow_28 rfl rfl ?_
      obtain ⟨c29, h⟩ := chk_i h
      refine a_iald' hB e_T_follow_29 (sv_la hs_a hF (by decide) 1 (by decide)) (sv_ki hs_a 1 (by decide) (by decide)) (sv_ln hs_a 1 (by decide)) c29 ?_
      refine a_istore (ls' := [(4, .int (M (a + 1 + 1) (ix l2))), (3, .int r20), (0, .ref 25), (1, .ref a), (2, .int l2)]) hB e_T_follow_30 (Nat.le_of_ble_eq_true rfl) rfl ?_
      refine a_aload_n (j := 2) hB e_T_follow_32 rfl rfl ?_
      refine a_getR (r := 26) (k := 0) hB e_T_follow_33 fl_T_9 (sf_lt hF (by decide)) kk_25 tt_25_0 (hF.1 _ _) ?_
      refine a_iload_n (j := 4) hB e_T_follow_36 rfl rfl ?_
      refine a_iconst (v := 1) hB e_T_follow_37 ic_1 ?_
      refine a_iadd hB e_T_follow_38 ?_
      refine a_aload_n (j := 2) hB e_T_follow_39 rfl rfl ?_
      refine a_getR (r := 26) (k := 0) hB e_T_follow_40 fl_T_9 (sf_lt hF (by decide)) kk_25 tt_25_0 (hF.1 _ _) ?_
      refine a_iload_n (j := 4) hB e_T_follow_43 rfl rfl ?_
      obtain ⟨c44, h⟩ := chk_i h
      refine a_iald' hB e_T_follow_44 (sf_lt hF (by decide)) kk_26 ll_26 c44 ?_
      refine a_iload_n (j := 1) hB e_T_follow_45 rfl rfl ?_
      refine a_iadd hB e_T_follow_46 ?_
      obtain ⟨c47, h⟩ := chk_i h
      obtain ⟨M47, hM47, h⟩ := bm_i h
      refine a_iast' hB e_T_follow_47 (sf_lt hF (by decide)) kk_26 ll_26 c47 ?_
      refine a_mem hM47 ?_
      refine a_aload_n (j := 2) hB e_T_follow_48 rfl rfl ?_
      refine a_getR (r := 27) (k := 1) hB e_T_follow_49 fl_T_15 (sf_lt hF (by decide)) kk_25 tt_25_1 (hF.1 _ _) ?_
      refine a_iload_n (j := 4) hB e_T_follow_52 rfl rfl ?_
      refine a_iconst (v := 1) hB e_T_follow_53 ic_1 ?_
      refine a_iadd hB e_T_follow_54 ?_
      refine a_aload_n (j := 2) hB e_T_follow_55 rfl rfl ?_
      refine a_getR (r := 27) (k := 1) hB e_T_follow_56 fl_T_15 (sf_lt hF (by decide)) kk_25 tt_25_1 (hF.1 _ _) ?_
      refine a_iload_n (j := 4) hB e_T_follow_59 rfl rfl ?_
      refine a_iald' hB e_T_follow_60 (sf_lt hF (by decide)) kk_27 ll_27 c44 ?_
      refine a_iload_n (j := 1) hB e_T_follow_61 rfl rfl ?_
      refine a_iload (j := 0) hB e_T_follow_62 rfl ?_
      obtain ⟨r64, hr64, h⟩ := bn_i h
      refine a_ret (v := (some (.int r64))) (M1 := M47) (φ1 := φ) (st1 := [.int r64, .int r20, .int (M47 27 (ix l2)), .int (l2 + (1 : Int32)), .ref 27]) (j1 := 0) (j2 := 0) (ar_SN (As := [.int (M (a + 1 + 1) (ix l2))]) (rest := [.int r20, .int (M47 27 (ix l2)), .int (l2 + (1 : Int32)), .ref 27]) hB (c_C_sine (bf_G hB) hF hr64) mn_T_41 md_C_sine rfl rfl (Nat.le_of_ble_eq_true rfl) rm_T_follow_C_sine e_T_follow_64) rfl rfl rfl ?_
      obtain ⟨r67, hr67, h⟩ := bn_i h
      refine a_ret (v := (some (.int r67))) (M1 := M47) (φ1 := φ) (st1 := [.int r67, .int (M47 27 (ix l2)), .int (l2 + (1 : Int32)), .ref 27]) (j1 := 0) (j2 := 0) (ar_SN (As := [.int r20, .int r64]) (rest := [.int (M47 27 (ix l2)), .int (l2 + (1 : Int32)), .ref 27]) hB (c_C_stepOf (bf_G hB) hF hr67) mn_T_44 md_C_stepOf rfl rfl (Nat.le_of_ble_eq_true rfl) rm_T_follow_C_stepOf e_T_follow_67) rfl rfl rfl ?_
      refine a_iadd hB e_T_follow_70 ?_
      obtain ⟨M71, hM71, h⟩ := bm_i h
      refine a_iast' hB e_T_follow_71 (sf_lt hF (by decide)) kk_27 ll_27 c47 ?_
      refine a_mem hM71 ?_
      refine a_aload_n (j := 2) hB e_T_follow_72 rfl rfl ?_
      refine a_getR (r := 28) (k := 2) hB e_T_follow_73 fl_T_18 (sf_lt hF (by decide)) kk_25 tt_25_2 (hF.1 _ _) ?_
      refine a_iload_n (j := 4) hB e_T_follow_76 rfl rfl ?_
      refine a_iconst (v := 1) hB e_T_follow_77 ic_1 ?_
      refine a_iadd hB e_T_follow_78 ?_
      refine a_aload_n (j := 2) hB e_T_follow_79 rfl rfl ?_
      refine a_getR (r := 28) (k := 2) hB e_T_follow_80 fl_T_18 (sf_lt hF (by decide)) kk_25 tt_25_2 (hF.1 _ _) ?_
      refine a_iload_n (j := 4) hB e_T_follow_83 rfl rfl ?_
      refine a_iald' hB e_T_follow_84 (sf_lt hF (by decide)) kk_28 ll_28 c44 ?_
      refine a_iload_n (j := 1) hB e_T_follow_85 rfl rfl ?_
      refine a_iload (j := 0) hB e_T_follow_86 rfl ?_
      obtain ⟨r88, hr88, h⟩ := bn_i h
      refine a_ret (v := (some (.int r88))) (M1 := M71) (φ1 := φ) (st1 := [.int r88, .int r20, .int (M71 28 (ix l2)), .int (l2 + (1 : Int32)), .ref 28]) (j1 := 0) (j2 := 0) (ar_SN (As := [.int (M (a + 1 + 1) (ix l2))]) (rest := [.int r20, .int (M71 28 (ix l2)), .int (l2 + (1 : Int32)), .ref 28]) hB (c_C_cosine (bf_G hB) hF hr88) mn_T_48 md_C_cosine rfl rfl (Nat.le_of_ble_eq_true rfl) rm_T_follow_C_cosine e_T_follow_88) rfl rfl rfl ?_
      obtain ⟨r91, hr91, h⟩ := bn_i h
      refine a_ret (v := (some (.int r91))) (M1 := M71) (φ1 := φ) (st1 := [.int r91, .int (M71 28 (ix l2)), .int (l2 + (1 : Int32)), .ref 28]) (j1 := 0) (j2 := 0) (ar_SN (As := [.int r20, .int r88]) (rest := [.int (M71 28 (ix l2)), .int (l2 + (1 : Int32)), .ref 28]) hB (c_C_stepOf (bf_G hB) hF hr91) mn_T_44 md_C_stepOf rfl rfl (Nat.le_of_ble_eq_true rfl) rm_T_follow_C_stepOf e_T_follow_91) rfl rfl rfl ?_
      refine a_iadd hB e_T_follow_94 ?_
      obtain ⟨M95, hM95, h⟩ := bm_i h
      refine a_iast' hB e_T_follow_95 (sf_lt hF (by decide)) kk_28 ll_28 c47 ?_
      refine a_mem hM95 ?_
      refine a_iinc (j := 4) (v := l2 + 1) (ls' := [(2, .int (l2 + 1)), (4, .int (M (a + 1 + 1) (ix l2))), (3, .int r20), (0, .ref 25), (1, .ref a)]) hB e_T_follow_96 rfl (inc_1 _) (Nat.le_of_ble_eq_true rfl) rfl ?_
      refine a_goto (tgt := 10) hB e_T_follow_99 (by decide) ?_
      refine a_ls [3, 4, 0] (ls' := [(0, .ref 25), (1, .ref a), (2, .int (l2 + 1))]) rfl ?_
      exact hr10 _ _ h
set_option maxRecDepth 100000 in
theorem t_T_follow {G : Gt} {φ : Ph} {B : Bag} (hB : BF G I_T_follow B) (hF : SF 134 φ) {a : Nat} (hs_a : isSv a)  {M9 : Mm}  {M : Mm} (h : f_T_follow a M = some M9) : AW G I_T_follow B (QM G I_T_follow B (.inl none) M9 φ) 0 0 0 [(0, .ref 25), (1, .ref a)] [] M φ := by
  unfold f_T_follow at h
  refine a_aload_n (j := 0) hB e_T_follow_0 rfl rfl ?_
  refine a_aload_n (j := 1) hB e_T_follow_1 rfl rfl ?_
  refine a_getI (k := 9) hB e_T_follow_2 fl_T_27 (sv_lt hs_a hF (by decide)) (sv_kd hs_a) (sv_t0 hs_a 0 (by decide)) ?_
  obtain ⟨M5, hM5, h⟩ := bm_i h
  refine a_putI (k := 5) hB e_T_follow_5 fw_T_33 (sf_lt hF (by decide)) kk_25 tt_25_5 ?_
  refine a_mem hM5 ?_
  refine a_iconst (v := 0) hB e_T_follow_8 ic_0 ?_
  refine a_istore_n (ls' := [(2, .int (0 : Int32)), (0, .ref 25), (1, .ref a)]) hB e_T_follow_9 rfl (Nat.le_of_ble_eq_true rfl) rfl ?_
  refine a_ls [1, 2, 0] (ls' := [(0, .ref 25), (1, .ref a), (2, .int (0 : Int32))]) rfl ?_
  exact t_T_follow_10 hB hF hs_a _ _ _ h
set_option maxRecDepth 100000 in
theorem c_T_follow {G : Gt} (hG : GOK G) {φ : Ph} (hF : SF 134 φ) {a : Nat} (hs_a : isSv a) {M : Mm}  {M9 : Mm} (h : f_T_follow a M = some M9) : CT G I_T_follow [.ref 25, .ref a] M φ (.inl none) M9 φ :=
  ct_of hG (by decide) (Nat.le_of_ble_eq_true rfl) (fun B hB => t_T_follow hB hF hs_a h)
set_option maxRecDepth 100000 in
theorem t_C_distance {G : Gt} {φ : Ph} {B : Bag} (hB : BF G I_C_distance B) (hF : SF 134 φ)   {M : Mm} {o : Int32} {l0 : Int32} {l1 : Int32}  (h : f_C_distance l0 l1 = some o) : AW G I_C_distance B (QM G I_C_distance B (.inl (some (.int o))) M φ) 0 0 0 [(0, .int l0), (1, .int l1)] [] M φ := by
  unfold f_C_distance at h
  refine a_iload_n (j := 0) hB e_C_distance_0 rfl rfl ?_
  refine a_i2l hB e_C_distance_1 ?_
  refine a_iload_n (j := 0) hB e_C_distance_2 rfl rfl ?_
  refine a_i2l hB e_C_distance_3 ?_
  refine a_lmul hB e_C_distance_4 ?_
  refine a_iload_n (j := 1) hB e_C_distance_5 rfl rfl ?_
  refine a_i2l hB e_C_distance_6 ?_
  refine a_iload_n (j := 1) hB e_C_distance_7 rfl rfl ?_
  refine a_i2l hB e_C_distance_8 ?_
  refine a_lmul hB e_C_distance_9 ?_
  refine a_ladd hB e_C_distance_10 ?_
  obtain ⟨r11, hr11, h⟩ := bn_i h
  refine a_ret (v := (some (.int r11))) (M1 := M) (φ1 := φ) (st1 := [.int r11]) (j1 := 0) (j2 := 0) (ar_S (As := [.long ((l0.toInt64 * l0.toInt64) + (l1.toInt64 * l1.toInt64))]) (rest := []) hB (c_C_root (bf_G hB) hF hr11) ml_C_353 md_C_root rfl rfl (Nat.le_of_ble_eq_true rfl) rm_C_distance_C_root e_C_distance_11) rfl rfl rfl ?_
  cases h
  exact a_iret hB rfl e_C_distance_14 (by decide) (by decide)
set_option maxRecDepth 100000 in
theorem c_C_distance {G : Gt} (hG : GOK G) {φ : Ph} (hF : SF 134 φ)   {M : Mm} {l0 : Int32} {l1 : Int32} {o : Int32} (h : f_C_distance l0 l1 = some o) : CT G I_C_distance [.int l0, .int l1] M φ (.inl (some (.int o))) M φ :=
  ct_of hG (by decide) (Nat.le_of_ble_eq_true rfl) (fun B hB => t_C_distance hB hF  h)
set_option maxRecDepth 100000 in
theorem t_T_closingDistance {G : Gt} {φ : Ph} {B : Bag} (hB : BF G I_T_closingDistance B) (hF : SF 134 φ)   {M : Mm} {o : Int32}   (h : f_T_closingDistance M = some o) : AW G I_T_closingDistance B (QM G I_T_closingDistance B (.inl (some (.int o))) M φ) 0 0 0 [(0, .ref 25)] [] M φ := by
  unfold f_T_closingDistance at h
  refine a_aload_n (j := 0) hB e_T_closingDistance_0 rfl rfl ?_
  obtain ⟨r1, hr1, h⟩ := bn_i h
  refine a_ret (v := (some (.int r1))) (M1 := M) (φ1 := φ) (st1 := [.int r1]) (j1 := 0) (j2 := 0) (ar_V (As := []) (rest := []) hB (c_T_endEast (bf_G hB) hF hr1) ml_T_55 md_T_endEast rc_T_endEast (sf_lt hF (by decide)) kk_25 rfl rfl (Nat.le_of_ble_eq_true rfl) rm_T_closingDistance_T_endEast e_T_closingDistance_1) rfl rfl rfl ?_
  refine a_aload_n (j := 0) hB e_T_closingDistance_4 rfl rfl ?_
  obtain ⟨r5, hr5, h⟩ := bn_i h
  refine a_ret (v := (some (.int r5))) (M1 := M) (φ1 := φ) (st1 := [.int r5, .int r1]) (j1 := 0) (j2 := 0) (ar_V (As := []) (rest := [.int r1]) hB (c_T_endNorth (bf_G hB) hF hr5) ml_T_62 md_T_endNorth rc_T_endNorth (sf_lt hF (by decide)) kk_25 rfl rfl (Nat.le_of_ble_eq_true rfl) rm_T_closingDistance_T_endNorth e_T_closingDistance_5) rfl rfl rfl ?_
  obtain ⟨r8, hr8, h⟩ := bn_i h
  refine a_ret (v := (some (.int r8))) (M1 := M) (φ1 := φ) (st1 := [.int r8]) (j1 := 0) (j2 := 0) (ar_SN (As := [.int r1, .int r5]) (rest := []) hB (c_C_distance (bf_G hB) hF hr8) mn_T_68 md_C_distance rfl rfl (Nat.le_of_ble_eq_true rfl) rm_T_closingDistance_C_distance e_T_closingDistance_8) rfl rfl rfl ?_
  cases h
  exact a_iret hB rfl e_T_closingDistance_11 (by decide) (by decide)
set_option maxRecDepth 100000 in
theorem c_T_closingDistance {G : Gt} (hG : GOK G) {φ : Ph} (hF : SF 134 φ)   {M : Mm}  {o : Int32} (h : f_T_closingDistance M = some o) : CT G I_T_closingDistance [.ref 25] M φ (.inl (some (.int o))) M φ :=
  ct_of hG (by decide) (Nat.le_of_ble_eq_true rfl) (fun B hB => t_T_closingDistance hB hF  h)
set_option maxRecDepth 100000 in
theorem t_T_distanceOf {G : Gt} {φ : Ph} {B : Bag} (hB : BF G I_T_distanceOf B) (hF : SF 134 φ)   {M : Mm} {o : Int32} {l1 : Int32}  (h : f_T_distanceOf M l1 = some o) : AW G I_T_distanceOf B (QM G I_T_distanceOf B (.inl (some (.int o))) M φ) 0 0 0 [(0, .ref 25), (1, .int l1)] [] M φ := by
  unfold f_T_distanceOf at h
  refine a_aload_n (j := 0) hB e_T_distanceOf_0 rfl rfl ?_
  refine a_getR (r := 29) (k := 3) hB e_T_distanceOf_1 fl_T_21 (sf_lt hF (by decide)) kk_25 tt_25_3 (hF.1 _ _) ?_
  refine a_iload_n (j := 1) hB e_T_distanceOf_4 rfl rfl ?_
  obtain ⟨c5, h⟩ := chk_i h
  refine a_iald' hB e_T_distanceOf_5 (sf_lt hF (by decide)) kk_29 ll_29 c5 ?_
  refine a_aload_n (j := 0) hB e_T_distanceOf_6 rfl rfl ?_
  refine a_getR (r := 30) (k := 4) hB e_T_distanceOf_7 fl_T_24 (sf_lt hF (by decide)) kk_25 tt_25_4 (hF.1 _ _) ?_
  refine a_iload_n (j := 1) hB e_T_distanceOf_10 rfl rfl ?_
  refine a_iald' hB e_T_distanceOf_11 (sf_lt hF (by decide)) kk_30 ll_30 c5 ?_
  obtain ⟨r12, hr12, h⟩ := bn_i h
  refine a_ret (v := (some (.int r12))) (M1 := M) (φ1 := φ) (st1 := [.int r12]) (j1 := 0) (j2 := 0) (ar_SN (As := [.int (M 29 (ix l1)), .int (M 30 (ix l1))]) (rest := []) hB (c_C_distance (bf_G hB) hF hr12) mn_T_68 md_C_distance rfl rfl (Nat.le_of_ble_eq_true rfl) rm_T_distanceOf_C_distance e_T_distanceOf_12) rfl rfl rfl ?_
  cases h
  exact a_iret hB rfl e_T_distanceOf_15 (by decide) (by decide)
set_option maxRecDepth 100000 in
theorem c_T_distanceOf {G : Gt} (hG : GOK G) {φ : Ph} (hF : SF 134 φ)   {M : Mm} {l1 : Int32} {o : Int32} (h : f_T_distanceOf M l1 = some o) : CT G I_T_distanceOf [.ref 25, .int l1] M φ (.inl (some (.int o))) M φ :=
  ct_of hG (by decide) (Nat.le_of_ble_eq_true rfl) (fun B hB => t_T_distanceOf hB hF  h)
set_option maxRecDepth 100000 in
theorem t_T_enclosedArea_4 {G : Gt} {φ : Ph} {B : Bag} (hB : BF G I_T_enclosedArea B) (hF : SF 134 φ)   {M : Mm} {o : Int64} : ∀ (n : Nat) (l1 : Int64) (l3 : Int32), f_T_enclosedArea_4 M n l1 l3 = some o → AW G I_T_enclosedArea B (QM G I_T_enclosedArea B (.inl (some (.long o))) M φ) 0 0 4 [(0, .ref 25), (1, .long l1), (3, .int l3)] [] M φ := by
  intro n
  induction n with
  | zero => intro l1 l3 h; cases h
  | succ n hr4 =>
    intro l1 l3 h
    rw [f_T_enclosedArea_4] at h
    refine a_iload_n (j := 2) hB e_T_enclosedArea_4 rfl rfl ?_
    refine a_aload_n (j := 0) hB e_T_enclosedArea_5 rfl rfl ?_
    refine a_getI (k := 5) hB e_T_enclosedArea_6 fl_T_33 (sf_lt hF (by decide)) kk_25 tt_25_5 ?_
    refine a_icmp_ge (tgt := 56) hB e_T_enclosedArea_9 (by decide) (fun c => ?_) (fun c => ?_)
    · have h := ip c h
      refine a_lload_n (j := 1) hB e_T_enclosedArea_56 rfl rfl ?_
      refine a_absJ hB ml_T_71 ms_absJ ini_math mc_absJ (by decide) (Nat.le_of_ble_eq_true rfl) (by decide) (by decide) e_T_enclosedArea_57 ?_
      refine a_ldc2 (v := 2) hB cj_T_77 e_T_enclosedArea_60 ?_
      refine a_ldiv hB e_T_enclosedArea_63 (by decide) ?_
      cases h
      exact a_lret hB rfl e_T_enclosedArea_64 (by decide) (by decide)
    · have h := iq c h
      refine a_lload_n (j := 1) hB e_T_enclosedArea_12 rfl rfl ?_
      refine a_aload_n (j := 0) hB e_T_enclosedArea_13 rfl rfl ?_
      refine a_getR (r := 29) (k := 3) hB e_T_enclosedArea_14 fl_T_21 (sf_lt hF (by decide)) kk_25 tt_25_3 (hF.1 _ _) ?_
      refine a_iload_n (j := 2) hB e_T_enclosedArea_17 rfl rfl ?_
      obtain ⟨c18, h⟩ := chk_i h
      refine a_iald' hB e_T_enclosedArea_18 (sf_lt hF (by decide)) kk_29 ll_29 c18 ?_
      refine a_i2l hB e_T_enclosedArea_19 ?_
      refine a_aload_n (j := 0) hB e_T_enclosedArea_20 rfl rfl ?_
      refine a_getR (r := 30) (k := 4) hB e_T_enclosedArea_21 fl_T_24 (sf_lt hF (by decide)) kk_25 tt_25_4 (hF.1 _ _) ?_
      refine a_iload_n (j := 2) hB e_T_enclosedArea_24 rfl rfl ?_
      refine a_iconst (v := 1) hB e_T_enclosedArea_25 ic_1 ?_
      refine a_iadd hB e_T_enclosedArea_26 ?_
      obtain ⟨c27, h⟩ := chk_i h
      refine a_iald' hB e_T_enclosedArea_27 (sf_lt hF (by decide)) kk_30 ll_30 c27 ?_
      refine a_i2l hB e_T_enclosedArea_28 ?_
      refine a_lmul hB e_T_enclosedArea_29 ?_
      refine a_aload_n (j := 0) hB e_T_enclosedArea_30 rfl rfl ?_
      refine a_getR (r := 29) (k := 3) hB e_T_enclosedArea_31 fl_T_21 (sf_lt hF (by decide)) kk_25 tt_25_3 (hF.1 _ _) ?_
      refine a_iload_n (j := 2) hB e_T_enclosedArea_34 rfl rfl ?_
      refine a_iconst (v := 1) hB e_T_enclosedArea_35 ic_1 ?_
      refine a_iadd hB e_T_enclosedArea_36 ?_
      refine a_iald' hB e_T_enclosedArea_37 (sf_lt hF (by decide)) kk_29 ll_29 c27 ?_
      refine a_i2l hB e_T_enclosedArea_38 ?_
      refine a_aload_n (j := 0) hB e_T_enclosedArea_39 rfl rfl ?_
      refine a_getR (r := 30) (k := 4) hB e_T_enclosedArea_40 fl_T_24 (sf_lt hF (by decide)) kk_25 tt_25_4 (hF.1 _ _) ?_
      refine a_iload_n (j := 2) hB e_T_enclosedArea_43 rfl rfl ?_
      refine a_iald' hB e_T_enclosedArea_44 (sf_lt hF (by decide)) kk_30 ll_30 c18 ?_
      refine a_i2l hB e_T_enclosedArea_45 ?_
      refine a_lmul hB e_T_enclosedArea_46 ?_
      refine a_lsub hB e_T_enclosedArea_47 ?_
      refine a_ladd hB e_T_enclosedArea_48 ?_
      refine a_lstore_n (ls' := [(1, .long (l1 + ((((M 29 (ix l3)).toInt64) * ((M 30 (ix (l3 + (1 : Int32)))).toInt64)) - (((M 29 (ix (l3 + (1 : Int32)))).toInt64) * ((M 30 (ix l3)).toInt64))))), (0, .ref 25), (3, .int l3)]) hB e_T_enclosedArea_49 rfl (Nat.le_of_ble_eq_true rfl) rfl ?_
      refine a_iinc (j := 2) (v := l3 + 1) (ls' := [(3, .int (l3 + 1)), (1, .long (l1 + ((((M 29 (ix l3)).toInt64) * ((M 30 (ix (l3 + (1 : Int32)))).toInt64)) - (((M 29 (ix (l3 + (1 : Int32)))).toInt64) * ((M 30 (ix l3)).toInt64))))), (0, .ref 25)]) hB e_T_enclosedArea_50 rfl (inc_1 _) (Nat.le_of_ble_eq_true rfl) rfl ?_
      refine a_goto (tgt := 4) hB e_T_enclosedArea_53 (by decide) ?_
      refine a_ls [2, 1, 0] (ls' := [(0, .ref 25), (1, .long (l1 + ((((M 29 (ix l3)).toInt64) * ((M 30 (ix (l3 + (1 : Int32)))).toInt64)) - (((M 29 (ix (l3 + (1 : Int32)))).toInt64) * ((M 30 (ix l3)).toInt64))))), (3, .int (l3 + 1))]) rfl ?_
      exact hr4 _ _ h
set_option maxRecDepth 100000 in
theorem t_T_enclosedArea {G : Gt} {φ : Ph} {B : Bag} (hB : BF G I_T_enclosedArea B) (hF : SF 134 φ)   {M : Mm} {o : Int64}   (h : f_T_enclosedArea M = some o) : AW G I_T_enclosedArea B (QM G I_T_enclosedArea B (.inl (some (.long o))) M φ) 0 0 0 [(0, .ref 25)] [] M φ := by
  unfold f_T_enclosedArea at h
  refine a_lconst (v := 0) hB e_T_enclosedArea_0 rfl ?_
  refine a_lstore_n (ls' := [(1, .long (0 : Int64)), (0, .ref 25)]) hB e_T_enclosedArea_1 rfl (Nat.le_of_ble_eq_true rfl) rfl ?_
  refine a_iconst (v := 0) hB e_T_enclosedArea_2 ic_0 ?_
  refine a_istore_n (ls' := [(3, .int (0 : Int32)), (1, .long (0 : Int64)), (0, .ref 25)]) hB e_T_enclosedArea_3 rfl (Nat.le_of_ble_eq_true rfl) rfl ?_
  refine a_ls [2, 1, 0] (ls' := [(0, .ref 25), (1, .long (0 : Int64)), (3, .int (0 : Int32))]) rfl ?_
  exact t_T_enclosedArea_4 hB hF _ _ _ h
set_option maxRecDepth 100000 in
theorem c_T_enclosedArea {G : Gt} (hG : GOK G) {φ : Ph} (hF : SF 134 φ)   {M : Mm}  {o : Int64} (h : f_T_enclosedArea M = some o) : CT G I_T_enclosedArea [.ref 25] M φ (.inl (some (.long o))) M φ :=
  ct_of hG (by decide) (Nat.le_of_ble_eq_true rfl) (fun B hB => t_T_enclosedArea hB hF  h)
set_option maxRecDepth 100000 in
theorem t_C_appendWord_46 {G : Gt} {φ : Ph} {B : Bag} (hB : BF G I_C_appendWord B) (hF : SF 134 φ)    {M9 : Mm}  {M : Mm} (h : f_C_appendWord_46 M = some M9) : AW G I_C_appendWord B (QM G I_C_appendWord B (.inl none) M9 φ) 0 0 46 [] [] M φ := by
  unfold f_C_appendWord_46 at h
  cases h
  exact a_vret hB rfl e_C_appendWord_46 (by decide) (by decide)
set_option maxRecDepth 100000 in
theorem t_C_appendWord_3 {G : Gt} {φ : Ph} {B : Bag} (hB : BF G I_C_appendWord B) (hF : SF 134 φ)    {M9 : Mm} : ∀ (n : Nat) (l1 : Int32) (l2 : Int32) (M : Mm), f_C_appendWord_3 n l1 l2 M = some M9 → AW G I_C_appendWord B (QM G I_C_appendWord B (.inl none) M9 φ) 0 0 3 [(0, .ref 0), (1, .int l1), (2, .int l2)] [] M φ := by
  intro n
  induction n with
  | zero => intro l1 l2 M h; cases h
  | succ n hr3 =>
    intro l1 l2 M h
    rw [f_C_appendWord_3] at h
    refine a_iload_n (j := 2) hB e_C_appendWord_3 rfl rfl ?_
    refine a_if_lt (tgt := 46) hB e_C_appendWord_4 (by decide) (fun c => ?_) (fun c => ?_)
    · have h := ip c h
      refine a_ls [] (ls' := []) rfl ?_
      exact t_C_appendWord_46 hB hF h
    · have h := iq c h
      refine a_aload_n (j := 0) hB e_C_appendWord_7 rfl rfl ?_
      refine a_getI (k := 2) hB e_C_appendWord_8 fl_C_94 (sf_lt hF (by decide)) kk_0 tt_0_2 ?_
      refine a_sipush (v := 900) hB e_C_appendWord_11 sp_900 ?_
      refine a_icmp_ge (tgt := 46) hB e_C_appendWord_14 (by decide) (fun c => ?_) (fun c => ?_)
      · have h := ip c h
        refine a_ls [] (ls' := []) rfl ?_
        exact t_C_appendWord_46 hB hF h
      · have h := iq c h
        refine a_aload_n (j := 0) hB e_C_appendWord_17 rfl rfl ?_
        refine a_getR (r := 3) (k := 1) hB e_C_appendWord_18 fl_C_26 (sf_lt hF (by decide)) kk_0 tt_0_1 (hF.1 _ _) ?_
        refine a_aload_n (j := 0) hB e_C_appendWord_21 rfl rfl ?_
        refine a_getI (k := 2) hB e_C_appendWord_22 fl_C_94 (sf_lt hF (by decide)) kk_0 tt_0_2 ?_
        refine a_iload_n (j := 1) hB e_C_appendWord_25 rfl rfl ?_
        refine a_iload_n (j := 2) hB e_C_appendWord_26 rfl rfl ?_
        refine a_ishr hB e_C_appendWord_27 ?_
        refine a_i2b hB e_C_appendWord_28 ?_
        obtain ⟨c29, h⟩ := chk_i h
        obtain ⟨M29, hM29, h⟩ := bm_i h
        refine a_bast' hB e_C_appendWord_29 (sf_lt hF (by decide)) kk_3 ll_3 c29 ?_
        refine a_mem hM29 ?_
        refine a_aload_n (j := 0) hB e_C_appendWord_30 rfl rfl ?_
        refine a_dup hB e_C_appendWord_31 rfl ?_
        refine a_getI (k := 2) hB e_C_appendWord_32 fl_C_94 (sf_lt hF (by decide)) kk_0 tt_0_2 ?_
        refine a_iconst (v := 1) hB e_C_appendWord_35 ic_1 ?_
        refine a_iadd hB e_C_appendWord_36 ?_
        obtain ⟨M37, hM37, h⟩ := bm_i h
        refine a_putI (k := 2) hB e_C_appendWord_37 fw_C_94 (sf_lt hF (by decide)) kk_0 tt_0_2 ?_
        refine a_mem hM37 ?_
        refine a_iinc (j := 2) (v := l2 + (-8)) (ls' := [(2, .int (l2 + (-8))), (0, .ref 0), (1, .int l1)]) hB e_C_appendWord_40 rfl (inc_m8 _) (Nat.le_of_ble_eq_true rfl) rfl ?_
        refine a_goto (tgt := 3) hB e_C_appendWord_43 (by decide) ?_
        refine a_ls [1, 2, 0] (ls' := [(0, .ref 0), (1, .int l1), (2, .int (l2 + (-8)))]) rfl ?_
        exact hr3 _ _ _ h
set_option maxRecDepth 100000 in
theorem t_C_appendWord {G : Gt} {φ : Ph} {B : Bag} (hB : BF G I_C_appendWord B) (hF : SF 134 φ)    {M9 : Mm} {l1 : Int32} {M : Mm} (h : f_C_appendWord l1 M = some M9) : AW G I_C_appendWord B (QM G I_C_appendWord B (.inl none) M9 φ) 0 0 0 [(0, .ref 0), (1, .int l1)] [] M φ := by
  unfold f_C_appendWord at h
  refine a_bipush (v := 24) hB e_C_appendWord_0 bp_24 ?_
  refine a_istore_n (ls' := [(2, .int (24 : Int32)), (0, .ref 0), (1, .int l1)]) hB e_C_appendWord_2 rfl (Nat.le_of_ble_eq_true rfl) rfl ?_
  refine a_ls [1, 2, 0] (ls' := [(0, .ref 0), (1, .int l1), (2, .int (24 : Int32))]) rfl ?_
  exact t_C_appendWord_3 hB hF _ _ _ _ h
set_option maxRecDepth 100000 in
theorem c_C_appendWord {G : Gt} (hG : GOK G) {φ : Ph} (hF : SF 134 φ)   {M : Mm} {l1 : Int32} {M9 : Mm} (h : f_C_appendWord l1 M = some M9) : CT G I_C_appendWord [.ref 0, .int l1] M φ (.inl none) M9 φ :=
  ct_of hG (by decide) (Nat.le_of_ble_eq_true rfl) (fun B hB => t_C_appendWord hB hF  h)
set_option maxRecDepth 100000 in
theorem t_C_append {G : Gt} {φ : Ph} {B : Bag} (hB : BF G I_C_append B) (hF : SF 134 φ)    {o : Int32} {M9 : Mm} {l1 : Int32} {l2 : Int32} {l3 : Int32} {l4 : Int32} {l5 : Int32} {M : Mm} (h : f_C_append l1 l2 l3 l4 l5 M = some (o, M9)) : AW G I_C_append B (QM G I_C_append B (.inl (some (.int o))) M9 φ) 0 0 0 [(0, .ref 0), (1, .int l1), (2, .int l2), (3, .int l3), (4, .int l4), (5, .int l5)] [] M φ := by
  unfold f_C_append at h
  refine a_aload_n (j := 0) hB e_C_append_0 rfl rfl ?_
  refine a_getI (k := 2) hB e_C_append_1 fl_C_94 (sf_lt hF (by decide)) kk_0 tt_0_2 ?_
  refine a_bipush (v := 20) hB e_C_append_4 bp_20 ?_
  refine a_iadd hB e_C_append_6 ?_
  refine a_sipush (v := 900) hB e_C_append_7 sp_900 ?_
  refine a_icmp_le (tgt := 15) hB e_C_append_10 (by decide) (fun c => ?_) (fun c => ?_)
  · have h := ip c h
    refine a_aload_n (j := 0) hB e_C_append_15 rfl rfl ?_
    refine a_iload_n (j := 1) hB e_C_append_16 rfl rfl ?_
    obtain ⟨M17, hr17, h⟩ := bn_i h
    refine a_ret (v := none) (M1 := M17) (φ1 := φ) (st1 := []) (j1 := 0) (j2 := 0) (ar_V (As := [.int l1]) (rest := []) hB (c_C_appendWord (bf_G hB) hF hr17) ml_C_97 md_C_appendWord rc_C_appendWord (sf_lt hF (by decide)) kk_0 rfl rfl (Nat.le_of_ble_eq_true rfl) rm_C_append_C_appendWord e_C_append_17) rfl rfl rfl ?_
    refine a_aload_n (j := 0) hB e_C_append_20 rfl rfl ?_
    refine a_iload_n (j := 2) hB e_C_append_21 rfl rfl ?_
    obtain ⟨M22, hr22, h⟩ := bn_i h
    refine a_ret (v := none) (M1 := M22) (φ1 := φ) (st1 := []) (j1 := 0) (j2 := 0) (ar_V (As := [.int l2]) (rest := []) hB (c_C_appendWord (bf_G hB) hF hr22) ml_C_97 md_C_appendWord rc_C_appendWord (sf_lt hF (by decide)) kk_0 rfl rfl (Nat.le_of_ble_eq_true rfl) rm_C_append_C_appendWord e_C_append_22) rfl rfl rfl ?_
    refine a_aload_n (j := 0) hB e_C_append_25 rfl rfl ?_
    refine a_iload_n (j := 3) hB e_C_append_26 rfl rfl ?_
    obtain ⟨M27, hr27, h⟩ := bn_i h
    refine a_ret (v := none) (M1 := M27) (φ1 := φ) (st1 := []) (j1 := 0) (j2 := 0) (ar_V (As := [.int l3]) (rest := []) hB (c_C_appendWord (bf_G hB) hF hr27) ml_C_97 md_C_appendWord rc_C_appendWord (sf_lt hF (by decide)) kk_0 rfl rfl (Nat.le_of_ble_eq_true rfl) rm_C_append_C_appendWord e_C_append_27) rfl rfl rfl ?_
    refine a_aload_n (j := 0) hB e_C_append_30 rfl rfl ?_
    refine a_iload (j := 4) hB e_C_append_31 rfl ?_
    obtain ⟨M33, hr33, h⟩ := bn_i h
    refine a_ret (v := none) (M1 := M33) (φ1 := φ) (st1 := []) (j1 := 0) (j2 := 0) (ar_V (As := [.int l4]) (rest := []) hB (c_C_appendWord (bf_G hB) hF hr33) ml_C_97 md_C_appendWord rc_C_appendWord (sf_lt hF (by decide)) kk_0 rfl rfl (Nat.le_of_ble_eq_true rfl) rm_C_append_C_appendWord e_C_append_33) rfl rfl rfl ?_
    refine a_aload_n (j := 0) hB e_C_append_36 rfl rfl ?_
    refine a_iload (j := 5) hB e_C_append_37 rfl ?_
    obtain ⟨M39, hr39, h⟩ := bn_i h
    refine a_ret (v := none) (M1 := M39) (φ1 := φ) (st1 := []) (j1 := 0) (j2 := 0) (ar_V (As := [.int l5]) (rest := []) hB (c_C_appendWord (bf_G hB) hF hr39) ml_C_97 md_C_appendWord rc_C_appendWord (sf_lt hF (by decide)) kk_0 rfl rfl (Nat.le_of_ble_eq_true rfl) rm_C_append_C_appendWord e_C_append_39) rfl rfl rfl ?_
    refine a_aload_n (j := 0) hB e_C_append_42 rfl rfl ?_
    refine a_getI (k := 2) hB e_C_append_43 fl_C_94 (sf_lt hF (by decide)) kk_0 tt_0_2 ?_
    cases h
    exact a_iret hB rfl e_C_append_46 (by decide) (by decide)
  · have h := iq c h
    refine a_iconst (v := -1) hB e_C_append_13 ic_m1 ?_
    cases h
    exact a_iret hB rfl e_C_append_14 (by decide) (by decide)
set_option maxRecDepth 100000 in
theorem c_C_append {G : Gt} (hG : GOK G) {φ : Ph} (hF : SF 134 φ)   {M : Mm} {l1 : Int32} {l2 : Int32} {l3 : Int32} {l4 : Int32} {l5 : Int32} {o : Int32} {M9 : Mm} (h : f_C_append l1 l2 l3 l4 l5 M = some (o, M9)) : CT G I_C_append [.ref 0, .int l1, .int l2, .int l3, .int l4, .int l5] M φ (.inl (some (.int o))) M9 φ :=
  ct_of hG (by decide) (Nat.le_of_ble_eq_true rfl) (fun B hB => t_C_append hB hF  h)
set_option maxRecDepth 100000 in
theorem t_C_truncateInput {G : Gt} {φ : Ph} {B : Bag} (hB : BF G I_C_truncateInput B) (hF : SF 134 φ)    {o : Nat ⊕ Int32} {M9 : Mm} {l1 : Int32} {M : Mm} (h : f_C_truncateInput l1 M = some (o, M9)) : AW G I_C_truncateInput B (QM G I_C_truncateInput B (oSi o) M9 (pS o φ)) 0 0 0 [(0, .ref 0), (1, .int l1)] [] M φ := by
  unfold f_C_truncateInput at h
  refine a_iload_n (j := 1) hB e_C_truncateInput_0 rfl rfl ?_
  refine a_iconst (v := 0) hB e_C_truncateInput_1 ic_0 ?_
  refine a_aload_n (j := 0) hB e_C_truncateInput_2 rfl rfl ?_
  refine a_getI (k := 2) hB e_C_truncateInput_3 fl_C_94 (sf_lt hF (by decide)) kk_0 tt_0_2 ?_
  obtain ⟨r6, hr6, h⟩ := bn_i h
  refine a_ret (v := (some (.int r6))) (M1 := M) (φ1 := φ) (st1 := [.int r6]) (j1 := 0) (j2 := 0) (ar_S (As := [.int l1, .int (0 : Int32), .int (M 0 2)]) (rest := []) hB (c_C_isBetween (bf_G hB) hF hr6) ml_C_100 md_C_isBetween rfl rfl (Nat.le_of_ble_eq_true rfl) rm_C_truncateInput_C_isBetween e_C_truncateInput_6) rfl rfl rfl ?_
  refine a_if_ne (tgt := 22) hB e_C_truncateInput_9 (by decide) (fun c => ?_) (fun c => ?_)
  · have h := iq c h
    refine a_aload_n (j := 0) hB e_C_truncateInput_22 rfl rfl ?_
    refine a_iload_n (j := 1) hB e_C_truncateInput_23 rfl rfl ?_
    obtain ⟨M24, hM24, h⟩ := bm_i h
    refine a_putI (k := 2) hB e_C_truncateInput_24 fw_C_94 (sf_lt hF (by decide)) kk_0 tt_0_2 ?_
    refine a_mem hM24 ?_
    refine a_aload_n (j := 0) hB e_C_truncateInput_27 rfl rfl ?_
    refine a_getI (k := 2) hB e_C_truncateInput_28 fl_C_94 (sf_lt hF (by decide)) kk_0 tt_0_2 ?_
    cases h
    exact a_iret hB rfl e_C_truncateInput_31 (by decide) (by decide)
  · have h := ip c h
    cases h
    exact a_throwS (E := "java/lang/IllegalArgumentException") (i := 14) hB (by decide) cl_C_104 ini_1 rfl at_C_108 rfl e_C_truncateInput_12 e_C_truncateInput_15 e_C_truncateInput_16 e_C_truncateInput_18 e_C_truncateInput_21 (by decide) (by decide) (by decide) (by decide)
set_option maxRecDepth 100000 in
theorem c_C_truncateInput {G : Gt} (hG : GOK G) {φ : Ph} (hF : SF 134 φ)   {M : Mm} {l1 : Int32} {o : Nat ⊕ Int32} {M9 : Mm} (h : f_C_truncateInput l1 M = some (o, M9)) : CT G I_C_truncateInput [.ref 0, .int l1] M φ (oSi o) M9 (pS o φ) :=
  ct_of hG (by decide) (Nat.le_of_ble_eq_true rfl) (fun B hB => t_C_truncateInput hB hF  h)
set_option maxRecDepth 100000 in
theorem t_C_remember_36 {G : Gt} {φ : Ph} {B : Bag} (hB : BF G I_C_remember B) (hF : SF 134 φ)    {M9 : Mm} {t1 : Int32} {M : Mm} (h : f_C_remember_36 t1 M = some M9) : AW G I_C_remember B (QM G I_C_remember B (.inl none) M9 φ) 0 0 36 [(0, .ref 0)] [.int t1, .ref 0] M φ := by
  unfold f_C_remember_36 at h
  obtain ⟨M36, hM36, h⟩ := bm_i h
  refine a_putI (k := 11) hB e_C_remember_36 fw_C_201 (sf_lt hF (by decide)) kk_0 tt_0_11 ?_
  refine a_mem hM36 ?_
  refine a_aload_n (j := 0) hB e_C_remember_39 rfl rfl ?_
  refine a_aload_n (j := 0) hB e_C_remember_40 rfl rfl ?_
  refine a_getI (k := 12) hB e_C_remember_41 fl_C_196 (sf_lt hF (by decide)) kk_0 tt_0_12 ?_
  refine a_iconst (v := 1) hB e_C_remember_44 ic_1 ?_
  refine a_iadd hB e_C_remember_45 ?_
  refine a_bipush (v := 8) hB e_C_remember_46 bp_8 ?_
  refine a_min hB ml_C_204 ms_min ini_math mc_min (by decide) (Nat.le_of_ble_eq_true rfl) (by decide) (by decide) e_C_remember_48 ?_
  obtain ⟨M51, hM51, h⟩ := bm_i h
  refine a_putI (k := 12) hB e_C_remember_51 fw_C_196 (sf_lt hF (by decide)) kk_0 tt_0_12 ?_
  refine a_mem hM51 ?_
  cases h
  exact a_vret hB rfl e_C_remember_54 (by decide) (by decide)
set_option maxRecDepth 100000 in
theorem t_C_remember {G : Gt} {φ : Ph} {B : Bag} (hB : BF G I_C_remember B) (hF : SF 134 φ)    {M9 : Mm}  {M : Mm} (h : f_C_remember M = some M9) : AW G I_C_remember B (QM G I_C_remember B (.inl none) M9 φ) 0 0 0 [(0, .ref 0)] [] M φ := by
  unfold f_C_remember at h
  refine a_aload_n (j := 0) hB e_C_remember_0 rfl rfl ?_
  refine a_getR (r := 31) (k := 10) hB e_C_remember_1 fl_C_56 (sf_lt hF (by decide)) kk_0 tt_0_10 (hF.1 _ _) ?_
  refine a_aload_n (j := 0) hB e_C_remember_4 rfl rfl ?_
  refine a_getI (k := 11) hB e_C_remember_5 fl_C_201 (sf_lt hF (by decide)) kk_0 tt_0_11 ?_
  obtain ⟨c8, h⟩ := chk_i h
  refine a_aald' (r := 34 + 10 * ix (M 0 11)) hB e_C_remember_8 (sf_lt hF (by decide)) kk_31 ll_31 c8 (hF.1 _ _) (tg_past c8) ?_
  refine a_aload_n (j := 0) hB e_C_remember_9 rfl rfl ?_
  refine a_getR (r := 15) (k := 7) hB e_C_remember_10 fl_C_39 (sf_lt hF (by decide)) kk_0 tt_0_7 (hF.1 _ _) ?_
  obtain ⟨M13, hr13, h⟩ := bn_i h
  refine a_ret (v := none) (M1 := M13) (φ1 := φ) (st1 := []) (j1 := 0) (j2 := 0) (ar_V (As := [.ref 15]) (rest := []) hB (c_S_copyFrom (bf_G hB) hF (sv_past c8) sv_15 hr13) ml_C_90 md_S_copyFrom rc_S_copyFrom (sv_lt (sv_past c8) hF (by decide)) (sv_kd (sv_past c8)) rfl rfl (Nat.le_of_ble_eq_true rfl) rm_C_remember_S_copyFrom e_C_remember_13) rfl rfl rfl ?_
  refine a_aload_n (j := 0) hB e_C_remember_16 rfl rfl ?_
  refine a_aload_n (j := 0) hB e_C_remember_17 rfl rfl ?_
  refine a_getI (k := 11) hB e_C_remember_18 fl_C_201 (sf_lt hF (by decide)) kk_0 tt_0_11 ?_
  refine a_bipush (v := 7) hB e_C_remember_21 bp_7 ?_
  refine a_icmp_ne (tgt := 30) hB e_C_remember_23 (by decide) (fun c => ?_) (fun c => ?_)
  · have h := iq c h
    refine a_aload_n (j := 0) hB e_C_remember_30 rfl rfl ?_
    refine a_getI (k := 11) hB e_C_remember_31 fl_C_201 (sf_lt hF (by decide)) kk_0 tt_0_11 ?_
    refine a_iconst (v := 1) hB e_C_remember_34 ic_1 ?_
    refine a_iadd hB e_C_remember_35 ?_
    exact t_C_remember_36 hB hF h
  · have h := ip c h
    refine a_iconst (v := 0) hB e_C_remember_26 ic_0 ?_
    refine a_goto (tgt := 36) hB e_C_remember_27 (by decide) ?_
    exact t_C_remember_36 hB hF h
set_option maxRecDepth 100000 in
theorem c_C_remember {G : Gt} (hG : GOK G) {φ : Ph} (hF : SF 134 φ)   {M : Mm}  {M9 : Mm} (h : f_C_remember M = some M9) : CT G I_C_remember [.ref 0] M φ (.inl none) M9 φ :=
  ct_of hG (by decide) (Nat.le_of_ble_eq_true rfl) (fun B hB => t_C_remember hB hF  h)
set_option maxRecDepth 100000 in
theorem t_C_settleText_46 {G : Gt} {φ : Ph} {B : Bag} (hB : BF G I_C_settleText B) (hF : SF 134 φ)    {o : Int32} {M9 : Mm} {l1 : Int32} {M : Mm} (h : f_C_settleText_46 l1 M = some (o, M9)) : AW G I_C_settleText B (QM G I_C_settleText B (.inl (some (.int o))) M9 φ) 0 0 46 [(1, .int l1)] [] M φ := by
  unfold f_C_settleText_46 at h
  refine a_iload_n (j := 0) hB e_C_settleText_46 rfl rfl ?_
  obtain ⟨z47, h⟩ := chk_i h
  cases h
  exact a_zret hB rfl z47 e_C_settleText_47 (by decide) (by decide)
set_option maxRecDepth 100000 in
theorem t_C_settleText {G : Gt} {φ : Ph} {B : Bag} (hB : BF G I_C_settleText B) (hF : SF 134 φ)    {o : Int32} {M9 : Mm} {l1 : Int32} {M : Mm} (h : f_C_settleText l1 M = some (o, M9)) : AW G I_C_settleText B (QM G I_C_settleText B (.inl (some (.int o))) M9 φ) 0 0 0 [(0, .ref 0), (1, .int l1)] [] M φ := by
  unfold f_C_settleText at h
  refine a_aload_n (j := 0) hB e_C_settleText_0 rfl rfl ?_
  refine a_iconst (v := 0) hB e_C_settleText_1 ic_0 ?_
  obtain ⟨M2, hM2, h⟩ := bm_i h
  refine a_putI (k := 2) hB e_C_settleText_2 fw_C_94 (sf_lt hF (by decide)) kk_0 tt_0_2 ?_
  refine a_mem hM2 ?_
  refine a_aload_n (j := 0) hB e_C_settleText_5 rfl rfl ?_
  refine a_aload_n (j := 0) hB e_C_settleText_6 rfl rfl ?_
  refine a_getR (r := 1) (k := 0) hB e_C_settleText_7 fl_C_10 (sf_lt hF (by decide)) kk_0 tt_0_0 (hF.1 _ _) ?_
  refine a_getI (k := 3) hB e_C_settleText_10 fl_C_121 (sf_lt hF (by decide)) kk_1 tt_1_3 ?_
  obtain ⟨M13, hM13, h⟩ := bm_i h
  refine a_putI (k := 3) hB e_C_settleText_13 fw_C_124 (sf_lt hF (by decide)) kk_0 tt_0_3 ?_
  refine a_mem hM13 ?_
  refine a_aload_n (j := 0) hB e_C_settleText_16 rfl rfl ?_
  refine a_aload_n (j := 0) hB e_C_settleText_17 rfl rfl ?_
  refine a_getR (r := 1) (k := 0) hB e_C_settleText_18 fl_C_10 (sf_lt hF (by decide)) kk_0 tt_0_0 (hF.1 _ _) ?_
  refine a_getI (k := 4) hB e_C_settleText_21 fl_C_127 (sf_lt hF (by decide)) kk_1 tt_1_4 ?_
  obtain ⟨M24, hM24, h⟩ := bm_i h
  refine a_putI (k := 4) hB e_C_settleText_24 fw_C_29 (sf_lt hF (by decide)) kk_0 tt_0_4 ?_
  refine a_mem hM24 ?_
  refine a_iload_n (j := 1) hB e_C_settleText_27 rfl rfl ?_
  refine a_if_eq (tgt := 46) hB e_C_settleText_28 (by decide) (fun c => ?_) (fun c => ?_)
  · have h := ip c h
    refine a_ls [1] (ls' := [(1, .int l1)]) rfl ?_
    exact t_C_settleText_46 hB hF h
  · have h := iq c h
    refine a_aload_n (j := 0) hB e_C_settleText_31 rfl rfl ?_
    obtain ⟨M32, hr32, h⟩ := bn_i h
    refine a_ret (v := none) (M1 := M32) (φ1 := φ) (st1 := []) (j1 := 0) (j2 := 0) (ar_V (As := []) (rest := []) hB (c_C_remember (bf_G hB) hF hr32) ml_C_130 md_C_remember rc_C_remember (sf_lt hF (by decide)) kk_0 rfl rfl (Nat.le_of_ble_eq_true rfl) rm_C_settleText_C_remember e_C_settleText_32) rfl rfl rfl ?_
    refine a_aload_n (j := 0) hB e_C_settleText_35 rfl rfl ?_
    refine a_getR (r := 15) (k := 7) hB e_C_settleText_36 fl_C_39 (sf_lt hF (by decide)) kk_0 tt_0_7 (hF.1 _ _) ?_
    refine a_aload_n (j := 0) hB e_C_settleText_39 rfl rfl ?_
    refine a_getR (r := 4) (k := 8) hB e_C_settleText_40 fl_C_46 (sf_lt hF (by decide)) kk_0 tt_0_8 (hF.1 _ _) ?_
    obtain ⟨M43, hr43, h⟩ := bn_i h
    refine a_ret (v := none) (M1 := M43) (φ1 := φ) (st1 := []) (j1 := 0) (j2 := 0) (ar_V (As := [.ref 4]) (rest := []) hB (c_S_copyFrom (bf_G hB) hF sv_15 sv_4 hr43) ml_C_90 md_S_copyFrom rc_S_copyFrom (sf_lt hF (by decide)) kk_15 rfl rfl (Nat.le_of_ble_eq_true rfl) rm_C_settleText_S_copyFrom e_C_settleText_43) rfl rfl rfl ?_
    refine a_ls [1] (ls' := [(1, .int l1)]) rfl ?_
    exact t_C_settleText_46 hB hF h
set_option maxRecDepth 100000 in
theorem c_C_settleText {G : Gt} (hG : GOK G) {φ : Ph} (hF : SF 134 φ)   {M : Mm} {l1 : Int32} {o : Int32} {M9 : Mm} (h : f_C_settleText l1 M = some (o, M9)) : CT G I_C_settleText [.ref 0, .int l1] M φ (.inl (some (.int o))) M9 φ :=
  ct_of hG (by decide) (Nat.le_of_ble_eq_true rfl) (fun B hB => t_C_settleText hB hF  h)
set_option maxRecDepth 100000 in
theorem t_C_load_56 {G : Gt} {φ : Ph} {B : Bag} (hB : BF G I_C_load B) (hF : SF 134 φ)    {o : Int32} {M9 : Mm} {t0 : Int32} {M : Mm} (h : f_C_load_56 t0 M = some (o, M9)) : AW G I_C_load B (QM G I_C_load B (.inl (some (.int o))) M9 φ) 0 0 56 [] [.int t0] M φ := by
  unfold f_C_load_56 at h
  cases h
  exact a_iret hB rfl e_C_load_56 (by decide) (by decide)
set_option maxRecDepth 100000 in
theorem t_C_load_36 {G : Gt} {φ : Ph} {B : Bag} (hB : BF G I_C_load B) (hF : SF 134 φ)    {o : Int32} {M9 : Mm} {t0 : Int32} {M : Mm} (h : f_C_load_36 t0 M = some (o, M9)) : AW G I_C_load B (QM G I_C_load B (.inl (some (.int o))) M9 φ) 0 0 36 [(0, .ref 0)] [.int t0] M φ := by
  unfold f_C_load_36 at h
  refine a_istore_n (ls' := [(1, .int t0), (0, .ref 0)]) hB e_C_load_36 rfl (Nat.le_of_ble_eq_true rfl) rfl ?_
  refine a_aload_n (j := 1) hB e_C_load_37 rfl rfl ?_
  refine a_iload_n (j := 0) hB e_C_load_38 rfl rfl ?_
  obtain ⟨r39, M39, hr39, h⟩ := bn2_i h
  refine a_ret (v := (some (.int r39))) (M1 := M39) (φ1 := φ) (st1 := [.int r39]) (j1 := 0) (j2 := 0) (ar_V (As := [.int t0]) (rest := []) hB (c_C_settleText (bf_G hB) hF hr39) ml_C_111 md_C_settleText rc_C_settleText (sf_lt hF (by decide)) kk_0 rfl rfl (Nat.le_of_ble_eq_true rfl) rm_C_load_C_settleText e_C_load_39) rfl rfl rfl ?_
  refine a_if_eq (tgt := 55) hB e_C_load_42 (by decide) (fun c => ?_) (fun c => ?_)
  · have h := ip c h
    refine a_iconst (v := -1) hB e_C_load_55 ic_m1 ?_
    refine a_ls [] (ls' := []) rfl ?_
    exact t_C_load_56 hB hF h
  · have h := iq c h
    refine a_aload_n (j := 1) hB e_C_load_45 rfl rfl ?_
    refine a_getR (r := 15) (k := 7) hB e_C_load_46 fl_C_39 (sf_lt hF (by decide)) kk_0 tt_0_7 (hF.1 _ _) ?_
    refine a_getI (k := 9) hB e_C_load_49 fl_C_115 (sf_lt hF (by decide)) kk_15 tt_15_9 ?_
    refine a_goto (tgt := 56) hB e_C_load_52 (by decide) ?_
    refine a_ls [] (ls' := []) rfl ?_
    exact t_C_load_56 hB hF h
set_option maxRecDepth 100000 in
theorem t_C_load_35 {G : Gt} {φ : Ph} {B : Bag} (hB : BF G I_C_load B) (hF : SF 134 φ)    {o : Int32} {M9 : Mm}  {M : Mm} (h : f_C_load_35 M = some (o, M9)) : AW G I_C_load B (QM G I_C_load B (.inl (some (.int o))) M9 φ) 0 0 35 [(0, .ref 0)] [] M φ := by
  unfold f_C_load_35 at h
  refine a_iconst (v := 0) hB e_C_load_35 ic_0 ?_
  exact t_C_load_36 hB hF h
set_option maxRecDepth 100000 in
theorem t_C_load {G : Gt} {φ : Ph} {B : Bag} (hB : BF G I_C_load B) (hF : SF 134 φ)    {o : Int32} {M9 : Mm}  {M : Mm} (h : f_C_load M = some (o, M9)) : AW G I_C_load B (QM G I_C_load B (.inl (some (.int o))) M9 φ) 0 0 0 [(0, .ref 0)] [] M φ := by
  unfold f_C_load at h
  refine a_aload_n (j := 0) hB e_C_load_0 rfl rfl ?_
  refine a_getR (r := 1) (k := 0) hB e_C_load_1 fl_C_10 (sf_lt hF (by decide)) kk_0 tt_0_0 (hF.1 _ _) ?_
  refine a_aload_n (j := 0) hB e_C_load_4 rfl rfl ?_
  refine a_getI (k := 2) hB e_C_load_5 fl_C_94 (sf_lt hF (by decide)) kk_0 tt_0_2 ?_
  obtain ⟨M8, hr8, h⟩ := bn_i h
  refine a_ret (v := none) (M1 := M8) (φ1 := φ) (st1 := []) (j1 := 0) (j2 := 0) (ar_V (As := [.int (M 0 2)]) (rest := []) hB (c_I_begin (bf_G hB) hF hr8) ml_C_79 md_I_begin rc_I_begin (sf_lt hF (by decide)) kk_1 rfl rfl (Nat.le_of_ble_eq_true rfl) rm_C_load_I_begin e_C_load_8) rfl rfl rfl ?_
  refine a_aload_n (j := 0) hB e_C_load_11 rfl rfl ?_
  refine a_getR (r := 1) (k := 0) hB e_C_load_12 fl_C_10 (sf_lt hF (by decide)) kk_0 tt_0_0 (hF.1 _ _) ?_
  obtain ⟨r15, M15, hr15, h⟩ := bn2_i h
  refine a_ret (v := (some (.int r15))) (M1 := M15) (φ1 := φ) (st1 := [.int r15]) (j1 := 0) (j2 := 0) (ar_V (As := []) (rest := []) hB (c_I_readsHead (bf_G hB) hF hr15) ml_C_83 md_I_readsHead rc_I_readsHead (sf_lt hF (by decide)) kk_1 rfl rfl (Nat.le_of_ble_eq_true rfl) rm_C_load_I_readsHead e_C_load_15) rfl rfl rfl ?_
  refine a_if_eq (tgt := 35) hB e_C_load_18 (by decide) (fun c => ?_) (fun c => ?_)
  · have h := ip c h
    exact t_C_load_35 hB hF h
  · have h := iq c h
    refine a_aload_n (j := 0) hB e_C_load_21 rfl rfl ?_
    refine a_getR (r := 1) (k := 0) hB e_C_load_22 fl_C_10 (sf_lt hF (by decide)) kk_0 tt_0_0 (hF.1 _ _) ?_
    obtain ⟨r25, M25, hr25, h⟩ := bn2_i h
    refine a_ret (v := (some (.int r25))) (M1 := M25) (φ1 := φ) (st1 := [.int r25]) (j1 := 0) (j2 := 0) (ar_V (As := []) (rest := []) hB (c_I_readsCommands (bf_G hB) hF hr25) ml_C_87 md_I_readsCommands rc_I_readsCommands (sf_lt hF (by decide)) kk_1 rfl rfl (Nat.le_of_ble_eq_true rfl) rm_C_load_I_readsCommands e_C_load_25) rfl rfl rfl ?_
    refine a_if_eq (tgt := 35) hB e_C_load_28 (by decide) (fun c => ?_) (fun c => ?_)
    · have h := ip c h
      exact t_C_load_35 hB hF h
    · have h := iq c h
      refine a_iconst (v := 1) hB e_C_load_31 ic_1 ?_
      refine a_goto (tgt := 36) hB e_C_load_32 (by decide) ?_
      exact t_C_load_36 hB hF h
set_option maxRecDepth 100000 in
theorem c_C_load {G : Gt} (hG : GOK G) {φ : Ph} (hF : SF 134 φ)   {M : Mm}  {o : Int32} {M9 : Mm} (h : f_C_load M = some (o, M9)) : CT G I_C_load [.ref 0] M φ (.inl (some (.int o))) M9 φ :=
  ct_of hG (by decide) (Nat.le_of_ble_eq_true rfl) (fun B hB => t_C_load hB hF  h)
set_option maxRecDepth 100000 in
theorem t_C_nameForNextLeg {G : Gt} {φ : Ph} {B : Bag} (hB : BF G I_C_nameForNextLeg B) (hF : SF 134 φ)   {M : Mm} {o : Nat ⊕ Int32}   (h : f_C_nameForNextLeg M = some o) : AW G I_C_nameForNextLeg B (QM G I_C_nameForNextLeg B (oSi o) M (pS o φ)) 0 0 0 [(0, .ref 0)] [] M φ := by
  unfold f_C_nameForNextLeg at h
  refine a_aload_n (j := 0) hB e_C_nameForNextLeg_0 rfl rfl ?_
  refine a_getR (r := 15) (k := 7) hB e_C_nameForNextLeg_1 fl_C_39 (sf_lt hF (by decide)) kk_0 tt_0_7 (hF.1 _ _) ?_
  refine a_getI (k := 9) hB e_C_nameForNextLeg_4 fl_C_115 (sf_lt hF (by decide)) kk_15 tt_15_9 ?_
  refine a_bipush (v := 20) hB e_C_nameForNextLeg_7 bp_20 ?_
  refine a_icmp_lt (tgt := 22) hB e_C_nameForNextLeg_9 (by decide) (fun c => ?_) (fun c => ?_)
  · have h := ip c h
    refine a_sipush (v := 544) hB e_C_nameForNextLeg_22 sp_544 ?_
    refine a_aload_n (j := 0) hB e_C_nameForNextLeg_25 rfl rfl ?_
    refine a_getR (r := 15) (k := 7) hB e_C_nameForNextLeg_26 fl_C_39 (sf_lt hF (by decide)) kk_0 tt_0_7 (hF.1 _ _) ?_
    refine a_getI (k := 9) hB e_C_nameForNextLeg_29 fl_C_115 (sf_lt hF (by decide)) kk_15 tt_15_9 ?_
    refine a_iadd hB e_C_nameForNextLeg_32 ?_
    refine a_iconst (v := 1) hB e_C_nameForNextLeg_33 ic_1 ?_
    refine a_iadd hB e_C_nameForNextLeg_34 ?_
    refine a_istore_n (ls' := [(1, .int (((544 : Int32) + (M 15 9)) + (1 : Int32))), (0, .ref 0)]) hB e_C_nameForNextLeg_35 rfl (Nat.le_of_ble_eq_true rfl) rfl ?_
    refine a_aload_n (j := 1) hB e_C_nameForNextLeg_36 rfl rfl ?_
    refine a_getR (r := 15) (k := 7) hB e_C_nameForNextLeg_37 fl_C_39 (sf_lt hF (by decide)) kk_0 tt_0_7 (hF.1 _ _) ?_
    refine a_iload_n (j := 0) hB e_C_nameForNextLeg_40 rfl rfl ?_
    obtain ⟨r41, hr41, h⟩ := bn_i h
    refine a_ret (v := (some (.int r41))) (M1 := M) (φ1 := φ) (st1 := [.int r41]) (j1 := 0) (j2 := 0) (ar_V (As := [.int (((544 : Int32) + (M 15 9)) + (1 : Int32))]) (rest := []) hB (c_S_legNamed (bf_G hB) hF sv_15 hr41) ml_C_157 md_S_legNamed rc_S_legNamed (sf_lt hF (by decide)) kk_15 rfl rfl (Nat.le_of_ble_eq_true rfl) rm_C_nameForNextLeg_S_legNamed e_C_nameForNextLeg_41) rfl rfl rfl ?_
    refine a_iconst (v := -1) hB e_C_nameForNextLeg_44 ic_m1 ?_
    refine a_icmp_eq (tgt := 58) hB e_C_nameForNextLeg_45 (by decide) (fun c => ?_) (fun c => ?_)
    · have h := ip c h
      refine a_iload_n (j := 0) hB e_C_nameForNextLeg_58 rfl rfl ?_
      cases h
      exact a_iret hB rfl e_C_nameForNextLeg_59 (by decide) (by decide)
    · have h := iq c h
      cases h
      exact a_throwS (E := "java/lang/IllegalStateException") (i := 17) hB (by decide) cl_C_152 ini_2 rfl at_C_156 rfl e_C_nameForNextLeg_48 e_C_nameForNextLeg_51 e_C_nameForNextLeg_52 e_C_nameForNextLeg_54 e_C_nameForNextLeg_57 (by decide) (by decide) (by decide) (by decide)
  · have h := iq c h
    cases h
    exact a_throwS (E := "java/lang/IllegalStateException") (i := 16) hB (by decide) cl_C_152 ini_2 rfl at_C_156 rfl e_C_nameForNextLeg_12 e_C_nameForNextLeg_15 e_C_nameForNextLeg_16 e_C_nameForNextLeg_18 e_C_nameForNextLeg_21 (by decide) (by decide) (by decide) (by decide)
set_option maxRecDepth 100000 in
theorem c_C_nameForNextLeg {G : Gt} (hG : GOK G) {φ : Ph} (hF : SF 134 φ)   {M : Mm}  {o : Nat ⊕ Int32} (h : f_C_nameForNextLeg M = some o) : CT G I_C_nameForNextLeg [.ref 0] M φ (oSi o) M (pS o φ) :=
  ct_of hG (by decide) (Nat.le_of_ble_eq_true rfl) (fun B hB => t_C_nameForNextLeg hB hF  h)
set_option maxRecDepth 100000 in
theorem t_C_addLeg_55 {G : Gt} {φ : Ph} {B : Bag} (hB : BF G I_C_addLeg B) (hF : SF 134 φ)    {o : Nat ⊕ Int32} {M9 : Mm} {l1 : Int32} {l2 : Int32} {l3 : Int32} {l4 : Int32} {l5 : Int32} {t0 : Int32} {M : Mm} (h : f_C_addLeg_55 l1 l2 l3 l4 l5 t0 M = some (o, M9)) : AW G I_C_addLeg B (QM G I_C_addLeg B (oSi o) M9 (pS o φ)) 0 0 55 [(0, .ref 0), (1, .int l1), (2, .int l2), (3, .int l3), (4, .int l4), (5, .int l5)] [.int t0] M φ := by
  unfold f_C_addLeg_55 at h
  refine a_istore (ls' := [(6, .int t0), (0, .ref 0), (1, .int l1), (2, .int l2), (3, .int l3), (4, .int l4), (5, .int l5)]) hB e_C_addLeg_55 (Nat.le_of_ble_eq_true rfl) rfl ?_
  refine a_iload (j := 0) hB e_C_addLeg_57 rfl ?_
  refine a_if_ne (tgt := 72) hB e_C_addLeg_59 (by decide) (fun c => ?_) (fun c => ?_)
  · have h := iq c h
    refine a_aload_n (j := 1) hB e_C_addLeg_72 rfl rfl ?_
    rcases bti_i h with ⟨e73, hr73, rfl, hz⟩ | ⟨r73, hr73, h⟩
    · obtain rfl := hz.symm
      exact a_thr (E := exS e73) (M1 := M) (φ1 := dirt φ) hB (ar_V (As := []) (rest := []) hB (c_C_nameForNextLeg (bf_G hB) hF hr73) ml_C_139 md_C_nameForNextLeg rc_C_nameForNextLeg (sf_lt hF (by decide)) kk_0 rfl rfl (Nat.le_of_ble_eq_true rfl) rm_C_addLeg_C_nameForNextLeg e_C_addLeg_73) rfl (by decide) (by decide)
    · refine a_ret (v := (some (.int r73))) (M1 := M) (φ1 := φ) (st1 := [.int r73]) (j1 := 1) (j2 := 6) (ar_V (As := []) (rest := []) hB (c_C_nameForNextLeg (bf_G hB) hF hr73) ml_C_139 md_C_nameForNextLeg rc_C_nameForNextLeg (sf_lt hF (by decide)) kk_0 rfl rfl (Nat.le_of_ble_eq_true rfl) rm_C_addLeg_C_nameForNextLeg e_C_addLeg_73) rfl rfl rfl ?_
      refine a_istore (ls' := [(7, .int r73), (6, .int t0), (0, .ref 0), (1, .int l1), (2, .int l2), (3, .int l3), (4, .int l4), (5, .int l5)]) hB e_C_addLeg_76 (Nat.le_of_ble_eq_true rfl) rfl ?_
      refine a_aload_n (j := 2) hB e_C_addLeg_78 rfl rfl ?_
      obtain ⟨M79, hr79, h⟩ := bn_i h
      refine a_ret (v := none) (M1 := M79) (φ1 := φ) (st1 := []) (j1 := 1) (j2 := 6) (ar_V (As := []) (rest := []) hB (c_C_remember (bf_G hB) hF hr79) ml_C_130 md_C_remember rc_C_remember (sf_lt hF (by decide)) kk_0 rfl rfl (Nat.le_of_ble_eq_true rfl) rm_C_addLeg_C_remember_1_6 e_C_addLeg_79) rfl rfl rfl ?_
      refine a_aload_n (j := 2) hB e_C_addLeg_82 rfl rfl ?_
      refine a_getR (r := 15) (k := 7) hB e_C_addLeg_83 fl_C_39 (sf_lt hF (by decide)) kk_0 tt_0_7 (hF.1 _ _) ?_
      refine a_iload (j := 0) hB e_C_addLeg_86 rfl ?_
      refine a_iload_n (j := 3) hB e_C_addLeg_88 rfl rfl ?_
      refine a_iload_n (j := 4) hB e_C_addLeg_89 rfl rfl ?_
      refine a_iload_n (j := 5) hB e_C_addLeg_90 rfl rfl ?_
      refine a_iconst (v := 0) hB e_C_addLeg_91 ic_0 ?_
      refine a_iload (j := 6) hB e_C_addLeg_92 rfl ?_
      refine a_iload (j := 7) hB e_C_addLeg_94 rfl ?_
      obtain ⟨M96, hr96, h⟩ := bn_i h
      refine a_ret (v := none) (M1 := M96) (φ1 := φ) (st1 := []) (j1 := 1) (j2 := 6) (ar_V (As := [.int r73, .int l1, .int l2, .int l3, .int (0 : Int32), .int l4, .int l5]) (rest := []) hB (c_S_addChained (bf_G hB) hF sv_15 hr96) ml_C_142 md_S_addChained rc_S_addChained (sf_lt hF (by decide)) kk_15 rfl rfl (Nat.le_of_ble_eq_true rfl) rm_C_addLeg_S_addChained_1_6 e_C_addLeg_96) rfl rfl rfl ?_
      refine a_aload_n (j := 2) hB e_C_addLeg_99 rfl rfl ?_
      refine a_getR (r := 15) (k := 7) hB e_C_addLeg_100 fl_C_39 (sf_lt hF (by decide)) kk_0 tt_0_7 (hF.1 _ _) ?_
      refine a_getI (k := 9) hB e_C_addLeg_103 fl_C_115 (sf_lt hF (by decide)) kk_15 tt_15_9 ?_
      refine a_iconst (v := 1) hB e_C_addLeg_106 ic_1 ?_
      refine a_isub hB e_C_addLeg_107 ?_
      cases h
      exact a_iret hB rfl e_C_addLeg_108 (by decide) (by decide)
  · have h := ip c h
    cases h
    exact a_throwS (E := "java/lang/IllegalArgumentException") (i := 15) hB (by decide) cl_C_104 ini_1 rfl at_C_108 rfl e_C_addLeg_62 e_C_addLeg_65 e_C_addLeg_66 e_C_addLeg_68 e_C_addLeg_71 (by decide) (by decide) (by decide) (by decide)
