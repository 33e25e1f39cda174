/-! the law -/
set_option maxRecDepth 100000 in
theorem t_W_acts_199 {G : Gt} {B : Bag} {o : Int32} {M9 : Mm} (hB : BF G I_W_acts B)  {φ : Ph} (hF : SF 138 φ) (hd : dirt φ = φ)   {k1 k2 : Nat}  (hk1 : k1 + (0) ≤ 46) (hk2 : k2 + 6 * (0) ≤ 276) {t0 : Int32} {M : Mm} (h : f_W_acts_199 t0 M = some (o, M9)) : AW G I_W_acts B (QM G I_W_acts B (.inl (some (.int o))) M9 φ) k1 k2 199 [] [.int t0] M φ := by
  unfold f_W_acts_199 at h
  obtain ⟨z199, h⟩ := chk_i h
  cases h
  exact a_zret hB rfl z199 e_W_acts_199 (le_K (K := 46) (by omega) rfl) (le_K (K := 276) (by omega) rfl)
set_option maxRecDepth 100000 in
theorem t_W_acts_198 {G : Gt} {B : Bag} {o : Int32} {M9 : Mm} (hB : BF G I_W_acts B)  {φ : Ph} (hF : SF 138 φ) (hd : dirt φ = φ)   {k1 k2 : Nat}  (hk1 : k1 + (0) ≤ 46) (hk2 : k2 + 6 * (0) ≤ 276)  {M : Mm} (h : f_W_acts_198 M = some (o, M9)) : AW G I_W_acts B (QM G I_W_acts B (.inl (some (.int o))) M9 φ) k1 k2 198 [] [] M φ := by
  unfold f_W_acts_198 at h
  refine a_iconst (v := 0) hB e_W_acts_198 ic_0 ?_
  exact t_W_acts_199 hB hF hd (by omega) (by omega) h
set_option maxRecDepth 100000 in
theorem t_W_acts_103 {G : Gt} {B : Bag} {o : Int32} {M9 : Mm} (hB : BF G I_W_acts B)  {φ : Ph} (hF : SF 138 φ) (hd : dirt φ = φ)   {k1 k2 : Nat}  (hk1 : k1 + (5) ≤ 46) (hk2 : k2 + 6 * (5) ≤ 276) {l2 : Int32} {l3 : Int32} {l4 : Int32} {t1 : Int32} {t2 : Int32} {t3 : Int32} {t4 : Int32} {M : Mm} (h : f_W_acts_103 l2 l3 l4 t1 t2 t3 t4 M = some (o, M9)) : AW G I_W_acts B (QM G I_W_acts B (.inl (some (.int o))) M9 φ) k1 k2 103 [(0, .ref 0), (1, .ref 1999), (2, .int l2), (3, .int l3), (4, .int l4)] [.int t4, .int t3, .int t2, .int t1, .ref 0] M φ := by
  unfold f_W_acts_103 at h
  refine a_aload_n (j := 1) hB e_W_acts_103 rfl rfl ?_
  refine a_bipush (v := 51) hB e_W_acts_104 bp_51 ?_
  obtain ⟨r106, M106, hr106, h⟩ := bn2_i h
  refine a_ret (v := (some (.int r106))) (M1 := M106) (φ1 := φ) (st1 := [.int r106, .int t4, .int t3, .int t2, .int t1, .ref 0]) (j1 := k1) (j2 := k2) (ar_S (As := [.ref 1999, .int (51 : Int32)]) (rest := [.int t4, .int t3, .int t2, .int t1, .ref 0]) hB (c_W_draw (bf_G hB) (sf_m hF (by decide)) hr106) ml_W_217 md_W_draw rfl rfl (Nat.le_of_ble_eq_true rfl) (rmL (c := 0) (s := 0) (K1 := 46) (K2 := 276) (Nat.le_of_ble_eq_true rfl) (Nat.le_of_ble_eq_true rfl) (by omega) (by omega) rfl rfl rfl rfl) e_W_acts_106) rfl rfl rfl ?_
  obtain ⟨r109, M109, hr109, h⟩ := bn2_i h
  refine a_ret (v := (some (.int r109))) (M1 := M109) (φ1 := φ) (st1 := [.int r109]) (j1 := k1 + 1) (j2 := k2 + 6) (ar_SX (As := [.ref 0, .int t1, .int t2, .int t3, .int t4, .int r106]) (rest := []) hB (c_W_addLeg (bf_G hB) hF hd hr109) ml_W_221 md_W_addLeg rfl rfl (Nat.le_of_ble_eq_true rfl) (rmL (c := 1) (s := 6) (K1 := 46) (K2 := 276) (Nat.le_of_ble_eq_true rfl) (Nat.le_of_ble_eq_true rfl) (by omega) (by omega) rfl rfl rfl rfl) e_W_acts_109) rfl rfl rfl ?_
  refine a_istore (ls' := [(5, .int r109), (0, .ref 0), (1, .ref 1999), (2, .int l2), (3, .int l3), (4, .int l4)]) hB e_W_acts_112 (Nat.le_of_ble_eq_true rfl) rfl ?_
  refine a_iload_n (j := 3) hB e_W_acts_114 rfl rfl ?_
  refine a_bipush (v := 20) hB e_W_acts_115 bp_20 ?_
  refine a_icmp_ne (tgt := 135) hB e_W_acts_117 (by decide) (fun c => ?_) (fun c => ?_)
  · have h := iq c h
    refine a_iload (j := 0) hB e_W_acts_135 rfl ?_
    refine a_iload_n (j := 3) hB e_W_acts_137 rfl rfl ?_
    refine a_icmp_ne (tgt := 198) hB e_W_acts_138 (by decide) (fun c => ?_) (fun c => ?_)
    · have h := iq c h
      refine a_ls [] (ls' := []) rfl ?_
      exact t_W_acts_198 hB hF hd (by omega) (by omega) h
    · have h := ip c h
      refine a_aload_n (j := 1) hB e_W_acts_141 rfl rfl ?_
      refine a_iload_n (j := 3) hB e_W_acts_142 rfl rfl ?_
      obtain ⟨r143, hr143, h⟩ := bn_i h
      refine a_ret (v := (some (.int r143))) (M1 := M109) (φ1 := φ) (st1 := [.int r143]) (j1 := k1 + 2) (j2 := k2 + 12) (ar_SX (As := [.ref 0, .int l2]) (rest := []) hB (c_W_readLength (bf_G hB) hF hd hr143) ml_W_146 md_W_readLength rfl rfl (Nat.le_of_ble_eq_true rfl) (rmL (c := 1) (s := 6) (K1 := 46) (K2 := 276) (Nat.le_of_ble_eq_true rfl) (Nat.le_of_ble_eq_true rfl) (by omega) (by omega) rfl rfl rfl rfl) e_W_acts_143) rfl rfl rfl ?_
      refine a_sipush (v := 10000) hB e_W_acts_146 sp_10000 ?_
      refine a_iload_n (j := 4) hB e_W_acts_149 rfl rfl ?_
      refine a_imul hB e_W_acts_150 ?_
      refine a_bipush (v := 100) hB e_W_acts_151 bp_100 ?_
      refine a_iload (j := 5) hB e_W_acts_153 rfl ?_
      refine a_imul hB e_W_acts_155 ?_
      refine a_iadd hB e_W_acts_156 ?_
      refine a_icmp_ne (tgt := 198) hB e_W_acts_157 (by decide) (fun c => ?_) (fun c => ?_)
      · have h := iq c h
        refine a_ls [] (ls' := []) rfl ?_
        exact t_W_acts_198 hB hF hd (by omega) (by omega) h
      · have h := ip c h
        refine a_aload_n (j := 1) hB e_W_acts_160 rfl rfl ?_
        refine a_iload_n (j := 3) hB e_W_acts_161 rfl rfl ?_
        refine a_iconst (v := 0) hB e_W_acts_162 ic_0 ?_
        obtain ⟨r163, hr163, h⟩ := bn_i h
        refine a_ret (v := (some (.int r163))) (M1 := M109) (φ1 := φ) (st1 := [.int r163]) (j1 := k1 + 3) (j2 := k2 + 18) (ar_SX (As := [.ref 0, .int l2, .int (0 : Int32)]) (rest := []) hB (c_W_nameByte (bf_G hB) hF hd hr163) ml_W_224 md_W_nameByte rfl rfl (Nat.le_of_ble_eq_true rfl) (rmL (c := 1) (s := 6) (K1 := 46) (K2 := 276) (Nat.le_of_ble_eq_true rfl) (Nat.le_of_ble_eq_true rfl) (by omega) (by omega) rfl rfl rfl rfl) e_W_acts_163) rfl rfl rfl ?_
        refine a_bipush (v := 113) hB e_W_acts_166 bp_113 ?_
        refine a_icmp_ne (tgt := 198) hB e_W_acts_168 (by decide) (fun c => ?_) (fun c => ?_)
        · have h := iq c h
          refine a_ls [] (ls' := []) rfl ?_
          exact t_W_acts_198 hB hF hd (by omega) (by omega) h
        · have h := ip c h
          refine a_aload_n (j := 1) hB e_W_acts_171 rfl rfl ?_
          refine a_iload_n (j := 3) hB e_W_acts_172 rfl rfl ?_
          refine a_iconst (v := 1) hB e_W_acts_173 ic_1 ?_
          obtain ⟨r174, hr174, h⟩ := bn_i h
          refine a_ret (v := (some (.int r174))) (M1 := M109) (φ1 := φ) (st1 := [.int r174]) (j1 := k1 + 4) (j2 := k2 + 24) (ar_SX (As := [.ref 0, .int l2, .int (1 : Int32)]) (rest := []) hB (c_W_nameByte (bf_G hB) hF hd hr174) ml_W_224 md_W_nameByte rfl rfl (Nat.le_of_ble_eq_true rfl) (rmL (c := 1) (s := 6) (K1 := 46) (K2 := 276) (Nat.le_of_ble_eq_true rfl) (Nat.le_of_ble_eq_true rfl) (by omega) (by omega) rfl rfl rfl rfl) e_W_acts_174) rfl rfl rfl ?_
          refine a_bipush (v := 97) hB e_W_acts_177 bp_97 ?_
          refine a_iload_n (j := 3) hB e_W_acts_179 rfl rfl ?_
          refine a_iadd hB e_W_acts_180 ?_
          refine a_icmp_ne (tgt := 198) hB e_W_acts_181 (by decide) (fun c => ?_) (fun c => ?_)
          · have h := iq c h
            refine a_ls [] (ls' := []) rfl ?_
            exact t_W_acts_198 hB hF hd (by omega) (by omega) h
          · have h := ip c h
            refine a_aload_n (j := 1) hB e_W_acts_184 rfl rfl ?_
            refine a_iload_n (j := 3) hB e_W_acts_185 rfl rfl ?_
            refine a_iconst (v := 2) hB e_W_acts_186 ic_2 ?_
            obtain ⟨r187, hr187, h⟩ := bn_i h
            refine a_ret (v := (some (.int r187))) (M1 := M109) (φ1 := φ) (st1 := [.int r187]) (j1 := k1 + 5) (j2 := k2 + 30) (ar_SX (As := [.ref 0, .int l2, .int (2 : Int32)]) (rest := []) hB (c_W_nameByte (bf_G hB) hF hd hr187) ml_W_224 md_W_nameByte rfl rfl (Nat.le_of_ble_eq_true rfl) (rmL (c := 1) (s := 6) (K1 := 46) (K2 := 276) (Nat.le_of_ble_eq_true rfl) (Nat.le_of_ble_eq_true rfl) (by omega) (by omega) rfl rfl rfl rfl) e_W_acts_187) rfl rfl rfl ?_
            refine a_iconst (v := -1) hB e_W_acts_190 ic_m1 ?_
            refine a_icmp_ne (tgt := 198) hB e_W_acts_191 (by decide) (fun c => ?_) (fun c => ?_)
            · have h := iq c h
              refine a_ls [] (ls' := []) rfl ?_
              exact t_W_acts_198 hB hF hd (by omega) (by omega) h
            · have h := ip c h
              refine a_iconst (v := 1) hB e_W_acts_194 ic_1 ?_
              refine a_goto (tgt := 199) hB e_W_acts_195 (by decide) ?_
              refine a_ls [] (ls' := []) rfl ?_
              exact t_W_acts_199 hB hF hd (by omega) (by omega) h
  · have h := ip c h
    refine a_iload (j := 0) hB e_W_acts_120 rfl ?_
    refine a_ldc (v := -1000000019) hB cn_W_22 e_W_acts_122 ?_
    refine a_icmp_ne (tgt := 131) hB e_W_acts_124 (by decide) (fun c => ?_) (fun c => ?_)
    · have h := iq c h
      refine a_iconst (v := 0) hB e_W_acts_131 ic_0 ?_
      refine a_goto (tgt := 199) hB e_W_acts_132 (by decide) ?_
      refine a_ls [] (ls' := []) rfl ?_
      exact t_W_acts_199 hB hF hd (by omega) (by omega) h
    · have h := ip c h
      refine a_iconst (v := 1) hB e_W_acts_127 ic_1 ?_
      refine a_goto (tgt := 199) hB e_W_acts_128 (by decide) ?_
      refine a_ls [] (ls' := []) rfl ?_
      exact t_W_acts_199 hB hF hd (by omega) (by omega) h
set_option maxRecDepth 100000 in
theorem t_W_acts_56 {G : Gt} {B : Bag} {o : Int32} {M9 : Mm} (hB : BF G I_W_acts B)  {φ : Ph} (hF : SF 138 φ) (hd : dirt φ = φ)   {k1 k2 : Nat}  (hk1 : k1 + (5) ≤ 46) (hk2 : k2 + 6 * (5) ≤ 276) {l2 : Int32} {M : Mm} (h : f_W_acts_56 l2 M = some (o, M9)) : AW G I_W_acts B (QM G I_W_acts B (.inl (some (.int o))) M9 φ) k1 k2 56 [(0, .ref 0), (1, .ref 1999), (2, .int l2)] [] M φ := by
  unfold f_W_acts_56 at h
  refine a_aload_n (j := 1) hB e_W_acts_56 rfl rfl ?_
  refine a_bipush (v := 12) hB e_W_acts_57 bp_12 ?_
  obtain ⟨r59, M59, hr59, h⟩ := bn2_i h
  refine a_ret (v := (some (.int r59))) (M1 := M59) (φ1 := φ) (st1 := [.int r59]) (j1 := k1) (j2 := k2) (ar_S (As := [.ref 1999, .int (12 : Int32)]) (rest := []) hB (c_W_draw (bf_G hB) (sf_m hF (by decide)) hr59) ml_W_217 md_W_draw rfl rfl (Nat.le_of_ble_eq_true rfl) (rmL (c := 0) (s := 0) (K1 := 46) (K2 := 276) (Nat.le_of_ble_eq_true rfl) (Nat.le_of_ble_eq_true rfl) (by omega) (by omega) rfl rfl rfl rfl) e_W_acts_59) rfl rfl rfl ?_
  refine a_istore_n (ls' := [(3, .int r59), (0, .ref 0), (1, .ref 1999), (2, .int l2)]) hB e_W_acts_62 rfl (Nat.le_of_ble_eq_true rfl) rfl ?_
  refine a_aload_n (j := 2) hB e_W_acts_63 rfl rfl ?_
  refine a_bipush (v := 100) hB e_W_acts_64 bp_100 ?_
  obtain ⟨r66, M66, hr66, h⟩ := bn2_i h
  refine a_ret (v := (some (.int r66))) (M1 := M66) (φ1 := φ) (st1 := [.int r66]) (j1 := k1) (j2 := k2) (ar_S (As := [.ref 1999, .int (100 : Int32)]) (rest := []) hB (c_W_draw (bf_G hB) (sf_m hF (by decide)) hr66) ml_W_217 md_W_draw rfl rfl (Nat.le_of_ble_eq_true rfl) (rmL (c := 0) (s := 0) (K1 := 46) (K2 := 276) (Nat.le_of_ble_eq_true rfl) (Nat.le_of_ble_eq_true rfl) (by omega) (by omega) rfl rfl rfl rfl) e_W_acts_66) rfl rfl rfl ?_
  refine a_istore (ls' := [(4, .int r66), (3, .int r59), (0, .ref 0), (1, .ref 1999), (2, .int l2)]) hB e_W_acts_69 (Nat.le_of_ble_eq_true rfl) rfl ?_
  refine a_aload_n (j := 2) hB e_W_acts_71 rfl rfl ?_
  refine a_bipush (v := 15) hB e_W_acts_72 bp_15 ?_
  refine a_aload_n (j := 3) hB e_W_acts_74 rfl rfl ?_
  refine a_bipush (v := 24) hB e_W_acts_75 bp_24 ?_
  obtain ⟨r77, M77, hr77, h⟩ := bn2_i h
  refine a_ret (v := (some (.int r77))) (M1 := M77) (φ1 := φ) (st1 := [.int r77, .int (15 : Int32), .ref 0]) (j1 := k1) (j2 := k2) (ar_S (As := [.ref 1999, .int (24 : Int32)]) (rest := [.int (15 : Int32), .ref 0]) hB (c_W_draw (bf_G hB) (sf_m hF (by decide)) hr77) ml_W_217 md_W_draw rfl rfl (Nat.le_of_ble_eq_true rfl) (rmL (c := 0) (s := 0) (K1 := 46) (K2 := 276) (Nat.le_of_ble_eq_true rfl) (Nat.le_of_ble_eq_true rfl) (by omega) (by omega) rfl rfl rfl rfl) e_W_acts_77) rfl rfl rfl ?_
  refine a_imul hB e_W_acts_80 ?_
  refine a_iload_n (j := 1) hB e_W_acts_81 rfl rfl ?_
  refine a_iload (j := 0) hB e_W_acts_82 rfl ?_
  refine a_aload_n (j := 3) hB e_W_acts_84 rfl rfl ?_
  refine a_iconst (v := 3) hB e_W_acts_85 ic_3 ?_
  obtain ⟨r86, M86, hr86, h⟩ := bn2_i h
  refine a_ret (v := (some (.int r86))) (M1 := M86) (φ1 := φ) (st1 := [.int r86, .int r66, .int r59, .int ((15 : Int32) * r77), .ref 0]) (j1 := k1) (j2 := k2) (ar_S (As := [.ref 1999, .int (3 : Int32)]) (rest := [.int r66, .int r59, .int ((15 : Int32) * r77), .ref 0]) hB (c_W_draw (bf_G hB) (sf_m hF (by decide)) hr86) ml_W_217 md_W_draw rfl rfl (Nat.le_of_ble_eq_true rfl) (rmL (c := 0) (s := 0) (K1 := 46) (K2 := 276) (Nat.le_of_ble_eq_true rfl) (Nat.le_of_ble_eq_true rfl) (by omega) (by omega) rfl rfl rfl rfl) e_W_acts_86) rfl rfl rfl ?_
  refine a_if_ne (tgt := 102) hB e_W_acts_89 (by decide) (fun c => ?_) (fun c => ?_)
  · have h := iq c h
    refine a_iconst (v := 0) hB e_W_acts_102 ic_0 ?_
    refine a_ls [2, 3, 4, 1, 0] (ls' := [(0, .ref 0), (1, .ref 1999), (2, .int l2), (3, .int r59), (4, .int r66)]) rfl ?_
    exact t_W_acts_103 hB hF hd (by omega) (by omega) h
  · have h := ip c h
    refine a_aload_n (j := 3) hB e_W_acts_92 rfl rfl ?_
    refine a_sipush (v := 900) hB e_W_acts_93 sp_900 ?_
    obtain ⟨r96, M96, hr96, h⟩ := bn2_i h
    refine a_ret (v := (some (.int r96))) (M1 := M96) (φ1 := φ) (st1 := [.int r96, .int r66, .int r59, .int ((15 : Int32) * r77), .ref 0]) (j1 := k1) (j2 := k2) (ar_S (As := [.ref 1999, .int (900 : Int32)]) (rest := [.int r66, .int r59, .int ((15 : Int32) * r77), .ref 0]) hB (c_W_draw (bf_G hB) (sf_m hF (by decide)) hr96) ml_W_217 md_W_draw rfl rfl (Nat.le_of_ble_eq_true rfl) (rmL (c := 0) (s := 0) (K1 := 46) (K2 := 276) (Nat.le_of_ble_eq_true rfl) (Nat.le_of_ble_eq_true rfl) (by omega) (by omega) rfl rfl rfl rfl) e_W_acts_96) rfl rfl rfl ?_
    refine a_goto (tgt := 103) hB e_W_acts_99 (by decide) ?_
    refine a_ls [2, 3, 4, 1, 0] (ls' := [(0, .ref 0), (1, .ref 1999), (2, .int l2), (3, .int r59), (4, .int r66)]) rfl ?_
    exact t_W_acts_103 hB hF hd (by omega) (by omega) h
set_option maxRecDepth 100000 in
theorem t_W_acts_677 {G : Gt} {B : Bag} {o : Int32} {M9 : Mm} (hB : BF G I_W_acts B)  {φ : Ph} (hF : SF 138 φ) (hd : dirt φ = φ)   {k1 k2 : Nat}  (hk1 : k1 + (0) ≤ 46) (hk2 : k2 + 6 * (0) ≤ 276) {t0 : Int32} {M : Mm} (h : f_W_acts_677 t0 M = some (o, M9)) : AW G I_W_acts B (QM G I_W_acts B (.inl (some (.int o))) M9 φ) k1 k2 677 [] [.int t0] M φ := by
  unfold f_W_acts_677 at h
  obtain ⟨z677, h⟩ := chk_i h
  cases h
  exact a_zret hB rfl z677 e_W_acts_677 (le_K (K := 46) (by omega) rfl) (le_K (K := 276) (by omega) rfl)
set_option maxRecDepth 100000 in
theorem t_W_acts_676 {G : Gt} {B : Bag} {o : Int32} {M9 : Mm} (hB : BF G I_W_acts B)  {φ : Ph} (hF : SF 138 φ) (hd : dirt φ = φ)   {k1 k2 : Nat}  (hk1 : k1 + (0) ≤ 46) (hk2 : k2 + 6 * (0) ≤ 276)  {M : Mm} (h : f_W_acts_676 M = some (o, M9)) : AW G I_W_acts B (QM G I_W_acts B (.inl (some (.int o))) M9 φ) k1 k2 676 [] [] M φ := by
  unfold f_W_acts_676 at h
  refine a_iconst (v := 0) hB e_W_acts_676 ic_0 ?_
  exact t_W_acts_677 hB hF hd (by omega) (by omega) h
set_option maxRecDepth 100000 in
theorem t_W_acts_664 {G : Gt} {B : Bag} {o : Int32} {M9 : Mm} (hB : BF G I_W_acts B)  {φ : Ph} (hF : SF 138 φ) (hd : dirt φ = φ)   {k1 k2 : Nat}  (hk1 : k1 + (0) ≤ 46) (hk2 : k2 + 6 * (0) ≤ 276) {l5 : Int32} {t1 : Int32} {M : Mm} (h : f_W_acts_664 l5 t1 M = some (o, M9)) : AW G I_W_acts B (QM G I_W_acts B (.inl (some (.int o))) M9 φ) k1 k2 664 [(5, .int l5)] [.int t1, .ref 0] M φ := by
  unfold f_W_acts_664 at h
  obtain ⟨r664, M664, hr664, h⟩ := bn2_i h
  refine a_ret (v := (some (.int r664))) (M1 := M664) (φ1 := φ) (st1 := [.int r664]) (j1 := k1) (j2 := k2) (ar_V (As := [.int t1]) (rest := []) hB (c_C_setAdjusted (bf_G hB) (sf_m hF (by decide)) hr664) ml_W_251 md_C_setAdjusted rc_C_setAdjusted (sf_lt hF (by decide)) kk_0 rfl rfl (Nat.le_of_ble_eq_true rfl) (rmL (c := 0) (s := 0) (K1 := 46) (K2 := 276) (Nat.le_of_ble_eq_true rfl) (Nat.le_of_ble_eq_true rfl) (by omega) (by omega) rfl rfl rfl rfl) e_W_acts_664) rfl rfl rfl ?_
  refine a_iload (j := 0) hB e_W_acts_667 rfl ?_
  refine a_icmp_ne (tgt := 676) hB e_W_acts_669 (by decide) (fun c => ?_) (fun c => ?_)
  · have h := iq c h
    refine a_ls [] (ls' := []) rfl ?_
    exact t_W_acts_676 hB hF hd (by omega) (by omega) h
  · have h := ip c h
    refine a_iconst (v := 1) hB e_W_acts_672 ic_1 ?_
    refine a_goto (tgt := 677) hB e_W_acts_673 (by decide) ?_
    refine a_ls [] (ls' := []) rfl ?_
    exact t_W_acts_677 hB hF hd (by omega) (by omega) h
set_option maxRecDepth 100000 in
theorem t_W_acts_620 {G : Gt} {B : Bag} {o : Int32} {M9 : Mm} (hB : BF G I_W_acts B)  {φ : Ph} (hF : SF 138 φ) (hd : dirt φ = φ)   {k1 k2 : Nat}  (hk1 : k1 + (1) ≤ 46) (hk2 : k2 + 6 * (1) ≤ 276)  {M : Mm} (h : f_W_acts_620 M = some (o, M9)) : AW G I_W_acts B (QM G I_W_acts B (.inl (some (.int o))) M9 φ) k1 k2 620 [(0, .ref 0), (1, .ref 1999)] [] M φ := by
  unfold f_W_acts_620 at h
  refine a_aload_n (j := 0) hB e_W_acts_620 rfl rfl ?_
  obtain ⟨r621, hr621, h⟩ := bn_i h
  refine a_ret (v := (some (.int r621))) (M1 := M) (φ1 := φ) (st1 := [.int r621]) (j1 := k1) (j2 := k2) (ar_V (As := []) (rest := []) hB (c_C_wear (bf_G hB) (sf_m hF (by decide)) hr621) ml_W_246 md_C_wear rc_C_wear (sf_lt hF (by decide)) kk_0 rfl rfl (Nat.le_of_ble_eq_true rfl) (rmL (c := 0) (s := 0) (K1 := 46) (K2 := 276) (Nat.le_of_ble_eq_true rfl) (Nat.le_of_ble_eq_true rfl) (by omega) (by omega) rfl rfl rfl rfl) e_W_acts_621) rfl rfl rfl ?_
  refine a_istore_n (ls' := [(3, .int r621), (0, .ref 0), (1, .ref 1999)]) hB e_W_acts_624 rfl (Nat.le_of_ble_eq_true rfl) rfl ?_
  refine a_aload_n (j := 2) hB e_W_acts_625 rfl rfl ?_
  refine a_sipush (v := 200) hB e_W_acts_626 sp_200 ?_
  obtain ⟨r629, M629, hr629, h⟩ := bn2_i h
  refine a_ret (v := (some (.int r629))) (M1 := M629) (φ1 := φ) (st1 := [.int r629]) (j1 := k1) (j2 := k2) (ar_S (As := [.ref 1999, .int (200 : Int32)]) (rest := []) hB (c_W_draw (bf_G hB) (sf_m hF (by decide)) hr629) ml_W_217 md_W_draw rfl rfl (Nat.le_of_ble_eq_true rfl) (rmL (c := 0) (s := 0) (K1 := 46) (K2 := 276) (Nat.le_of_ble_eq_true rfl) (Nat.le_of_ble_eq_true rfl) (by omega) (by omega) rfl rfl rfl rfl) e_W_acts_629) rfl rfl rfl ?_
  refine a_istore (ls' := [(4, .int r629), (3, .int r621), (0, .ref 0), (1, .ref 1999)]) hB e_W_acts_632 (Nat.le_of_ble_eq_true rfl) rfl ?_
  refine a_aload_n (j := 2) hB e_W_acts_634 rfl rfl ?_
  obtain ⟨r635, hr635, h⟩ := bn_i h
  refine a_ret (v := (some (.int r635))) (M1 := M629) (φ1 := φ) (st1 := [.int r635]) (j1 := k1) (j2 := k2) (ar_V (As := []) (rest := []) hB (c_C_isAdjusted (bf_G hB) (sf_m hF (by decide)) hr635) ml_W_160 md_C_isAdjusted rc_C_isAdjusted (sf_lt hF (by decide)) kk_0 rfl rfl (Nat.le_of_ble_eq_true rfl) (rmL (c := 0) (s := 0) (K1 := 46) (K2 := 276) (Nat.le_of_ble_eq_true rfl) (Nat.le_of_ble_eq_true rfl) (by omega) (by omega) rfl rfl rfl rfl) e_W_acts_635) rfl rfl rfl ?_
  refine a_istore (ls' := [(5, .int r635), (4, .int r629), (3, .int r621), (0, .ref 0), (1, .ref 1999)]) hB e_W_acts_638 (Nat.le_of_ble_eq_true rfl) rfl ?_
  refine a_aload_n (j := 3) hB e_W_acts_640 rfl rfl ?_
  refine a_iload (j := 1) hB e_W_acts_641 rfl ?_
  obtain ⟨r643, M643, hr643, h⟩ := bn2_i h
  refine a_ret (v := (some (.int r643))) (M1 := M643) (φ1 := φ) (st1 := [.int r643]) (j1 := k1 + 1) (j2 := k2 + 6) (ar_SX (As := [.ref 0, .int r629]) (rest := []) hB (c_W_setWear (bf_G hB) hF hd hr643) ml_W_249 md_W_setWear rfl rfl (Nat.le_of_ble_eq_true rfl) (rmL (c := 1) (s := 6) (K1 := 46) (K2 := 276) (Nat.le_of_ble_eq_true rfl) (Nat.le_of_ble_eq_true rfl) (by omega) (by omega) rfl rfl rfl rfl) e_W_acts_643) rfl rfl rfl ?_
  refine a_iload_n (j := 2) hB e_W_acts_646 rfl rfl ?_
  refine a_icmp_ne (tgt := 676) hB e_W_acts_647 (by decide) (fun c => ?_) (fun c => ?_)
  · have h := iq c h
    refine a_ls [] (ls' := []) rfl ?_
    exact t_W_acts_676 hB hF hd (by omega) (by omega) h
  · have h := ip c h
    refine a_aload_n (j := 3) hB e_W_acts_650 rfl rfl ?_
    refine a_aload_n (j := 4) hB e_W_acts_651 rfl rfl ?_
    refine a_iconst (v := 2) hB e_W_acts_652 ic_2 ?_
    obtain ⟨r653, M653, hr653, h⟩ := bn2_i h
    refine a_ret (v := (some (.int r653))) (M1 := M653) (φ1 := φ) (st1 := [.int r653, .ref 0]) (j1 := k1 + 1) (j2 := k2 + 6) (ar_S (As := [.ref 1999, .int (2 : Int32)]) (rest := [.ref 0]) hB (c_W_draw (bf_G hB) (sf_m hF (by decide)) hr653) ml_W_217 md_W_draw rfl rfl (Nat.le_of_ble_eq_true rfl) (rmL (c := 0) (s := 0) (K1 := 46) (K2 := 276) (Nat.le_of_ble_eq_true rfl) (Nat.le_of_ble_eq_true rfl) (by omega) (by omega) rfl rfl rfl rfl) e_W_acts_653) rfl rfl rfl ?_
    refine a_if_ne (tgt := 663) hB e_W_acts_656 (by decide) (fun c => ?_) (fun c => ?_)
    · have h := iq c h
      refine a_iconst (v := 0) hB e_W_acts_663 ic_0 ?_
      refine a_ls [0] (ls' := [(5, .int r635)]) rfl ?_
      exact t_W_acts_664 hB hF hd (by omega) (by omega) h
    · have h := ip c h
      refine a_iconst (v := 1) hB e_W_acts_659 ic_1 ?_
      refine a_goto (tgt := 664) hB e_W_acts_660 (by decide) ?_
      refine a_ls [0] (ls' := [(5, .int r635)]) rfl ?_
      exact t_W_acts_664 hB hF hd (by omega) (by omega) h
set_option maxRecDepth 100000 in
theorem t_W_acts_719 {G : Gt} {B : Bag} {o : Int32} {M9 : Mm} (hB : BF G I_W_acts B)  {φ : Ph} (hF : SF 138 φ) (hd : dirt φ = φ)   {k1 k2 : Nat}  (hk1 : k1 + (0) ≤ 46) (hk2 : k2 + 6 * (0) ≤ 276) {t0 : Int32} {M : Mm} (h : f_W_acts_719 t0 M = some (o, M9)) : AW G I_W_acts B (QM G I_W_acts B (.inl (some (.int o))) M9 φ) k1 k2 719 [] [.int t0] M φ := by
  unfold f_W_acts_719 at h
  obtain ⟨z719, h⟩ := chk_i h
  cases h
  exact a_zret hB rfl z719 e_W_acts_719 (le_K (K := 46) (by omega) rfl) (le_K (K := 276) (by omega) rfl)
set_option maxRecDepth 100000 in
theorem t_W_acts_714 {G : Gt} {B : Bag} {o : Int32} {M9 : Mm} (hB : BF G I_W_acts B)  {φ : Ph} (hF : SF 138 φ) (hd : dirt φ = φ)   {k1 k2 : Nat}  (hk1 : k1 + (0) ≤ 46) (hk2 : k2 + 6 * (0) ≤ 276)  {M : Mm} (h : f_W_acts_714 M = some (o, M9)) : AW G I_W_acts B (QM G I_W_acts B (.inl (some (.int o))) M9 φ) k1 k2 714 [] [] M φ := by
  unfold f_W_acts_714 at h
  refine a_iconst (v := 1) hB e_W_acts_714 ic_1 ?_
  refine a_goto (tgt := 719) hB e_W_acts_715 (by decide) ?_
  exact t_W_acts_719 hB hF hd (by omega) (by omega) h
set_option maxRecDepth 100000 in
theorem t_W_acts_678 {G : Gt} {B : Bag} {o : Int32} {M9 : Mm} (hB : BF G I_W_acts B)  {φ : Ph} (hF : SF 138 φ) (hd : dirt φ = φ)   {k1 k2 : Nat}  (hk1 : k1 + (1) ≤ 46) (hk2 : k2 + 6 * (1) ≤ 276) {l2 : Int32} {M : Mm} (h : f_W_acts_678 l2 M = some (o, M9)) : AW G I_W_acts B (QM G I_W_acts B (.inl (some (.int o))) M9 φ) k1 k2 678 [(0, .ref 0), (2, .int l2)] [] M φ := by
  unfold f_W_acts_678 at h
  refine a_iload_n (j := 1) hB e_W_acts_678 rfl rfl ?_
  refine a_if_ne (tgt := 699) hB e_W_acts_679 (by decide) (fun c => ?_) (fun c => ?_)
  · have h := iq c h
    refine a_iload_n (j := 1) hB e_W_acts_699 rfl rfl ?_
    refine a_iconst (v := 4) hB e_W_acts_700 ic_4 ?_
    refine a_icmp_lt (tgt := 714) hB e_W_acts_701 (by decide) (fun c => ?_) (fun c => ?_)
    · have h := ip c h
      refine a_ls [] (ls' := []) rfl ?_
      exact t_W_acts_714 hB hF hd (by omega) (by omega) h
    · have h := iq c h
      refine a_aload_n (j := 0) hB e_W_acts_704 rfl rfl ?_
      obtain ⟨r705, M705, hr705, h⟩ := bn2_i h
      refine a_ret (v := (some (.int r705))) (M1 := M705) (φ1 := φ) (st1 := [.int r705]) (j1 := k1 + 1) (j2 := k2 + 6) (ar_SX (As := [.ref 0]) (rest := []) hB (c_W_removeLast (bf_G hB) hF hd hr705) ml_W_255 md_W_removeLast rfl rfl (Nat.le_of_ble_eq_true rfl) (rmL (c := 1) (s := 6) (K1 := 46) (K2 := 276) (Nat.le_of_ble_eq_true rfl) (Nat.le_of_ble_eq_true rfl) (by omega) (by omega) rfl rfl rfl rfl) e_W_acts_705) rfl rfl rfl ?_
      refine a_iload_n (j := 1) hB e_W_acts_708 rfl rfl ?_
      refine a_iconst (v := 1) hB e_W_acts_709 ic_1 ?_
      refine a_isub hB e_W_acts_710 ?_
      refine a_icmp_ne (tgt := 718) hB e_W_acts_711 (by decide) (fun c => ?_) (fun c => ?_)
      · have h := iq c h
        refine a_iconst (v := 0) hB e_W_acts_718 ic_0 ?_
        refine a_ls [] (ls' := []) rfl ?_
        exact t_W_acts_719 hB hF hd (by omega) (by omega) h
      · have h := ip c h
        refine a_ls [] (ls' := []) rfl ?_
        exact t_W_acts_714 hB hF hd (by omega) (by omega) h
  · have h := ip c h
    refine a_aload_n (j := 0) hB e_W_acts_682 rfl rfl ?_
    obtain ⟨r683, M683, hr683, h⟩ := bn2_i h
    refine a_ret (v := (some (.int r683))) (M1 := M683) (φ1 := φ) (st1 := [.int r683]) (j1 := k1 + 1) (j2 := k2 + 6) (ar_SX (As := [.ref 0]) (rest := []) hB (c_W_removeLast (bf_G hB) hF hd hr683) ml_W_255 md_W_removeLast rfl rfl (Nat.le_of_ble_eq_true rfl) (rmL (c := 1) (s := 6) (K1 := 46) (K2 := 276) (Nat.le_of_ble_eq_true rfl) (Nat.le_of_ble_eq_true rfl) (by omega) (by omega) rfl rfl rfl rfl) e_W_acts_683) rfl rfl rfl ?_
    refine a_ldc (v := -1000000019) hB cn_W_22 e_W_acts_686 ?_
    refine a_icmp_ne (tgt := 695) hB e_W_acts_688 (by decide) (fun c => ?_) (fun c => ?_)
    · have h := iq c h
      refine a_iconst (v := 0) hB e_W_acts_695 ic_0 ?_
      refine a_goto (tgt := 719) hB e_W_acts_696 (by decide) ?_
      refine a_ls [] (ls' := []) rfl ?_
      exact t_W_acts_719 hB hF hd (by omega) (by omega) h
    · have h := ip c h
      refine a_iconst (v := 1) hB e_W_acts_691 ic_1 ?_
      refine a_goto (tgt := 719) hB e_W_acts_692 (by decide) ?_
      refine a_ls [] (ls' := []) rfl ?_
      exact t_W_acts_719 hB hF hd (by omega) (by omega) h
set_option maxRecDepth 100000 in
theorem t_W_acts {G : Gt} {B : Bag} {o : Int32} {M9 : Mm} (hB : BF G I_W_acts B)  {φ : Ph} (hF : SF 138 φ) (hd : dirt φ = φ)    {M : Mm} (h : f_W_acts M = some (o, M9)) : AW G I_W_acts B (QM G I_W_acts B (.inl (some (.int o))) M9 φ) 0 0 0 [(0, .ref 0), (1, .ref 1999)] [] M φ := by
  unfold f_W_acts at h
  refine a_aload_n (j := 0) hB e_W_acts_0 rfl rfl ?_
  obtain ⟨r1, hr1, h⟩ := bn_i h
  refine a_ret (v := (some (.int r1))) (M1 := M) (φ1 := φ) (st1 := [.int r1]) (j1 := 0) (j2 := 0) (ar_V (As := []) (rest := []) hB (c_C_legCount (bf_G hB) (sf_m hF (by decide)) hr1) ml_W_126 md_C_legCount rc_C_legCount (sf_lt hF (by decide)) kk_0 rfl rfl (Nat.le_of_ble_eq_true rfl) (rmL (c := 0) (s := 0) (K1 := 46) (K2 := 276) (Nat.le_of_ble_eq_true rfl) (Nat.le_of_ble_eq_true rfl) (Nat.le_of_ble_eq_true rfl) (Nat.le_of_ble_eq_true rfl) rfl rfl rfl rfl) e_W_acts_1) rfl rfl rfl ?_
  refine a_istore_n (ls' := [(2, .int r1), (0, .ref 0), (1, .ref 1999)]) hB e_W_acts_4 rfl (Nat.le_of_ble_eq_true rfl) rfl ?_
  refine a_aload_n (j := 2) hB e_W_acts_5 rfl rfl ?_
  refine a_bipush (v := 9) hB e_W_acts_6 bp_9 ?_
  obtain ⟨r8, M8, hr8, h⟩ := bn2_i h
  refine a_ret (v := (some (.int r8))) (M1 := M8) (φ1 := φ) (st1 := [.int r8]) (j1 := 0) (j2 := 0) (ar_S (As := [.ref 1999, .int (9 : Int32)]) (rest := []) hB (c_W_draw (bf_G hB) (sf_m hF (by decide)) hr8) ml_W_217 md_W_draw rfl rfl (Nat.le_of_ble_eq_true rfl) (rmL (c := 0) (s := 0) (K1 := 46) (K2 := 276) (Nat.le_of_ble_eq_true rfl) (Nat.le_of_ble_eq_true rfl) (Nat.le_of_ble_eq_true rfl) (Nat.le_of_ble_eq_true rfl) rfl rfl rfl rfl) e_W_acts_8) rfl rfl rfl ?_
  rcases Decidable.em (r8.toInt < 0 ∨ 7 < r8.toInt) with q | q
  · have h := ip q h
    refine a_tabOut (tgt := 678) hB e_W_acts_11 q (by decide) ?_
    refine a_ls [1, 0] (ls' := [(0, .ref 0), (2, .int r1)]) rfl ?_
    exact t_W_acts_678 hB hF hd (by omega) (by omega) h
  · have h := iq q h
    rcases Decidable.em (r8 = 0) with q | q
    · have h := ip q h
      refine a_tabIn (v := 0) (off := 45) (tgt := 56) hB e_W_acts_11 q (by decide) (by decide) rfl (by decide) ?_
      refine a_ls [1, 2, 0] (ls' := [(0, .ref 0), (1, .ref 1999), (2, .int r1)]) rfl ?_
      exact t_W_acts_56 hB hF hd (by omega) (by omega) h
    · have h := iq q h
      rcases Decidable.em (r8 = 1) with q | q
      · have h := ip q h
        refine a_tabIn (v := 1) (off := 45) (tgt := 56) hB e_W_acts_11 q (by decide) (by decide) rfl (by decide) ?_
        refine a_ls [1, 2, 0] (ls' := [(0, .ref 0), (1, .ref 1999), (2, .int r1)]) rfl ?_
        exact t_W_acts_56 hB hF hd (by omega) (by omega) h
      · have h := iq q h
        rcases Decidable.em (r8 = 2) with q | q
        · have h := ip q h
          refine a_tabIn (v := 2) (off := 189) (tgt := 200) hB e_W_acts_11 q (by decide) (by decide) rfl (by decide) ?_
          refine a_ls [1, 2, 0] (ls' := [(0, .ref 0), (1, .ref 1999), (2, .int r1)]) rfl ?_
          exact t_W_acts_200 hB hF hd (by omega) (by omega) h
        · have h := iq q h
          rcases Decidable.em (r8 = 3) with q | q
          · have h := ip q h
            refine a_tabIn (v := 3) (off := 262) (tgt := 273) hB e_W_acts_11 q (by decide) (by decide) rfl (by decide) ?_
            refine a_ls [1, 2, 0] (ls' := [(0, .ref 0), (1, .ref 1999), (2, .int r1)]) rfl ?_
            exact t_W_acts_273 hB hF hd (by omega) (by omega) h
          · have h := iq q h
            rcases Decidable.em (r8 = 4) with q | q
            · have h := ip q h
              refine a_tabIn (v := 4) (off := 262) (tgt := 273) hB e_W_acts_11 q (by decide) (by decide) rfl (by decide) ?_
              refine a_ls [1, 2, 0] (ls' := [(0, .ref 0), (1, .ref 1999), (2, .int r1)]) rfl ?_
              exact t_W_acts_273 hB hF hd (by omega) (by omega) h
            · have h := iq q h
              rcases Decidable.em (r8 = 5) with q | q
              · have h := ip q h
                refine a_tabIn (v := 5) (off := 413) (tgt := 424) hB e_W_acts_11 q (by decide) (by decide) rfl (by decide) ?_
                refine a_ls [1, 0] (ls' := [(0, .ref 0), (2, .int r1)]) rfl ?_
                exact t_W_acts_424 hB hF hd (by omega) (by omega) h
              · have h := iq q h
                rcases Decidable.em (r8 = 6) with q | q
                · have h := ip q h
                  refine a_tabIn (v := 6) (off := 495) (tgt := 506) hB e_W_acts_11 q (by decide) (by decide) rfl (by decide) ?_
                  refine a_ls [1, 2] (ls' := [(0, .ref 0), (1, .ref 1999)]) rfl ?_
                  exact t_W_acts_506 hB hF hd (by omega) (by omega) h
                · have h := iq q h
                  rcases Decidable.em (r8 = 7) with q | q
                  · have h := ip q h
                    refine a_tabIn (v := 7) (off := 609) (tgt := 620) hB e_W_acts_11 q (by decide) (by decide) rfl (by decide) ?_
                    refine a_ls [1, 2] (ls' := [(0, .ref 0), (1, .ref 1999)]) rfl ?_
                    exact t_W_acts_620 hB hF hd (by omega) (by omega) h
                  · have h := iq q h
                    cases h
set_option maxRecDepth 100000 in
theorem c_W_acts {G : Gt} (hG : GOK G) {φ : Ph} (hF : SF 138 φ) (hd : dirt φ = φ) {M : Mm}  {o : Int32} {M9 : Mm} (h : f_W_acts M = some (o, M9)) : CT G I_W_acts [.ref 0, .ref 1999] M φ (.inl (some (.int o))) M9 φ :=
  ct_of hG (by decide) (Nat.le_of_ble_eq_true rfl) (fun B hB => t_W_acts hB hF hd h)
set_option maxRecDepth 100000 in
theorem t_W_law_102 {G : Gt} {B : Bag} {nm : String} {hh : List (Nat × Nat × Nat × Nat)} {Qm : State → Prop} {M9 : Mm} (hB : BF G (I_W_law nm hh) B) (hend : ∀ (k1 k2 pc : Nat) (ls : List (Nat × Value)) (M : Mm) (φ : Ph), decode (mB (I_W_law nm hh)) pc = .ok (.ireturn, 1) → k1 ≤ 600086 → k2 ≤ 7301441 → AW G (I_W_law nm hh) B Qm k1 k2 pc ls [.int 1] M φ)  {φ : Ph} (hF : SF 138 φ) (hd : dirt φ = φ) {T : Nat} {L : Nat} (hT_T : gT G = T) (hn_L : gN G = L) {k1 k2 : Nat}  (hk1 : k1 + (0) ≤ 600086) (hk2 : k2 + 6 * (0) ≤ 7301441)  {M : Mm} (h : f_W_law_102 T L M = some (1, M9)) : AW G (I_W_law nm hh) B Qm k1 k2 102 [] [] M φ := by
  unfold f_W_law_102 at h
  refine a_iconst (v := 0) hB e_W_law_102 ic_0 ?_
  exact (no01 h).elim
set_option maxRecDepth 100000 in
theorem t_W_law_129 {G : Gt} {B : Bag} {nm : String} {hh : List (Nat × Nat × Nat × Nat)} {Qm : State → Prop} {M9 : Mm} (hB : BF G (I_W_law nm hh) B) (hend : ∀ (k1 k2 pc : Nat) (ls : List (Nat × Value)) (M : Mm) (φ : Ph), decode (mB (I_W_law nm hh)) pc = .ok (.ireturn, 1) → k1 ≤ 600086 → k2 ≤ 7301441 → AW G (I_W_law nm hh) B Qm k1 k2 pc ls [.int 1] M φ)  {φ : Ph} (hF : SF 138 φ) (hd : dirt φ = φ) {T : Nat} {L : Nat} (hT_T : gT G = T) (hn_L : gN G = L) {k1 k2 : Nat}  (hk1 : k1 + (0) ≤ 600086) (hk2 : k2 + 6 * (0) ≤ 7301441)  {M : Mm} (h : f_W_law_129 T L M = some (1, M9)) : AW G (I_W_law nm hh) B Qm k1 k2 129 [] [] M φ := by
  unfold f_W_law_129 at h
  refine a_iconst (v := 0) hB e_W_law_129 ic_0 ?_
  exact (no01 h).elim
set_option maxRecDepth 100000 in
theorem t_W_law_254 {G : Gt} {B : Bag} {nm : String} {hh : List (Nat × Nat × Nat × Nat)} {Qm : State → Prop} {M9 : Mm} (hB : BF G (I_W_law nm hh) B) (hend : ∀ (k1 k2 pc : Nat) (ls : List (Nat × Value)) (M : Mm) (φ : Ph), decode (mB (I_W_law nm hh)) pc = .ok (.ireturn, 1) → k1 ≤ 600086 → k2 ≤ 7301441 → AW G (I_W_law nm hh) B Qm k1 k2 pc ls [.int 1] M φ)  {φ : Ph} (hF : SF 138 φ) (hd : dirt φ = φ) {T : Nat} {L : Nat} (hT_T : gT G = T) (hn_L : gN G = L) {k1 k2 : Nat}  (hk1 : k1 + (0) ≤ 600086) (hk2 : k2 + 6 * (0) ≤ 7301441)  {M : Mm} (h : f_W_law_254 T L M = some (1, M9)) : AW G (I_W_law nm hh) B Qm k1 k2 254 [] [] M φ := by
  unfold f_W_law_254 at h
  refine a_iconst (v := 0) hB e_W_law_254 ic_0 ?_
  exact (no01 h).elim
set_option maxRecDepth 100000 in
theorem t_W_law_178 {G : Gt} {B : Bag} {nm : String} {hh : List (Nat × Nat × Nat × Nat)} {Qm : State → Prop} {M9 : Mm} (hB : BF G (I_W_law nm hh) B) (hend : ∀ (k1 k2 pc : Nat) (ls : List (Nat × Value)) (M : Mm) (φ : Ph), decode (mB (I_W_law nm hh)) pc = .ok (.ireturn, 1) → k1 ≤ 600086 → k2 ≤ 7301441 → AW G (I_W_law nm hh) B Qm k1 k2 pc ls [.int 1] M φ)  {φ : Ph} (hF : SF 138 φ) (hd : dirt φ = φ) {T : Nat} {L : Nat} (hT_T : gT G = T) (hn_L : gN G = L) {k1 k2 : Nat}  (hk1 : k1 + (1513) ≤ 600086) (hk2 : k2 + 6 * (1513) ≤ 7301441) {l4 : Int32} {l5 : Int32} {l6 : Int32} {l7 : Int32} {l8 : Int32} {t1 : Int32} {M : Mm} (h : f_W_law_178 T L l4 l5 l6 l7 l8 t1 M = some (1, M9)) : AW G (I_W_law nm hh) B Qm k1 k2 178 [(0, .ref 2000), (1, .int (0 : Int32)), (3, .ref 0), (4, .int l4), (5, .int l5), (6, .int l6), (7, .int l7), (8, .int l8)] [.int t1, .ref 0] M φ := by
  unfold f_W_law_178 at h
  obtain ⟨r178, M178, hr178, h⟩ := bn2_i h
  refine a_ret (v := (some (.int r178))) (M1 := M178) (φ1 := φ) (st1 := [.int r178]) (j1 := k1) (j2 := k2) (ar_V (As := [.int t1]) (rest := []) hB (c_C_setAdjusted (bf_G hB) (sf_m hF (by decide)) hr178) ml_W_251 md_C_setAdjusted rc_C_setAdjusted (sf_lt hF (by decide)) kk_0 rfl rfl (Nat.le_of_ble_eq_true rfl) (rmL (c := 0) (s := 0) (K1 := 600086) (K2 := 7301441) (Nat.le_of_ble_eq_true rfl) (Nat.le_of_ble_eq_true rfl) (by omega) (by omega) rfl rfl rfl rfl) e_W_law_178) rfl rfl rfl ?_
  refine a_iload (j := 7) hB e_W_law_181 rfl ?_
  refine a_icmp_ne (tgt := 254) hB e_W_law_183 (by decide) (fun c => ?_) (fun c => ?_)
  · have h := iq c h
    refine a_ls [] (ls' := []) rfl ?_
    exact t_W_law_254 hB hend hF hd hT_T hn_L (by omega) (by omega) h
  · have h := ip c h
    refine a_aload_n (j := 2) hB e_W_law_186 rfl rfl ?_
    obtain ⟨r187, M187, hr187, h⟩ := bn2_i h
    refine a_ret (v := (some (.int r187))) (M1 := M187) (φ1 := φ) (st1 := [.int r187]) (j1 := k1 + 756) (j2 := k2 + 4536) (ar_S (As := [.ref 0]) (rest := []) hB (c_W_isSound (bf_G hB) hF hd hr187) ml_W_285 md_W_isSound rfl rfl (Nat.le_of_ble_eq_true rfl) (rmL (c := 756) (s := 4536) (K1 := 600086) (K2 := 7301441) (Nat.le_of_ble_eq_true rfl) (Nat.le_of_ble_eq_true rfl) (by omega) (by omega) rfl rfl rfl rfl) e_W_law_187) rfl rfl rfl ?_
    refine a_if_eq (tgt := 254) hB e_W_law_190 (by decide) (fun c => ?_) (fun c => ?_)
    · have h := ip c h
      refine a_ls [] (ls' := []) rfl ?_
      exact t_W_law_254 hB hend hF hd hT_T hn_L (by omega) (by omega) h
    · have h := iq c h
      refine a_aload_n (j := 2) hB e_W_law_193 rfl rfl ?_
      obtain ⟨r194, M194, hr194, h⟩ := bn2_i h
      refine a_ret (v := (some (.int r194))) (M1 := M194) (φ1 := φ) (st1 := [.int r194]) (j1 := k1 + 757) (j2 := k2 + 4542) (ar_SX (As := [.ref 0]) (rest := []) hB (c_W_undo (bf_G hB) hF hd hr194) ml_W_296 md_W_undo rfl rfl (Nat.le_of_ble_eq_true rfl) (rmL (c := 1) (s := 6) (K1 := 600086) (K2 := 7301441) (Nat.le_of_ble_eq_true rfl) (Nat.le_of_ble_eq_true rfl) (by omega) (by omega) rfl rfl rfl rfl) e_W_law_194) rfl rfl rfl ?_
      refine a_bipush (v := 8) hB e_W_law_197 bp_8 ?_
      refine a_iload (j := 3) hB e_W_law_199 rfl ?_
      refine a_iconst (v := 1) hB e_W_law_201 ic_1 ?_
      refine a_iadd hB e_W_law_202 ?_
      refine a_min hB ml_W_298 ms_min ini_math mc_min (Nat.le_of_ble_eq_true rfl) (Nat.le_of_ble_eq_true rfl) (le_K (K := 600086) (by omega) rfl) (le_K (K := 7301441) (by omega) rfl) e_W_law_203 ?_
      refine a_iconst (v := 1) hB e_W_law_206 ic_1 ?_
      refine a_isub hB e_W_law_207 ?_
      refine a_icmp_ne (tgt := 254) hB e_W_law_208 (by decide) (fun c => ?_) (fun c => ?_)
      · have h := iq c h
        refine a_ls [] (ls' := []) rfl ?_
        exact t_W_law_254 hB hend hF hd hT_T hn_L (by omega) (by omega) h
      · have h := ip c h
        refine a_aload_n (j := 2) hB e_W_law_211 rfl rfl ?_
        obtain ⟨r212, hr212, h⟩ := bn_i h
        refine a_ret (v := (some (.int r212))) (M1 := M194) (φ1 := φ) (st1 := [.int r212]) (j1 := k1 + 757) (j2 := k2 + 4542) (ar_V (As := []) (rest := []) hB (c_C_isAdjusted (bf_G hB) (sf_m hF (by decide)) hr212) ml_W_160 md_C_isAdjusted rc_C_isAdjusted (sf_lt hF (by decide)) kk_0 rfl rfl (Nat.le_of_ble_eq_true rfl) (rmL (c := 0) (s := 0) (K1 := 600086) (K2 := 7301441) (Nat.le_of_ble_eq_true rfl) (Nat.le_of_ble_eq_true rfl) (by omega) (by omega) rfl rfl rfl rfl) e_W_law_212) rfl rfl rfl ?_
        refine a_iload (j := 7) hB e_W_law_215 rfl ?_
        refine a_icmp_ne (tgt := 254) hB e_W_law_217 (by decide) (fun c => ?_) (fun c => ?_)
        · have h := iq c h
          refine a_ls [] (ls' := []) rfl ?_
          exact t_W_law_254 hB hend hF hd hT_T hn_L (by omega) (by omega) h
        · have h := ip c h
          refine a_aload_n (j := 2) hB e_W_law_220 rfl rfl ?_
          obtain ⟨r221, hr221, h⟩ := bn_i h
          refine a_ret (v := (some (.int r221))) (M1 := M194) (φ1 := φ) (st1 := [.int r221]) (j1 := k1 + 757) (j2 := k2 + 4542) (ar_V (As := []) (rest := []) hB (c_C_legCount (bf_G hB) (sf_m hF (by decide)) hr221) ml_W_126 md_C_legCount rc_C_legCount (sf_lt hF (by decide)) kk_0 rfl rfl (Nat.le_of_ble_eq_true rfl) (rmL (c := 0) (s := 0) (K1 := 600086) (K2 := 7301441) (Nat.le_of_ble_eq_true rfl) (Nat.le_of_ble_eq_true rfl) (by omega) (by omega) rfl rfl rfl rfl) e_W_law_221) rfl rfl rfl ?_
          refine a_iload (j := 4) hB e_W_law_224 rfl ?_
          refine a_icmp_ne (tgt := 254) hB e_W_law_226 (by decide) (fun c => ?_) (fun c => ?_)
          · have h := iq c h
            refine a_ls [] (ls' := []) rfl ?_
            exact t_W_law_254 hB hend hF hd hT_T hn_L (by omega) (by omega) h
          · have h := ip c h
            refine a_aload_n (j := 2) hB e_W_law_229 rfl rfl ?_
            obtain ⟨r230, M230, hr230, h⟩ := bn2_i h
            refine a_ret (v := (some (.int r230))) (M1 := M230) (φ1 := φ) (st1 := [.int r230]) (j1 := k1 + 757) (j2 := k2 + 4542) (ar_V (As := []) (rest := []) hB (c_C_misclosure (bf_G hB) (sf_m hF (by decide)) hr230) ml_W_175 md_C_misclosure rc_C_misclosure (sf_lt hF (by decide)) kk_0 rfl rfl (Nat.le_of_ble_eq_true rfl) (rmL (c := 0) (s := 0) (K1 := 600086) (K2 := 7301441) (Nat.le_of_ble_eq_true rfl) (Nat.le_of_ble_eq_true rfl) (by omega) (by omega) rfl rfl rfl rfl) e_W_law_230) rfl rfl rfl ?_
            refine a_iload (j := 5) hB e_W_law_233 rfl ?_
            refine a_icmp_ne (tgt := 254) hB e_W_law_235 (by decide) (fun c => ?_) (fun c => ?_)
            · have h := iq c h
              refine a_ls [] (ls' := []) rfl ?_
              exact t_W_law_254 hB hend hF hd hT_T hn_L (by omega) (by omega) h
            · have h := ip c h
              refine a_aload_n (j := 2) hB e_W_law_238 rfl rfl ?_
              obtain ⟨r239, M239, hr239, h⟩ := bn2_i h
              refine a_ret (v := (some (.int r239))) (M1 := M239) (φ1 := φ) (st1 := [.int r239]) (j1 := k1 + 757) (j2 := k2 + 4542) (ar_V (As := []) (rest := []) hB (c_C_perimeter (bf_G hB) (sf_m hF (by decide)) hr239) ml_W_178 md_C_perimeter rc_C_perimeter (sf_lt hF (by decide)) kk_0 rfl rfl (Nat.le_of_ble_eq_true rfl) (rmL (c := 0) (s := 0) (K1 := 600086) (K2 := 7301441) (Nat.le_of_ble_eq_true rfl) (Nat.le_of_ble_eq_true rfl) (by omega) (by omega) rfl rfl rfl rfl) e_W_law_239) rfl rfl rfl ?_
              refine a_iload (j := 6) hB e_W_law_242 rfl ?_
              refine a_icmp_ne (tgt := 254) hB e_W_law_244 (by decide) (fun c => ?_) (fun c => ?_)
              · have h := iq c h
                refine a_ls [] (ls' := []) rfl ?_
                exact t_W_law_254 hB hend hF hd hT_T hn_L (by omega) (by omega) h
              · have h := ip c h
                refine a_aload_n (j := 2) hB e_W_law_247 rfl rfl ?_
                obtain ⟨r248, M248, hr248, h⟩ := bn2_i h
                refine a_ret (v := (some (.int r248))) (M1 := M248) (φ1 := φ) (st1 := [.int r248]) (j1 := k1 + 1513) (j2 := k2 + 9078) (ar_S (As := [.ref 0]) (rest := []) hB (c_W_isSound (bf_G hB) hF hd hr248) ml_W_285 md_W_isSound rfl rfl (Nat.le_of_ble_eq_true rfl) (rmL (c := 756) (s := 4536) (K1 := 600086) (K2 := 7301441) (Nat.le_of_ble_eq_true rfl) (Nat.le_of_ble_eq_true rfl) (by omega) (by omega) rfl rfl rfl rfl) e_W_law_248) rfl rfl rfl ?_
                refine a_if_ne (tgt := 256) hB e_W_law_251 (by decide) (fun c => ?_) (fun c => ?_)
                · have h := iq c h
                  refine a_iinc (j := 1) (v := (1 : Int32)) (ls' := [(1, .int (1 : Int32)), (0, .ref 2000), (3, .ref 0), (4, .int l4), (5, .int l5), (6, .int l6), (7, .int l7), (8, .int l8)]) hB e_W_law_256 rfl (by decide) (Nat.le_of_ble_eq_true rfl) rfl ?_
                  refine a_goto (tgt := 2) hB e_W_law_259 (by decide) ?_
                  refine a_iload_n (j := 0) hB e_W_law_2 rfl rfl ?_
                  refine a_aload_n (j := 1) hB e_W_law_3 rfl rfl ?_
                  refine a_slen' hB hn_L e_W_law_4 ?_
                  refine a_icmp_ge (tgt := 262) hB e_W_law_5 (by decide) (fun c => ?_) (fun c => ?_)
                  · have h := ip c h
                    refine a_iconst (v := 1) hB e_W_law_262 ic_1 ?_
                    exact hend _ _ _ _ _ _ e_W_law_263 (by omega) (by omega)
                  · have h := iq c h
                    refine a_iload_n (j := 0) hB e_W_law_8 rfl rfl ?_
                    refine a_iconst (v := 1) hB e_W_law_9 ic_1 ?_
                    refine a_icmp_ge (tgt := 262) hB e_W_law_10 (by decide) (fun c => ?_) (fun c => absurd c (by decide))
                    refine a_iconst (v := 1) hB e_W_law_262 ic_1 ?_
                    exact hend _ _ _ _ _ _ e_W_law_263 (by omega) (by omega)
                · have h := ip c h
                  refine a_ls [] (ls' := []) rfl ?_
                  exact t_W_law_254 hB hend hF hd hT_T hn_L (by omega) (by omega) h
set_option maxRecDepth 100000 in
theorem t_W_law_107 {G : Gt} {B : Bag} {nm : String} {hh : List (Nat × Nat × Nat × Nat)} {Qm : State → Prop} {M9 : Mm} (hB : BF G (I_W_law nm hh) B) (hend : ∀ (k1 k2 pc : Nat) (ls : List (Nat × Value)) (M : Mm) (φ : Ph), decode (mB (I_W_law nm hh)) pc = .ok (.ireturn, 1) → k1 ≤ 600086 → k2 ≤ 7301441 → AW G (I_W_law nm hh) B Qm k1 k2 pc ls [.int 1] M φ)  {φ : Ph} (hF : SF 138 φ) (hd : dirt φ = φ) {T : Nat} {L : Nat} (hT_T : gT G = T) (hn_L : gN G = L) : ∀ (n k1 k2 : Nat) (l4 : Int32) (M : Mm), k1 + (n * 802 + 1513) ≤ 600086 → k2 + 6 * (n * 802 + 1513) ≤ 7301441 → f_W_law_107 T L n l4 M = some (1, M9) → AW G (I_W_law nm hh) B Qm k1 k2 107 [(0, .ref 2000), (1, .int (0 : Int32)), (2, .ref 1999), (3, .ref 0), (4, .int l4)] [] M φ := by
  intro n
  induction n with
  | zero => intro k1 k2 l4 M hk1 hk2 h; cases h
  | succ n hr107 =>
    intro k1 k2 l4 M hk1 hk2 h
    have hr107 : ∀ (k1 k2 : Nat) (l4 : Int32) (M : Mm), k1 + (n * 802 + 1513) ≤ 600086 → k2 + 6 * (n * 802 + 1513) ≤ 7301441 → f_W_law_107 T L n l4 M = some (1, M9) → AW G (I_W_law nm hh) B Qm k1 k2 107 [(0, .ref 2000), (1, .int (0 : Int32)), (2, .ref 1999), (3, .ref 0), (4, .int l4)] [] M φ := fun a b => hr107 a b
    have hc107 : 1513 ≤ n * 802 + 1513 := Nat.le_add_left _ _
    rw [f_W_law_107] at h
    refine a_iload (j := 4) hB e_W_law_107 rfl ?_
    refine a_bipush (v := 16) hB e_W_law_109 bp_16 ?_
    refine a_icmp_ge (tgt := 137) hB e_W_law_111 (by decide) (fun c => ?_) (fun c => ?_)
    · have h := ip c h
      refine a_aload_n (j := 3) hB e_W_law_137 rfl rfl ?_
      obtain ⟨r138, hr138, h⟩ := bn_i h
      refine a_ret (v := (some (.int r138))) (M1 := M) (φ1 := φ) (st1 := [.int r138]) (j1 := k1) (j2 := k2) (ar_V (As := []) (rest := []) hB (c_C_undoableChanges (bf_G hB) (sf_m hF (by decide)) hr138) ml_W_293 md_C_undoableChanges rc_C_undoableChanges (sf_lt hF (by decide)) kk_0 rfl rfl (Nat.le_of_ble_eq_true rfl) (rmL (c := 0) (s := 0) (K1 := 600086) (K2 := 7301441) (Nat.le_of_ble_eq_true rfl) (Nat.le_of_ble_eq_true rfl) (by omega) (by omega) rfl rfl rfl rfl) e_W_law_138) rfl rfl rfl ?_
      refine a_istore (ls' := [(4, .int r138), (0, .ref 2000), (1, .int (0 : Int32)), (2, .ref 1999), (3, .ref 0)]) hB e_W_law_141 (Nat.le_of_ble_eq_true rfl) rfl ?_
      refine a_aload_n (j := 4) hB e_W_law_143 rfl rfl ?_
      obtain ⟨r144, hr144, h⟩ := bn_i h
      refine a_ret (v := (some (.int r144))) (M1 := M) (φ1 := φ) (st1 := [.int r144]) (j1 := k1) (j2 := k2) (ar_V (As := []) (rest := []) hB (c_C_legCount (bf_G hB) (sf_m hF (by decide)) hr144) ml_W_126 md_C_legCount rc_C_legCount (sf_lt hF (by decide)) kk_0 rfl rfl (Nat.le_of_ble_eq_true rfl) (rmL (c := 0) (s := 0) (K1 := 600086) (K2 := 7301441) (Nat.le_of_ble_eq_true rfl) (Nat.le_of_ble_eq_true rfl) (by omega) (by omega) rfl rfl rfl rfl) e_W_law_144) rfl rfl rfl ?_
      refine a_istore (ls' := [(5, .int r144), (4, .int r138), (0, .ref 2000), (1, .int (0 : Int32)), (2, .ref 1999), (3, .ref 0)]) hB e_W_law_147 (Nat.le_of_ble_eq_true rfl) rfl ?_
      refine a_aload_n (j := 5) hB e_W_law_149 rfl rfl ?_
      obtain ⟨r150, M150, hr150, h⟩ := bn2_i h
      refine a_ret (v := (some (.int r150))) (M1 := M150) (φ1 := φ) (st1 := [.int r150]) (j1 := k1) (j2 := k2) (ar_V (As := []) (rest := []) hB (c_C_misclosure (bf_G hB) (sf_m hF (by decide)) hr150) ml_W_175 md_C_misclosure rc_C_misclosure (sf_lt hF (by decide)) kk_0 rfl rfl (Nat.le_of_ble_eq_true rfl) (rmL (c := 0) (s := 0) (K1 := 600086) (K2 := 7301441) (Nat.le_of_ble_eq_true rfl) (Nat.le_of_ble_eq_true rfl) (by omega) (by omega) rfl rfl rfl rfl) e_W_law_150) rfl rfl rfl ?_
      refine a_istore (ls' := [(6, .int r150), (5, .int r144), (4, .int r138), (0, .ref 2000), (1, .int (0 : Int32)), (2, .ref 1999), (3, .ref 0)]) hB e_W_law_153 (Nat.le_of_ble_eq_true rfl) rfl ?_
      refine a_aload_n (j := 6) hB e_W_law_155 rfl rfl ?_
      obtain ⟨r156, M156, hr156, h⟩ := bn2_i h
      refine a_ret (v := (some (.int r156))) (M1 := M156) (φ1 := φ) (st1 := [.int r156]) (j1 := k1) (j2 := k2) (ar_V (As := []) (rest := []) hB (c_C_perimeter (bf_G hB) (sf_m hF (by decide)) hr156) ml_W_178 md_C_perimeter rc_C_perimeter (sf_lt hF (by decide)) kk_0 rfl rfl (Nat.le_of_ble_eq_true rfl) (rmL (c := 0) (s := 0) (K1 := 600086) (K2 := 7301441) (Nat.le_of_ble_eq_true rfl) (Nat.le_of_ble_eq_true rfl) (by omega) (by omega) rfl rfl rfl rfl) e_W_law_156) rfl rfl rfl ?_
      refine a_istore (ls' := [(7, .int r156), (6, .int r150), (5, .int r144), (4, .int r138), (0, .ref 2000), (1, .int (0 : Int32)), (2, .ref 1999), (3, .ref 0)]) hB e_W_law_159 (Nat.le_of_ble_eq_true rfl) rfl ?_
      refine a_aload_n (j := 7) hB e_W_law_161 rfl rfl ?_
      obtain ⟨r162, hr162, h⟩ := bn_i h
      refine a_ret (v := (some (.int r162))) (M1 := M156) (φ1 := φ) (st1 := [.int r162]) (j1 := k1) (j2 := k2) (ar_V (As := []) (rest := []) hB (c_C_isAdjusted (bf_G hB) (sf_m hF (by decide)) hr162) ml_W_160 md_C_isAdjusted rc_C_isAdjusted (sf_lt hF (by decide)) kk_0 rfl rfl (Nat.le_of_ble_eq_true rfl) (rmL (c := 0) (s := 0) (K1 := 600086) (K2 := 7301441) (Nat.le_of_ble_eq_true rfl) (Nat.le_of_ble_eq_true rfl) (by omega) (by omega) rfl rfl rfl rfl) e_W_law_162) rfl rfl rfl ?_
      refine a_istore (ls' := [(8, .int r162), (7, .int r156), (6, .int r150), (5, .int r144), (4, .int r138), (0, .ref 2000), (1, .int (0 : Int32)), (2, .ref 1999), (3, .ref 0)]) hB e_W_law_165 (Nat.le_of_ble_eq_true rfl) rfl ?_
      refine a_aload_n (j := 8) hB e_W_law_167 rfl rfl ?_
      refine a_iload (j := 0) hB e_W_law_168 rfl ?_
      refine a_if_ne (tgt := 177) hB e_W_law_170 (by decide) (fun c => ?_) (fun c => ?_)
      · have h := iq c h
        refine a_iconst (v := 0) hB e_W_law_177 ic_0 ?_
        refine a_ls [5, 6, 8, 4, 3, 2, 1, 0] (ls' := [(0, .ref 2000), (1, .int (0 : Int32)), (3, .ref 0), (4, .int r138), (5, .int r144), (6, .int r150), (7, .int r156), (8, .int r162)]) rfl ?_
        exact t_W_law_178 hB hend hF hd hT_T hn_L (by omega) (by omega) h
      · have h := ip c h
        refine a_iconst (v := 1) hB e_W_law_173 ic_1 ?_
        refine a_goto (tgt := 178) hB e_W_law_174 (by decide) ?_
        refine a_ls [5, 6, 8, 4, 3, 2, 1, 0] (ls' := [(0, .ref 2000), (1, .int (0 : Int32)), (3, .ref 0), (4, .int r138), (5, .int r144), (6, .int r150), (7, .int r156), (8, .int r162)]) rfl ?_
        exact t_W_law_178 hB hend hF hd hT_T hn_L (by omega) (by omega) h
    · have h := iq c h
      refine a_aload_n (j := 3) hB e_W_law_114 rfl rfl ?_
      refine a_aload_n (j := 2) hB e_W_law_115 rfl rfl ?_
      obtain ⟨r116, M116, hr116, h⟩ := bn2_i h
      refine a_ret (v := (some (.int r116))) (M1 := M116) (φ1 := φ) (st1 := [.int r116]) (j1 := k1 + 46) (j2 := k2 + 276) (ar_S (As := [.ref 0, .ref 1999]) (rest := []) hB (c_W_acts (bf_G hB) hF hd hr116) ml_W_289 md_W_acts rfl rfl (Nat.le_of_ble_eq_true rfl) (rmL (c := 46) (s := 276) (K1 := 600086) (K2 := 7301441) (Nat.le_of_ble_eq_true rfl) (Nat.le_of_ble_eq_true rfl) (by omega) (by omega) rfl rfl rfl rfl) e_W_law_116) rfl rfl rfl ?_
      refine a_if_eq (tgt := 129) hB e_W_law_119 (by decide) (fun c => ?_) (fun c => ?_)
      · have h := ip c h
        refine a_ls [] (ls' := []) rfl ?_
        exact t_W_law_129 hB hend hF hd hT_T hn_L (by omega) (by omega) h
      · have h := iq c h
        refine a_aload_n (j := 3) hB e_W_law_122 rfl rfl ?_
        obtain ⟨r123, M123, hr123, h⟩ := bn2_i h
        refine a_ret (v := (some (.int r123))) (M1 := M123) (φ1 := φ) (st1 := [.int r123]) (j1 := k1 + 802) (j2 := k2 + 4812) (ar_S (As := [.ref 0]) (rest := []) hB (c_W_isSound (bf_G hB) hF hd hr123) ml_W_285 md_W_isSound rfl rfl (Nat.le_of_ble_eq_true rfl) (rmL (c := 756) (s := 4536) (K1 := 600086) (K2 := 7301441) (Nat.le_of_ble_eq_true rfl) (Nat.le_of_ble_eq_true rfl) (by omega) (by omega) rfl rfl rfl rfl) e_W_law_123) rfl rfl rfl ?_
        refine a_if_ne (tgt := 131) hB e_W_law_126 (by decide) (fun c => ?_) (fun c => ?_)
        · have h := iq c h
          refine a_iinc (j := 4) (v := l4 + 1) (ls' := [(4, .int (l4 + 1)), (0, .ref 2000), (1, .int (0 : Int32)), (2, .ref 1999), (3, .ref 0)]) hB e_W_law_131 rfl (inc_1 _) (Nat.le_of_ble_eq_true rfl) rfl ?_
          refine a_goto (tgt := 107) hB e_W_law_134 (by decide) ?_
          refine a_ls [1, 2, 3, 4, 0] (ls' := [(0, .ref 2000), (1, .int (0 : Int32)), (2, .ref 1999), (3, .ref 0), (4, .int (l4 + 1))]) rfl ?_
          exact hr107 _ _ _ _ (by omega) (by omega) h
        · have h := ip c h
          refine a_ls [] (ls' := []) rfl ?_
          exact t_W_law_129 hB hend hF hd hT_T hn_L (by omega) (by omega) h
set_option maxRecDepth 100000 in
theorem t_W_law {G : Gt} {B : Bag} {nm : String} {hh : List (Nat × Nat × Nat × Nat)} {Qm : State → Prop} {M9 : Mm} (hB : BF G (I_W_law nm hh) B) (hend : ∀ (k1 k2 pc : Nat) (ls : List (Nat × Value)) (M : Mm) (φ : Ph), decode (mB (I_W_law nm hh)) pc = .ok (.ireturn, 1) → k1 ≤ 600086 → k2 ≤ 7301441 → AW G (I_W_law nm hh) B Qm k1 k2 pc ls [.int 1] M φ)  {T : Nat} {L : Nat} (hT_T : gT G = T) (hn_L : gN G = L) {M : Mm} (h : f_W_law T L M = some (1, M9)) : AW G (I_W_law nm hh) B Qm 1 1 22 [(0, .ref 2000), (1, .int (0 : Int32))] [.ref 1999] M (ph [] 0) := by
  unfold f_W_law at h
  refine a_astore_n (ls' := [(2, .ref 1999), (0, .ref 2000), (1, .int (0 : Int32))]) hB e_W_law_22 rfl (Nat.le_of_ble_eq_true rfl) rfl ?_
  obtain ⟨M23, hM23, h⟩ := bm_i h
  refine a_new (a := 0) hB e_W_law_23 ck_4 cl_W_8 is_4 ic_X4 rfl rfl (by decide) kk_0 hd_4_0 rfl rfl (Nat.le_of_ble_eq_true rfl) (Nat.le_of_ble_eq_true rfl) ?_
  refine a_ph (φ' := (ph [(0, 0)] (1))) ph_nA rfl ?_
  refine a_mem hM23 ?_
  refine a_dup hB e_W_law_26 rfl ?_
  obtain ⟨M27, hr27, h⟩ := bn_i h
  refine a_ret (v := none) (M1 := M27) (φ1 := (ph [] (134))) (st1 := [.ref 0]) (j1 := 135) (j2 := 3878) (ar_I (As := []) (rest := [.ref 0]) hB (c_C_init (bf_G hB) hr27) ml_W_258 md_C_init rfl rfl (Nat.le_of_ble_eq_true rfl) (rmL (c := 133) (s := 3862) (K1 := 600086) (K2 := 7301441) (Nat.le_of_ble_eq_true rfl) (Nat.le_of_ble_eq_true rfl) (Nat.le_of_ble_eq_true rfl) (Nat.le_of_ble_eq_true rfl) rfl rfl rfl rfl) e_W_law_27) rfl rfl rfl ?_
  refine a_astore_n (ls' := [(3, .ref 0), (2, .ref 1999), (0, .ref 2000), (1, .int (0 : Int32))]) hB e_W_law_30 rfl (Nat.le_of_ble_eq_true rfl) rfl ?_
  refine a_aload_n (j := 0) hB e_W_law_31 rfl rfl ?_
  obtain ⟨M32, hM32, h⟩ := bm_i h
  refine a_new (a := 134) hB e_W_law_32 ck_5 cl_W_259 is_5 ic_X5 rfl rfl (by decide) kk_134 hd_5_134 rfl rfl (Nat.le_of_ble_eq_true rfl) (Nat.le_of_ble_eq_true rfl) ?_
  refine a_ph (φ' := (ph [(134, 0)] (135))) ph_nA rfl ?_
  refine a_mem hM32 ?_
  refine a_dup hB e_W_law_35 rfl ?_
  obtain ⟨M36, hr36, h⟩ := bn_i h
  refine a_ret (v := none) (M1 := M36) (φ1 := (ph [] (136))) (st1 := [.ref 134, .ref 0]) (j1 := 137) (j2 := 3898) (ar_I (As := []) (rest := [.ref 134, .ref 0]) hB (c_B_init (bf_G hB) hr36) ml_W_261 md_B_init rfl rfl (Nat.le_of_ble_eq_true rfl) (rmL (c := 1) (s := 16) (K1 := 600086) (K2 := 7301441) (Nat.le_of_ble_eq_true rfl) (Nat.le_of_ble_eq_true rfl) (Nat.le_of_ble_eq_true rfl) (Nat.le_of_ble_eq_true rfl) rfl rfl rfl rfl) e_W_law_36) rfl rfl rfl ?_
  refine a_ldcSW (i := 44) hB rfl e_W_law_39 ?_
  obtain ⟨M42, hr42, h⟩ := bn_i h
  refine a_ret (v := (some (.ref 134))) (M1 := M42) (φ1 := (ph [] (136))) (st1 := [.ref 134, .ref 0]) (j1 := 137) (j2 := 3898) (ar_V (As := [.ref (1000 + 44)]) (rest := [.ref 0]) hB (c_B_append (bf_G hB) (ph_sf (by decide)) (by decide) hr42) ml_W_264 md_B_append rc_B_append (ph_lt (by decide)) kk_134 rfl rfl (Nat.le_of_ble_eq_true rfl) (rmL (c := 0) (s := 0) (K1 := 600086) (K2 := 7301441) (Nat.le_of_ble_eq_true rfl) (Nat.le_of_ble_eq_true rfl) (Nat.le_of_ble_eq_true rfl) (Nat.le_of_ble_eq_true rfl) rfl rfl rfl rfl) e_W_law_42) rfl rfl rfl ?_
  refine a_aload_n (j := 1) hB e_W_law_45 rfl rfl ?_
  refine a_bipush (v := 100) hB e_W_law_46 bp_100 ?_
  obtain ⟨r48, M48, hr48, h⟩ := bn2_i h
  refine a_ret (v := (some (.int r48))) (M1 := M48) (φ1 := (ph [] (136))) (st1 := [.int r48, .ref 134, .ref 0]) (j1 := 137) (j2 := 3898) (ar_S (As := [.ref 1999, .int (100 : Int32)]) (rest := [.ref 134, .ref 0]) hB (c_W_draw (bf_G hB) (ph_sf (by decide)) hr48) ml_W_217 md_W_draw rfl rfl (Nat.le_of_ble_eq_true rfl) (rmL (c := 0) (s := 0) (K1 := 600086) (K2 := 7301441) (Nat.le_of_ble_eq_true rfl) (Nat.le_of_ble_eq_true rfl) (Nat.le_of_ble_eq_true rfl) (Nat.le_of_ble_eq_true rfl) rfl rfl rfl rfl) e_W_law_48) rfl rfl rfl ?_
  obtain ⟨M51, hr51, h⟩ := bn_i h
  refine a_ret (v := (some (.ref 134))) (M1 := M51) (φ1 := (ph [] (136))) (st1 := [.ref 134, .ref 0]) (j1 := 137) (j2 := 3898) (ar_V (As := [.int r48]) (rest := [.ref 0]) hB (c_B_appendI (bf_G hB) (ph_sf (by decide)) hr51) ml_W_267 md_B_appendI rc_B_appendI (ph_lt (by decide)) kk_134 rfl rfl (Nat.le_of_ble_eq_true rfl) (rmL (c := 0) (s := 0) (K1 := 600086) (K2 := 7301441) (Nat.le_of_ble_eq_true rfl) (Nat.le_of_ble_eq_true rfl) (Nat.le_of_ble_eq_true rfl) (Nat.le_of_ble_eq_true rfl) rfl rfl rfl rfl) e_W_law_51) rfl rfl rfl ?_
  refine a_ldcSW (i := 45) hB rfl e_W_law_54 ?_
  obtain ⟨M57, hr57, h⟩ := bn_i h
  refine a_ret (v := (some (.ref 134))) (M1 := M57) (φ1 := (ph [] (136))) (st1 := [.ref 134, .ref 0]) (j1 := 137) (j2 := 3898) (ar_V (As := [.ref (1000 + 45)]) (rest := [.ref 0]) hB (c_B_append (bf_G hB) (ph_sf (by decide)) (by decide) hr57) ml_W_264 md_B_append rc_B_append (ph_lt (by decide)) kk_134 rfl rfl (Nat.le_of_ble_eq_true rfl) (rmL (c := 0) (s := 0) (K1 := 600086) (K2 := 7301441) (Nat.le_of_ble_eq_true rfl) (Nat.le_of_ble_eq_true rfl) (Nat.le_of_ble_eq_true rfl) (Nat.le_of_ble_eq_true rfl) rfl rfl rfl rfl) e_W_law_57) rfl rfl rfl ?_
  refine a_bipush (v := 100) hB e_W_law_60 bp_100 ?_
  refine a_aload_n (j := 1) hB e_W_law_62 rfl rfl ?_
  refine a_sipush (v := 900) hB e_W_law_63 sp_900 ?_
  obtain ⟨r66, M66, hr66, h⟩ := bn2_i h
  refine a_ret (v := (some (.int r66))) (M1 := M66) (φ1 := (ph [] (136))) (st1 := [.int r66, .int (100 : Int32), .ref 134, .ref 0]) (j1 := 137) (j2 := 3898) (ar_S (As := [.ref 1999, .int (900 : Int32)]) (rest := [.int (100 : Int32), .ref 134, .ref 0]) hB (c_W_draw (bf_G hB) (ph_sf (by decide)) hr66) ml_W_217 md_W_draw rfl rfl (Nat.le_of_ble_eq_true rfl) (rmL (c := 0) (s := 0) (K1 := 600086) (K2 := 7301441) (Nat.le_of_ble_eq_true rfl) (Nat.le_of_ble_eq_true rfl) (Nat.le_of_ble_eq_true rfl) (Nat.le_of_ble_eq_true rfl) rfl rfl rfl rfl) e_W_law_66) rfl rfl rfl ?_
  refine a_iadd hB e_W_law_69 ?_
  obtain ⟨M70, hr70, h⟩ := bn_i h
  refine a_ret (v := (some (.ref 134))) (M1 := M70) (φ1 := (ph [] (136))) (st1 := [.ref 134, .ref 0]) (j1 := 137) (j2 := 3898) (ar_V (As := [.int ((100 : Int32) + r66)]) (rest := [.ref 0]) hB (c_B_appendI (bf_G hB) (ph_sf (by decide)) hr70) ml_W_267 md_B_appendI rc_B_appendI (ph_lt (by decide)) kk_134 rfl rfl (Nat.le_of_ble_eq_true rfl) (rmL (c := 0) (s := 0) (K1 := 600086) (K2 := 7301441) (Nat.le_of_ble_eq_true rfl) (Nat.le_of_ble_eq_true rfl) (Nat.le_of_ble_eq_true rfl) (Nat.le_of_ble_eq_true rfl) rfl rfl rfl rfl) e_W_law_70) rfl rfl rfl ?_
  refine a_ldcSW (i := 46) hB rfl e_W_law_73 ?_
  obtain ⟨M76, hr76, h⟩ := bn_i h
  refine a_ret (v := (some (.ref 134))) (M1 := M76) (φ1 := (ph [] (136))) (st1 := [.ref 134, .ref 0]) (j1 := 137) (j2 := 3898) (ar_V (As := [.ref (1000 + 46)]) (rest := [.ref 0]) hB (c_B_append (bf_G hB) (ph_sf (by decide)) (by decide) hr76) ml_W_264 md_B_append rc_B_append (ph_lt (by decide)) kk_134 rfl rfl (Nat.le_of_ble_eq_true rfl) (rmL (c := 0) (s := 0) (K1 := 600086) (K2 := 7301441) (Nat.le_of_ble_eq_true rfl) (Nat.le_of_ble_eq_true rfl) (Nat.le_of_ble_eq_true rfl) (Nat.le_of_ble_eq_true rfl) rfl rfl rfl rfl) e_W_law_76) rfl rfl rfl ?_
  obtain ⟨M79, hr79, h⟩ := bn_i h
  refine a_ret (v := (some (.ref 136))) (M1 := M79) (φ1 := (ph [] (138))) (st1 := [.ref 136, .ref 0]) (j1 := 139) (j2 := 3918) (ar_V (As := []) (rest := [.ref 0]) hB (c_B_toString (bf_G hB) hT_T hr79) ml_W_274 md_B_toString rc_B_toString (ph_lt (by decide)) kk_134 rfl rfl (Nat.le_of_ble_eq_true rfl) (rmL (c := 2) (s := 20) (K1 := 600086) (K2 := 7301441) (Nat.le_of_ble_eq_true rfl) (Nat.le_of_ble_eq_true rfl) (Nat.le_of_ble_eq_true rfl) (Nat.le_of_ble_eq_true rfl) rfl rfl rfl rfl) e_W_law_79) rfl rfl rfl ?_
  refine a_dirt ?_
  obtain ⟨r82, M82, hr82, h⟩ := bn2_i h
  refine a_ret (v := (some (.int r82))) (M1 := M82) (φ1 := (dirt (ph [] 138))) (st1 := [.int r82]) (j1 := 141) (j2 := 3930) (ar_S (As := [.ref 0, .ref 136]) (rest := []) hB (c_W_write (bf_G hB) (sf_d (ph_sf (by decide))) rfl hT_T hr82) ml_W_278 md_W_write rfl rfl (Nat.le_of_ble_eq_true rfl) (rmL (c := 2) (s := 12) (K1 := 600086) (K2 := 7301441) (Nat.le_of_ble_eq_true rfl) (Nat.le_of_ble_eq_true rfl) (Nat.le_of_ble_eq_true rfl) (Nat.le_of_ble_eq_true rfl) rfl rfl rfl rfl) e_W_law_82) rfl rfl rfl ?_
  refine a_if_eq (tgt := 102) hB e_W_law_85 (by decide) (fun c => ?_) (fun c => ?_)
  · have h := ip c h
    refine a_ls [] (ls' := []) rfl ?_
    exact t_W_law_102 hB hend (sf_d (ph_sf (by decide))) rfl hT_T hn_L (by omega) (by omega) h
  · have h := iq c h
    refine a_aload_n (j := 0) hB e_W_law_88 rfl rfl ?_
    obtain ⟨r89, M89, hr89, h⟩ := bn2_i h
    refine a_ret (v := (some (.int r89))) (M1 := M89) (φ1 := (dirt (ph [] 138))) (st1 := [.int r89]) (j1 := 141) (j2 := 3930) (ar_V (As := []) (rest := []) hB (c_C_load (bf_G hB) (sf_m (n := 138) (sf_d (ph_sf (by decide))) (by decide)) hr89) ml_W_282 md_C_load rc_C_load (sf_lt (sf_d (ph_sf (n := 138) (m := 138) (by decide))) (by decide)) kk_0 rfl rfl (Nat.le_of_ble_eq_true rfl) (rmL (c := 0) (s := 0) (K1 := 600086) (K2 := 7301441) (Nat.le_of_ble_eq_true rfl) (Nat.le_of_ble_eq_true rfl) (Nat.le_of_ble_eq_true rfl) (Nat.le_of_ble_eq_true rfl) rfl rfl rfl rfl) e_W_law_89) rfl rfl rfl ?_
    refine a_if_ne (tgt := 102) hB e_W_law_92 (by decide) (fun c => ?_) (fun c => ?_)
    · have h := iq c h
      refine a_ls [] (ls' := []) rfl ?_
      exact t_W_law_102 hB hend (sf_d (ph_sf (by decide))) rfl hT_T hn_L (by omega) (by omega) h
    · have h := ip c h
      refine a_aload_n (j := 0) hB e_W_law_95 rfl rfl ?_
      obtain ⟨r96, M96, hr96, h⟩ := bn2_i h
      refine a_ret (v := (some (.int r96))) (M1 := M96) (φ1 := (dirt (ph [] 138))) (st1 := [.int r96]) (j1 := 897) (j2 := 8466) (ar_S (As := [.ref 0]) (rest := []) hB (c_W_isSound (bf_G hB) (sf_d (ph_sf (by decide))) rfl hr96) ml_W_285 md_W_isSound rfl rfl (Nat.le_of_ble_eq_true rfl) (rmL (c := 756) (s := 4536) (K1 := 600086) (K2 := 7301441) (Nat.le_of_ble_eq_true rfl) (Nat.le_of_ble_eq_true rfl) (Nat.le_of_ble_eq_true rfl) (Nat.le_of_ble_eq_true rfl) rfl rfl rfl rfl) e_W_law_96) rfl rfl rfl ?_
      refine a_if_ne (tgt := 104) hB e_W_law_99 (by decide) (fun c => ?_) (fun c => ?_)
      · have h := iq c h
        refine a_iconst (v := 0) hB e_W_law_104 ic_0 ?_
        refine a_istore (ls' := [(4, .int (0 : Int32)), (3, .ref 0), (2, .ref 1999), (0, .ref 2000), (1, .int (0 : Int32))]) hB e_W_law_105 (Nat.le_of_ble_eq_true rfl) rfl ?_
        refine a_ls [3, 4, 2, 1, 0] (ls' := [(0, .ref 2000), (1, .int (0 : Int32)), (2, .ref 1999), (3, .ref 0), (4, .int (0 : Int32))]) rfl ?_
        exact t_W_law_107 hB hend (sf_d (ph_sf (by decide))) rfl hT_T hn_L 18 _ _ _ _ (by omega) (by omega) h
      · have h := ip c h
        refine a_ls [] (ls' := []) rfl ?_
        exact t_W_law_102 hB hend (sf_d (ph_sf (by decide))) rfl hT_T hn_L (by omega) (by omega) h
