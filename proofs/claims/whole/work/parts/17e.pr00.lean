/-! the law -/
set_option maxRecDepth 100000 in
theorem t_W_law_2537 {G : Gt} {nm : String} {hh : List (Nat × Nat × Nat × Nat)} {B : Bag} {L : Nat} {xs : Nat → Int32} {Qm : State → Prop} {M9 : Mm} (hB : BF G (I_W_law nm hh) B) (hend : ∀ (k1 k2 pc : Nat) (ls : List (Nat × Value)) (M : Mm) (φ : Ph), decode (mB (I_W_law nm hh)) pc = .ok (.ireturn, 1) → k1 ≤ 601024 → k2 ≤ 7293034 → AW G (I_W_law nm hh) B Qm k1 k2 pc ls [.int 1] M φ) (hn : gN G = L) (hx : gX G = xs) {φ : Ph} (hF : SF 149 φ) {k1 k2 : Nat} {n : Nat} {r23 : Int32 → Mm → Option (Int32 × Mm)}  (hk1 : k1 + 4 * (n) ≤ 601024) (hk2 : k2 + 24 * (n) ≤ 7293034) (hr23 : ∀ (k1 k2 : Nat) (φ : Ph), SF 149 φ → k1 + 4 * n ≤ 601024 → k2 + 24 * n ≤ 7293034 → ∀ (l4 : Int32) (M : Mm), r23 l4 M = some (1, M9) → AW G (I_W_law nm hh) B Qm k1 k2 23 [(0, .ref 2000), (1, .ref 0), (2, .ref 134), (3, .ref 148), (4, .int l4)] [] M φ) {l4 : Int32} {M : Mm} (h : f_W_law_2537 L xs r23 l4 M = some (1, M9)) : AW G (I_W_law nm hh) B Qm k1 k2 2537 [(0, .ref 2000), (1, .ref 0), (2, .ref 134), (3, .ref 148), (4, .int l4)] [] M φ := by
  unfold f_W_law_2537 at h
  refine a_iinc (j := 4) (v := l4 + 6) (ls' := [(4, .int (l4 + 6)), (0, .ref 2000), (1, .ref 0), (2, .ref 134), (3, .ref 148)]) hB e_W_law_2537 rfl (inc_6 _) (Nat.le_of_ble_eq_true rfl) rfl ?_
  refine a_goto (tgt := 23) hB e_W_law_2540 (by decide) ?_
  refine a_ls [1, 2, 3, 4, 0] (ls' := [(0, .ref 2000), (1, .ref 0), (2, .ref 134), (3, .ref 148), (4, .int (l4 + 6))]) rfl ?_
  exact hr23 _ _ _ hF (by omega) (by omega) _ _ h
set_option maxRecDepth 100000 in
theorem t_W_law_1055 {G : Gt} {nm : String} {hh : List (Nat × Nat × Nat × Nat)} {B : Bag} {L : Nat} {xs : Nat → Int32} {Qm : State → Prop} {M9 : Mm} (hB : BF G (I_W_law nm hh) B) (hend : ∀ (k1 k2 pc : Nat) (ls : List (Nat × Value)) (M : Mm) (φ : Ph), decode (mB (I_W_law nm hh)) pc = .ok (.ireturn, 1) → k1 ≤ 601024 → k2 ≤ 7293034 → AW G (I_W_law nm hh) B Qm k1 k2 pc ls [.int 1] M φ) (hn : gN G = L) (hx : gX G = xs) {φ : Ph} (hF : SF 149 φ) {k1 k2 : Nat} {n : Nat} {r23 : Int32 → Mm → Option (Int32 × Mm)}  (hk1 : k1 + 4 * (n) ≤ 601024) (hk2 : k2 + 24 * (n) ≤ 7293034) (hr23 : ∀ (k1 k2 : Nat) (φ : Ph), SF 149 φ → k1 + 4 * n ≤ 601024 → k2 + 24 * n ≤ 7293034 → ∀ (l4 : Int32) (M : Mm), r23 l4 M = some (1, M9) → AW G (I_W_law nm hh) B Qm k1 k2 23 [(0, .ref 2000), (1, .ref 0), (2, .ref 134), (3, .ref 148), (4, .int l4)] [] M φ) {l4 : Int32} {M : Mm} (h : f_W_law_1055 L xs r23 l4 M = some (1, M9)) : AW G (I_W_law nm hh) B Qm k1 k2 1055 [(0, .ref 2000), (1, .ref 0), (2, .ref 134), (3, .ref 148), (4, .int l4)] [] M φ := by
  unfold f_W_law_1055 at h
  refine a_goto (tgt := 2537) hB e_W_law_1055 (by decide) ?_
  exact t_W_law_2537 hB hend hn hx hF (by omega) (by omega) hr23 h
set_option maxRecDepth 100000 in
theorem t_W_law_1002 {G : Gt} {nm : String} {hh : List (Nat × Nat × Nat × Nat)} {B : Bag} {L : Nat} {xs : Nat → Int32} {Qm : State → Prop} {M9 : Mm} (hB : BF G (I_W_law nm hh) B) (hend : ∀ (k1 k2 pc : Nat) (ls : List (Nat × Value)) (M : Mm) (φ : Ph), decode (mB (I_W_law nm hh)) pc = .ok (.ireturn, 1) → k1 ≤ 601024 → k2 ≤ 7293034 → AW G (I_W_law nm hh) B Qm k1 k2 pc ls [.int 1] M φ) (hn : gN G = L) (hx : gX G = xs) {φ : Ph} (hF : SF 149 φ) {k1 k2 : Nat} {n : Nat} {r23 : Int32 → Mm → Option (Int32 × Mm)}  (hk1 : k1 + 4 * (n + 1) ≤ 601024) (hk2 : k2 + 24 * (n + 1) ≤ 7293034) (hr23 : ∀ (k1 k2 : Nat) (φ : Ph), SF 149 φ → k1 + 4 * n ≤ 601024 → k2 + 24 * n ≤ 7293034 → ∀ (l4 : Int32) (M : Mm), r23 l4 M = some (1, M9) → AW G (I_W_law nm hh) B Qm k1 k2 23 [(0, .ref 2000), (1, .ref 0), (2, .ref 134), (3, .ref 148), (4, .int l4)] [] M φ) {l4 : Int32} {M : Mm} (h : f_W_law_1002 L xs r23 l4 M = some (1, M9)) : AW G (I_W_law nm hh) B Qm k1 k2 1002 [(0, .ref 2000), (1, .ref 0), (2, .ref 134), (3, .ref 148), (4, .int l4)] [] M φ := by
  unfold f_W_law_1002 at h
  refine a_aload_n (j := 1) hB e_W_law_1002 rfl rfl ?_
  refine a_aload_n (j := 0) hB e_W_law_1003 rfl rfl ?_
  refine a_iload (j := 4) hB e_W_law_1004 rfl ?_
  refine a_iconst (v := 1) hB e_W_law_1006 ic_1 ?_
  refine a_iadd hB e_W_law_1007 ?_
  obtain ⟨c1008, h⟩ := chk_i h
  refine a_sld' hB hn hx c1008 e_W_law_1008 ?_
  refine a_aload_n (j := 3) hB e_W_law_1009 rfl rfl ?_
  obtain ⟨r1010, M1010, hr1010, h⟩ := bn2_i h
  obtain ⟨φ1010, hφ1010⟩ : ∃ q, pK r1010 φ = q := ⟨_, rfl⟩
  have hF0 := hF
  refine a_ret (v := (some (.int r1010))) (M1 := M1010) (φ1 := φ1010) (st1 := [.int r1010]) (j1 := k1 + 1) (j2 := k2 + 6) (ar_SX (As := [.ref 0, .int (xs (ix (l4 + (1 : Int32)))), .ref 148]) (rest := []) hB (c_W_save (bf_G hB) hF hφ1010 hr1010) ml_W_172 md_W_save rfl rfl (Nat.le_of_ble_eq_true rfl) (rmL (c := 1) (s := 6) (by decide) (by decide) (by omega) (by omega) rfl rfl) e_W_law_1010) rfl rfl rfl ?_
  have hF : SF 149 φ1010 := by rw [← hφ1010]; exact sf_K hF0 _
  refine a_istore (ls' := [(5, .int r1010), (0, .ref 2000), (1, .ref 0), (2, .ref 134), (3, .ref 148), (4, .int l4)]) hB e_W_law_1013 (Nat.le_of_ble_eq_true rfl) rfl ?_
  refine a_aload_n (j := 3) hB e_W_law_1015 rfl rfl ?_
  refine a_aload_n (j := 1) hB e_W_law_1016 rfl rfl ?_
  refine a_iload (j := 5) hB e_W_law_1017 rfl ?_
  refine a_iconst (v := 1) hB e_W_law_1019 ic_1 ?_
  refine a_iadd hB e_W_law_1020 ?_
  refine a_sld' hB hn hx c1008 e_W_law_1021 ?_
  obtain ⟨r1022, M1022, hr1022, h⟩ := bn2_i h
  refine a_ret (v := (some (.int r1022))) (M1 := M1022) (φ1 := φ1010) (st1 := [.int r1022]) (j1 := k1 + 1) (j2 := k2 + 6) (ar_V (As := [.int (xs (ix (l4 + (1 : Int32))))]) (rest := []) hB (c_M_save (bf_G hB) (sf_m hF (by decide)) hr1022) ml_W_174 md_M_save rc_M_save (sf_lt hF (by decide)) kk_134 rfl rfl (Nat.le_of_ble_eq_true rfl) (rmL (c := 0) (s := 0) (by decide) (by decide) (by omega) (by omega) rfl rfl) e_W_law_1022) rfl rfl rfl ?_
  refine a_istore (ls' := [(6, .int r1022), (5, .int r1010), (0, .ref 2000), (1, .ref 0), (2, .ref 134), (3, .ref 148), (4, .int l4)]) hB e_W_law_1025 (Nat.le_of_ble_eq_true rfl) rfl ?_
  refine a_aload_n (j := 4) hB e_W_law_1027 rfl rfl ?_
  obtain ⟨r1028, hr1028, h⟩ := bn_i h
  refine a_ret (v := (some (.int r1028))) (M1 := M1022) (φ1 := φ1010) (st1 := [.int r1028]) (j1 := k1 + 1) (j2 := k2 + 6) (ar_V (As := []) (rest := []) hB (c_M_thrown (bf_G hB) (sf_m hF (by decide)) hr1028) ml_W_121 md_M_thrown rc_M_thrown (sf_lt hF (by decide)) kk_134 rfl rfl (Nat.le_of_ble_eq_true rfl) (rmL (c := 0) (s := 0) (by decide) (by decide) (by omega) (by omega) rfl rfl) e_W_law_1028) rfl rfl rfl ?_
  refine a_iload (j := 1) hB e_W_law_1031 rfl ?_
  refine a_icmp_eq (tgt := 1038) hB e_W_law_1033 (by decide) (fun c => ?_) (fun c => ?_)
  · have h := ip c h
    refine a_iload (j := 1) hB e_W_law_1038 rfl ?_
    refine a_if_ne (tgt := 1055) hB e_W_law_1040 (by decide) (fun c => ?_) (fun c => ?_)
    · have h := iq c h
      refine a_ls [2, 3, 4, 5, 6] (ls' := [(0, .ref 2000), (1, .ref 0), (2, .ref 134), (3, .ref 148), (4, .int l4)]) rfl ?_
      exact t_W_law_1055 hB hend hn hx hF (by omega) (by omega) hr23 h
    · have h := ip c h
      refine a_aload_n (j := 5) hB e_W_law_1043 rfl rfl ?_
      refine a_iconst (v := 0) hB e_W_law_1044 ic_0 ?_
      refine a_lald hB e_W_law_1045 (sf_lt hF (by decide)) kk_148 (by decide) ?_
      refine a_iload (j := 0) hB e_W_law_1046 rfl ?_
      refine a_i2l hB e_W_law_1048 ?_
      refine a_lcmp hB e_W_law_1049 ?_
      refine a_if_eq (tgt := 1055) hB e_W_law_1050 (by decide) (fun c => ?_) (fun c => ?_)
      · have h := ip c h
        refine a_ls [2, 3, 4, 5, 6] (ls' := [(0, .ref 2000), (1, .ref 0), (2, .ref 134), (3, .ref 148), (4, .int l4)]) rfl ?_
        exact t_W_law_1055 hB hend hn hx hF (by omega) (by omega) hr23 h
      · have h := iq c h
        refine a_iconst (v := 0) hB e_W_law_1053 ic_0 ?_
        exact (no01 h).elim
  · have h := iq c h
    refine a_iconst (v := 0) hB e_W_law_1036 ic_0 ?_
    exact (no01 h).elim
set_option maxRecDepth 100000 in
theorem t_W_law_1111 {G : Gt} {nm : String} {hh : List (Nat × Nat × Nat × Nat)} {B : Bag} {L : Nat} {xs : Nat → Int32} {Qm : State → Prop} {M9 : Mm} (hB : BF G (I_W_law nm hh) B) (hend : ∀ (k1 k2 pc : Nat) (ls : List (Nat × Value)) (M : Mm) (φ : Ph), decode (mB (I_W_law nm hh)) pc = .ok (.ireturn, 1) → k1 ≤ 601024 → k2 ≤ 7293034 → AW G (I_W_law nm hh) B Qm k1 k2 pc ls [.int 1] M φ) (hn : gN G = L) (hx : gX G = xs) {φ : Ph} (hF : SF 149 φ) {k1 k2 : Nat} {n : Nat} {r23 : Int32 → Mm → Option (Int32 × Mm)}  (hk1 : k1 + 4 * (n) ≤ 601024) (hk2 : k2 + 24 * (n) ≤ 7293034) (hr23 : ∀ (k1 k2 : Nat) (φ : Ph), SF 149 φ → k1 + 4 * n ≤ 601024 → k2 + 24 * n ≤ 7293034 → ∀ (l4 : Int32) (M : Mm), r23 l4 M = some (1, M9) → AW G (I_W_law nm hh) B Qm k1 k2 23 [(0, .ref 2000), (1, .ref 0), (2, .ref 134), (3, .ref 148), (4, .int l4)] [] M φ) {l4 : Int32} {M : Mm} (h : f_W_law_1111 L xs r23 l4 M = some (1, M9)) : AW G (I_W_law nm hh) B Qm k1 k2 1111 [(0, .ref 2000), (1, .ref 0), (2, .ref 134), (3, .ref 148), (4, .int l4)] [] M φ := by
  unfold f_W_law_1111 at h
  refine a_goto (tgt := 2537) hB e_W_law_1111 (by decide) ?_
  exact t_W_law_2537 hB hend hn hx hF (by omega) (by omega) hr23 h
set_option maxRecDepth 100000 in
theorem t_W_law_1058 {G : Gt} {nm : String} {hh : List (Nat × Nat × Nat × Nat)} {B : Bag} {L : Nat} {xs : Nat → Int32} {Qm : State → Prop} {M9 : Mm} (hB : BF G (I_W_law nm hh) B) (hend : ∀ (k1 k2 pc : Nat) (ls : List (Nat × Value)) (M : Mm) (φ : Ph), decode (mB (I_W_law nm hh)) pc = .ok (.ireturn, 1) → k1 ≤ 601024 → k2 ≤ 7293034 → AW G (I_W_law nm hh) B Qm k1 k2 pc ls [.int 1] M φ) (hn : gN G = L) (hx : gX G = xs) {φ : Ph} (hF : SF 149 φ) {k1 k2 : Nat} {n : Nat} {r23 : Int32 → Mm → Option (Int32 × Mm)}  (hk1 : k1 + 4 * (n + 1) ≤ 601024) (hk2 : k2 + 24 * (n + 1) ≤ 7293034) (hr23 : ∀ (k1 k2 : Nat) (φ : Ph), SF 149 φ → k1 + 4 * n ≤ 601024 → k2 + 24 * n ≤ 7293034 → ∀ (l4 : Int32) (M : Mm), r23 l4 M = some (1, M9) → AW G (I_W_law nm hh) B Qm k1 k2 23 [(0, .ref 2000), (1, .ref 0), (2, .ref 134), (3, .ref 148), (4, .int l4)] [] M φ) {l4 : Int32} {M : Mm} (h : f_W_law_1058 L xs r23 l4 M = some (1, M9)) : AW G (I_W_law nm hh) B Qm k1 k2 1058 [(0, .ref 2000), (1, .ref 0), (2, .ref 134), (3, .ref 148), (4, .int l4)] [] M φ := by
  unfold f_W_law_1058 at h
  refine a_aload_n (j := 1) hB e_W_law_1058 rfl rfl ?_
  refine a_aload_n (j := 0) hB e_W_law_1059 rfl rfl ?_
  refine a_iload (j := 4) hB e_W_law_1060 rfl ?_
  refine a_iconst (v := 1) hB e_W_law_1062 ic_1 ?_
  refine a_iadd hB e_W_law_1063 ?_
  obtain ⟨c1064, h⟩ := chk_i h
  refine a_sld' hB hn hx c1064 e_W_law_1064 ?_
  refine a_aload_n (j := 3) hB e_W_law_1065 rfl rfl ?_
  obtain ⟨r1066, M1066, hr1066, h⟩ := bn2_i h
  obtain ⟨φ1066, hφ1066⟩ : ∃ q, pK r1066 φ = q := ⟨_, rfl⟩
  have hF0 := hF
  refine a_ret (v := (some (.int r1066))) (M1 := M1066) (φ1 := φ1066) (st1 := [.int r1066]) (j1 := k1 + 2) (j2 := k2 + 12) (ar_SX (As := [.ref 0, .int (xs (ix (l4 + (1 : Int32)))), .ref 148]) (rest := []) hB (c_W_restore (bf_G hB) hF hφ1066 hr1066) ml_W_175 md_W_restore rfl rfl (Nat.le_of_ble_eq_true rfl) (rmL (c := 2) (s := 12) (by decide) (by decide) (by omega) (by omega) rfl rfl) e_W_law_1066) rfl rfl rfl ?_
  have hF : SF 149 φ1066 := by rw [← hφ1066]; exact sf_K hF0 _
  refine a_istore (ls' := [(5, .int r1066), (0, .ref 2000), (1, .ref 0), (2, .ref 134), (3, .ref 148), (4, .int l4)]) hB e_W_law_1069 (Nat.le_of_ble_eq_true rfl) rfl ?_
  refine a_aload_n (j := 3) hB e_W_law_1071 rfl rfl ?_
  refine a_aload_n (j := 1) hB e_W_law_1072 rfl rfl ?_
  refine a_iload (j := 5) hB e_W_law_1073 rfl ?_
  refine a_iconst (v := 1) hB e_W_law_1075 ic_1 ?_
  refine a_iadd hB e_W_law_1076 ?_
  refine a_sld' hB hn hx c1064 e_W_law_1077 ?_
  obtain ⟨r1078, M1078, hr1078, h⟩ := bn2_i h
  refine a_ret (v := (some (.int r1078))) (M1 := M1078) (φ1 := φ1066) (st1 := [.int r1078]) (j1 := k1 + 2) (j2 := k2 + 12) (ar_V (As := [.int (xs (ix (l4 + (1 : Int32))))]) (rest := []) hB (c_M_restore (bf_G hB) (sf_m hF (by decide)) hr1078) ml_W_177 md_M_restore rc_M_restore (sf_lt hF (by decide)) kk_134 rfl rfl (Nat.le_of_ble_eq_true rfl) (rmL (c := 0) (s := 0) (by decide) (by decide) (by omega) (by omega) rfl rfl) e_W_law_1078) rfl rfl rfl ?_
  refine a_istore (ls' := [(6, .int r1078), (5, .int r1066), (0, .ref 2000), (1, .ref 0), (2, .ref 134), (3, .ref 148), (4, .int l4)]) hB e_W_law_1081 (Nat.le_of_ble_eq_true rfl) rfl ?_
  refine a_aload_n (j := 4) hB e_W_law_1083 rfl rfl ?_
  obtain ⟨r1084, hr1084, h⟩ := bn_i h
  refine a_ret (v := (some (.int r1084))) (M1 := M1078) (φ1 := φ1066) (st1 := [.int r1084]) (j1 := k1 + 2) (j2 := k2 + 12) (ar_V (As := []) (rest := []) hB (c_M_thrown (bf_G hB) (sf_m hF (by decide)) hr1084) ml_W_121 md_M_thrown rc_M_thrown (sf_lt hF (by decide)) kk_134 rfl rfl (Nat.le_of_ble_eq_true rfl) (rmL (c := 0) (s := 0) (by decide) (by decide) (by omega) (by omega) rfl rfl) e_W_law_1084) rfl rfl rfl ?_
  refine a_iload (j := 1) hB e_W_law_1087 rfl ?_
  refine a_icmp_eq (tgt := 1094) hB e_W_law_1089 (by decide) (fun c => ?_) (fun c => ?_)
  · have h := ip c h
    refine a_iload (j := 1) hB e_W_law_1094 rfl ?_
    refine a_if_ne (tgt := 1111) hB e_W_law_1096 (by decide) (fun c => ?_) (fun c => ?_)
    · have h := iq c h
      refine a_ls [2, 3, 4, 5, 6] (ls' := [(0, .ref 2000), (1, .ref 0), (2, .ref 134), (3, .ref 148), (4, .int l4)]) rfl ?_
      exact t_W_law_1111 hB hend hn hx hF (by omega) (by omega) hr23 h
    · have h := ip c h
      refine a_aload_n (j := 5) hB e_W_law_1099 rfl rfl ?_
      refine a_iconst (v := 0) hB e_W_law_1100 ic_0 ?_
      refine a_lald hB e_W_law_1101 (sf_lt hF (by decide)) kk_148 (by decide) ?_
      refine a_iload (j := 0) hB e_W_law_1102 rfl ?_
      refine a_i2l hB e_W_law_1104 ?_
      refine a_lcmp hB e_W_law_1105 ?_
      refine a_if_eq (tgt := 1111) hB e_W_law_1106 (by decide) (fun c => ?_) (fun c => ?_)
      · have h := ip c h
        refine a_ls [2, 3, 4, 5, 6] (ls' := [(0, .ref 2000), (1, .ref 0), (2, .ref 134), (3, .ref 148), (4, .int l4)]) rfl ?_
        exact t_W_law_1111 hB hend hn hx hF (by omega) (by omega) hr23 h
      · have h := iq c h
        refine a_iconst (v := 0) hB e_W_law_1109 ic_0 ?_
        exact (no01 h).elim
  · have h := iq c h
    refine a_iconst (v := 0) hB e_W_law_1092 ic_0 ?_
    exact (no01 h).elim
set_option maxRecDepth 100000 in
theorem t_W_law_1114 {G : Gt} {nm : String} {hh : List (Nat × Nat × Nat × Nat)} {B : Bag} {L : Nat} {xs : Nat → Int32} {Qm : State → Prop} {M9 : Mm} (hB : BF G (I_W_law nm hh) B) (hend : ∀ (k1 k2 pc : Nat) (ls : List (Nat × Value)) (M : Mm) (φ : Ph), decode (mB (I_W_law nm hh)) pc = .ok (.ireturn, 1) → k1 ≤ 601024 → k2 ≤ 7293034 → AW G (I_W_law nm hh) B Qm k1 k2 pc ls [.int 1] M φ) (hn : gN G = L) (hx : gX G = xs) {φ : Ph} (hF : SF 149 φ) {k1 k2 : Nat} {n : Nat} {r23 : Int32 → Mm → Option (Int32 × Mm)}  (hk1 : k1 + 4 * (n + 1) ≤ 601024) (hk2 : k2 + 24 * (n + 1) ≤ 7293034) (hr23 : ∀ (k1 k2 : Nat) (φ : Ph), SF 149 φ → k1 + 4 * n ≤ 601024 → k2 + 24 * n ≤ 7293034 → ∀ (l4 : Int32) (M : Mm), r23 l4 M = some (1, M9) → AW G (I_W_law nm hh) B Qm k1 k2 23 [(0, .ref 2000), (1, .ref 0), (2, .ref 134), (3, .ref 148), (4, .int l4)] [] M φ) {l4 : Int32} {M : Mm} (h : f_W_law_1114 L xs r23 l4 M = some (1, M9)) : AW G (I_W_law nm hh) B Qm k1 k2 1114 [(0, .ref 2000), (1, .ref 0), (2, .ref 134), (3, .ref 148), (4, .int l4)] [] M φ := by
  unfold f_W_law_1114 at h
  refine a_aload_n (j := 1) hB e_W_law_1114 rfl rfl ?_
  obtain ⟨r1115, hr1115, h⟩ := bn_i h
  refine a_ret (v := (some (.int r1115))) (M1 := M) (φ1 := φ) (st1 := [.int r1115]) (j1 := k1) (j2 := k2) (ar_V (As := []) (rest := []) hB (c_C_legCount (bf_G hB) (sf_m hF (by decide)) hr1115) ml_W_178 md_C_legCount rc_C_legCount (sf_lt hF (by decide)) kk_0 rfl rfl (Nat.le_of_ble_eq_true rfl) (rmL (c := 0) (s := 0) (by decide) (by decide) (by omega) (by omega) rfl rfl) e_W_law_1115) rfl rfl rfl ?_
  refine a_aload_n (j := 2) hB e_W_law_1118 rfl rfl ?_
  obtain ⟨r1119, M1119, hr1119, h⟩ := bn2_i h
  refine a_ret (v := (some (.int r1119))) (M1 := M1119) (φ1 := φ) (st1 := [.int r1119, .int r1115]) (j1 := k1) (j2 := k2) (ar_V (As := []) (rest := [.int r1115]) hB (c_M_legCount (bf_G hB) (sf_m hF (by decide)) hr1119) ml_W_181 md_M_legCount rc_M_legCount (sf_lt hF (by decide)) kk_134 rfl rfl (Nat.le_of_ble_eq_true rfl) (rmL (c := 0) (s := 0) (by decide) (by decide) (by omega) (by omega) rfl rfl) e_W_law_1119) rfl rfl rfl ?_
  refine a_icmp_eq (tgt := 2537) hB e_W_law_1122 (by decide) (fun c => ?_) (fun c => ?_)
  · have h := ip c h
    exact t_W_law_2537 hB hend hn hx hF (by omega) (by omega) hr23 h
  · have h := iq c h
    refine a_iconst (v := 0) hB e_W_law_1125 ic_0 ?_
    exact (no01 h).elim
set_option maxRecDepth 100000 in
theorem t_W_law_1127 {G : Gt} {nm : String} {hh : List (Nat × Nat × Nat × Nat)} {B : Bag} {L : Nat} {xs : Nat → Int32} {Qm : State → Prop} {M9 : Mm} (hB : BF G (I_W_law nm hh) B) (hend : ∀ (k1 k2 pc : Nat) (ls : List (Nat × Value)) (M : Mm) (φ : Ph), decode (mB (I_W_law nm hh)) pc = .ok (.ireturn, 1) → k1 ≤ 601024 → k2 ≤ 7293034 → AW G (I_W_law nm hh) B Qm k1 k2 pc ls [.int 1] M φ) (hn : gN G = L) (hx : gX G = xs) {φ : Ph} (hF : SF 149 φ) {k1 k2 : Nat} {n : Nat} {r23 : Int32 → Mm → Option (Int32 × Mm)}  (hk1 : k1 + 4 * (n + 1) ≤ 601024) (hk2 : k2 + 24 * (n + 1) ≤ 7293034) (hr23 : ∀ (k1 k2 : Nat) (φ : Ph), SF 149 φ → k1 + 4 * n ≤ 601024 → k2 + 24 * n ≤ 7293034 → ∀ (l4 : Int32) (M : Mm), r23 l4 M = some (1, M9) → AW G (I_W_law nm hh) B Qm k1 k2 23 [(0, .ref 2000), (1, .ref 0), (2, .ref 134), (3, .ref 148), (4, .int l4)] [] M φ) {l4 : Int32} {M : Mm} (h : f_W_law_1127 L xs r23 l4 M = some (1, M9)) : AW G (I_W_law nm hh) B Qm k1 k2 1127 [(0, .ref 2000), (1, .ref 0), (2, .ref 134), (3, .ref 148), (4, .int l4)] [] M φ := by
  unfold f_W_law_1127 at h
  refine a_aload_n (j := 1) hB e_W_law_1127 rfl rfl ?_
  obtain ⟨r1128, hr1128, h⟩ := bn_i h
  refine a_ret (v := (some (.int r1128))) (M1 := M) (φ1 := φ) (st1 := [.int r1128]) (j1 := k1) (j2 := k2) (ar_V (As := []) (rest := []) hB (c_C_stationCount (bf_G hB) (sf_m hF (by decide)) hr1128) ml_W_182 md_C_stationCount rc_C_stationCount (sf_lt hF (by decide)) kk_0 rfl rfl (Nat.le_of_ble_eq_true rfl) (rmL (c := 0) (s := 0) (by decide) (by decide) (by omega) (by omega) rfl rfl) e_W_law_1128) rfl rfl rfl ?_
  refine a_aload_n (j := 2) hB e_W_law_1131 rfl rfl ?_
  obtain ⟨r1132, M1132, hr1132, h⟩ := bn2_i h
  refine a_ret (v := (some (.int r1132))) (M1 := M1132) (φ1 := φ) (st1 := [.int r1132, .int r1128]) (j1 := k1) (j2 := k2) (ar_V (As := []) (rest := [.int r1128]) hB (c_M_stationCount (bf_G hB) (sf_m hF (by decide)) hr1132) ml_W_185 md_M_stationCount rc_M_stationCount (sf_lt hF (by decide)) kk_134 rfl rfl (Nat.le_of_ble_eq_true rfl) (rmL (c := 0) (s := 0) (by decide) (by decide) (by omega) (by omega) rfl rfl) e_W_law_1132) rfl rfl rfl ?_
  refine a_icmp_eq (tgt := 2537) hB e_W_law_1135 (by decide) (fun c => ?_) (fun c => ?_)
  · have h := ip c h
    exact t_W_law_2537 hB hend hn hx hF (by omega) (by omega) hr23 h
  · have h := iq c h
    refine a_iconst (v := 0) hB e_W_law_1138 ic_0 ?_
    exact (no01 h).elim
set_option maxRecDepth 100000 in
theorem t_W_law_1140 {G : Gt} {nm : String} {hh : List (Nat × Nat × Nat × Nat)} {B : Bag} {L : Nat} {xs : Nat → Int32} {Qm : State → Prop} {M9 : Mm} (hB : BF G (I_W_law nm hh) B) (hend : ∀ (k1 k2 pc : Nat) (ls : List (Nat × Value)) (M : Mm) (φ : Ph), decode (mB (I_W_law nm hh)) pc = .ok (.ireturn, 1) → k1 ≤ 601024 → k2 ≤ 7293034 → AW G (I_W_law nm hh) B Qm k1 k2 pc ls [.int 1] M φ) (hn : gN G = L) (hx : gX G = xs) {φ : Ph} (hF : SF 149 φ) {k1 k2 : Nat} {n : Nat} {r23 : Int32 → Mm → Option (Int32 × Mm)}  (hk1 : k1 + 4 * (n + 1) ≤ 601024) (hk2 : k2 + 24 * (n + 1) ≤ 7293034) (hr23 : ∀ (k1 k2 : Nat) (φ : Ph), SF 149 φ → k1 + 4 * n ≤ 601024 → k2 + 24 * n ≤ 7293034 → ∀ (l4 : Int32) (M : Mm), r23 l4 M = some (1, M9) → AW G (I_W_law nm hh) B Qm k1 k2 23 [(0, .ref 2000), (1, .ref 0), (2, .ref 134), (3, .ref 148), (4, .int l4)] [] M φ) {l4 : Int32} {M : Mm} (h : f_W_law_1140 L xs r23 l4 M = some (1, M9)) : AW G (I_W_law nm hh) B Qm k1 k2 1140 [(0, .ref 2000), (1, .ref 0), (2, .ref 134), (3, .ref 148), (4, .int l4)] [] M φ := by
  unfold f_W_law_1140 at h
  refine a_aload_n (j := 1) hB e_W_law_1140 rfl rfl ?_
  obtain ⟨r1141, hr1141, h⟩ := bn_i h
  refine a_ret (v := (some (.int r1141))) (M1 := M) (φ1 := φ) (st1 := [.int r1141]) (j1 := k1) (j2 := k2) (ar_V (As := []) (rest := []) hB (c_C_wear (bf_G hB) (sf_m hF (by decide)) hr1141) ml_W_186 md_C_wear rc_C_wear (sf_lt hF (by decide)) kk_0 rfl rfl (Nat.le_of_ble_eq_true rfl) (rmL (c := 0) (s := 0) (by decide) (by decide) (by omega) (by omega) rfl rfl) e_W_law_1141) rfl rfl rfl ?_
  refine a_aload_n (j := 2) hB e_W_law_1144 rfl rfl ?_
  obtain ⟨r1145, M1145, hr1145, h⟩ := bn2_i h
  refine a_ret (v := (some (.int r1145))) (M1 := M1145) (φ1 := φ) (st1 := [.int r1145, .int r1141]) (j1 := k1) (j2 := k2) (ar_V (As := []) (rest := [.int r1141]) hB (c_M_wear (bf_G hB) (sf_m hF (by decide)) hr1145) ml_W_189 md_M_wear rc_M_wear (sf_lt hF (by decide)) kk_134 rfl rfl (Nat.le_of_ble_eq_true rfl) (rmL (c := 0) (s := 0) (by decide) (by decide) (by omega) (by omega) rfl rfl) e_W_law_1145) rfl rfl rfl ?_
  refine a_icmp_eq (tgt := 2537) hB e_W_law_1148 (by decide) (fun c => ?_) (fun c => ?_)
  · have h := ip c h
    exact t_W_law_2537 hB hend hn hx hF (by omega) (by omega) hr23 h
  · have h := iq c h
    refine a_iconst (v := 0) hB e_W_law_1151 ic_0 ?_
    exact (no01 h).elim
set_option maxRecDepth 100000 in
theorem t_W_law_1153 {G : Gt} {nm : String} {hh : List (Nat × Nat × Nat × Nat)} {B : Bag} {L : Nat} {xs : Nat → Int32} {Qm : State → Prop} {M9 : Mm} (hB : BF G (I_W_law nm hh) B) (hend : ∀ (k1 k2 pc : Nat) (ls : List (Nat × Value)) (M : Mm) (φ : Ph), decode (mB (I_W_law nm hh)) pc = .ok (.ireturn, 1) → k1 ≤ 601024 → k2 ≤ 7293034 → AW G (I_W_law nm hh) B Qm k1 k2 pc ls [.int 1] M φ) (hn : gN G = L) (hx : gX G = xs) {φ : Ph} (hF : SF 149 φ) {k1 k2 : Nat} {n : Nat} {r23 : Int32 → Mm → Option (Int32 × Mm)}  (hk1 : k1 + 4 * (n + 1) ≤ 601024) (hk2 : k2 + 24 * (n + 1) ≤ 7293034) (hr23 : ∀ (k1 k2 : Nat) (φ : Ph), SF 149 φ → k1 + 4 * n ≤ 601024 → k2 + 24 * n ≤ 7293034 → ∀ (l4 : Int32) (M : Mm), r23 l4 M = some (1, M9) → AW G (I_W_law nm hh) B Qm k1 k2 23 [(0, .ref 2000), (1, .ref 0), (2, .ref 134), (3, .ref 148), (4, .int l4)] [] M φ) {l4 : Int32} {M : Mm} (h : f_W_law_1153 L xs r23 l4 M = some (1, M9)) : AW G (I_W_law nm hh) B Qm k1 k2 1153 [(0, .ref 2000), (1, .ref 0), (2, .ref 134), (3, .ref 148), (4, .int l4)] [] M φ := by
  unfold f_W_law_1153 at h
  refine a_aload_n (j := 1) hB e_W_law_1153 rfl rfl ?_
  obtain ⟨r1154, hr1154, h⟩ := bn_i h
  refine a_ret (v := (some (.int r1154))) (M1 := M) (φ1 := φ) (st1 := [.int r1154]) (j1 := k1) (j2 := k2) (ar_V (As := []) (rest := []) hB (c_C_pace (bf_G hB) (sf_m hF (by decide)) hr1154) ml_W_190 md_C_pace rc_C_pace (sf_lt hF (by decide)) kk_0 rfl rfl (Nat.le_of_ble_eq_true rfl) (rmL (c := 0) (s := 0) (by decide) (by decide) (by omega) (by omega) rfl rfl) e_W_law_1154) rfl rfl rfl ?_
  refine a_aload_n (j := 2) hB e_W_law_1157 rfl rfl ?_
  obtain ⟨r1158, M1158, hr1158, h⟩ := bn2_i h
  refine a_ret (v := (some (.int r1158))) (M1 := M1158) (φ1 := φ) (st1 := [.int r1158, .int r1154]) (j1 := k1) (j2 := k2) (ar_V (As := []) (rest := [.int r1154]) hB (c_M_pace (bf_G hB) (sf_m hF (by decide)) hr1158) ml_W_193 md_M_pace rc_M_pace (sf_lt hF (by decide)) kk_134 rfl rfl (Nat.le_of_ble_eq_true rfl) (rmL (c := 0) (s := 0) (by decide) (by decide) (by omega) (by omega) rfl rfl) e_W_law_1158) rfl rfl rfl ?_
  refine a_icmp_eq (tgt := 2537) hB e_W_law_1161 (by decide) (fun c => ?_) (fun c => ?_)
  · have h := ip c h
    exact t_W_law_2537 hB hend hn hx hF (by omega) (by omega) hr23 h
  · have h := iq c h
    refine a_iconst (v := 0) hB e_W_law_1164 ic_0 ?_
    exact (no01 h).elim
set_option maxRecDepth 100000 in
theorem t_W_law_1166 {G : Gt} {nm : String} {hh : List (Nat × Nat × Nat × Nat)} {B : Bag} {L : Nat} {xs : Nat → Int32} {Qm : State → Prop} {M9 : Mm} (hB : BF G (I_W_law nm hh) B) (hend : ∀ (k1 k2 pc : Nat) (ls : List (Nat × Value)) (M : Mm) (φ : Ph), decode (mB (I_W_law nm hh)) pc = .ok (.ireturn, 1) → k1 ≤ 601024 → k2 ≤ 7293034 → AW G (I_W_law nm hh) B Qm k1 k2 pc ls [.int 1] M φ) (hn : gN G = L) (hx : gX G = xs) {φ : Ph} (hF : SF 149 φ) {k1 k2 : Nat} {n : Nat} {r23 : Int32 → Mm → Option (Int32 × Mm)}  (hk1 : k1 + 4 * (n + 1) ≤ 601024) (hk2 : k2 + 24 * (n + 1) ≤ 7293034) (hr23 : ∀ (k1 k2 : Nat) (φ : Ph), SF 149 φ → k1 + 4 * n ≤ 601024 → k2 + 24 * n ≤ 7293034 → ∀ (l4 : Int32) (M : Mm), r23 l4 M = some (1, M9) → AW G (I_W_law nm hh) B Qm k1 k2 23 [(0, .ref 2000), (1, .ref 0), (2, .ref 134), (3, .ref 148), (4, .int l4)] [] M φ) {l4 : Int32} {M : Mm} (h : f_W_law_1166 L xs r23 l4 M = some (1, M9)) : AW G (I_W_law nm hh) B Qm k1 k2 1166 [(0, .ref 2000), (1, .ref 0), (2, .ref 134), (3, .ref 148), (4, .int l4)] [] M φ := by
  unfold f_W_law_1166 at h
  refine a_aload_n (j := 1) hB e_W_law_1166 rfl rfl ?_
  obtain ⟨r1167, hr1167, h⟩ := bn_i h
  refine a_ret (v := (some (.int r1167))) (M1 := M) (φ1 := φ) (st1 := [.int r1167]) (j1 := k1) (j2 := k2) (ar_V (As := []) (rest := []) hB (c_C_undoableChanges (bf_G hB) (sf_m hF (by decide)) hr1167) ml_W_194 md_C_undoableChanges rc_C_undoableChanges (sf_lt hF (by decide)) kk_0 rfl rfl (Nat.le_of_ble_eq_true rfl) (rmL (c := 0) (s := 0) (by decide) (by decide) (by omega) (by omega) rfl rfl) e_W_law_1167) rfl rfl rfl ?_
  refine a_aload_n (j := 2) hB e_W_law_1170 rfl rfl ?_
  obtain ⟨r1171, M1171, hr1171, h⟩ := bn2_i h
  refine a_ret (v := (some (.int r1171))) (M1 := M1171) (φ1 := φ) (st1 := [.int r1171, .int r1167]) (j1 := k1) (j2 := k2) (ar_V (As := []) (rest := [.int r1167]) hB (c_M_undoableChanges (bf_G hB) (sf_m hF (by decide)) hr1171) ml_W_197 md_M_undoableChanges rc_M_undoableChanges (sf_lt hF (by decide)) kk_134 rfl rfl (Nat.le_of_ble_eq_true rfl) (rmL (c := 0) (s := 0) (by decide) (by decide) (by omega) (by omega) rfl rfl) e_W_law_1171) rfl rfl rfl ?_
  refine a_icmp_eq (tgt := 2537) hB e_W_law_1174 (by decide) (fun c => ?_) (fun c => ?_)
  · have h := ip c h
    exact t_W_law_2537 hB hend hn hx hF (by omega) (by omega) hr23 h
  · have h := iq c h
    refine a_iconst (v := 0) hB e_W_law_1177 ic_0 ?_
    exact (no01 h).elim
set_option maxRecDepth 100000 in
theorem t_W_law_1179 {G : Gt} {nm : String} {hh : List (Nat × Nat × Nat × Nat)} {B : Bag} {L : Nat} {xs : Nat → Int32} {Qm : State → Prop} {M9 : Mm} (hB : BF G (I_W_law nm hh) B) (hend : ∀ (k1 k2 pc : Nat) (ls : List (Nat × Value)) (M : Mm) (φ : Ph), decode (mB (I_W_law nm hh)) pc = .ok (.ireturn, 1) → k1 ≤ 601024 → k2 ≤ 7293034 → AW G (I_W_law nm hh) B Qm k1 k2 pc ls [.int 1] M φ) (hn : gN G = L) (hx : gX G = xs) {φ : Ph} (hF : SF 149 φ) {k1 k2 : Nat} {n : Nat} {r23 : Int32 → Mm → Option (Int32 × Mm)}  (hk1 : k1 + 4 * (n + 1) ≤ 601024) (hk2 : k2 + 24 * (n + 1) ≤ 7293034) (hr23 : ∀ (k1 k2 : Nat) (φ : Ph), SF 149 φ → k1 + 4 * n ≤ 601024 → k2 + 24 * n ≤ 7293034 → ∀ (l4 : Int32) (M : Mm), r23 l4 M = some (1, M9) → AW G (I_W_law nm hh) B Qm k1 k2 23 [(0, .ref 2000), (1, .ref 0), (2, .ref 134), (3, .ref 148), (4, .int l4)] [] M φ) {l4 : Int32} {M : Mm} (h : f_W_law_1179 L xs r23 l4 M = some (1, M9)) : AW G (I_W_law nm hh) B Qm k1 k2 1179 [(0, .ref 2000), (1, .ref 0), (2, .ref 134), (3, .ref 148), (4, .int l4)] [] M φ := by
  unfold f_W_law_1179 at h
  refine a_aload_n (j := 1) hB e_W_law_1179 rfl rfl ?_
  obtain ⟨r1180, hr1180, h⟩ := bn_i h
  refine a_ret (v := (some (.int r1180))) (M1 := M) (φ1 := φ) (st1 := [.int r1180]) (j1 := k1) (j2 := k2) (ar_V (As := []) (rest := []) hB (c_C_isAdjusted (bf_G hB) (sf_m hF (by decide)) hr1180) ml_W_198 md_C_isAdjusted rc_C_isAdjusted (sf_lt hF (by decide)) kk_0 rfl rfl (Nat.le_of_ble_eq_true rfl) (rmL (c := 0) (s := 0) (by decide) (by decide) (by omega) (by omega) rfl rfl) e_W_law_1180) rfl rfl rfl ?_
  refine a_aload_n (j := 2) hB e_W_law_1183 rfl rfl ?_
  obtain ⟨r1184, M1184, hr1184, h⟩ := bn2_i h
  refine a_ret (v := (some (.int r1184))) (M1 := M1184) (φ1 := φ) (st1 := [.int r1184, .int r1180]) (j1 := k1) (j2 := k2) (ar_V (As := []) (rest := [.int r1180]) hB (c_M_isAdjusted (bf_G hB) (sf_m hF (by decide)) hr1184) ml_W_202 md_M_isAdjusted rc_M_isAdjusted (sf_lt hF (by decide)) kk_134 rfl rfl (Nat.le_of_ble_eq_true rfl) (rmL (c := 0) (s := 0) (by decide) (by decide) (by omega) (by omega) rfl rfl) e_W_law_1184) rfl rfl rfl ?_
  refine a_icmp_eq (tgt := 2537) hB e_W_law_1187 (by decide) (fun c => ?_) (fun c => ?_)
  · have h := ip c h
    exact t_W_law_2537 hB hend hn hx hF (by omega) (by omega) hr23 h
  · have h := iq c h
    refine a_iconst (v := 0) hB e_W_law_1190 ic_0 ?_
    exact (no01 h).elim
set_option maxRecDepth 100000 in
theorem t_W_law_1245 {G : Gt} {nm : String} {hh : List (Nat × Nat × Nat × Nat)} {B : Bag} {L : Nat} {xs : Nat → Int32} {Qm : State → Prop} {M9 : Mm} (hB : BF G (I_W_law nm hh) B) (hend : ∀ (k1 k2 pc : Nat) (ls : List (Nat × Value)) (M : Mm) (φ : Ph), decode (mB (I_W_law nm hh)) pc = .ok (.ireturn, 1) → k1 ≤ 601024 → k2 ≤ 7293034 → AW G (I_W_law nm hh) B Qm k1 k2 pc ls [.int 1] M φ) (hn : gN G = L) (hx : gX G = xs) {φ : Ph} (hF : SF 149 φ) {k1 k2 : Nat} {n : Nat} {r23 : Int32 → Mm → Option (Int32 × Mm)}  (hk1 : k1 + 4 * (n) ≤ 601024) (hk2 : k2 + 24 * (n) ≤ 7293034) (hr23 : ∀ (k1 k2 : Nat) (φ : Ph), SF 149 φ → k1 + 4 * n ≤ 601024 → k2 + 24 * n ≤ 7293034 → ∀ (l4 : Int32) (M : Mm), r23 l4 M = some (1, M9) → AW G (I_W_law nm hh) B Qm k1 k2 23 [(0, .ref 2000), (1, .ref 0), (2, .ref 134), (3, .ref 148), (4, .int l4)] [] M φ) {l4 : Int32} {M : Mm} (h : f_W_law_1245 L xs r23 l4 M = some (1, M9)) : AW G (I_W_law nm hh) B Qm k1 k2 1245 [(0, .ref 2000), (1, .ref 0), (2, .ref 134), (3, .ref 148), (4, .int l4)] [] M φ := by
  unfold f_W_law_1245 at h
  refine a_goto (tgt := 2537) hB e_W_law_1245 (by decide) ?_
  exact t_W_law_2537 hB hend hn hx hF (by omega) (by omega) hr23 h
set_option maxRecDepth 100000 in
theorem t_W_law_1192 {G : Gt} {nm : String} {hh : List (Nat × Nat × Nat × Nat)} {B : Bag} {L : Nat} {xs : Nat → Int32} {Qm : State → Prop} {M9 : Mm} (hB : BF G (I_W_law nm hh) B) (hend : ∀ (k1 k2 pc : Nat) (ls : List (Nat × Value)) (M : Mm) (φ : Ph), decode (mB (I_W_law nm hh)) pc = .ok (.ireturn, 1) → k1 ≤ 601024 → k2 ≤ 7293034 → AW G (I_W_law nm hh) B Qm k1 k2 pc ls [.int 1] M φ) (hn : gN G = L) (hx : gX G = xs) {φ : Ph} (hF : SF 149 φ) {k1 k2 : Nat} {n : Nat} {r23 : Int32 → Mm → Option (Int32 × Mm)}  (hk1 : k1 + 4 * (n + 1) ≤ 601024) (hk2 : k2 + 24 * (n + 1) ≤ 7293034) (hr23 : ∀ (k1 k2 : Nat) (φ : Ph), SF 149 φ → k1 + 4 * n ≤ 601024 → k2 + 24 * n ≤ 7293034 → ∀ (l4 : Int32) (M : Mm), r23 l4 M = some (1, M9) → AW G (I_W_law nm hh) B Qm k1 k2 23 [(0, .ref 2000), (1, .ref 0), (2, .ref 134), (3, .ref 148), (4, .int l4)] [] M φ) {l4 : Int32} {M : Mm} (h : f_W_law_1192 L xs r23 l4 M = some (1, M9)) : AW G (I_W_law nm hh) B Qm k1 k2 1192 [(0, .ref 2000), (1, .ref 0), (2, .ref 134), (3, .ref 148), (4, .int l4)] [] M φ := by
  unfold f_W_law_1192 at h
  refine a_aload_n (j := 1) hB e_W_law_1192 rfl rfl ?_
  refine a_aload_n (j := 0) hB e_W_law_1193 rfl rfl ?_
  refine a_iload (j := 4) hB e_W_law_1194 rfl ?_
  refine a_iconst (v := 1) hB e_W_law_1196 ic_1 ?_
  refine a_iadd hB e_W_law_1197 ?_
  obtain ⟨c1198, h⟩ := chk_i h
  refine a_sld' hB hn hx c1198 e_W_law_1198 ?_
  refine a_aload_n (j := 3) hB e_W_law_1199 rfl rfl ?_
  obtain ⟨r1200, M1200, hr1200, h⟩ := bn2_i h
  obtain ⟨φ1200, hφ1200⟩ : ∃ q, pK r1200 φ = q := ⟨_, rfl⟩
  have hF0 := hF
  refine a_ret (v := (some (.int r1200))) (M1 := M1200) (φ1 := φ1200) (st1 := [.int r1200]) (j1 := k1 + 1) (j2 := k2 + 6) (ar_SX (As := [.ref 0, .int (xs (ix (l4 + (1 : Int32)))), .ref 148]) (rest := []) hB (c_W_bearing (bf_G hB) hF hφ1200 hr1200) ml_W_203 md_W_bearing rfl rfl (Nat.le_of_ble_eq_true rfl) (rmL (c := 1) (s := 6) (by decide) (by decide) (by omega) (by omega) rfl rfl) e_W_law_1200) rfl rfl rfl ?_
  have hF : SF 149 φ1200 := by rw [← hφ1200]; exact sf_K hF0 _
  refine a_istore (ls' := [(5, .int r1200), (0, .ref 2000), (1, .ref 0), (2, .ref 134), (3, .ref 148), (4, .int l4)]) hB e_W_law_1203 (Nat.le_of_ble_eq_true rfl) rfl ?_
  refine a_aload_n (j := 3) hB e_W_law_1205 rfl rfl ?_
  refine a_aload_n (j := 1) hB e_W_law_1206 rfl rfl ?_
  refine a_iload (j := 5) hB e_W_law_1207 rfl ?_
  refine a_iconst (v := 1) hB e_W_law_1209 ic_1 ?_
  refine a_iadd hB e_W_law_1210 ?_
  refine a_sld' hB hn hx c1198 e_W_law_1211 ?_
  obtain ⟨r1212, M1212, hr1212, h⟩ := bn2_i h
  refine a_ret (v := (some (.int r1212))) (M1 := M1212) (φ1 := φ1200) (st1 := [.int r1212]) (j1 := k1 + 1) (j2 := k2 + 6) (ar_V (As := [.int (xs (ix (l4 + (1 : Int32))))]) (rest := []) hB (c_M_bearing (bf_G hB) (sf_m hF (by decide)) hr1212) ml_W_205 md_M_bearing rc_M_bearing (sf_lt hF (by decide)) kk_134 rfl rfl (Nat.le_of_ble_eq_true rfl) (rmL (c := 0) (s := 0) (by decide) (by decide) (by omega) (by omega) rfl rfl) e_W_law_1212) rfl rfl rfl ?_
  refine a_istore (ls' := [(6, .int r1212), (5, .int r1200), (0, .ref 2000), (1, .ref 0), (2, .ref 134), (3, .ref 148), (4, .int l4)]) hB e_W_law_1215 (Nat.le_of_ble_eq_true rfl) rfl ?_
  refine a_aload_n (j := 4) hB e_W_law_1217 rfl rfl ?_
  obtain ⟨r1218, hr1218, h⟩ := bn_i h
  refine a_ret (v := (some (.int r1218))) (M1 := M1212) (φ1 := φ1200) (st1 := [.int r1218]) (j1 := k1 + 1) (j2 := k2 + 6) (ar_V (As := []) (rest := []) hB (c_M_thrown (bf_G hB) (sf_m hF (by decide)) hr1218) ml_W_121 md_M_thrown rc_M_thrown (sf_lt hF (by decide)) kk_134 rfl rfl (Nat.le_of_ble_eq_true rfl) (rmL (c := 0) (s := 0) (by decide) (by decide) (by omega) (by omega) rfl rfl) e_W_law_1218) rfl rfl rfl ?_
  refine a_iload (j := 1) hB e_W_law_1221 rfl ?_
  refine a_icmp_eq (tgt := 1228) hB e_W_law_1223 (by decide) (fun c => ?_) (fun c => ?_)
  · have h := ip c h
    refine a_iload (j := 1) hB e_W_law_1228 rfl ?_
    refine a_if_ne (tgt := 1245) hB e_W_law_1230 (by decide) (fun c => ?_) (fun c => ?_)
    · have h := iq c h
      refine a_ls [2, 3, 4, 5, 6] (ls' := [(0, .ref 2000), (1, .ref 0), (2, .ref 134), (3, .ref 148), (4, .int l4)]) rfl ?_
      exact t_W_law_1245 hB hend hn hx hF (by omega) (by omega) hr23 h
    · have h := ip c h
      refine a_aload_n (j := 5) hB e_W_law_1233 rfl rfl ?_
      refine a_iconst (v := 0) hB e_W_law_1234 ic_0 ?_
      refine a_lald hB e_W_law_1235 (sf_lt hF (by decide)) kk_148 (by decide) ?_
      refine a_iload (j := 0) hB e_W_law_1236 rfl ?_
      refine a_i2l hB e_W_law_1238 ?_
      refine a_lcmp hB e_W_law_1239 ?_
      refine a_if_eq (tgt := 1245) hB e_W_law_1240 (by decide) (fun c => ?_) (fun c => ?_)
      · have h := ip c h
        refine a_ls [2, 3, 4, 5, 6] (ls' := [(0, .ref 2000), (1, .ref 0), (2, .ref 134), (3, .ref 148), (4, .int l4)]) rfl ?_
        exact t_W_law_1245 hB hend hn hx hF (by omega) (by omega) hr23 h
      · have h := iq c h
        refine a_iconst (v := 0) hB e_W_law_1243 ic_0 ?_
        exact (no01 h).elim
  · have h := iq c h
    refine a_iconst (v := 0) hB e_W_law_1226 ic_0 ?_
    exact (no01 h).elim
set_option maxRecDepth 100000 in
theorem t_W_law_1301 {G : Gt} {nm : String} {hh : List (Nat × Nat × Nat × Nat)} {B : Bag} {L : Nat} {xs : Nat → Int32} {Qm : State → Prop} {M9 : Mm} (hB : BF G (I_W_law nm hh) B) (hend : ∀ (k1 k2 pc : Nat) (ls : List (Nat × Value)) (M : Mm) (φ : Ph), decode (mB (I_W_law nm hh)) pc = .ok (.ireturn, 1) → k1 ≤ 601024 → k2 ≤ 7293034 → AW G (I_W_law nm hh) B Qm k1 k2 pc ls [.int 1] M φ) (hn : gN G = L) (hx : gX G = xs) {φ : Ph} (hF : SF 149 φ) {k1 k2 : Nat} {n : Nat} {r23 : Int32 → Mm → Option (Int32 × Mm)}  (hk1 : k1 + 4 * (n) ≤ 601024) (hk2 : k2 + 24 * (n) ≤ 7293034) (hr23 : ∀ (k1 k2 : Nat) (φ : Ph), SF 149 φ → k1 + 4 * n ≤ 601024 → k2 + 24 * n ≤ 7293034 → ∀ (l4 : Int32) (M : Mm), r23 l4 M = some (1, M9) → AW G (I_W_law nm hh) B Qm k1 k2 23 [(0, .ref 2000), (1, .ref 0), (2, .ref 134), (3, .ref 148), (4, .int l4)] [] M φ) {l4 : Int32} {M : Mm} (h : f_W_law_1301 L xs r23 l4 M = some (1, M9)) : AW G (I_W_law nm hh) B Qm k1 k2 1301 [(0, .ref 2000), (1, .ref 0), (2, .ref 134), (3, .ref 148), (4, .int l4)] [] M φ := by
  unfold f_W_law_1301 at h
  refine a_goto (tgt := 2537) hB e_W_law_1301 (by decide) ?_
  exact t_W_law_2537 hB hend hn hx hF (by omega) (by omega) hr23 h
set_option maxRecDepth 100000 in
theorem t_W_law_1248 {G : Gt} {nm : String} {hh : List (Nat × Nat × Nat × Nat)} {B : Bag} {L : Nat} {xs : Nat → Int32} {Qm : State → Prop} {M9 : Mm} (hB : BF G (I_W_law nm hh) B) (hend : ∀ (k1 k2 pc : Nat) (ls : List (Nat × Value)) (M : Mm) (φ : Ph), decode (mB (I_W_law nm hh)) pc = .ok (.ireturn, 1) → k1 ≤ 601024 → k2 ≤ 7293034 → AW G (I_W_law nm hh) B Qm k1 k2 pc ls [.int 1] M φ) (hn : gN G = L) (hx : gX G = xs) {φ : Ph} (hF : SF 149 φ) {k1 k2 : Nat} {n : Nat} {r23 : Int32 → Mm → Option (Int32 × Mm)}  (hk1 : k1 + 4 * (n + 1) ≤ 601024) (hk2 : k2 + 24 * (n + 1) ≤ 7293034) (hr23 : ∀ (k1 k2 : Nat) (φ : Ph), SF 149 φ → k1 + 4 * n ≤ 601024 → k2 + 24 * n ≤ 7293034 → ∀ (l4 : Int32) (M : Mm), r23 l4 M = some (1, M9) → AW G (I_W_law nm hh) B Qm k1 k2 23 [(0, .ref 2000), (1, .ref 0), (2, .ref 134), (3, .ref 148), (4, .int l4)] [] M φ) {l4 : Int32} {M : Mm} (h : f_W_law_1248 L xs r23 l4 M = some (1, M9)) : AW G (I_W_law nm hh) B Qm k1 k2 1248 [(0, .ref 2000), (1, .ref 0), (2, .ref 134), (3, .ref 148), (4, .int l4)] [] M φ := by
  unfold f_W_law_1248 at h
  refine a_aload_n (j := 1) hB e_W_law_1248 rfl rfl ?_
  refine a_aload_n (j := 0) hB e_W_law_1249 rfl rfl ?_
  refine a_iload (j := 4) hB e_W_law_1250 rfl ?_
  refine a_iconst (v := 1) hB e_W_law_1252 ic_1 ?_
  refine a_iadd hB e_W_law_1253 ?_
  obtain ⟨c1254, h⟩ := chk_i h
  refine a_sld' hB hn hx c1254 e_W_law_1254 ?_
  refine a_aload_n (j := 3) hB e_W_law_1255 rfl rfl ?_
  obtain ⟨r1256, M1256, hr1256, h⟩ := bn2_i h
  obtain ⟨φ1256, hφ1256⟩ : ∃ q, pK r1256 φ = q := ⟨_, rfl⟩
  have hF0 := hF
  refine a_ret (v := (some (.int r1256))) (M1 := M1256) (φ1 := φ1256) (st1 := [.int r1256]) (j1 := k1 + 1) (j2 := k2 + 6) (ar_SX (As := [.ref 0, .int (xs (ix (l4 + (1 : Int32)))), .ref 148]) (rest := []) hB (c_W_pins (bf_G hB) hF hφ1256 hr1256) ml_W_206 md_W_pins rfl rfl (Nat.le_of_ble_eq_true rfl) (rmL (c := 1) (s := 6) (by decide) (by decide) (by omega) (by omega) rfl rfl) e_W_law_1256) rfl rfl rfl ?_
  have hF : SF 149 φ1256 := by rw [← hφ1256]; exact sf_K hF0 _
  refine a_istore (ls' := [(5, .int r1256), (0, .ref 2000), (1, .ref 0), (2, .ref 134), (3, .ref 148), (4, .int l4)]) hB e_W_law_1259 (Nat.le_of_ble_eq_true rfl) rfl ?_
  refine a_aload_n (j := 3) hB e_W_law_1261 rfl rfl ?_
  refine a_aload_n (j := 1) hB e_W_law_1262 rfl rfl ?_
  refine a_iload (j := 5) hB e_W_law_1263 rfl ?_
  refine a_iconst (v := 1) hB e_W_law_1265 ic_1 ?_
  refine a_iadd hB e_W_law_1266 ?_
  refine a_sld' hB hn hx c1254 e_W_law_1267 ?_
  obtain ⟨r1268, M1268, hr1268, h⟩ := bn2_i h
  refine a_ret (v := (some (.int r1268))) (M1 := M1268) (φ1 := φ1256) (st1 := [.int r1268]) (j1 := k1 + 1) (j2 := k2 + 6) (ar_V (As := [.int (xs (ix (l4 + (1 : Int32))))]) (rest := []) hB (c_M_pins (bf_G hB) (sf_m hF (by decide)) hr1268) ml_W_208 md_M_pins rc_M_pins (sf_lt hF (by decide)) kk_134 rfl rfl (Nat.le_of_ble_eq_true rfl) (rmL (c := 0) (s := 0) (by decide) (by decide) (by omega) (by omega) rfl rfl) e_W_law_1268) rfl rfl rfl ?_
  refine a_istore (ls' := [(6, .int r1268), (5, .int r1256), (0, .ref 2000), (1, .ref 0), (2, .ref 134), (3, .ref 148), (4, .int l4)]) hB e_W_law_1271 (Nat.le_of_ble_eq_true rfl) rfl ?_
  refine a_aload_n (j := 4) hB e_W_law_1273 rfl rfl ?_
  obtain ⟨r1274, hr1274, h⟩ := bn_i h
  refine a_ret (v := (some (.int r1274))) (M1 := M1268) (φ1 := φ1256) (st1 := [.int r1274]) (j1 := k1 + 1) (j2 := k2 + 6) (ar_V (As := []) (rest := []) hB (c_M_thrown (bf_G hB) (sf_m hF (by decide)) hr1274) ml_W_121 md_M_thrown rc_M_thrown (sf_lt hF (by decide)) kk_134 rfl rfl (Nat.le_of_ble_eq_true rfl) (rmL (c := 0) (s := 0) (by decide) (by decide) (by omega) (by omega) rfl rfl) e_W_law_1274) rfl rfl rfl ?_
  refine a_iload (j := 1) hB e_W_law_1277 rfl ?_
  refine a_icmp_eq (tgt := 1284) hB e_W_law_1279 (by decide) (fun c => ?_) (fun c => ?_)
  · have h := ip c h
    refine a_iload (j := 1) hB e_W_law_1284 rfl ?_
    refine a_if_ne (tgt := 1301) hB e_W_law_1286 (by decide) (fun c => ?_) (fun c => ?_)
    · have h := iq c h
      refine a_ls [2, 3, 4, 5, 6] (ls' := [(0, .ref 2000), (1, .ref 0), (2, .ref 134), (3, .ref 148), (4, .int l4)]) rfl ?_
      exact t_W_law_1301 hB hend hn hx hF (by omega) (by omega) hr23 h
    · have h := ip c h
      refine a_aload_n (j := 5) hB e_W_law_1289 rfl rfl ?_
      refine a_iconst (v := 0) hB e_W_law_1290 ic_0 ?_
      refine a_lald hB e_W_law_1291 (sf_lt hF (by decide)) kk_148 (by decide) ?_
      refine a_iload (j := 0) hB e_W_law_1292 rfl ?_
      refine a_i2l hB e_W_law_1294 ?_
      refine a_lcmp hB e_W_law_1295 ?_
      refine a_if_eq (tgt := 1301) hB e_W_law_1296 (by decide) (fun c => ?_) (fun c => ?_)
      · have h := ip c h
        refine a_ls [2, 3, 4, 5, 6] (ls' := [(0, .ref 2000), (1, .ref 0), (2, .ref 134), (3, .ref 148), (4, .int l4)]) rfl ?_
        exact t_W_law_1301 hB hend hn hx hF (by omega) (by omega) hr23 h
      · have h := iq c h
        refine a_iconst (v := 0) hB e_W_law_1299 ic_0 ?_
        exact (no01 h).elim
  · have h := iq c h
    refine a_iconst (v := 0) hB e_W_law_1282 ic_0 ?_
    exact (no01 h).elim
set_option maxRecDepth 100000 in
theorem t_W_law_1357 {G : Gt} {nm : String} {hh : List (Nat × Nat × Nat × Nat)} {B : Bag} {L : Nat} {xs : Nat → Int32} {Qm : State → Prop} {M9 : Mm} (hB : BF G (I_W_law nm hh) B) (hend : ∀ (k1 k2 pc : Nat) (ls : List (Nat × Value)) (M : Mm) (φ : Ph), decode (mB (I_W_law nm hh)) pc = .ok (.ireturn, 1) → k1 ≤ 601024 → k2 ≤ 7293034 → AW G (I_W_law nm hh) B Qm k1 k2 pc ls [.int 1] M φ) (hn : gN G = L) (hx : gX G = xs) {φ : Ph} (hF : SF 149 φ) {k1 k2 : Nat} {n : Nat} {r23 : Int32 → Mm → Option (Int32 × Mm)}  (hk1 : k1 + 4 * (n) ≤ 601024) (hk2 : k2 + 24 * (n) ≤ 7293034) (hr23 : ∀ (k1 k2 : Nat) (φ : Ph), SF 149 φ → k1 + 4 * n ≤ 601024 → k2 + 24 * n ≤ 7293034 → ∀ (l4 : Int32) (M : Mm), r23 l4 M = some (1, M9) → AW G (I_W_law nm hh) B Qm k1 k2 23 [(0, .ref 2000), (1, .ref 0), (2, .ref 134), (3, .ref 148), (4, .int l4)] [] M φ) {l4 : Int32} {M : Mm} (h : f_W_law_1357 L xs r23 l4 M = some (1, M9)) : AW G (I_W_law nm hh) B Qm k1 k2 1357 [(0, .ref 2000), (1, .ref 0), (2, .ref 134), (3, .ref 148), (4, .int l4)] [] M φ := by
  unfold f_W_law_1357 at h
  refine a_goto (tgt := 2537) hB e_W_law_1357 (by decide) ?_
  exact t_W_law_2537 hB hend hn hx hF (by omega) (by omega) hr23 h
set_option maxRecDepth 100000 in
theorem t_W_law_1304 {G : Gt} {nm : String} {hh : List (Nat × Nat × Nat × Nat)} {B : Bag} {L : Nat} {xs : Nat → Int32} {Qm : State → Prop} {M9 : Mm} (hB : BF G (I_W_law nm hh) B) (hend : ∀ (k1 k2 pc : Nat) (ls : List (Nat × Value)) (M : Mm) (φ : Ph), decode (mB (I_W_law nm hh)) pc = .ok (.ireturn, 1) → k1 ≤ 601024 → k2 ≤ 7293034 → AW G (I_W_law nm hh) B Qm k1 k2 pc ls [.int 1] M φ) (hn : gN G = L) (hx : gX G = xs) {φ : Ph} (hF : SF 149 φ) {k1 k2 : Nat} {n : Nat} {r23 : Int32 → Mm → Option (Int32 × Mm)}  (hk1 : k1 + 4 * (n + 1) ≤ 601024) (hk2 : k2 + 24 * (n + 1) ≤ 7293034) (hr23 : ∀ (k1 k2 : Nat) (φ : Ph), SF 149 φ → k1 + 4 * n ≤ 601024 → k2 + 24 * n ≤ 7293034 → ∀ (l4 : Int32) (M : Mm), r23 l4 M = some (1, M9) → AW G (I_W_law nm hh) B Qm k1 k2 23 [(0, .ref 2000), (1, .ref 0), (2, .ref 134), (3, .ref 148), (4, .int l4)] [] M φ) {l4 : Int32} {M : Mm} (h : f_W_law_1304 L xs r23 l4 M = some (1, M9)) : AW G (I_W_law nm hh) B Qm k1 k2 1304 [(0, .ref 2000), (1, .ref 0), (2, .ref 134), (3, .ref 148), (4, .int l4)] [] M φ := by
  unfold f_W_law_1304 at h
  refine a_aload_n (j := 1) hB e_W_law_1304 rfl rfl ?_
  refine a_aload_n (j := 0) hB e_W_law_1305 rfl rfl ?_
  refine a_iload (j := 4) hB e_W_law_1306 rfl ?_
  refine a_iconst (v := 1) hB e_W_law_1308 ic_1 ?_
  refine a_iadd hB e_W_law_1309 ?_
  obtain ⟨c1310, h⟩ := chk_i h
  refine a_sld' hB hn hx c1310 e_W_law_1310 ?_
  refine a_aload_n (j := 3) hB e_W_law_1311 rfl rfl ?_
  obtain ⟨r1312, M1312, hr1312, h⟩ := bn2_i h
  obtain ⟨φ1312, hφ1312⟩ : ∃ q, pK r1312 φ = q := ⟨_, rfl⟩
  have hF0 := hF
  refine a_ret (v := (some (.int r1312))) (M1 := M1312) (φ1 := φ1312) (st1 := [.int r1312]) (j1 := k1 + 1) (j2 := k2 + 6) (ar_SX (As := [.ref 0, .int (xs (ix (l4 + (1 : Int32)))), .ref 148]) (rest := []) hB (c_W_droppedPins (bf_G hB) hF hφ1312 hr1312) ml_W_209 md_W_droppedPins rfl rfl (Nat.le_of_ble_eq_true rfl) (rmL (c := 1) (s := 6) (by decide) (by decide) (by omega) (by omega) rfl rfl) e_W_law_1312) rfl rfl rfl ?_
  have hF : SF 149 φ1312 := by rw [← hφ1312]; exact sf_K hF0 _
  refine a_istore (ls' := [(5, .int r1312), (0, .ref 2000), (1, .ref 0), (2, .ref 134), (3, .ref 148), (4, .int l4)]) hB e_W_law_1315 (Nat.le_of_ble_eq_true rfl) rfl ?_
  refine a_aload_n (j := 3) hB e_W_law_1317 rfl rfl ?_
  refine a_aload_n (j := 1) hB e_W_law_1318 rfl rfl ?_
  refine a_iload (j := 5) hB e_W_law_1319 rfl ?_
  refine a_iconst (v := 1) hB e_W_law_1321 ic_1 ?_
  refine a_iadd hB e_W_law_1322 ?_
  refine a_sld' hB hn hx c1310 e_W_law_1323 ?_
  obtain ⟨r1324, M1324, hr1324, h⟩ := bn2_i h
  refine a_ret (v := (some (.int r1324))) (M1 := M1324) (φ1 := φ1312) (st1 := [.int r1324]) (j1 := k1 + 1) (j2 := k2 + 6) (ar_V (As := [.int (xs (ix (l4 + (1 : Int32))))]) (rest := []) hB (c_M_droppedPins (bf_G hB) (sf_m hF (by decide)) hr1324) ml_W_211 md_M_droppedPins rc_M_droppedPins (sf_lt hF (by decide)) kk_134 rfl rfl (Nat.le_of_ble_eq_true rfl) (rmL (c := 0) (s := 0) (by decide) (by decide) (by omega) (by omega) rfl rfl) e_W_law_1324) rfl rfl rfl ?_
  refine a_istore (ls' := [(6, .int r1324), (5, .int r1312), (0, .ref 2000), (1, .ref 0), (2, .ref 134), (3, .ref 148), (4, .int l4)]) hB e_W_law_1327 (Nat.le_of_ble_eq_true rfl) rfl ?_
  refine a_aload_n (j := 4) hB e_W_law_1329 rfl rfl ?_
  obtain ⟨r1330, hr1330, h⟩ := bn_i h
  refine a_ret (v := (some (.int r1330))) (M1 := M1324) (φ1 := φ1312) (st1 := [.int r1330]) (j1 := k1 + 1) (j2 := k2 + 6) (ar_V (As := []) (rest := []) hB (c_M_thrown (bf_G hB) (sf_m hF (by decide)) hr1330) ml_W_121 md_M_thrown rc_M_thrown (sf_lt hF (by decide)) kk_134 rfl rfl (Nat.le_of_ble_eq_true rfl) (rmL (c := 0) (s := 0) (by decide) (by decide) (by omega) (by omega) rfl rfl) e_W_law_1330) rfl rfl rfl ?_
  refine a_iload (j := 1) hB e_W_law_1333 rfl ?_
  refine a_icmp_eq (tgt := 1340) hB e_W_law_1335 (by decide) (fun c => ?_) (fun c => ?_)
  · have h := ip c h
    refine a_iload (j := 1) hB e_W_law_1340 rfl ?_
    refine a_if_ne (tgt := 1357) hB e_W_law_1342 (by decide) (fun c => ?_) (fun c => ?_)
    · have h := iq c h
      refine a_ls [2, 3, 4, 5, 6] (ls' := [(0, .ref 2000), (1, .ref 0), (2, .ref 134), (3, .ref 148), (4, .int l4)]) rfl ?_
      exact t_W_law_1357 hB hend hn hx hF (by omega) (by omega) hr23 h
    · have h := ip c h
      refine a_aload_n (j := 5) hB e_W_law_1345 rfl rfl ?_
      refine a_iconst (v := 0) hB e_W_law_1346 ic_0 ?_
      refine a_lald hB e_W_law_1347 (sf_lt hF (by decide)) kk_148 (by decide) ?_
      refine a_iload (j := 0) hB e_W_law_1348 rfl ?_
      refine a_i2l hB e_W_law_1350 ?_
      refine a_lcmp hB e_W_law_1351 ?_
      refine a_if_eq (tgt := 1357) hB e_W_law_1352 (by decide) (fun c => ?_) (fun c => ?_)
      · have h := ip c h
        refine a_ls [2, 3, 4, 5, 6] (ls' := [(0, .ref 2000), (1, .ref 0), (2, .ref 134), (3, .ref 148), (4, .int l4)]) rfl ?_
        exact t_W_law_1357 hB hend hn hx hF (by omega) (by omega) hr23 h
      · have h := iq c h
        refine a_iconst (v := 0) hB e_W_law_1355 ic_0 ?_
        exact (no01 h).elim
  · have h := iq c h
    refine a_iconst (v := 0) hB e_W_law_1338 ic_0 ?_
    exact (no01 h).elim
set_option maxRecDepth 100000 in
theorem t_W_law_1413 {G : Gt} {nm : String} {hh : List (Nat × Nat × Nat × Nat)} {B : Bag} {L : Nat} {xs : Nat → Int32} {Qm : State → Prop} {M9 : Mm} (hB : BF G (I_W_law nm hh) B) (hend : ∀ (k1 k2 pc : Nat) (ls : List (Nat × Value)) (M : Mm) (φ : Ph), decode (mB (I_W_law nm hh)) pc = .ok (.ireturn, 1) → k1 ≤ 601024 → k2 ≤ 7293034 → AW G (I_W_law nm hh) B Qm k1 k2 pc ls [.int 1] M φ) (hn : gN G = L) (hx : gX G = xs) {φ : Ph} (hF : SF 149 φ) {k1 k2 : Nat} {n : Nat} {r23 : Int32 → Mm → Option (Int32 × Mm)}  (hk1 : k1 + 4 * (n) ≤ 601024) (hk2 : k2 + 24 * (n) ≤ 7293034) (hr23 : ∀ (k1 k2 : Nat) (φ : Ph), SF 149 φ → k1 + 4 * n ≤ 601024 → k2 + 24 * n ≤ 7293034 → ∀ (l4 : Int32) (M : Mm), r23 l4 M = some (1, M9) → AW G (I_W_law nm hh) B Qm k1 k2 23 [(0, .ref 2000), (1, .ref 0), (2, .ref 134), (3, .ref 148), (4, .int l4)] [] M φ) {l4 : Int32} {M : Mm} (h : f_W_law_1413 L xs r23 l4 M = some (1, M9)) : AW G (I_W_law nm hh) B Qm k1 k2 1413 [(0, .ref 2000), (1, .ref 0), (2, .ref 134), (3, .ref 148), (4, .int l4)] [] M φ := by
  unfold f_W_law_1413 at h
  refine a_goto (tgt := 2537) hB e_W_law_1413 (by decide) ?_
  exact t_W_law_2537 hB hend hn hx hF (by omega) (by omega) hr23 h
set_option maxRecDepth 100000 in
theorem t_W_law_1360 {G : Gt} {nm : String} {hh : List (Nat × Nat × Nat × Nat)} {B : Bag} {L : Nat} {xs : Nat → Int32} {Qm : State → Prop} {M9 : Mm} (hB : BF G (I_W_law nm hh) B) (hend : ∀ (k1 k2 pc : Nat) (ls : List (Nat × Value)) (M : Mm) (φ : Ph), decode (mB (I_W_law nm hh)) pc = .ok (.ireturn, 1) → k1 ≤ 601024 → k2 ≤ 7293034 → AW G (I_W_law nm hh) B Qm k1 k2 pc ls [.int 1] M φ) (hn : gN G = L) (hx : gX G = xs) {φ : Ph} (hF : SF 149 φ) {k1 k2 : Nat} {n : Nat} {r23 : Int32 → Mm → Option (Int32 × Mm)}  (hk1 : k1 + 4 * (n + 1) ≤ 601024) (hk2 : k2 + 24 * (n + 1) ≤ 7293034) (hr23 : ∀ (k1 k2 : Nat) (φ : Ph), SF 149 φ → k1 + 4 * n ≤ 601024 → k2 + 24 * n ≤ 7293034 → ∀ (l4 : Int32) (M : Mm), r23 l4 M = some (1, M9) → AW G (I_W_law nm hh) B Qm k1 k2 23 [(0, .ref 2000), (1, .ref 0), (2, .ref 134), (3, .ref 148), (4, .int l4)] [] M φ) {l4 : Int32} {M : Mm} (h : f_W_law_1360 L xs r23 l4 M = some (1, M9)) : AW G (I_W_law nm hh) B Qm k1 k2 1360 [(0, .ref 2000), (1, .ref 0), (2, .ref 134), (3, .ref 148), (4, .int l4)] [] M φ := by
  unfold f_W_law_1360 at h
  refine a_aload_n (j := 1) hB e_W_law_1360 rfl rfl ?_
  refine a_aload_n (j := 0) hB e_W_law_1361 rfl rfl ?_
  refine a_iload (j := 4) hB e_W_law_1362 rfl ?_
  refine a_iconst (v := 1) hB e_W_law_1364 ic_1 ?_
  refine a_iadd hB e_W_law_1365 ?_
  obtain ⟨c1366, h⟩ := chk_i h
  refine a_sld' hB hn hx c1366 e_W_law_1366 ?_
  refine a_aload_n (j := 3) hB e_W_law_1367 rfl rfl ?_
  obtain ⟨r1368, M1368, hr1368, h⟩ := bn2_i h
  obtain ⟨φ1368, hφ1368⟩ : ∃ q, pK r1368 φ = q := ⟨_, rfl⟩
  have hF0 := hF
  refine a_ret (v := (some (.int r1368))) (M1 := M1368) (φ1 := φ1368) (st1 := [.int r1368]) (j1 := k1 + 1) (j2 := k2 + 6) (ar_SX (As := [.ref 0, .int (xs (ix (l4 + (1 : Int32)))), .ref 148]) (rest := []) hB (c_W_readLength (bf_G hB) hF hφ1368 hr1368) ml_W_212 md_W_readLength rfl rfl (Nat.le_of_ble_eq_true rfl) (rmL (c := 1) (s := 6) (by decide) (by decide) (by omega) (by omega) rfl rfl) e_W_law_1368) rfl rfl rfl ?_
  have hF : SF 149 φ1368 := by rw [← hφ1368]; exact sf_K hF0 _
  refine a_istore (ls' := [(5, .int r1368), (0, .ref 2000), (1, .ref 0), (2, .ref 134), (3, .ref 148), (4, .int l4)]) hB e_W_law_1371 (Nat.le_of_ble_eq_true rfl) rfl ?_
  refine a_aload_n (j := 3) hB e_W_law_1373 rfl rfl ?_
  refine a_aload_n (j := 1) hB e_W_law_1374 rfl rfl ?_
  refine a_iload (j := 5) hB e_W_law_1375 rfl ?_
  refine a_iconst (v := 1) hB e_W_law_1377 ic_1 ?_
  refine a_iadd hB e_W_law_1378 ?_
  refine a_sld' hB hn hx c1366 e_W_law_1379 ?_
  obtain ⟨r1380, M1380, hr1380, h⟩ := bn2_i h
  refine a_ret (v := (some (.int r1380))) (M1 := M1380) (φ1 := φ1368) (st1 := [.int r1380]) (j1 := k1 + 1) (j2 := k2 + 6) (ar_V (As := [.int (xs (ix (l4 + (1 : Int32))))]) (rest := []) hB (c_M_readLength (bf_G hB) (sf_m hF (by decide)) hr1380) ml_W_214 md_M_readLength rc_M_readLength (sf_lt hF (by decide)) kk_134 rfl rfl (Nat.le_of_ble_eq_true rfl) (rmL (c := 0) (s := 0) (by decide) (by decide) (by omega) (by omega) rfl rfl) e_W_law_1380) rfl rfl rfl ?_
  refine a_istore (ls' := [(6, .int r1380), (5, .int r1368), (0, .ref 2000), (1, .ref 0), (2, .ref 134), (3, .ref 148), (4, .int l4)]) hB e_W_law_1383 (Nat.le_of_ble_eq_true rfl) rfl ?_
  refine a_aload_n (j := 4) hB e_W_law_1385 rfl rfl ?_
  obtain ⟨r1386, hr1386, h⟩ := bn_i h
  refine a_ret (v := (some (.int r1386))) (M1 := M1380) (φ1 := φ1368) (st1 := [.int r1386]) (j1 := k1 + 1) (j2 := k2 + 6) (ar_V (As := []) (rest := []) hB (c_M_thrown (bf_G hB) (sf_m hF (by decide)) hr1386) ml_W_121 md_M_thrown rc_M_thrown (sf_lt hF (by decide)) kk_134 rfl rfl (Nat.le_of_ble_eq_true rfl) (rmL (c := 0) (s := 0) (by decide) (by decide) (by omega) (by omega) rfl rfl) e_W_law_1386) rfl rfl rfl ?_
  refine a_iload (j := 1) hB e_W_law_1389 rfl ?_
  refine a_icmp_eq (tgt := 1396) hB e_W_law_1391 (by decide) (fun c => ?_) (fun c => ?_)
  · have h := ip c h
    refine a_iload (j := 1) hB e_W_law_1396 rfl ?_
    refine a_if_ne (tgt := 1413) hB e_W_law_1398 (by decide) (fun c => ?_) (fun c => ?_)
    · have h := iq c h
      refine a_ls [2, 3, 4, 5, 6] (ls' := [(0, .ref 2000), (1, .ref 0), (2, .ref 134), (3, .ref 148), (4, .int l4)]) rfl ?_
      exact t_W_law_1413 hB hend hn hx hF (by omega) (by omega) hr23 h
    · have h := ip c h
      refine a_aload_n (j := 5) hB e_W_law_1401 rfl rfl ?_
      refine a_iconst (v := 0) hB e_W_law_1402 ic_0 ?_
      refine a_lald hB e_W_law_1403 (sf_lt hF (by decide)) kk_148 (by decide) ?_
      refine a_iload (j := 0) hB e_W_law_1404 rfl ?_
      refine a_i2l hB e_W_law_1406 ?_
      refine a_lcmp hB e_W_law_1407 ?_
      refine a_if_eq (tgt := 1413) hB e_W_law_1408 (by decide) (fun c => ?_) (fun c => ?_)
      · have h := ip c h
        refine a_ls [2, 3, 4, 5, 6] (ls' := [(0, .ref 2000), (1, .ref 0), (2, .ref 134), (3, .ref 148), (4, .int l4)]) rfl ?_
        exact t_W_law_1413 hB hend hn hx hF (by omega) (by omega) hr23 h
      · have h := iq c h
        refine a_iconst (v := 0) hB e_W_law_1411 ic_0 ?_
        exact (no01 h).elim
  · have h := iq c h
    refine a_iconst (v := 0) hB e_W_law_1394 ic_0 ?_
    exact (no01 h).elim
set_option maxRecDepth 100000 in
theorem t_W_law_1469 {G : Gt} {nm : String} {hh : List (Nat × Nat × Nat × Nat)} {B : Bag} {L : Nat} {xs : Nat → Int32} {Qm : State → Prop} {M9 : Mm} (hB : BF G (I_W_law nm hh) B) (hend : ∀ (k1 k2 pc : Nat) (ls : List (Nat × Value)) (M : Mm) (φ : Ph), decode (mB (I_W_law nm hh)) pc = .ok (.ireturn, 1) → k1 ≤ 601024 → k2 ≤ 7293034 → AW G (I_W_law nm hh) B Qm k1 k2 pc ls [.int 1] M φ) (hn : gN G = L) (hx : gX G = xs) {φ : Ph} (hF : SF 149 φ) {k1 k2 : Nat} {n : Nat} {r23 : Int32 → Mm → Option (Int32 × Mm)}  (hk1 : k1 + 4 * (n) ≤ 601024) (hk2 : k2 + 24 * (n) ≤ 7293034) (hr23 : ∀ (k1 k2 : Nat) (φ : Ph), SF 149 φ → k1 + 4 * n ≤ 601024 → k2 + 24 * n ≤ 7293034 → ∀ (l4 : Int32) (M : Mm), r23 l4 M = some (1, M9) → AW G (I_W_law nm hh) B Qm k1 k2 23 [(0, .ref 2000), (1, .ref 0), (2, .ref 134), (3, .ref 148), (4, .int l4)] [] M φ) {l4 : Int32} {M : Mm} (h : f_W_law_1469 L xs r23 l4 M = some (1, M9)) : AW G (I_W_law nm hh) B Qm k1 k2 1469 [(0, .ref 2000), (1, .ref 0), (2, .ref 134), (3, .ref 148), (4, .int l4)] [] M φ := by
  unfold f_W_law_1469 at h
  refine a_goto (tgt := 2537) hB e_W_law_1469 (by decide) ?_
  exact t_W_law_2537 hB hend hn hx hF (by omega) (by omega) hr23 h
set_option maxRecDepth 100000 in
theorem t_W_law_1416 {G : Gt} {nm : String} {hh : List (Nat × Nat × Nat × Nat)} {B : Bag} {L : Nat} {xs : Nat → Int32} {Qm : State → Prop} {M9 : Mm} (hB : BF G (I_W_law nm hh) B) (hend : ∀ (k1 k2 pc : Nat) (ls : List (Nat × Value)) (M : Mm) (φ : Ph), decode (mB (I_W_law nm hh)) pc = .ok (.ireturn, 1) → k1 ≤ 601024 → k2 ≤ 7293034 → AW G (I_W_law nm hh) B Qm k1 k2 pc ls [.int 1] M φ) (hn : gN G = L) (hx : gX G = xs) {φ : Ph} (hF : SF 149 φ) {k1 k2 : Nat} {n : Nat} {r23 : Int32 → Mm → Option (Int32 × Mm)}  (hk1 : k1 + 4 * (n + 1) ≤ 601024) (hk2 : k2 + 24 * (n + 1) ≤ 7293034) (hr23 : ∀ (k1 k2 : Nat) (φ : Ph), SF 149 φ → k1 + 4 * n ≤ 601024 → k2 + 24 * n ≤ 7293034 → ∀ (l4 : Int32) (M : Mm), r23 l4 M = some (1, M9) → AW G (I_W_law nm hh) B Qm k1 k2 23 [(0, .ref 2000), (1, .ref 0), (2, .ref 134), (3, .ref 148), (4, .int l4)] [] M φ) {l4 : Int32} {M : Mm} (h : f_W_law_1416 L xs r23 l4 M = some (1, M9)) : AW G (I_W_law nm hh) B Qm k1 k2 1416 [(0, .ref 2000), (1, .ref 0), (2, .ref 134), (3, .ref 148), (4, .int l4)] [] M φ := by
  unfold f_W_law_1416 at h
  refine a_aload_n (j := 1) hB e_W_law_1416 rfl rfl ?_
  refine a_aload_n (j := 0) hB e_W_law_1417 rfl rfl ?_
  refine a_iload (j := 4) hB e_W_law_1418 rfl ?_
  refine a_iconst (v := 1) hB e_W_law_1420 ic_1 ?_
  refine a_iadd hB e_W_law_1421 ?_
  obtain ⟨c1422, h⟩ := chk_i h
  refine a_sld' hB hn hx c1422 e_W_law_1422 ?_
  refine a_aload_n (j := 3) hB e_W_law_1423 rfl rfl ?_
  obtain ⟨r1424, M1424, hr1424, h⟩ := bn2_i h
  obtain ⟨φ1424, hφ1424⟩ : ∃ q, pK r1424 φ = q := ⟨_, rfl⟩
  have hF0 := hF
  refine a_ret (v := (some (.int r1424))) (M1 := M1424) (φ1 := φ1424) (st1 := [.int r1424]) (j1 := k1 + 1) (j2 := k2 + 6) (ar_SX (As := [.ref 0, .int (xs (ix (l4 + (1 : Int32)))), .ref 148]) (rest := []) hB (c_W_slopeLength (bf_G hB) hF hφ1424 hr1424) ml_W_215 md_W_slopeLength rfl rfl (Nat.le_of_ble_eq_true rfl) (rmL (c := 1) (s := 6) (by decide) (by decide) (by omega) (by omega) rfl rfl) e_W_law_1424) rfl rfl rfl ?_
  have hF : SF 149 φ1424 := by rw [← hφ1424]; exact sf_K hF0 _
  refine a_istore (ls' := [(5, .int r1424), (0, .ref 2000), (1, .ref 0), (2, .ref 134), (3, .ref 148), (4, .int l4)]) hB e_W_law_1427 (Nat.le_of_ble_eq_true rfl) rfl ?_
  refine a_aload_n (j := 3) hB e_W_law_1429 rfl rfl ?_
  refine a_aload_n (j := 1) hB e_W_law_1430 rfl rfl ?_
  refine a_iload (j := 5) hB e_W_law_1431 rfl ?_
  refine a_iconst (v := 1) hB e_W_law_1433 ic_1 ?_
  refine a_iadd hB e_W_law_1434 ?_
  refine a_sld' hB hn hx c1422 e_W_law_1435 ?_
  obtain ⟨r1436, M1436, hr1436, h⟩ := bn2_i h
  refine a_ret (v := (some (.int r1436))) (M1 := M1436) (φ1 := φ1424) (st1 := [.int r1436]) (j1 := k1 + 1) (j2 := k2 + 6) (ar_V (As := [.int (xs (ix (l4 + (1 : Int32))))]) (rest := []) hB (c_M_slopeLength (bf_G hB) (sf_m hF (by decide)) hr1436) ml_W_217 md_M_slopeLength rc_M_slopeLength (sf_lt hF (by decide)) kk_134 rfl rfl (Nat.le_of_ble_eq_true rfl) (rmL (c := 0) (s := 0) (by decide) (by decide) (by omega) (by omega) rfl rfl) e_W_law_1436) rfl rfl rfl ?_
  refine a_istore (ls' := [(6, .int r1436), (5, .int r1424), (0, .ref 2000), (1, .ref 0), (2, .ref 134), (3, .ref 148), (4, .int l4)]) hB e_W_law_1439 (Nat.le_of_ble_eq_true rfl) rfl ?_
  refine a_aload_n (j := 4) hB e_W_law_1441 rfl rfl ?_
  obtain ⟨r1442, hr1442, h⟩ := bn_i h
  refine a_ret (v := (some (.int r1442))) (M1 := M1436) (φ1 := φ1424) (st1 := [.int r1442]) (j1 := k1 + 1) (j2 := k2 + 6) (ar_V (As := []) (rest := []) hB (c_M_thrown (bf_G hB) (sf_m hF (by decide)) hr1442) ml_W_121 md_M_thrown rc_M_thrown (sf_lt hF (by decide)) kk_134 rfl rfl (Nat.le_of_ble_eq_true rfl) (rmL (c := 0) (s := 0) (by decide) (by decide) (by omega) (by omega) rfl rfl) e_W_law_1442) rfl rfl rfl ?_
  refine a_iload (j := 1) hB e_W_law_1445 rfl ?_
  refine a_icmp_eq (tgt := 1452) hB e_W_law_1447 (by decide) (fun c => ?_) (fun c => ?_)
  · have h := ip c h
    refine a_iload (j := 1) hB e_W_law_1452 rfl ?_
    refine a_if_ne (tgt := 1469) hB e_W_law_1454 (by decide) (fun c => ?_) (fun c => ?_)
    · have h := iq c h
      refine a_ls [2, 3, 4, 5, 6] (ls' := [(0, .ref 2000), (1, .ref 0), (2, .ref 134), (3, .ref 148), (4, .int l4)]) rfl ?_
      exact t_W_law_1469 hB hend hn hx hF (by omega) (by omega) hr23 h
    · have h := ip c h
      refine a_aload_n (j := 5) hB e_W_law_1457 rfl rfl ?_
      refine a_iconst (v := 0) hB e_W_law_1458 ic_0 ?_
      refine a_lald hB e_W_law_1459 (sf_lt hF (by decide)) kk_148 (by decide) ?_
      refine a_iload (j := 0) hB e_W_law_1460 rfl ?_
      refine a_i2l hB e_W_law_1462 ?_
      refine a_lcmp hB e_W_law_1463 ?_
      refine a_if_eq (tgt := 1469) hB e_W_law_1464 (by decide) (fun c => ?_) (fun c => ?_)
      · have h := ip c h
        refine a_ls [2, 3, 4, 5, 6] (ls' := [(0, .ref 2000), (1, .ref 0), (2, .ref 134), (3, .ref 148), (4, .int l4)]) rfl ?_
        exact t_W_law_1469 hB hend hn hx hF (by omega) (by omega) hr23 h
      · have h := iq c h
        refine a_iconst (v := 0) hB e_W_law_1467 ic_0 ?_
        exact (no01 h).elim
  · have h := iq c h
    refine a_iconst (v := 0) hB e_W_law_1450 ic_0 ?_
    exact (no01 h).elim
set_option maxRecDepth 100000 in
theorem t_W_law_1525 {G : Gt} {nm : String} {hh : List (Nat × Nat × Nat × Nat)} {B : Bag} {L : Nat} {xs : Nat → Int32} {Qm : State → Prop} {M9 : Mm} (hB : BF G (I_W_law nm hh) B) (hend : ∀ (k1 k2 pc : Nat) (ls : List (Nat × Value)) (M : Mm) (φ : Ph), decode (mB (I_W_law nm hh)) pc = .ok (.ireturn, 1) → k1 ≤ 601024 → k2 ≤ 7293034 → AW G (I_W_law nm hh) B Qm k1 k2 pc ls [.int 1] M φ) (hn : gN G = L) (hx : gX G = xs) {φ : Ph} (hF : SF 149 φ) {k1 k2 : Nat} {n : Nat} {r23 : Int32 → Mm → Option (Int32 × Mm)}  (hk1 : k1 + 4 * (n) ≤ 601024) (hk2 : k2 + 24 * (n) ≤ 7293034) (hr23 : ∀ (k1 k2 : Nat) (φ : Ph), SF 149 φ → k1 + 4 * n ≤ 601024 → k2 + 24 * n ≤ 7293034 → ∀ (l4 : Int32) (M : Mm), r23 l4 M = some (1, M9) → AW G (I_W_law nm hh) B Qm k1 k2 23 [(0, .ref 2000), (1, .ref 0), (2, .ref 134), (3, .ref 148), (4, .int l4)] [] M φ) {l4 : Int32} {M : Mm} (h : f_W_law_1525 L xs r23 l4 M = some (1, M9)) : AW G (I_W_law nm hh) B Qm k1 k2 1525 [(0, .ref 2000), (1, .ref 0), (2, .ref 134), (3, .ref 148), (4, .int l4)] [] M φ := by
  unfold f_W_law_1525 at h
  refine a_goto (tgt := 2537) hB e_W_law_1525 (by decide) ?_
  exact t_W_law_2537 hB hend hn hx hF (by omega) (by omega) hr23 h
set_option maxRecDepth 100000 in
theorem t_W_law_1472 {G : Gt} {nm : String} {hh : List (Nat × Nat × Nat × Nat)} {B : Bag} {L : Nat} {xs : Nat → Int32} {Qm : State → Prop} {M9 : Mm} (hB : BF G (I_W_law nm hh) B) (hend : ∀ (k1 k2 pc : Nat) (ls : List (Nat × Value)) (M : Mm) (φ : Ph), decode (mB (I_W_law nm hh)) pc = .ok (.ireturn, 1) → k1 ≤ 601024 → k2 ≤ 7293034 → AW G (I_W_law nm hh) B Qm k1 k2 pc ls [.int 1] M φ) (hn : gN G = L) (hx : gX G = xs) {φ : Ph} (hF : SF 149 φ) {k1 k2 : Nat} {n : Nat} {r23 : Int32 → Mm → Option (Int32 × Mm)}  (hk1 : k1 + 4 * (n + 1) ≤ 601024) (hk2 : k2 + 24 * (n + 1) ≤ 7293034) (hr23 : ∀ (k1 k2 : Nat) (φ : Ph), SF 149 φ → k1 + 4 * n ≤ 601024 → k2 + 24 * n ≤ 7293034 → ∀ (l4 : Int32) (M : Mm), r23 l4 M = some (1, M9) → AW G (I_W_law nm hh) B Qm k1 k2 23 [(0, .ref 2000), (1, .ref 0), (2, .ref 134), (3, .ref 148), (4, .int l4)] [] M φ) {l4 : Int32} {M : Mm} (h : f_W_law_1472 L xs r23 l4 M = some (1, M9)) : AW G (I_W_law nm hh) B Qm k1 k2 1472 [(0, .ref 2000), (1, .ref 0), (2, .ref 134), (3, .ref 148), (4, .int l4)] [] M φ := by
  unfold f_W_law_1472 at h
  refine a_aload_n (j := 1) hB e_W_law_1472 rfl rfl ?_
  refine a_aload_n (j := 0) hB e_W_law_1473 rfl rfl ?_
  refine a_iload (j := 4) hB e_W_law_1474 rfl ?_
  refine a_iconst (v := 1) hB e_W_law_1476 ic_1 ?_
  refine a_iadd hB e_W_law_1477 ?_
  obtain ⟨c1478, h⟩ := chk_i h
  refine a_sld' hB hn hx c1478 e_W_law_1478 ?_
  refine a_aload_n (j := 3) hB e_W_law_1479 rfl rfl ?_
  obtain ⟨r1480, M1480, hr1480, h⟩ := bn2_i h
  obtain ⟨φ1480, hφ1480⟩ : ∃ q, pK r1480 φ = q := ⟨_, rfl⟩
  have hF0 := hF
  refine a_ret (v := (some (.int r1480))) (M1 := M1480) (φ1 := φ1480) (st1 := [.int r1480]) (j1 := k1 + 1) (j2 := k2 + 6) (ar_SX (As := [.ref 0, .int (xs (ix (l4 + (1 : Int32)))), .ref 148]) (rest := []) hB (c_W_horizontalLength (bf_G hB) hF hφ1480 hr1480) ml_W_218 md_W_horizontalLength rfl rfl (Nat.le_of_ble_eq_true rfl) (rmL (c := 1) (s := 6) (by decide) (by decide) (by omega) (by omega) rfl rfl) e_W_law_1480) rfl rfl rfl ?_
  have hF : SF 149 φ1480 := by rw [← hφ1480]; exact sf_K hF0 _
  refine a_istore (ls' := [(5, .int r1480), (0, .ref 2000), (1, .ref 0), (2, .ref 134), (3, .ref 148), (4, .int l4)]) hB e_W_law_1483 (Nat.le_of_ble_eq_true rfl) rfl ?_
  refine a_aload_n (j := 3) hB e_W_law_1485 rfl rfl ?_
  refine a_aload_n (j := 1) hB e_W_law_1486 rfl rfl ?_
  refine a_iload (j := 5) hB e_W_law_1487 rfl ?_
  refine a_iconst (v := 1) hB e_W_law_1489 ic_1 ?_
  refine a_iadd hB e_W_law_1490 ?_
  refine a_sld' hB hn hx c1478 e_W_law_1491 ?_
  obtain ⟨r1492, M1492, hr1492, h⟩ := bn2_i h
  refine a_ret (v := (some (.int r1492))) (M1 := M1492) (φ1 := φ1480) (st1 := [.int r1492]) (j1 := k1 + 1) (j2 := k2 + 6) (ar_V (As := [.int (xs (ix (l4 + (1 : Int32))))]) (rest := []) hB (c_M_horizontalLength (bf_G hB) (sf_m hF (by decide)) hr1492) ml_W_220 md_M_horizontalLength rc_M_horizontalLength (sf_lt hF (by decide)) kk_134 rfl rfl (Nat.le_of_ble_eq_true rfl) (rmL (c := 0) (s := 0) (by decide) (by decide) (by omega) (by omega) rfl rfl) e_W_law_1492) rfl rfl rfl ?_
  refine a_istore (ls' := [(6, .int r1492), (5, .int r1480), (0, .ref 2000), (1, .ref 0), (2, .ref 134), (3, .ref 148), (4, .int l4)]) hB e_W_law_1495 (Nat.le_of_ble_eq_true rfl) rfl ?_
  refine a_aload_n (j := 4) hB e_W_law_1497 rfl rfl ?_
  obtain ⟨r1498, hr1498, h⟩ := bn_i h
  refine a_ret (v := (some (.int r1498))) (M1 := M1492) (φ1 := φ1480) (st1 := [.int r1498]) (j1 := k1 + 1) (j2 := k2 + 6) (ar_V (As := []) (rest := []) hB (c_M_thrown (bf_G hB) (sf_m hF (by decide)) hr1498) ml_W_121 md_M_thrown rc_M_thrown (sf_lt hF (by decide)) kk_134 rfl rfl (Nat.le_of_ble_eq_true rfl) (rmL (c := 0) (s := 0) (by decide) (by decide) (by omega) (by omega) rfl rfl) e_W_law_1498) rfl rfl rfl ?_
  refine a_iload (j := 1) hB e_W_law_1501 rfl ?_
  refine a_icmp_eq (tgt := 1508) hB e_W_law_1503 (by decide) (fun c => ?_) (fun c => ?_)
  · have h := ip c h
    refine a_iload (j := 1) hB e_W_law_1508 rfl ?_
    refine a_if_ne (tgt := 1525) hB e_W_law_1510 (by decide) (fun c => ?_) (fun c => ?_)
    · have h := iq c h
      refine a_ls [2, 3, 4, 5, 6] (ls' := [(0, .ref 2000), (1, .ref 0), (2, .ref 134), (3, .ref 148), (4, .int l4)]) rfl ?_
      exact t_W_law_1525 hB hend hn hx hF (by omega) (by omega) hr23 h
    · have h := ip c h
      refine a_aload_n (j := 5) hB e_W_law_1513 rfl rfl ?_
      refine a_iconst (v := 0) hB e_W_law_1514 ic_0 ?_
      refine a_lald hB e_W_law_1515 (sf_lt hF (by decide)) kk_148 (by decide) ?_
      refine a_iload (j := 0) hB e_W_law_1516 rfl ?_
      refine a_i2l hB e_W_law_1518 ?_
      refine a_lcmp hB e_W_law_1519 ?_
      refine a_if_eq (tgt := 1525) hB e_W_law_1520 (by decide) (fun c => ?_) (fun c => ?_)
      · have h := ip c h
        refine a_ls [2, 3, 4, 5, 6] (ls' := [(0, .ref 2000), (1, .ref 0), (2, .ref 134), (3, .ref 148), (4, .int l4)]) rfl ?_
        exact t_W_law_1525 hB hend hn hx hF (by omega) (by omega) hr23 h
      · have h := iq c h
        refine a_iconst (v := 0) hB e_W_law_1523 ic_0 ?_
        exact (no01 h).elim
  · have h := iq c h
    refine a_iconst (v := 0) hB e_W_law_1506 ic_0 ?_
    exact (no01 h).elim
set_option maxRecDepth 100000 in
theorem t_W_law_1581 {G : Gt} {nm : String} {hh : List (Nat × Nat × Nat × Nat)} {B : Bag} {L : Nat} {xs : Nat → Int32} {Qm : State → Prop} {M9 : Mm} (hB : BF G (I_W_law nm hh) B) (hend : ∀ (k1 k2 pc : Nat) (ls : List (Nat × Value)) (M : Mm) (φ : Ph), decode (mB (I_W_law nm hh)) pc = .ok (.ireturn, 1) → k1 ≤ 601024 → k2 ≤ 7293034 → AW G (I_W_law nm hh) B Qm k1 k2 pc ls [.int 1] M φ) (hn : gN G = L) (hx : gX G = xs) {φ : Ph} (hF : SF 149 φ) {k1 k2 : Nat} {n : Nat} {r23 : Int32 → Mm → Option (Int32 × Mm)}  (hk1 : k1 + 4 * (n) ≤ 601024) (hk2 : k2 + 24 * (n) ≤ 7293034) (hr23 : ∀ (k1 k2 : Nat) (φ : Ph), SF 149 φ → k1 + 4 * n ≤ 601024 → k2 + 24 * n ≤ 7293034 → ∀ (l4 : Int32) (M : Mm), r23 l4 M = some (1, M9) → AW G (I_W_law nm hh) B Qm k1 k2 23 [(0, .ref 2000), (1, .ref 0), (2, .ref 134), (3, .ref 148), (4, .int l4)] [] M φ) {l4 : Int32} {M : Mm} (h : f_W_law_1581 L xs r23 l4 M = some (1, M9)) : AW G (I_W_law nm hh) B Qm k1 k2 1581 [(0, .ref 2000), (1, .ref 0), (2, .ref 134), (3, .ref 148), (4, .int l4)] [] M φ := by
  unfold f_W_law_1581 at h
  refine a_goto (tgt := 2537) hB e_W_law_1581 (by decide) ?_
  exact t_W_law_2537 hB hend hn hx hF (by omega) (by omega) hr23 h
set_option maxRecDepth 100000 in
theorem t_W_law_1528 {G : Gt} {nm : String} {hh : List (Nat × Nat × Nat × Nat)} {B : Bag} {L : Nat} {xs : Nat → Int32} {Qm : State → Prop} {M9 : Mm} (hB : BF G (I_W_law nm hh) B) (hend : ∀ (k1 k2 pc : Nat) (ls : List (Nat × Value)) (M : Mm) (φ : Ph), decode (mB (I_W_law nm hh)) pc = .ok (.ireturn, 1) → k1 ≤ 601024 → k2 ≤ 7293034 → AW G (I_W_law nm hh) B Qm k1 k2 pc ls [.int 1] M φ) (hn : gN G = L) (hx : gX G = xs) {φ : Ph} (hF : SF 149 φ) {k1 k2 : Nat} {n : Nat} {r23 : Int32 → Mm → Option (Int32 × Mm)}  (hk1 : k1 + 4 * (n + 1) ≤ 601024) (hk2 : k2 + 24 * (n + 1) ≤ 7293034) (hr23 : ∀ (k1 k2 : Nat) (φ : Ph), SF 149 φ → k1 + 4 * n ≤ 601024 → k2 + 24 * n ≤ 7293034 → ∀ (l4 : Int32) (M : Mm), r23 l4 M = some (1, M9) → AW G (I_W_law nm hh) B Qm k1 k2 23 [(0, .ref 2000), (1, .ref 0), (2, .ref 134), (3, .ref 148), (4, .int l4)] [] M φ) {l4 : Int32} {M : Mm} (h : f_W_law_1528 L xs r23 l4 M = some (1, M9)) : AW G (I_W_law nm hh) B Qm k1 k2 1528 [(0, .ref 2000), (1, .ref 0), (2, .ref 134), (3, .ref 148), (4, .int l4)] [] M φ := by
  unfold f_W_law_1528 at h
  refine a_aload_n (j := 1) hB e_W_law_1528 rfl rfl ?_
  refine a_aload_n (j := 0) hB e_W_law_1529 rfl rfl ?_
  refine a_iload (j := 4) hB e_W_law_1530 rfl ?_
  refine a_iconst (v := 1) hB e_W_law_1532 ic_1 ?_
  refine a_iadd hB e_W_law_1533 ?_
  obtain ⟨c1534, h⟩ := chk_i h
  refine a_sld' hB hn hx c1534 e_W_law_1534 ?_
  refine a_aload_n (j := 3) hB e_W_law_1535 rfl rfl ?_
  obtain ⟨r1536, M1536, hr1536, h⟩ := bn2_i h
  obtain ⟨φ1536, hφ1536⟩ : ∃ q, pK r1536 φ = q := ⟨_, rfl⟩
  have hF0 := hF
  refine a_ret (v := (some (.int r1536))) (M1 := M1536) (φ1 := φ1536) (st1 := [.int r1536]) (j1 := k1 + 1) (j2 := k2 + 6) (ar_SX (As := [.ref 0, .int (xs (ix (l4 + (1 : Int32)))), .ref 148]) (rest := []) hB (c_W_eastStep (bf_G hB) hF hφ1536 hr1536) ml_W_221 md_W_eastStep rfl rfl (Nat.le_of_ble_eq_true rfl) (rmL (c := 1) (s := 6) (by decide) (by decide) (by omega) (by omega) rfl rfl) e_W_law_1536) rfl rfl rfl ?_
  have hF : SF 149 φ1536 := by rw [← hφ1536]; exact sf_K hF0 _
  refine a_istore (ls' := [(5, .int r1536), (0, .ref 2000), (1, .ref 0), (2, .ref 134), (3, .ref 148), (4, .int l4)]) hB e_W_law_1539 (Nat.le_of_ble_eq_true rfl) rfl ?_
  refine a_aload_n (j := 3) hB e_W_law_1541 rfl rfl ?_
  refine a_aload_n (j := 1) hB e_W_law_1542 rfl rfl ?_
  refine a_iload (j := 5) hB e_W_law_1543 rfl ?_
  refine a_iconst (v := 1) hB e_W_law_1545 ic_1 ?_
  refine a_iadd hB e_W_law_1546 ?_
  refine a_sld' hB hn hx c1534 e_W_law_1547 ?_
  obtain ⟨r1548, M1548, hr1548, h⟩ := bn2_i h
  refine a_ret (v := (some (.int r1548))) (M1 := M1548) (φ1 := φ1536) (st1 := [.int r1548]) (j1 := k1 + 1) (j2 := k2 + 6) (ar_V (As := [.int (xs (ix (l4 + (1 : Int32))))]) (rest := []) hB (c_M_eastStep (bf_G hB) (sf_m hF (by decide)) hr1548) ml_W_223 md_M_eastStep rc_M_eastStep (sf_lt hF (by decide)) kk_134 rfl rfl (Nat.le_of_ble_eq_true rfl) (rmL (c := 0) (s := 0) (by decide) (by decide) (by omega) (by omega) rfl rfl) e_W_law_1548) rfl rfl rfl ?_
  refine a_istore (ls' := [(6, .int r1548), (5, .int r1536), (0, .ref 2000), (1, .ref 0), (2, .ref 134), (3, .ref 148), (4, .int l4)]) hB e_W_law_1551 (Nat.le_of_ble_eq_true rfl) rfl ?_
  refine a_aload_n (j := 4) hB e_W_law_1553 rfl rfl ?_
  obtain ⟨r1554, hr1554, h⟩ := bn_i h
  refine a_ret (v := (some (.int r1554))) (M1 := M1548) (φ1 := φ1536) (st1 := [.int r1554]) (j1 := k1 + 1) (j2 := k2 + 6) (ar_V (As := []) (rest := []) hB (c_M_thrown (bf_G hB) (sf_m hF (by decide)) hr1554) ml_W_121 md_M_thrown rc_M_thrown (sf_lt hF (by decide)) kk_134 rfl rfl (Nat.le_of_ble_eq_true rfl) (rmL (c := 0) (s := 0) (by decide) (by decide) (by omega) (by omega) rfl rfl) e_W_law_1554) rfl rfl rfl ?_
  refine a_iload (j := 1) hB e_W_law_1557 rfl ?_
  refine a_icmp_eq (tgt := 1564) hB e_W_law_1559 (by decide) (fun c => ?_) (fun c => ?_)
  · have h := ip c h
    refine a_iload (j := 1) hB e_W_law_1564 rfl ?_
    refine a_if_ne (tgt := 1581) hB e_W_law_1566 (by decide) (fun c => ?_) (fun c => ?_)
    · have h := iq c h
      refine a_ls [2, 3, 4, 5, 6] (ls' := [(0, .ref 2000), (1, .ref 0), (2, .ref 134), (3, .ref 148), (4, .int l4)]) rfl ?_
      exact t_W_law_1581 hB hend hn hx hF (by omega) (by omega) hr23 h
    · have h := ip c h
      refine a_aload_n (j := 5) hB e_W_law_1569 rfl rfl ?_
      refine a_iconst (v := 0) hB e_W_law_1570 ic_0 ?_
      refine a_lald hB e_W_law_1571 (sf_lt hF (by decide)) kk_148 (by decide) ?_
      refine a_iload (j := 0) hB e_W_law_1572 rfl ?_
      refine a_i2l hB e_W_law_1574 ?_
      refine a_lcmp hB e_W_law_1575 ?_
      refine a_if_eq (tgt := 1581) hB e_W_law_1576 (by decide) (fun c => ?_) (fun c => ?_)
      · have h := ip c h
        refine a_ls [2, 3, 4, 5, 6] (ls' := [(0, .ref 2000), (1, .ref 0), (2, .ref 134), (3, .ref 148), (4, .int l4)]) rfl ?_
        exact t_W_law_1581 hB hend hn hx hF (by omega) (by omega) hr23 h
      · have h := iq c h
        refine a_iconst (v := 0) hB e_W_law_1579 ic_0 ?_
        exact (no01 h).elim
  · have h := iq c h
    refine a_iconst (v := 0) hB e_W_law_1562 ic_0 ?_
    exact (no01 h).elim
set_option maxRecDepth 100000 in
theorem t_W_law_1637 {G : Gt} {nm : String} {hh : List (Nat × Nat × Nat × Nat)} {B : Bag} {L : Nat} {xs : Nat → Int32} {Qm : State → Prop} {M9 : Mm} (hB : BF G (I_W_law nm hh) B) (hend : ∀ (k1 k2 pc : Nat) (ls : List (Nat × Value)) (M : Mm) (φ : Ph), decode (mB (I_W_law nm hh)) pc = .ok (.ireturn, 1) → k1 ≤ 601024 → k2 ≤ 7293034 → AW G (I_W_law nm hh) B Qm k1 k2 pc ls [.int 1] M φ) (hn : gN G = L) (hx : gX G = xs) {φ : Ph} (hF : SF 149 φ) {k1 k2 : Nat} {n : Nat} {r23 : Int32 → Mm → Option (Int32 × Mm)}  (hk1 : k1 + 4 * (n) ≤ 601024) (hk2 : k2 + 24 * (n) ≤ 7293034) (hr23 : ∀ (k1 k2 : Nat) (φ : Ph), SF 149 φ → k1 + 4 * n ≤ 601024 → k2 + 24 * n ≤ 7293034 → ∀ (l4 : Int32) (M : Mm), r23 l4 M = some (1, M9) → AW G (I_W_law nm hh) B Qm k1 k2 23 [(0, .ref 2000), (1, .ref 0), (2, .ref 134), (3, .ref 148), (4, .int l4)] [] M φ) {l4 : Int32} {M : Mm} (h : f_W_law_1637 L xs r23 l4 M = some (1, M9)) : AW G (I_W_law nm hh) B Qm k1 k2 1637 [(0, .ref 2000), (1, .ref 0), (2, .ref 134), (3, .ref 148), (4, .int l4)] [] M φ := by
  unfold f_W_law_1637 at h
  refine a_goto (tgt := 2537) hB e_W_law_1637 (by decide) ?_
  exact t_W_law_2537 hB hend hn hx hF (by omega) (by omega) hr23 h
set_option maxRecDepth 100000 in
theorem t_W_law_1584 {G : Gt} {nm : String} {hh : List (Nat × Nat × Nat × Nat)} {B : Bag} {L : Nat} {xs : Nat → Int32} {Qm : State → Prop} {M9 : Mm} (hB : BF G (I_W_law nm hh) B) (hend : ∀ (k1 k2 pc : Nat) (ls : List (Nat × Value)) (M : Mm) (φ : Ph), decode (mB (I_W_law nm hh)) pc = .ok (.ireturn, 1) → k1 ≤ 601024 → k2 ≤ 7293034 → AW G (I_W_law nm hh) B Qm k1 k2 pc ls [.int 1] M φ) (hn : gN G = L) (hx : gX G = xs) {φ : Ph} (hF : SF 149 φ) {k1 k2 : Nat} {n : Nat} {r23 : Int32 → Mm → Option (Int32 × Mm)}  (hk1 : k1 + 4 * (n + 1) ≤ 601024) (hk2 : k2 + 24 * (n + 1) ≤ 7293034) (hr23 : ∀ (k1 k2 : Nat) (φ : Ph), SF 149 φ → k1 + 4 * n ≤ 601024 → k2 + 24 * n ≤ 7293034 → ∀ (l4 : Int32) (M : Mm), r23 l4 M = some (1, M9) → AW G (I_W_law nm hh) B Qm k1 k2 23 [(0, .ref 2000), (1, .ref 0), (2, .ref 134), (3, .ref 148), (4, .int l4)] [] M φ) {l4 : Int32} {M : Mm} (h : f_W_law_1584 L xs r23 l4 M = some (1, M9)) : AW G (I_W_law nm hh) B Qm k1 k2 1584 [(0, .ref 2000), (1, .ref 0), (2, .ref 134), (3, .ref 148), (4, .int l4)] [] M φ := by
  unfold f_W_law_1584 at h
  refine a_aload_n (j := 1) hB e_W_law_1584 rfl rfl ?_
  refine a_aload_n (j := 0) hB e_W_law_1585 rfl rfl ?_
  refine a_iload (j := 4) hB e_W_law_1586 rfl ?_
  refine a_iconst (v := 1) hB e_W_law_1588 ic_1 ?_
  refine a_iadd hB e_W_law_1589 ?_
  obtain ⟨c1590, h⟩ := chk_i h
  refine a_sld' hB hn hx c1590 e_W_law_1590 ?_
  refine a_aload_n (j := 3) hB e_W_law_1591 rfl rfl ?_
  obtain ⟨r1592, M1592, hr1592, h⟩ := bn2_i h
  obtain ⟨φ1592, hφ1592⟩ : ∃ q, pK r1592 φ = q := ⟨_, rfl⟩
  have hF0 := hF
  refine a_ret (v := (some (.int r1592))) (M1 := M1592) (φ1 := φ1592) (st1 := [.int r1592]) (j1 := k1 + 1) (j2 := k2 + 6) (ar_SX (As := [.ref 0, .int (xs (ix (l4 + (1 : Int32)))), .ref 148]) (rest := []) hB (c_W_northStep (bf_G hB) hF hφ1592 hr1592) ml_W_224 md_W_northStep rfl rfl (Nat.le_of_ble_eq_true rfl) (rmL (c := 1) (s := 6) (by decide) (by decide) (by omega) (by omega) rfl rfl) e_W_law_1592) rfl rfl rfl ?_
  have hF : SF 149 φ1592 := by rw [← hφ1592]; exact sf_K hF0 _
  refine a_istore (ls' := [(5, .int r1592), (0, .ref 2000), (1, .ref 0), (2, .ref 134), (3, .ref 148), (4, .int l4)]) hB e_W_law_1595 (Nat.le_of_ble_eq_true rfl) rfl ?_
  refine a_aload_n (j := 3) hB e_W_law_1597 rfl rfl ?_
  refine a_aload_n (j := 1) hB e_W_law_1598 rfl rfl ?_
  refine a_iload (j := 5) hB e_W_law_1599 rfl ?_
  refine a_iconst (v := 1) hB e_W_law_1601 ic_1 ?_
  refine a_iadd hB e_W_law_1602 ?_
  refine a_sld' hB hn hx c1590 e_W_law_1603 ?_
  obtain ⟨r1604, M1604, hr1604, h⟩ := bn2_i h
  refine a_ret (v := (some (.int r1604))) (M1 := M1604) (φ1 := φ1592) (st1 := [.int r1604]) (j1 := k1 + 1) (j2 := k2 + 6) (ar_V (As := [.int (xs (ix (l4 + (1 : Int32))))]) (rest := []) hB (c_M_northStep (bf_G hB) (sf_m hF (by decide)) hr1604) ml_W_226 md_M_northStep rc_M_northStep (sf_lt hF (by decide)) kk_134 rfl rfl (Nat.le_of_ble_eq_true rfl) (rmL (c := 0) (s := 0) (by decide) (by decide) (by omega) (by omega) rfl rfl) e_W_law_1604) rfl rfl rfl ?_
  refine a_istore (ls' := [(6, .int r1604), (5, .int r1592), (0, .ref 2000), (1, .ref 0), (2, .ref 134), (3, .ref 148), (4, .int l4)]) hB e_W_law_1607 (Nat.le_of_ble_eq_true rfl) rfl ?_
  refine a_aload_n (j := 4) hB e_W_law_1609 rfl rfl ?_
  obtain ⟨r1610, hr1610, h⟩ := bn_i h
  refine a_ret (v := (some (.int r1610))) (M1 := M1604) (φ1 := φ1592) (st1 := [.int r1610]) (j1 := k1 + 1) (j2 := k2 + 6) (ar_V (As := []) (rest := []) hB (c_M_thrown (bf_G hB) (sf_m hF (by decide)) hr1610) ml_W_121 md_M_thrown rc_M_thrown (sf_lt hF (by decide)) kk_134 rfl rfl (Nat.le_of_ble_eq_true rfl) (rmL (c := 0) (s := 0) (by decide) (by decide) (by omega) (by omega) rfl rfl) e_W_law_1610) rfl rfl rfl ?_
  refine a_iload (j := 1) hB e_W_law_1613 rfl ?_
  refine a_icmp_eq (tgt := 1620) hB e_W_law_1615 (by decide) (fun c => ?_) (fun c => ?_)
  · have h := ip c h
    refine a_iload (j := 1) hB e_W_law_1620 rfl ?_
    refine a_if_ne (tgt := 1637) hB e_W_law_1622 (by decide) (fun c => ?_) (fun c => ?_)
    · have h := iq c h
      refine a_ls [2, 3, 4, 5, 6] (ls' := [(0, .ref 2000), (1, .ref 0), (2, .ref 134), (3, .ref 148), (4, .int l4)]) rfl ?_
      exact t_W_law_1637 hB hend hn hx hF (by omega) (by omega) hr23 h
    · have h := ip c h
      refine a_aload_n (j := 5) hB e_W_law_1625 rfl rfl ?_
      refine a_iconst (v := 0) hB e_W_law_1626 ic_0 ?_
      refine a_lald hB e_W_law_1627 (sf_lt hF (by decide)) kk_148 (by decide) ?_
      refine a_iload (j := 0) hB e_W_law_1628 rfl ?_
      refine a_i2l hB e_W_law_1630 ?_
      refine a_lcmp hB e_W_law_1631 ?_
      refine a_if_eq (tgt := 1637) hB e_W_law_1632 (by decide) (fun c => ?_) (fun c => ?_)
      · have h := ip c h
        refine a_ls [2, 3, 4, 5, 6] (ls' := [(0, .ref 2000), (1, .ref 0), (2, .ref 134), (3, .ref 148), (4, .int l4)]) rfl ?_
        exact t_W_law_1637 hB hend hn hx hF (by omega) (by omega) hr23 h
      · have h := iq c h
        refine a_iconst (v := 0) hB e_W_law_1635 ic_0 ?_
        exact (no01 h).elim
  · have h := iq c h
    refine a_iconst (v := 0) hB e_W_law_1618 ic_0 ?_
    exact (no01 h).elim
