/-! the functions are what the machine does -/
set_option maxRecDepth 100000 in
theorem c_C_area {G : Gt} (hG : GOK G) {φ : Ph} (hF : SF 134 φ)   {M : Mm}  {o : Int64} {M9 : Mm} (h : f_C_area M = some (o, M9)) : CT G I_C_area [.ref 0] M φ (.inl (some (.long o))) M9 φ :=
  ct_of hG (by decide) (Nat.le_of_ble_eq_true rfl) (fun B hB => t_C_area hB hF  h)
set_option maxRecDepth 100000 in
theorem t_C_misclosureWithPin {G : Gt} {φ : Ph} {B : Bag} (hB : BF G I_C_misclosureWithPin B) (hF : SF 134 φ)    {o : Int32} {M9 : Mm} {l1 : Int32} {M : Mm} (h : f_C_misclosureWithPin l1 M = some (o, M9)) : AW G I_C_misclosureWithPin B (QM G I_C_misclosureWithPin B (.inl (some (.int o))) M9 φ) 0 0 0 [(0, .ref 0), (1, .int l1)] [] M φ := by
  unfold f_C_misclosureWithPin at h
  refine a_aload_n (j := 0) hB e_C_misclosureWithPin_0 rfl rfl ?_
  refine a_getR (r := 15) (k := 7) hB e_C_misclosureWithPin_1 fl_C_39 (sf_lt hF (by decide)) kk_0 tt_0_7 (hF.1 _ _) ?_
  refine a_iload_n (j := 1) hB e_C_misclosureWithPin_4 rfl rfl ?_
  obtain ⟨r5, hr5, h⟩ := bn_i h
  refine a_ret (v := (some (.int r5))) (M1 := M) (φ1 := φ) (st1 := [.int r5]) (j1 := 0) (j2 := 0) (ar_V (As := [.int l1]) (rest := []) hB (c_S_canDrop (bf_G hB) hF sv_15 hr5) ml_C_166 md_S_canDrop rc_S_canDrop (sf_lt hF (by decide)) kk_15 rfl rfl (Nat.le_of_ble_eq_true rfl) rm_C_misclosureWithPin_S_canDrop e_C_misclosureWithPin_5) rfl rfl rfl ?_
  refine a_if_ne (tgt := 13) hB e_C_misclosureWithPin_8 (by decide) (fun c => ?_) (fun c => ?_)
  · have h := iq c h
    refine a_aload_n (j := 0) hB e_C_misclosureWithPin_13 rfl rfl ?_
    refine a_getR (r := 4) (k := 8) hB e_C_misclosureWithPin_14 fl_C_46 (sf_lt hF (by decide)) kk_0 tt_0_8 (hF.1 _ _) ?_
    refine a_aload_n (j := 0) hB e_C_misclosureWithPin_17 rfl rfl ?_
    refine a_getR (r := 15) (k := 7) hB e_C_misclosureWithPin_18 fl_C_39 (sf_lt hF (by decide)) kk_0 tt_0_7 (hF.1 _ _) ?_
    obtain ⟨M21, hr21, h⟩ := bn_i h
    refine a_ret (v := none) (M1 := M21) (φ1 := φ) (st1 := []) (j1 := 0) (j2 := 0) (ar_V (As := [.ref 15]) (rest := []) hB (c_S_copyFrom (bf_G hB) hF sv_4 sv_15 hr21) ml_C_90 md_S_copyFrom rc_S_copyFrom (sf_lt hF (by decide)) kk_4 rfl rfl (Nat.le_of_ble_eq_true rfl) rm_C_misclosureWithPin_S_copyFrom e_C_misclosureWithPin_21) rfl rfl rfl ?_
    refine a_aload_n (j := 0) hB e_C_misclosureWithPin_24 rfl rfl ?_
    refine a_getR (r := 4) (k := 8) hB e_C_misclosureWithPin_25 fl_C_46 (sf_lt hF (by decide)) kk_0 tt_0_8 (hF.1 _ _) ?_
    refine a_getR (r := 11) (k := 6) hB e_C_misclosureWithPin_28 fl_C_171 (sf_lt hF (by decide)) kk_4 tt_4_6 (hF.1 _ _) ?_
    refine a_iload_n (j := 1) hB e_C_misclosureWithPin_31 rfl rfl ?_
    refine a_dup2 hB e_C_misclosureWithPin_32 rfl rfl ?_
    obtain ⟨c33, h⟩ := chk_i h
    refine a_iald' hB e_C_misclosureWithPin_33 (sf_lt hF (by decide)) kk_11 ll_11 c33 ?_
    refine a_iconst (v := 1) hB e_C_misclosureWithPin_34 ic_1 ?_
    refine a_iadd hB e_C_misclosureWithPin_35 ?_
    obtain ⟨M36, hM36, h⟩ := bm_i h
    refine a_iast' hB e_C_misclosureWithPin_36 (sf_lt hF (by decide)) kk_11 ll_11 c33 ?_
    refine a_mem hM36 ?_
    refine a_aload_n (j := 0) hB e_C_misclosureWithPin_37 rfl rfl ?_
    refine a_getR (r := 25) (k := 9) hB e_C_misclosureWithPin_38 fl_C_52 (sf_lt hF (by decide)) kk_0 tt_0_9 (hF.1 _ _) ?_
    refine a_aload_n (j := 0) hB e_C_misclosureWithPin_41 rfl rfl ?_
    refine a_getR (r := 4) (k := 8) hB e_C_misclosureWithPin_42 fl_C_46 (sf_lt hF (by decide)) kk_0 tt_0_8 (hF.1 _ _) ?_
    obtain ⟨M45, hr45, h⟩ := bn_i h
    refine a_ret (v := none) (M1 := M45) (φ1 := φ) (st1 := []) (j1 := 0) (j2 := 0) (ar_V (As := [.ref 4]) (rest := []) hB (c_T_follow (bf_G hB) hF sv_4 hr45) ml_C_301 md_T_follow rc_T_follow (sf_lt hF (by decide)) kk_25 rfl rfl (Nat.le_of_ble_eq_true rfl) rm_C_misclosureWithPin_T_follow e_C_misclosureWithPin_45) rfl rfl rfl ?_
    refine a_aload_n (j := 0) hB e_C_misclosureWithPin_48 rfl rfl ?_
    refine a_getR (r := 25) (k := 9) hB e_C_misclosureWithPin_49 fl_C_52 (sf_lt hF (by decide)) kk_0 tt_0_9 (hF.1 _ _) ?_
    obtain ⟨r52, hr52, h⟩ := bn_i h
    refine a_ret (v := (some (.int r52))) (M1 := M45) (φ1 := φ) (st1 := [.int r52]) (j1 := 0) (j2 := 0) (ar_V (As := []) (rest := []) hB (c_T_closingDistance (bf_G hB) hF hr52) ml_C_286 md_T_closingDistance rc_T_closingDistance (sf_lt hF (by decide)) kk_25 rfl rfl (Nat.le_of_ble_eq_true rfl) rm_C_misclosureWithPin_T_closingDistance e_C_misclosureWithPin_52) rfl rfl rfl ?_
    cases h
    exact a_iret hB rfl e_C_misclosureWithPin_55 (by decide) (by decide)
  · have h := ip c h
    refine a_iconst (v := -1) hB e_C_misclosureWithPin_11 ic_m1 ?_
    cases h
    exact a_iret hB rfl e_C_misclosureWithPin_12 (by decide) (by decide)
set_option maxRecDepth 100000 in
theorem c_C_misclosureWithPin {G : Gt} (hG : GOK G) {φ : Ph} (hF : SF 134 φ)   {M : Mm} {l1 : Int32} {o : Int32} {M9 : Mm} (h : f_C_misclosureWithPin l1 M = some (o, M9)) : CT G I_C_misclosureWithPin [.ref 0, .int l1] M φ (.inl (some (.int o))) M9 φ :=
  ct_of hG (by decide) (Nat.le_of_ble_eq_true rfl) (fun B hB => t_C_misclosureWithPin hB hF  h)
set_option maxRecDepth 100000 in
theorem t_C_misclosureIfDropped {G : Gt} {φ : Ph} {B : Bag} (hB : BF G I_C_misclosureIfDropped B) (hF : SF 134 φ)    {o : Nat ⊕ Int32} {M9 : Mm} {l1 : Int32} {M : Mm} (h : f_C_misclosureIfDropped l1 M = some (o, M9)) : AW G I_C_misclosureIfDropped B (QM G I_C_misclosureIfDropped B (oSi o) M9 (pS o φ)) 0 0 0 [(0, .ref 0), (1, .int l1)] [] M φ := by
  unfold f_C_misclosureIfDropped at h
  refine a_aload_n (j := 0) hB e_C_misclosureIfDropped_0 rfl rfl ?_
  refine a_iload_n (j := 1) hB e_C_misclosureIfDropped_1 rfl rfl ?_
  rcases bti_i h with ⟨e2, hr2, rfl, hz⟩ | ⟨r2, hr2, h⟩
  · obtain rfl := hz.symm
    exact a_thr (E := exS e2) (M1 := M) (φ1 := dirt φ) hB (ar_V (As := [.int l1]) (rest := []) hB (c_C_requireLeg (bf_G hB) hF hr2) ml_C_163 md_C_requireLeg rc_C_requireLeg (sf_lt hF (by decide)) kk_0 rfl rfl (Nat.le_of_ble_eq_true rfl) rm_C_misclosureIfDropped_C_requireLeg e_C_misclosureIfDropped_2) rfl (by decide) (by decide)
  · refine a_ret (v := none) (M1 := M) (φ1 := φ) (st1 := []) (j1 := 1) (j2 := 6) (ar_V (As := [.int l1]) (rest := []) hB (c_C_requireLeg (bf_G hB) hF hr2) ml_C_163 md_C_requireLeg rc_C_requireLeg (sf_lt hF (by decide)) kk_0 rfl rfl (Nat.le_of_ble_eq_true rfl) rm_C_misclosureIfDropped_C_requireLeg e_C_misclosureIfDropped_2) rfl rfl rfl ?_
    refine a_aload_n (j := 0) hB e_C_misclosureIfDropped_5 rfl rfl ?_
    refine a_iload_n (j := 1) hB e_C_misclosureIfDropped_6 rfl rfl ?_
    obtain ⟨r7, M7, hr7, h⟩ := bn2_i h
    refine a_ret (v := (some (.int r7))) (M1 := M7) (φ1 := φ) (st1 := [.int r7]) (j1 := 1) (j2 := 6) (ar_V (As := [.int l1]) (rest := []) hB (c_C_misclosureWithPin (bf_G hB) hF hr7) ml_C_298 md_C_misclosureWithPin rc_C_misclosureWithPin (sf_lt hF (by decide)) kk_0 rfl rfl (Nat.le_of_ble_eq_true rfl) rm_C_misclosureIfDropped_C_misclosureWithPin_1_6 e_C_misclosureIfDropped_7) rfl rfl rfl ?_
    cases h
    exact a_iret hB rfl e_C_misclosureIfDropped_10 (by decide) (by decide)
set_option maxRecDepth 100000 in
theorem c_C_misclosureIfDropped {G : Gt} (hG : GOK G) {φ : Ph} (hF : SF 134 φ)   {M : Mm} {l1 : Int32} {o : Nat ⊕ Int32} {M9 : Mm} (h : f_C_misclosureIfDropped l1 M = some (o, M9)) : CT G I_C_misclosureIfDropped [.ref 0, .int l1] M φ (oSi o) M9 (pS o φ) :=
  ct_of hG (by decide) (Nat.le_of_ble_eq_true rfl) (fun B hB => t_C_misclosureIfDropped hB hF  h)
set_option maxRecDepth 100000 in
theorem t_C_suspectLeg_47 {G : Gt} {φ : Ph} {B : Bag} (hB : BF G I_C_suspectLeg B) (hF : SF 134 φ)    {o : Int32} {M9 : Mm} {r12 : Int32 → Int32 → Int32 → Mm → Option (Int32 × Mm)} (hr12 : ∀ (l1 : Int32) (l2 : Int32) (l3 : Int32) (M : Mm), r12 l1 l2 l3 M = some (o, M9) → AW G I_C_suspectLeg B (QM G I_C_suspectLeg B (.inl (some (.int o))) M9 φ) 0 0 12 [(0, .ref 0), (1, .int l1), (2, .int l2), (3, .int l3)] [] M φ) {l1 : Int32} {l2 : Int32} {l3 : Int32} {M : Mm} (h : f_C_suspectLeg_47 r12 l1 l2 l3 M = some (o, M9)) : AW G I_C_suspectLeg B (QM G I_C_suspectLeg B (.inl (some (.int o))) M9 φ) 0 0 47 [(0, .ref 0), (1, .int l1), (2, .int l2), (3, .int l3)] [] M φ := by
  unfold f_C_suspectLeg_47 at h
  refine a_iinc (j := 3) (v := l3 + 1) (ls' := [(3, .int (l3 + 1)), (0, .ref 0), (1, .int l1), (2, .int l2)]) hB e_C_suspectLeg_47 rfl (inc_1 _) (Nat.le_of_ble_eq_true rfl) rfl ?_
  refine a_goto (tgt := 12) hB e_C_suspectLeg_50 (by decide) ?_
  refine a_ls [1, 2, 3, 0] (ls' := [(0, .ref 0), (1, .int l1), (2, .int l2), (3, .int (l3 + 1))]) rfl ?_
  exact hr12 _ _ _ _ h
set_option maxRecDepth 100000 in
theorem t_C_suspectLeg_12 {G : Gt} {φ : Ph} {B : Bag} (hB : BF G I_C_suspectLeg B) (hF : SF 134 φ)    {o : Int32} {M9 : Mm} : ∀ (n : Nat) (l1 : Int32) (l2 : Int32) (l3 : Int32) (M : Mm), f_C_suspectLeg_12 n l1 l2 l3 M = some (o, M9) → AW G I_C_suspectLeg B (QM G I_C_suspectLeg B (.inl (some (.int o))) M9 φ) 0 0 12 [(0, .ref 0), (1, .int l1), (2, .int l2), (3, .int l3)] [] M φ := by
  intro n
  induction n with
  | zero => intro l1 l2 l3 M h; cases h
  | succ n hr12 =>
    intro l1 l2 l3 M h
    rw [f_C_suspectLeg_12] at h
    refine a_iload_n (j := 3) hB e_C_suspectLeg_12 rfl rfl ?_
    refine a_aload_n (j := 0) hB e_C_suspectLeg_13 rfl rfl ?_
    refine a_getR (r := 15) (k := 7) hB e_C_suspectLeg_14 fl_C_39 (sf_lt hF (by decide)) kk_0 tt_0_7 (hF.1 _ _) ?_
    refine a_getI (k := 9) hB e_C_suspectLeg_17 fl_C_115 (sf_lt hF (by decide)) kk_15 tt_15_9 ?_
    refine a_icmp_ge (tgt := 53) hB e_C_suspectLeg_20 (by decide) (fun c => ?_) (fun c => ?_)
    · have h := ip c h
      refine a_iload_n (j := 1) hB e_C_suspectLeg_53 rfl rfl ?_
      cases h
      exact a_iret hB rfl e_C_suspectLeg_54 (by decide) (by decide)
    · have h := iq c h
      refine a_aload_n (j := 0) hB e_C_suspectLeg_23 rfl rfl ?_
      refine a_iload_n (j := 3) hB e_C_suspectLeg_24 rfl rfl ?_
      obtain ⟨r25, M25, hr25, h⟩ := bn2_i h
      refine a_ret (v := (some (.int r25))) (M1 := M25) (φ1 := φ) (st1 := [.int r25]) (j1 := 0) (j2 := 0) (ar_V (As := [.int l3]) (rest := []) hB (c_C_misclosureWithPin (bf_G hB) hF hr25) ml_C_298 md_C_misclosureWithPin rc_C_misclosureWithPin (sf_lt hF (by decide)) kk_0 rfl rfl (Nat.le_of_ble_eq_true rfl) rm_C_suspectLeg_C_misclosureWithPin e_C_suspectLeg_25) rfl rfl rfl ?_
      refine a_istore (ls' := [(4, .int r25), (0, .ref 0), (1, .int l1), (2, .int l2), (3, .int l3)]) hB e_C_suspectLeg_28 (Nat.le_of_ble_eq_true rfl) rfl ?_
      refine a_iload (j := 0) hB e_C_suspectLeg_30 rfl ?_
      refine a_iconst (v := -1) hB e_C_suspectLeg_32 ic_m1 ?_
      refine a_icmp_eq (tgt := 47) hB e_C_suspectLeg_33 (by decide) (fun c => ?_) (fun c => ?_)
      · have h := ip c h
        refine a_ls [1, 2, 3, 4] (ls' := [(0, .ref 0), (1, .int l1), (2, .int l2), (3, .int l3)]) rfl ?_
        exact t_C_suspectLeg_47 hB hF hr12 h
      · have h := iq c h
        refine a_iload (j := 0) hB e_C_suspectLeg_36 rfl ?_
        refine a_iload_n (j := 3) hB e_C_suspectLeg_38 rfl rfl ?_
        refine a_icmp_ge (tgt := 47) hB e_C_suspectLeg_39 (by decide) (fun c => ?_) (fun c => ?_)
        · have h := ip c h
          refine a_ls [1, 2, 3, 4] (ls' := [(0, .ref 0), (1, .int l1), (2, .int l2), (3, .int l3)]) rfl ?_
          exact t_C_suspectLeg_47 hB hF hr12 h
        · have h := iq c h
          refine a_iload_n (j := 4) hB e_C_suspectLeg_42 rfl rfl ?_
          refine a_istore_n (ls' := [(1, .int l3), (4, .int r25), (0, .ref 0), (2, .int l2), (3, .int l3)]) hB e_C_suspectLeg_43 rfl (Nat.le_of_ble_eq_true rfl) rfl ?_
          refine a_iload (j := 1) hB e_C_suspectLeg_44 rfl ?_
          refine a_istore_n (ls' := [(2, .int r25), (1, .int l3), (4, .int r25), (0, .ref 0), (3, .int l3)]) hB e_C_suspectLeg_46 rfl (Nat.le_of_ble_eq_true rfl) rfl ?_
          refine a_ls [3, 1, 0, 4] (ls' := [(0, .ref 0), (1, .int l3), (2, .int r25), (3, .int l3)]) rfl ?_
          exact t_C_suspectLeg_47 hB hF hr12 h
set_option maxRecDepth 100000 in
theorem t_C_suspectLeg {G : Gt} {φ : Ph} {B : Bag} (hB : BF G I_C_suspectLeg B) (hF : SF 134 φ)    {o : Int32} {M9 : Mm}  {M : Mm} (h : f_C_suspectLeg M = some (o, M9)) : AW G I_C_suspectLeg B (QM G I_C_suspectLeg B (.inl (some (.int o))) M9 φ) 0 0 0 [(0, .ref 0)] [] M φ := by
  unfold f_C_suspectLeg at h
  refine a_iconst (v := -1) hB e_C_suspectLeg_0 ic_m1 ?_
  refine a_istore_n (ls' := [(1, .int (-1 : Int32)), (0, .ref 0)]) hB e_C_suspectLeg_1 rfl (Nat.le_of_ble_eq_true rfl) rfl ?_
  refine a_aload_n (j := 1) hB e_C_suspectLeg_2 rfl rfl ?_
  obtain ⟨M3, hr3, h⟩ := bn_i h
  refine a_ret (v := (some (.ref 25))) (M1 := M3) (φ1 := φ) (st1 := [.ref 25]) (j1 := 0) (j2 := 0) (ar_V (As := []) (rest := []) hB (c_C_followed (bf_G hB) hF hr3) ml_C_255 md_C_followed rc_C_followed (sf_lt hF (by decide)) kk_0 rfl rfl (Nat.le_of_ble_eq_true rfl) rm_C_suspectLeg_C_followed e_C_suspectLeg_3) rfl rfl rfl ?_
  obtain ⟨r6, hr6, h⟩ := bn_i h
  refine a_ret (v := (some (.int r6))) (M1 := M3) (φ1 := φ) (st1 := [.int r6]) (j1 := 0) (j2 := 0) (ar_V (As := []) (rest := []) hB (c_T_closingDistance (bf_G hB) hF hr6) ml_C_286 md_T_closingDistance rc_T_closingDistance (sf_lt hF (by decide)) kk_25 rfl rfl (Nat.le_of_ble_eq_true rfl) rm_C_suspectLeg_T_closingDistance e_C_suspectLeg_6) rfl rfl rfl ?_
  refine a_istore_n (ls' := [(2, .int r6), (1, .int (-1 : Int32)), (0, .ref 0)]) hB e_C_suspectLeg_9 rfl (Nat.le_of_ble_eq_true rfl) rfl ?_
  refine a_iconst (v := 0) hB e_C_suspectLeg_10 ic_0 ?_
  refine a_istore_n (ls' := [(3, .int (0 : Int32)), (2, .int r6), (1, .int (-1 : Int32)), (0, .ref 0)]) hB e_C_suspectLeg_11 rfl (Nat.le_of_ble_eq_true rfl) rfl ?_
  refine a_ls [3, 2, 1, 0] (ls' := [(0, .ref 0), (1, .int (-1 : Int32)), (2, .int r6), (3, .int (0 : Int32))]) rfl ?_
  exact t_C_suspectLeg_12 hB hF _ _ _ _ _ h
set_option maxRecDepth 100000 in
theorem c_C_suspectLeg {G : Gt} (hG : GOK G) {φ : Ph} (hF : SF 134 φ)   {M : Mm}  {o : Int32} {M9 : Mm} (h : f_C_suspectLeg M = some (o, M9)) : CT G I_C_suspectLeg [.ref 0] M φ (.inl (some (.int o))) M9 φ :=
  ct_of hG (by decide) (Nat.le_of_ble_eq_true rfl) (fun B hB => t_C_suspectLeg hB hF  h)
set_option maxRecDepth 100000 in
theorem t_C_misclosureWithPace_94 {G : Gt} {φ : Ph} {B : Bag} (hB : BF G I_C_misclosureWithPace B) (hF : SF 134 φ)   {M : Mm} {o : Int32} {r9 : Int32 → Int32 → Int32 → Int32 → Option Int32} (hr9 : ∀ (l3 : Int32) (l4 : Int32) (l5 : Int32) (l6 : Int32), r9 l3 l4 l5 l6 = some o → AW G I_C_misclosureWithPace B (QM G I_C_misclosureWithPace B (.inl (some (.int o))) M φ) 0 0 9 [(0, .ref 0), (3, .int l3), (4, .int l4), (5, .int l5), (6, .int l6)] [] M φ) {l3 : Int32} {l4 : Int32} {l5 : Int32} {l6 : Int32}  (h : f_C_misclosureWithPace_94 M r9 l3 l4 l5 l6 = some o) : AW G I_C_misclosureWithPace B (QM G I_C_misclosureWithPace B (.inl (some (.int o))) M φ) 0 0 94 [(0, .ref 0), (3, .int l3), (4, .int l4), (5, .int l5), (6, .int l6)] [] M φ := by
  unfold f_C_misclosureWithPace_94 at h
  refine a_iinc (j := 4) (v := l6 + 1) (ls' := [(6, .int (l6 + 1)), (0, .ref 0), (3, .int l3), (4, .int l4), (5, .int l5)]) hB e_C_misclosureWithPace_94 rfl (inc_1 _) (Nat.le_of_ble_eq_true rfl) rfl ?_
  refine a_goto (tgt := 9) hB e_C_misclosureWithPace_97 (by decide) ?_
  refine a_ls [1, 2, 3, 4, 0] (ls' := [(0, .ref 0), (3, .int l3), (4, .int l4), (5, .int l5), (6, .int (l6 + 1))]) rfl ?_
  exact hr9 _ _ _ _ h
set_option maxRecDepth 100000 in
theorem t_C_misclosureWithPace_9 {G : Gt} {φ : Ph} {B : Bag} (hB : BF G I_C_misclosureWithPace B) (hF : SF 134 φ)   {M : Mm} {o : Int32} : ∀ (n : Nat) (l3 : Int32) (l4 : Int32) (l5 : Int32) (l6 : Int32), f_C_misclosureWithPace_9 M n l3 l4 l5 l6 = some o → AW G I_C_misclosureWithPace B (QM G I_C_misclosureWithPace B (.inl (some (.int o))) M φ) 0 0 9 [(0, .ref 0), (3, .int l3), (4, .int l4), (5, .int l5), (6, .int l6)] [] M φ := by
  intro n
  induction n with
  | zero => intro l3 l4 l5 l6 h; cases h
  | succ n hr9 =>
    intro l3 l4 l5 l6 h
    rw [f_C_misclosureWithPace_9] at h
    refine a_iload (j := 4) hB e_C_misclosureWithPace_9 rfl ?_
    refine a_aload_n (j := 0) hB e_C_misclosureWithPace_11 rfl rfl ?_
    refine a_getR (r := 15) (k := 7) hB e_C_misclosureWithPace_12 fl_C_39 (sf_lt hF (by decide)) kk_0 tt_0_7 (hF.1 _ _) ?_
    refine a_getI (k := 9) hB e_C_misclosureWithPace_15 fl_C_115 (sf_lt hF (by decide)) kk_15 tt_15_9 ?_
    refine a_icmp_ge (tgt := 100) hB e_C_misclosureWithPace_18 (by decide) (fun c => ?_) (fun c => ?_)
    · have h := ip c h
      refine a_iload (j := 2) hB e_C_misclosureWithPace_100 rfl ?_
      refine a_iload (j := 3) hB e_C_misclosureWithPace_102 rfl ?_
      obtain ⟨r104, hr104, h⟩ := bn_i h
      refine a_ret (v := (some (.int r104))) (M1 := M) (φ1 := φ) (st1 := [.int r104]) (j1 := 0) (j2 := 0) (ar_S (As := [.int l4, .int l5]) (rest := []) hB (c_C_distance (bf_G hB) hF hr104) ml_C_314 md_C_distance rfl rfl (Nat.le_of_ble_eq_true rfl) rm_C_misclosureWithPace_C_distance e_C_misclosureWithPace_104) rfl rfl rfl ?_
      cases h
      exact a_iret hB rfl e_C_misclosureWithPace_107 (by decide) (by decide)
    · have h := iq c h
      refine a_aload_n (j := 0) hB e_C_misclosureWithPace_21 rfl rfl ?_
      refine a_getR (r := 15) (k := 7) hB e_C_misclosureWithPace_22 fl_C_39 (sf_lt hF (by decide)) kk_0 tt_0_7 (hF.1 _ _) ?_
      refine a_getR (r := 18) (k := 2) hB e_C_misclosureWithPace_25 fl_C_239 (sf_lt hF (by decide)) kk_15 tt_15_2 (hF.1 _ _) ?_
      refine a_iload (j := 4) hB e_C_misclosureWithPace_28 rfl ?_
      obtain ⟨c30, h⟩ := chk_i h
      refine a_zald' hB e_C_misclosureWithPace_30 (sf_lt hF (by decide)) kk_18 ll_18 c30 ?_
      refine a_if_eq (tgt := 94) hB e_C_misclosureWithPace_31 (by decide) (fun c => ?_) (fun c => ?_)
      · have h := ip c h
        exact t_C_misclosureWithPace_94 hB hF hr9 h
      · have h := iq c h
        refine a_aload_n (j := 0) hB e_C_misclosureWithPace_34 rfl rfl ?_
        refine a_getR (r := 15) (k := 7) hB e_C_misclosureWithPace_35 fl_C_39 (sf_lt hF (by decide)) kk_0 tt_0_7 (hF.1 _ _) ?_
        refine a_getR (r := 19) (k := 3) hB e_C_misclosureWithPace_38 fl_C_311 (sf_lt hF (by decide)) kk_15 tt_15_3 (hF.1 _ _) ?_
        refine a_iload (j := 4) hB e_C_misclosureWithPace_41 rfl ?_
        refine a_iald' hB e_C_misclosureWithPace_43 (sf_lt hF (by decide)) kk_19 ll_19 c30 ?_
        refine a_iload_n (j := 1) hB e_C_misclosureWithPace_44 rfl rfl ?_
        refine a_imul hB e_C_misclosureWithPace_45 ?_
        refine a_istore (ls' := [(7, .int ((M 19 (ix l6)) * l3)), (0, .ref 0), (3, .int l3), (4, .int l4), (5, .int l5), (6, .int l6)]) hB e_C_misclosureWithPace_46 (Nat.le_of_ble_eq_true rfl) rfl ?_
        refine a_iload (j := 3) hB e_C_misclosureWithPace_48 rfl ?_
        refine a_iload (j := 0) hB e_C_misclosureWithPace_50 rfl ?_
        refine a_aload_n (j := 1) hB e_C_misclosureWithPace_52 rfl rfl ?_
        refine a_getR (r := 15) (k := 7) hB e_C_misclosureWithPace_53 fl_C_39 (sf_lt hF (by decide)) kk_0 tt_0_7 (hF.1 _ _) ?_
        refine a_getR (r := 17) (k := 1) hB e_C_misclosureWithPace_56 fl_C_215 (sf_lt hF (by decide)) kk_15 tt_15_1 (hF.1 _ _) ?_
        refine a_iload (j := 5) hB e_C_misclosureWithPace_59 rfl ?_
        refine a_iald' hB e_C_misclosureWithPace_61 (sf_lt hF (by decide)) kk_17 ll_17 c30 ?_
        obtain ⟨r62, hr62, h⟩ := bn_i h
        refine a_ret (v := (some (.int r62))) (M1 := M) (φ1 := φ) (st1 := [.int r62, .int ((M 19 (ix l6)) * l3), .int l4]) (j1 := 0) (j2 := 0) (ar_S (As := [.int (M 17 (ix l6))]) (rest := [.int ((M 19 (ix l6)) * l3), .int l4]) hB (c_C_sine (bf_G hB) hF hr62) ml_C_230 md_C_sine rfl rfl (Nat.le_of_ble_eq_true rfl) rm_C_misclosureWithPace_C_sine e_C_misclosureWithPace_62) rfl rfl rfl ?_
        obtain ⟨r65, hr65, h⟩ := bn_i h
        refine a_ret (v := (some (.int r65))) (M1 := M) (φ1 := φ) (st1 := [.int r65, .int l4]) (j1 := 0) (j2 := 0) (ar_S (As := [.int ((M 19 (ix l6)) * l3), .int r62]) (rest := [.int l4]) hB (c_C_stepOf (bf_G hB) hF hr65) ml_C_233 md_C_stepOf rfl rfl (Nat.le_of_ble_eq_true rfl) rm_C_misclosureWithPace_C_stepOf e_C_misclosureWithPace_65) rfl rfl rfl ?_
        refine a_iadd hB e_C_misclosureWithPace_68 ?_
        refine a_istore (ls' := [(4, .int (l4 + r65)), (7, .int ((M 19 (ix l6)) * l3)), (0, .ref 0), (3, .int l3), (5, .int l5), (6, .int l6)]) hB e_C_misclosureWithPace_69 (Nat.le_of_ble_eq_true rfl) rfl ?_
        refine a_iload (j := 4) hB e_C_misclosureWithPace_71 rfl ?_
        refine a_iload (j := 1) hB e_C_misclosureWithPace_73 rfl ?_
        refine a_aload_n (j := 2) hB e_C_misclosureWithPace_75 rfl rfl ?_
        refine a_getR (r := 15) (k := 7) hB e_C_misclosureWithPace_76 fl_C_39 (sf_lt hF (by decide)) kk_0 tt_0_7 (hF.1 _ _) ?_
        refine a_getR (r := 17) (k := 1) hB e_C_misclosureWithPace_79 fl_C_215 (sf_lt hF (by decide)) kk_15 tt_15_1 (hF.1 _ _) ?_
        refine a_iload (j := 5) hB e_C_misclosureWithPace_82 rfl ?_
        refine a_iald' hB e_C_misclosureWithPace_84 (sf_lt hF (by decide)) kk_17 ll_17 c30 ?_
        obtain ⟨r85, hr85, h⟩ := bn_i h
        refine a_ret (v := (some (.int r85))) (M1 := M) (φ1 := φ) (st1 := [.int r85, .int ((M 19 (ix l6)) * l3), .int l5]) (j1 := 0) (j2 := 0) (ar_S (As := [.int (M 17 (ix l6))]) (rest := [.int ((M 19 (ix l6)) * l3), .int l5]) hB (c_C_cosine (bf_G hB) hF hr85) ml_C_236 md_C_cosine rfl rfl (Nat.le_of_ble_eq_true rfl) rm_C_misclosureWithPace_C_cosine e_C_misclosureWithPace_85) rfl rfl rfl ?_
        obtain ⟨r88, hr88, h⟩ := bn_i h
        refine a_ret (v := (some (.int r88))) (M1 := M) (φ1 := φ) (st1 := [.int r88, .int l5]) (j1 := 0) (j2 := 0) (ar_S (As := [.int ((M 19 (ix l6)) * l3), .int r85]) (rest := [.int l5]) hB (c_C_stepOf (bf_G hB) hF hr88) ml_C_233 md_C_stepOf rfl rfl (Nat.le_of_ble_eq_true rfl) rm_C_misclosureWithPace_C_stepOf e_C_misclosureWithPace_88) rfl rfl rfl ?_
        refine a_iadd hB e_C_misclosureWithPace_91 ?_
        refine a_istore (ls' := [(5, .int (l5 + r88)), (4, .int (l4 + r65)), (7, .int ((M 19 (ix l6)) * l3)), (0, .ref 0), (3, .int l3), (6, .int l6)]) hB e_C_misclosureWithPace_92 (Nat.le_of_ble_eq_true rfl) rfl ?_
        refine a_ls [3, 4, 1, 0, 5] (ls' := [(0, .ref 0), (3, .int l3), (4, .int (l4 + r65)), (5, .int (l5 + r88)), (6, .int l6)]) rfl ?_
        exact t_C_misclosureWithPace_94 hB hF hr9 h
set_option maxRecDepth 100000 in
theorem t_C_misclosureWithPace {G : Gt} {φ : Ph} {B : Bag} (hB : BF G I_C_misclosureWithPace B) (hF : SF 134 φ)   {M : Mm} {o : Int32} {l1 : Int32} {l2 : Int32} {l3 : Int32}  (h : f_C_misclosureWithPace M l1 l2 l3 = some o) : AW G I_C_misclosureWithPace B (QM G I_C_misclosureWithPace B (.inl (some (.int o))) M φ) 0 0 0 [(0, .ref 0), (1, .int l1), (2, .int l2), (3, .int l3)] [] M φ := by
  unfold f_C_misclosureWithPace at h
  refine a_iload_n (j := 1) hB e_C_misclosureWithPace_0 rfl rfl ?_
  refine a_istore (ls' := [(4, .int l1), (0, .ref 0), (1, .int l1), (2, .int l2), (3, .int l3)]) hB e_C_misclosureWithPace_1 (Nat.le_of_ble_eq_true rfl) rfl ?_
  refine a_iload_n (j := 3) hB e_C_misclosureWithPace_3 rfl rfl ?_
  refine a_istore (ls' := [(5, .int l2), (4, .int l1), (0, .ref 0), (1, .int l1), (2, .int l2), (3, .int l3)]) hB e_C_misclosureWithPace_4 (Nat.le_of_ble_eq_true rfl) rfl ?_
  refine a_iconst (v := 0) hB e_C_misclosureWithPace_6 ic_0 ?_
  refine a_istore (ls' := [(6, .int (0 : Int32)), (5, .int l2), (4, .int l1), (0, .ref 0), (1, .int l1), (2, .int l2), (3, .int l3)]) hB e_C_misclosureWithPace_7 (Nat.le_of_ble_eq_true rfl) rfl ?_
  refine a_ls [3, 6, 2, 1, 0] (ls' := [(0, .ref 0), (3, .int l3), (4, .int l1), (5, .int l2), (6, .int (0 : Int32))]) rfl ?_
  exact t_C_misclosureWithPace_9 hB hF _ _ _ _ _ h
set_option maxRecDepth 100000 in
theorem c_C_misclosureWithPace {G : Gt} (hG : GOK G) {φ : Ph} (hF : SF 134 φ)   {M : Mm} {l1 : Int32} {l2 : Int32} {l3 : Int32} {o : Int32} (h : f_C_misclosureWithPace M l1 l2 l3 = some o) : CT G I_C_misclosureWithPace [.ref 0, .int l1, .int l2, .int l3] M φ (.inl (some (.int o))) M φ :=
  ct_of hG (by decide) (Nat.le_of_ble_eq_true rfl) (fun B hB => t_C_misclosureWithPace hB hF  h)
set_option maxRecDepth 100000 in
theorem t_C_bestPace_146 {G : Gt} {φ : Ph} {B : Bag} (hB : BF G I_C_bestPace B) (hF : SF 134 φ)   {M : Mm} {o : Int32} {r114 : Int32 → Int32 → Int32 → Int32 → Int32 → Option Int32} (hr114 : ∀ (l1 : Int32) (l2 : Int32) (l3 : Int32) (l4 : Int32) (l5 : Int32), r114 l1 l2 l3 l4 l5 = some o → AW G I_C_bestPace B (QM G I_C_bestPace B (.inl (some (.int o))) M φ) 0 0 114 [(0, .ref 0), (1, .int l1), (2, .int l2), (3, .int l3), (4, .int l4), (5, .int l5)] [] M φ) {l1 : Int32} {l2 : Int32} {l3 : Int32} {l4 : Int32} {l5 : Int32}  (h : f_C_bestPace_146 M r114 l1 l2 l3 l4 l5 = some o) : AW G I_C_bestPace B (QM G I_C_bestPace B (.inl (some (.int o))) M φ) 0 0 146 [(0, .ref 0), (1, .int l1), (2, .int l2), (3, .int l3), (4, .int l4), (5, .int l5)] [] M φ := by
  unfold f_C_bestPace_146 at h
  refine a_iinc (j := 5) (v := l5 + 1) (ls' := [(5, .int (l5 + 1)), (0, .ref 0), (1, .int l1), (2, .int l2), (3, .int l3), (4, .int l4)]) hB e_C_bestPace_146 rfl (inc_1 _) (Nat.le_of_ble_eq_true rfl) rfl ?_
  refine a_goto (tgt := 114) hB e_C_bestPace_149 (by decide) ?_
  refine a_ls [1, 2, 3, 4, 5, 0] (ls' := [(0, .ref 0), (1, .int l1), (2, .int l2), (3, .int l3), (4, .int l4), (5, .int (l5 + 1))]) rfl ?_
  exact hr114 _ _ _ _ _ h
set_option maxRecDepth 100000 in
theorem t_C_bestPace_114 {G : Gt} {φ : Ph} {B : Bag} (hB : BF G I_C_bestPace B) (hF : SF 134 φ)   {M : Mm} {o : Int32} : ∀ (n : Nat) (l1 : Int32) (l2 : Int32) (l3 : Int32) (l4 : Int32) (l5 : Int32), f_C_bestPace_114 M n l1 l2 l3 l4 l5 = some o → AW G I_C_bestPace B (QM G I_C_bestPace B (.inl (some (.int o))) M φ) 0 0 114 [(0, .ref 0), (1, .int l1), (2, .int l2), (3, .int l3), (4, .int l4), (5, .int l5)] [] M φ := by
  intro n
  induction n with
  | zero => intro l1 l2 l3 l4 l5 h; cases h
  | succ n hr114 =>
    intro l1 l2 l3 l4 l5 h
    rw [f_C_bestPace_114] at h
    refine a_iload (j := 5) hB e_C_bestPace_114 rfl ?_
    refine a_sipush (v := 999) hB e_C_bestPace_116 sp_999 ?_
    refine a_icmp_gt (tgt := 152) hB e_C_bestPace_119 (by decide) (fun c => ?_) (fun c => ?_)
    · have h := ip c h
      refine a_iload_n (j := 3) hB e_C_bestPace_152 rfl rfl ?_
      cases h
      exact a_iret hB rfl e_C_bestPace_153 (by decide) (by decide)
    · have h := iq c h
      refine a_aload_n (j := 0) hB e_C_bestPace_122 rfl rfl ?_
      refine a_iload_n (j := 1) hB e_C_bestPace_123 rfl rfl ?_
      refine a_iload_n (j := 2) hB e_C_bestPace_124 rfl rfl ?_
      refine a_iload (j := 5) hB e_C_bestPace_125 rfl ?_
      obtain ⟨r127, hr127, h⟩ := bn_i h
      refine a_ret (v := (some (.int r127))) (M1 := M) (φ1 := φ) (st1 := [.int r127]) (j1 := 0) (j2 := 0) (ar_V (As := [.int l1, .int l2, .int l5]) (rest := []) hB (c_C_misclosureWithPace (bf_G hB) hF hr127) ml_C_307 md_C_misclosureWithPace rc_C_misclosureWithPace (sf_lt hF (by decide)) kk_0 rfl rfl (Nat.le_of_ble_eq_true rfl) rm_C_bestPace_C_misclosureWithPace e_C_bestPace_127) rfl rfl rfl ?_
      refine a_istore (ls' := [(6, .int r127), (0, .ref 0), (1, .int l1), (2, .int l2), (3, .int l3), (4, .int l4), (5, .int l5)]) hB e_C_bestPace_130 (Nat.le_of_ble_eq_true rfl) rfl ?_
      refine a_iload (j := 0) hB e_C_bestPace_132 rfl ?_
      refine a_iload (j := 5) hB e_C_bestPace_134 rfl ?_
      refine a_icmp_ge (tgt := 146) hB e_C_bestPace_136 (by decide) (fun c => ?_) (fun c => ?_)
      · have h := ip c h
        refine a_ls [1, 2, 3, 4, 5, 6] (ls' := [(0, .ref 0), (1, .int l1), (2, .int l2), (3, .int l3), (4, .int l4), (5, .int l5)]) rfl ?_
        exact t_C_bestPace_146 hB hF hr114 h
      · have h := iq c h
        refine a_iload (j := 6) hB e_C_bestPace_139 rfl ?_
        refine a_istore_n (ls' := [(3, .int l5), (6, .int r127), (0, .ref 0), (1, .int l1), (2, .int l2), (4, .int l4), (5, .int l5)]) hB e_C_bestPace_141 rfl (Nat.le_of_ble_eq_true rfl) rfl ?_
        refine a_iload (j := 1) hB e_C_bestPace_142 rfl ?_
        refine a_istore (ls' := [(4, .int r127), (3, .int l5), (6, .int r127), (0, .ref 0), (1, .int l1), (2, .int l2), (5, .int l5)]) hB e_C_bestPace_144 (Nat.le_of_ble_eq_true rfl) rfl ?_
        refine a_ls [3, 4, 5, 1, 0, 6] (ls' := [(0, .ref 0), (1, .int l1), (2, .int l2), (3, .int l5), (4, .int r127), (5, .int l5)]) rfl ?_
        exact t_C_bestPace_146 hB hF hr114 h
set_option maxRecDepth 100000 in
theorem t_C_bestPace_91 {G : Gt} {φ : Ph} {B : Bag} (hB : BF G I_C_bestPace B) (hF : SF 134 φ)   {M : Mm} {o : Int32} {r18 : Int32 → Int32 → Int32 → Option Int32} (hr18 : ∀ (l1 : Int32) (l2 : Int32) (l3 : Int32), r18 l1 l2 l3 = some o → AW G I_C_bestPace B (QM G I_C_bestPace B (.inl (some (.int o))) M φ) 0 0 18 [(0, .ref 0), (1, .int l1), (2, .int l2), (3, .int l3)] [] M φ) {l1 : Int32} {l2 : Int32} {l3 : Int32}  (h : f_C_bestPace_91 M r18 l1 l2 l3 = some o) : AW G I_C_bestPace B (QM G I_C_bestPace B (.inl (some (.int o))) M φ) 0 0 91 [(0, .ref 0), (1, .int l1), (2, .int l2), (3, .int l3)] [] M φ := by
  unfold f_C_bestPace_91 at h
  refine a_iinc (j := 3) (v := l3 + 1) (ls' := [(3, .int (l3 + 1)), (0, .ref 0), (1, .int l1), (2, .int l2)]) hB e_C_bestPace_91 rfl (inc_1 _) (Nat.le_of_ble_eq_true rfl) rfl ?_
  refine a_goto (tgt := 18) hB e_C_bestPace_94 (by decide) ?_
  refine a_ls [1, 2, 3, 0] (ls' := [(0, .ref 0), (1, .int l1), (2, .int l2), (3, .int (l3 + 1))]) rfl ?_
  exact hr18 _ _ _ h
set_option maxRecDepth 100000 in
theorem t_C_bestPace_18 {G : Gt} {φ : Ph} {B : Bag} (hB : BF G I_C_bestPace B) (hF : SF 134 φ)   {M : Mm} {o : Int32} : ∀ (n : Nat) (l1 : Int32) (l2 : Int32) (l3 : Int32), f_C_bestPace_18 M n l1 l2 l3 = some o → AW G I_C_bestPace B (QM G I_C_bestPace B (.inl (some (.int o))) M φ) 0 0 18 [(0, .ref 0), (1, .int l1), (2, .int l2), (3, .int l3)] [] M φ := by
  intro n
  induction n with
  | zero => intro l1 l2 l3 h; cases h
  | succ n hr18 =>
    intro l1 l2 l3 h
    rw [f_C_bestPace_18] at h
    refine a_iload_n (j := 3) hB e_C_bestPace_18 rfl rfl ?_
    refine a_aload_n (j := 0) hB e_C_bestPace_19 rfl rfl ?_
    refine a_getR (r := 15) (k := 7) hB e_C_bestPace_20 fl_C_39 (sf_lt hF (by decide)) kk_0 tt_0_7 (hF.1 _ _) ?_
    refine a_getI (k := 9) hB e_C_bestPace_23 fl_C_115 (sf_lt hF (by decide)) kk_15 tt_15_9 ?_
    refine a_icmp_ge (tgt := 97) hB e_C_bestPace_26 (by decide) (fun c => ?_) (fun c => ?_)
    · have h := ip c h
      refine a_bipush (v := 100) hB e_C_bestPace_97 bp_100 ?_
      refine a_istore_n (ls' := [(3, .int (100 : Int32)), (0, .ref 0), (1, .int l1), (2, .int l2)]) hB e_C_bestPace_99 rfl (Nat.le_of_ble_eq_true rfl) rfl ?_
      refine a_aload_n (j := 1) hB e_C_bestPace_100 rfl rfl ?_
      refine a_iload_n (j := 2) hB e_C_bestPace_101 rfl rfl ?_
      refine a_iload_n (j := 3) hB e_C_bestPace_102 rfl rfl ?_
      refine a_bipush (v := 100) hB e_C_bestPace_103 bp_100 ?_
      obtain ⟨r105, hr105, h⟩ := bn_i h
      refine a_ret (v := (some (.int r105))) (M1 := M) (φ1 := φ) (st1 := [.int r105]) (j1 := 0) (j2 := 0) (ar_V (As := [.int l1, .int l2, .int (100 : Int32)]) (rest := []) hB (c_C_misclosureWithPace (bf_G hB) hF hr105) ml_C_307 md_C_misclosureWithPace rc_C_misclosureWithPace (sf_lt hF (by decide)) kk_0 rfl rfl (Nat.le_of_ble_eq_true rfl) rm_C_bestPace_C_misclosureWithPace e_C_bestPace_105) rfl rfl rfl ?_
      refine a_istore (ls' := [(4, .int r105), (3, .int (100 : Int32)), (0, .ref 0), (1, .int l1), (2, .int l2)]) hB e_C_bestPace_108 (Nat.le_of_ble_eq_true rfl) rfl ?_
      refine a_bipush (v := 101) hB e_C_bestPace_110 bp_101 ?_
      refine a_istore (ls' := [(5, .int (101 : Int32)), (4, .int r105), (3, .int (100 : Int32)), (0, .ref 0), (1, .int l1), (2, .int l2)]) hB e_C_bestPace_112 (Nat.le_of_ble_eq_true rfl) rfl ?_
      refine a_ls [3, 4, 5, 2, 1, 0] (ls' := [(0, .ref 0), (1, .int l1), (2, .int l2), (3, .int (100 : Int32)), (4, .int r105), (5, .int (101 : Int32))]) rfl ?_
      exact t_C_bestPace_114 hB hF _ _ _ _ _ _ h
    · have h := iq c h
      refine a_aload_n (j := 0) hB e_C_bestPace_29 rfl rfl ?_
      refine a_getR (r := 15) (k := 7) hB e_C_bestPace_30 fl_C_39 (sf_lt hF (by decide)) kk_0 tt_0_7 (hF.1 _ _) ?_
      refine a_getR (r := 18) (k := 2) hB e_C_bestPace_33 fl_C_239 (sf_lt hF (by decide)) kk_15 tt_15_2 (hF.1 _ _) ?_
      refine a_iload_n (j := 3) hB e_C_bestPace_36 rfl rfl ?_
      obtain ⟨c37, h⟩ := chk_i h
      refine a_zald' hB e_C_bestPace_37 (sf_lt hF (by decide)) kk_18 ll_18 c37 ?_
      refine a_if_ne (tgt := 91) hB e_C_bestPace_38 (by decide) (fun c => ?_) (fun c => ?_)
      · have h := iq c h
        exact t_C_bestPace_91 hB hF hr18 h
      · have h := ip c h
        refine a_aload_n (j := 0) hB e_C_bestPace_41 rfl rfl ?_
        refine a_getR (r := 15) (k := 7) hB e_C_bestPace_42 fl_C_39 (sf_lt hF (by decide)) kk_0 tt_0_7 (hF.1 _ _) ?_
        refine a_iload_n (j := 3) hB e_C_bestPace_45 rfl rfl ?_
        obtain ⟨r46, hr46, h⟩ := bn_i h
        refine a_ret (v := (some (.int r46))) (M1 := M) (φ1 := φ) (st1 := [.int r46]) (j1 := 0) (j2 := 0) (ar_V (As := [.int l3]) (rest := []) hB (c_S_horizontalUnits (bf_G hB) hF sv_15 hr46) ml_C_227 md_S_horizontalUnits rc_S_horizontalUnits (sf_lt hF (by decide)) kk_15 rfl rfl (Nat.le_of_ble_eq_true rfl) rm_C_bestPace_S_horizontalUnits e_C_bestPace_46) rfl rfl rfl ?_
        refine a_istore (ls' := [(4, .int r46), (0, .ref 0), (1, .int l1), (2, .int l2), (3, .int l3)]) hB e_C_bestPace_49 (Nat.le_of_ble_eq_true rfl) rfl ?_
        refine a_iload_n (j := 2) hB e_C_bestPace_51 rfl rfl ?_
        refine a_iload (j := 0) hB e_C_bestPace_52 rfl ?_
        refine a_aload_n (j := 1) hB e_C_bestPace_54 rfl rfl ?_
        refine a_getR (r := 15) (k := 7) hB e_C_bestPace_55 fl_C_39 (sf_lt hF (by decide)) kk_0 tt_0_7 (hF.1 _ _) ?_
        refine a_getR (r := 17) (k := 1) hB e_C_bestPace_58 fl_C_215 (sf_lt hF (by decide)) kk_15 tt_15_1 (hF.1 _ _) ?_
        refine a_iload_n (j := 4) hB e_C_bestPace_61 rfl rfl ?_
        refine a_iald' hB e_C_bestPace_62 (sf_lt hF (by decide)) kk_17 ll_17 c37 ?_
        obtain ⟨r63, hr63, h⟩ := bn_i h
        refine a_ret (v := (some (.int r63))) (M1 := M) (φ1 := φ) (st1 := [.int r63, .int r46, .int l1]) (j1 := 0) (j2 := 0) (ar_S (As := [.int (M 17 (ix l3))]) (rest := [.int r46, .int l1]) hB (c_C_sine (bf_G hB) hF hr63) ml_C_230 md_C_sine rfl rfl (Nat.le_of_ble_eq_true rfl) rm_C_bestPace_C_sine e_C_bestPace_63) rfl rfl rfl ?_
        obtain ⟨r66, hr66, h⟩ := bn_i h
        refine a_ret (v := (some (.int r66))) (M1 := M) (φ1 := φ) (st1 := [.int r66, .int l1]) (j1 := 0) (j2 := 0) (ar_S (As := [.int r46, .int r63]) (rest := [.int l1]) hB (c_C_stepOf (bf_G hB) hF hr66) ml_C_233 md_C_stepOf rfl rfl (Nat.le_of_ble_eq_true rfl) rm_C_bestPace_C_stepOf e_C_bestPace_66) rfl rfl rfl ?_
        refine a_iadd hB e_C_bestPace_69 ?_
        refine a_istore_n (ls' := [(1, .int (l1 + r66)), (4, .int r46), (0, .ref 0), (2, .int l2), (3, .int l3)]) hB e_C_bestPace_70 rfl (Nat.le_of_ble_eq_true rfl) rfl ?_
        refine a_iload_n (j := 3) hB e_C_bestPace_71 rfl rfl ?_
        refine a_iload (j := 1) hB e_C_bestPace_72 rfl ?_
        refine a_aload_n (j := 2) hB e_C_bestPace_74 rfl rfl ?_
        refine a_getR (r := 15) (k := 7) hB e_C_bestPace_75 fl_C_39 (sf_lt hF (by decide)) kk_0 tt_0_7 (hF.1 _ _) ?_
        refine a_getR (r := 17) (k := 1) hB e_C_bestPace_78 fl_C_215 (sf_lt hF (by decide)) kk_15 tt_15_1 (hF.1 _ _) ?_
        refine a_iload_n (j := 4) hB e_C_bestPace_81 rfl rfl ?_
        refine a_iald' hB e_C_bestPace_82 (sf_lt hF (by decide)) kk_17 ll_17 c37 ?_
        obtain ⟨r83, hr83, h⟩ := bn_i h
        refine a_ret (v := (some (.int r83))) (M1 := M) (φ1 := φ) (st1 := [.int r83, .int r46, .int l2]) (j1 := 0) (j2 := 0) (ar_S (As := [.int (M 17 (ix l3))]) (rest := [.int r46, .int l2]) hB (c_C_cosine (bf_G hB) hF hr83) ml_C_236 md_C_cosine rfl rfl (Nat.le_of_ble_eq_true rfl) rm_C_bestPace_C_cosine e_C_bestPace_83) rfl rfl rfl ?_
        obtain ⟨r86, hr86, h⟩ := bn_i h
        refine a_ret (v := (some (.int r86))) (M1 := M) (φ1 := φ) (st1 := [.int r86, .int l2]) (j1 := 0) (j2 := 0) (ar_S (As := [.int r46, .int r83]) (rest := [.int l2]) hB (c_C_stepOf (bf_G hB) hF hr86) ml_C_233 md_C_stepOf rfl rfl (Nat.le_of_ble_eq_true rfl) rm_C_bestPace_C_stepOf e_C_bestPace_86) rfl rfl rfl ?_
        refine a_iadd hB e_C_bestPace_89 ?_
        refine a_istore_n (ls' := [(2, .int (l2 + r86)), (1, .int (l1 + r66)), (4, .int r46), (0, .ref 0), (3, .int l3)]) hB e_C_bestPace_90 rfl (Nat.le_of_ble_eq_true rfl) rfl ?_
        refine a_ls [3, 1, 0, 4] (ls' := [(0, .ref 0), (1, .int (l1 + r66)), (2, .int (l2 + r86)), (3, .int l3)]) rfl ?_
        exact t_C_bestPace_91 hB hF hr18 h
set_option maxRecDepth 100000 in
theorem t_C_bestPace {G : Gt} {φ : Ph} {B : Bag} (hB : BF G I_C_bestPace B) (hF : SF 134 φ)   {M : Mm} {o : Int32}   (h : f_C_bestPace M = some o) : AW G I_C_bestPace B (QM G I_C_bestPace B (.inl (some (.int o))) M φ) 0 0 0 [(0, .ref 0)] [] M φ := by
  unfold f_C_bestPace at h
  refine a_aload_n (j := 0) hB e_C_bestPace_0 rfl rfl ?_
  refine a_getR (r := 15) (k := 7) hB e_C_bestPace_1 fl_C_39 (sf_lt hF (by decide)) kk_0 tt_0_7 (hF.1 _ _) ?_
  obtain ⟨r4, hr4, h⟩ := bn_i h
  refine a_ret (v := (some (.int r4))) (M1 := M) (φ1 := φ) (st1 := [.int r4]) (j1 := 0) (j2 := 0) (ar_V (As := []) (rest := []) hB (c_S_hasBog (bf_G hB) hF sv_15 hr4) ml_C_304 md_S_hasBog rc_S_hasBog (sf_lt hF (by decide)) kk_15 rfl rfl (Nat.le_of_ble_eq_true rfl) rm_C_bestPace_S_hasBog e_C_bestPace_4) rfl rfl rfl ?_
  refine a_if_ne (tgt := 12) hB e_C_bestPace_7 (by decide) (fun c => ?_) (fun c => ?_)
  · have h := iq c h
    refine a_iconst (v := 0) hB e_C_bestPace_12 ic_0 ?_
    refine a_istore_n (ls' := [(1, .int (0 : Int32)), (0, .ref 0)]) hB e_C_bestPace_13 rfl (Nat.le_of_ble_eq_true rfl) rfl ?_
    refine a_iconst (v := 0) hB e_C_bestPace_14 ic_0 ?_
    refine a_istore_n (ls' := [(2, .int (0 : Int32)), (1, .int (0 : Int32)), (0, .ref 0)]) hB e_C_bestPace_15 rfl (Nat.le_of_ble_eq_true rfl) rfl ?_
    refine a_iconst (v := 0) hB e_C_bestPace_16 ic_0 ?_
    refine a_istore_n (ls' := [(3, .int (0 : Int32)), (2, .int (0 : Int32)), (1, .int (0 : Int32)), (0, .ref 0)]) hB e_C_bestPace_17 rfl (Nat.le_of_ble_eq_true rfl) rfl ?_
    refine a_ls [3, 2, 1, 0] (ls' := [(0, .ref 0), (1, .int (0 : Int32)), (2, .int (0 : Int32)), (3, .int (0 : Int32))]) rfl ?_
    exact t_C_bestPace_18 hB hF _ _ _ _ h
  · have h := ip c h
    refine a_iconst (v := -1) hB e_C_bestPace_10 ic_m1 ?_
    cases h
    exact a_iret hB rfl e_C_bestPace_11 (by decide) (by decide)
set_option maxRecDepth 100000 in
theorem c_C_bestPace {G : Gt} (hG : GOK G) {φ : Ph} (hF : SF 134 φ)   {M : Mm}  {o : Int32} (h : f_C_bestPace M = some o) : CT G I_C_bestPace [.ref 0] M φ (.inl (some (.int o))) M φ :=
  ct_of hG (by decide) (Nat.le_of_ble_eq_true rfl) (fun B hB => t_C_bestPace hB hF  h)
set_option maxRecDepth 100000 in
theorem t_C_inconsistencies_99 {G : Gt} {φ : Ph} {B : Bag} (hB : BF G I_C_inconsistencies B) (hF : SF 134 φ)    {o : Int32} {M9 : Mm} {r66 : Int32 → Int32 → Mm → Option (Int32 × Mm)} (hr66 : ∀ (l2 : Int32) (l3 : Int32) (M : Mm), r66 l2 l3 M = some (o, M9) → AW G I_C_inconsistencies B (QM G I_C_inconsistencies B (.inl (some (.int o))) M9 φ) 0 0 66 [(0, .ref 0), (2, .int l2), (3, .int l3)] [] M φ) {l2 : Int32} {l3 : Int32} {M : Mm} (h : f_C_inconsistencies_99 r66 l2 l3 M = some (o, M9)) : AW G I_C_inconsistencies B (QM G I_C_inconsistencies B (.inl (some (.int o))) M9 φ) 0 0 99 [(0, .ref 0), (2, .int l2), (3, .int l3)] [] M φ := by
  unfold f_C_inconsistencies_99 at h
  refine a_iinc (j := 2) (v := l3 + 1) (ls' := [(3, .int (l3 + 1)), (0, .ref 0), (2, .int l2)]) hB e_C_inconsistencies_99 rfl (inc_1 _) (Nat.le_of_ble_eq_true rfl) rfl ?_
  refine a_goto (tgt := 66) hB e_C_inconsistencies_102 (by decide) ?_
  refine a_ls [1, 2, 0] (ls' := [(0, .ref 0), (2, .int l2), (3, .int (l3 + 1))]) rfl ?_
  exact hr66 _ _ _ h
set_option maxRecDepth 100000 in
theorem t_C_inconsistencies_66 {G : Gt} {φ : Ph} {B : Bag} (hB : BF G I_C_inconsistencies B) (hF : SF 134 φ)    {o : Int32} {M9 : Mm} : ∀ (n : Nat) (l2 : Int32) (l3 : Int32) (M : Mm), f_C_inconsistencies_66 n l2 l3 M = some (o, M9) → AW G I_C_inconsistencies B (QM G I_C_inconsistencies B (.inl (some (.int o))) M9 φ) 0 0 66 [(0, .ref 0), (2, .int l2), (3, .int l3)] [] M φ := by
  intro n
  induction n with
  | zero => intro l2 l3 M h; cases h
  | succ n hr66 =>
    intro l2 l3 M h
    rw [f_C_inconsistencies_66] at h
    refine a_iload_n (j := 2) hB e_C_inconsistencies_66 rfl rfl ?_
    refine a_aload_n (j := 0) hB e_C_inconsistencies_67 rfl rfl ?_
    refine a_getR (r := 15) (k := 7) hB e_C_inconsistencies_68 fl_C_39 (sf_lt hF (by decide)) kk_0 tt_0_7 (hF.1 _ _) ?_
    refine a_getI (k := 9) hB e_C_inconsistencies_71 fl_C_115 (sf_lt hF (by decide)) kk_15 tt_15_9 ?_
    refine a_icmp_ge (tgt := 105) hB e_C_inconsistencies_74 (by decide) (fun c => ?_) (fun c => ?_)
    · have h := ip c h
      refine a_iload_n (j := 1) hB e_C_inconsistencies_105 rfl rfl ?_
      cases h
      exact a_iret hB rfl e_C_inconsistencies_106 (by decide) (by decide)
    · have h := iq c h
      refine a_aload_n (j := 0) hB e_C_inconsistencies_77 rfl rfl ?_
      refine a_getR (r := 15) (k := 7) hB e_C_inconsistencies_78 fl_C_39 (sf_lt hF (by decide)) kk_0 tt_0_7 (hF.1 _ _) ?_
      refine a_iload_n (j := 2) hB e_C_inconsistencies_81 rfl rfl ?_
      obtain ⟨r82, hr82, h⟩ := bn_i h
      refine a_ret (v := (some (.int r82))) (M1 := M) (φ1 := φ) (st1 := [.int r82]) (j1 := 0) (j2 := 0) (ar_V (As := [.int l3]) (rest := []) hB (c_S_horizontalUnits (bf_G hB) hF sv_15 hr82) ml_C_227 md_S_horizontalUnits rc_S_horizontalUnits (sf_lt hF (by decide)) kk_15 rfl rfl (Nat.le_of_ble_eq_true rfl) rm_C_inconsistencies_S_horizontalUnits e_C_inconsistencies_82) rfl rfl rfl ?_
      refine a_aload_n (j := 0) hB e_C_inconsistencies_85 rfl rfl ?_
      refine a_getR (r := 15) (k := 7) hB e_C_inconsistencies_86 fl_C_39 (sf_lt hF (by decide)) kk_0 tt_0_7 (hF.1 _ _) ?_
      refine a_iload_n (j := 2) hB e_C_inconsistencies_89 rfl rfl ?_
      obtain ⟨r90, hr90, h⟩ := bn_i h
      refine a_ret (v := (some (.int r90))) (M1 := M) (φ1 := φ) (st1 := [.int r90, .int r82]) (j1 := 0) (j2 := 0) (ar_V (As := [.int l3]) (rest := [.int r82]) hB (c_S_slopeUnits (bf_G hB) hF sv_15 hr90) ml_C_224 md_S_slopeUnits rc_S_slopeUnits (sf_lt hF (by decide)) kk_15 rfl rfl (Nat.le_of_ble_eq_true rfl) rm_C_inconsistencies_S_slopeUnits e_C_inconsistencies_90) rfl rfl rfl ?_
      refine a_icmp_le (tgt := 99) hB e_C_inconsistencies_93 (by decide) (fun c => ?_) (fun c => ?_)
      · have h := ip c h
        exact t_C_inconsistencies_99 hB hF hr66 h
      · have h := iq c h
        refine a_iinc (j := 1) (v := l2 + 1) (ls' := [(2, .int (l2 + 1)), (0, .ref 0), (3, .int l3)]) hB e_C_inconsistencies_96 rfl (inc_1 _) (Nat.le_of_ble_eq_true rfl) rfl ?_
        refine a_ls [1, 0, 2] (ls' := [(0, .ref 0), (2, .int (l2 + 1)), (3, .int l3)]) rfl ?_
        exact t_C_inconsistencies_99 hB hF hr66 h
set_option maxRecDepth 100000 in
theorem t_C_inconsistencies_64 {G : Gt} {φ : Ph} {B : Bag} (hB : BF G I_C_inconsistencies B) (hF : SF 134 φ)    {o : Int32} {M9 : Mm} {l2 : Int32} {M : Mm} (h : f_C_inconsistencies_64 l2 M = some (o, M9)) : AW G I_C_inconsistencies B (QM G I_C_inconsistencies B (.inl (some (.int o))) M9 φ) 0 0 64 [(0, .ref 0), (2, .int l2)] [] M φ := by
  unfold f_C_inconsistencies_64 at h
  refine a_iconst (v := 0) hB e_C_inconsistencies_64 ic_0 ?_
  refine a_istore_n (ls' := [(3, .int (0 : Int32)), (0, .ref 0), (2, .int l2)]) hB e_C_inconsistencies_65 rfl (Nat.le_of_ble_eq_true rfl) rfl ?_
  refine a_ls [1, 2, 0] (ls' := [(0, .ref 0), (2, .int l2), (3, .int (0 : Int32))]) rfl ?_
  exact t_C_inconsistencies_66 hB hF _ _ _ _ h
set_option maxRecDepth 100000 in
theorem t_C_inconsistencies_62 {G : Gt} {φ : Ph} {B : Bag} (hB : BF G I_C_inconsistencies B) (hF : SF 134 φ)    {o : Int32} {M9 : Mm} {t0 : Int32} {t1 : Int32} {M : Mm} (h : f_C_inconsistencies_62 t0 t1 M = some (o, M9)) : AW G I_C_inconsistencies B (QM G I_C_inconsistencies B (.inl (some (.int o))) M9 φ) 0 0 62 [(0, .ref 0)] [.int t1, .int t0] M φ := by
  unfold f_C_inconsistencies_62 at h
  refine a_iadd hB e_C_inconsistencies_62 ?_
  refine a_istore_n (ls' := [(2, .int (t0 + t1)), (0, .ref 0)]) hB e_C_inconsistencies_63 rfl (Nat.le_of_ble_eq_true rfl) rfl ?_
  refine a_ls [1, 0] (ls' := [(0, .ref 0), (2, .int (t0 + t1))]) rfl ?_
  exact t_C_inconsistencies_64 hB hF h
set_option maxRecDepth 100000 in
theorem t_C_inconsistencies_42 {G : Gt} {φ : Ph} {B : Bag} (hB : BF G I_C_inconsistencies B) (hF : SF 134 φ)    {o : Int32} {M9 : Mm} {t0 : Int32} {t1 : Int32} {M : Mm} (h : f_C_inconsistencies_42 t0 t1 M = some (o, M9)) : AW G I_C_inconsistencies B (QM G I_C_inconsistencies B (.inl (some (.int o))) M9 φ) 0 0 42 [(0, .ref 0), (1, .ref 25)] [.int t1, .int t0] M φ := by
  unfold f_C_inconsistencies_42 at h
  refine a_iadd hB e_C_inconsistencies_42 ?_
  refine a_istore_n (ls' := [(2, .int (t0 + t1)), (0, .ref 0), (1, .ref 25)]) hB e_C_inconsistencies_43 rfl (Nat.le_of_ble_eq_true rfl) rfl ?_
  refine a_iload_n (j := 0) hB e_C_inconsistencies_44 rfl rfl ?_
  refine a_aload_n (j := 2) hB e_C_inconsistencies_45 rfl rfl ?_
  refine a_getR (r := 30) (k := 4) hB e_C_inconsistencies_46 fl_C_268 (sf_lt hF (by decide)) kk_25 tt_25_4 (hF.1 _ _) ?_
  refine a_aload_n (j := 2) hB e_C_inconsistencies_49 rfl rfl ?_
  refine a_getI (k := 5) hB e_C_inconsistencies_50 fl_C_289 (sf_lt hF (by decide)) kk_25 tt_25_5 ?_
  obtain ⟨c53, h⟩ := chk_i h
  refine a_iald' hB e_C_inconsistencies_53 (sf_lt hF (by decide)) kk_30 ll_30 c53 ?_
  refine a_if_ne (tgt := 61) hB e_C_inconsistencies_54 (by decide) (fun c => ?_) (fun c => ?_)
  · have h := iq c h
    refine a_iconst (v := 1) hB e_C_inconsistencies_61 ic_1 ?_
    refine a_ls [1] (ls' := [(0, .ref 0)]) rfl ?_
    exact t_C_inconsistencies_62 hB hF h
  · have h := ip c h
    refine a_iconst (v := 0) hB e_C_inconsistencies_57 ic_0 ?_
    refine a_goto (tgt := 62) hB e_C_inconsistencies_58 (by decide) ?_
    refine a_ls [1] (ls' := [(0, .ref 0)]) rfl ?_
    exact t_C_inconsistencies_62 hB hF h
set_option maxRecDepth 100000 in
theorem t_C_inconsistencies {G : Gt} {φ : Ph} {B : Bag} (hB : BF G I_C_inconsistencies B) (hF : SF 134 φ)    {o : Int32} {M9 : Mm}  {M : Mm} (h : f_C_inconsistencies M = some (o, M9)) : AW G I_C_inconsistencies B (QM G I_C_inconsistencies B (.inl (some (.int o))) M9 φ) 0 0 0 [(0, .ref 0)] [] M φ := by
  unfold f_C_inconsistencies at h
  refine a_aload_n (j := 0) hB e_C_inconsistencies_0 rfl rfl ?_
  obtain ⟨M1, hr1, h⟩ := bn_i h
  refine a_ret (v := (some (.ref 25))) (M1 := M1) (φ1 := φ) (st1 := [.ref 25]) (j1 := 0) (j2 := 0) (ar_V (As := []) (rest := []) hB (c_C_followed (bf_G hB) hF hr1) ml_C_255 md_C_followed rc_C_followed (sf_lt hF (by decide)) kk_0 rfl rfl (Nat.le_of_ble_eq_true rfl) rm_C_inconsistencies_C_followed e_C_inconsistencies_1) rfl rfl rfl ?_
  refine a_astore_n (ls' := [(1, .ref 25), (0, .ref 0)]) hB e_C_inconsistencies_4 rfl (Nat.le_of_ble_eq_true rfl) rfl ?_
  refine a_iconst (v := 0) hB e_C_inconsistencies_5 ic_0 ?_
  refine a_istore_n (ls' := [(2, .int (0 : Int32)), (1, .ref 25), (0, .ref 0)]) hB e_C_inconsistencies_6 rfl (Nat.le_of_ble_eq_true rfl) rfl ?_
  refine a_aload_n (j := 2) hB e_C_inconsistencies_7 rfl rfl ?_
  refine a_getR (r := 15) (k := 7) hB e_C_inconsistencies_8 fl_C_39 (sf_lt hF (by decide)) kk_0 tt_0_7 (hF.1 _ _) ?_
  refine a_getI (k := 12) hB e_C_inconsistencies_11 fl_C_192 (sf_lt hF (by decide)) kk_15 tt_15_12 ?_
  refine a_if_eq (tgt := 64) hB e_C_inconsistencies_14 (by decide) (fun c => ?_) (fun c => ?_)
  · have h := ip c h
    refine a_ls [2, 0] (ls' := [(0, .ref 0), (2, .int (0 : Int32))]) rfl ?_
    exact t_C_inconsistencies_64 hB hF h
  · have h := iq c h
    refine a_aload_n (j := 1) hB e_C_inconsistencies_17 rfl rfl ?_
    obtain ⟨r18, hr18, h⟩ := bn_i h
    refine a_ret (v := (some (.int r18))) (M1 := M1) (φ1 := φ) (st1 := [.int r18]) (j1 := 0) (j2 := 0) (ar_V (As := []) (rest := []) hB (c_T_totalRun (bf_G hB) hF hr18) ml_C_277 md_T_totalRun rc_T_totalRun (sf_lt hF (by decide)) kk_25 rfl rfl (Nat.le_of_ble_eq_true rfl) rm_C_inconsistencies_T_totalRun e_C_inconsistencies_18) rfl rfl rfl ?_
    refine a_if_le (tgt := 64) hB e_C_inconsistencies_21 (by decide) (fun c => ?_) (fun c => ?_)
    · have h := ip c h
      refine a_ls [2, 0] (ls' := [(0, .ref 0), (2, .int (0 : Int32))]) rfl ?_
      exact t_C_inconsistencies_64 hB hF h
    · have h := iq c h
      refine a_iload_n (j := 0) hB e_C_inconsistencies_24 rfl rfl ?_
      refine a_aload_n (j := 1) hB e_C_inconsistencies_25 rfl rfl ?_
      refine a_getR (r := 29) (k := 3) hB e_C_inconsistencies_26 fl_C_265 (sf_lt hF (by decide)) kk_25 tt_25_3 (hF.1 _ _) ?_
      refine a_aload_n (j := 1) hB e_C_inconsistencies_29 rfl rfl ?_
      refine a_getI (k := 5) hB e_C_inconsistencies_30 fl_C_289 (sf_lt hF (by decide)) kk_25 tt_25_5 ?_
      obtain ⟨c33, h⟩ := chk_i h
      refine a_iald' hB e_C_inconsistencies_33 (sf_lt hF (by decide)) kk_29 ll_29 c33 ?_
      refine a_if_ne (tgt := 41) hB e_C_inconsistencies_34 (by decide) (fun c => ?_) (fun c => ?_)
      · have h := iq c h
        refine a_iconst (v := 1) hB e_C_inconsistencies_41 ic_1 ?_
        refine a_ls [2, 1] (ls' := [(0, .ref 0), (1, .ref 25)]) rfl ?_
        exact t_C_inconsistencies_42 hB hF h
      · have h := ip c h
        refine a_iconst (v := 0) hB e_C_inconsistencies_37 ic_0 ?_
        refine a_goto (tgt := 42) hB e_C_inconsistencies_38 (by decide) ?_
        refine a_ls [2, 1] (ls' := [(0, .ref 0), (1, .ref 25)]) rfl ?_
        exact t_C_inconsistencies_42 hB hF h
set_option maxRecDepth 100000 in
theorem c_C_inconsistencies {G : Gt} (hG : GOK G) {φ : Ph} (hF : SF 134 φ)   {M : Mm}  {o : Int32} {M9 : Mm} (h : f_C_inconsistencies M = some (o, M9)) : CT G I_C_inconsistencies [.ref 0] M φ (.inl (some (.int o))) M9 φ :=
  ct_of hG (by decide) (Nat.le_of_ble_eq_true rfl) (fun B hB => t_C_inconsistencies hB hF  h)
