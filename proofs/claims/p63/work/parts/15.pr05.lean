/-! the functions are what the machine does -/
set_option maxRecDepth 100000 in
theorem t_C_addLeg_54 {G : Gt} {φ : Ph} {B : Bag} (hB : BF G I_C_addLeg B) (hF : SF 134 φ)    {o : Nat ⊕ Int32} {M9 : Mm} {l1 : Int32} {l2 : Int32} {l3 : Int32} {l4 : Int32} {l5 : Int32} {M : Mm} (h : f_C_addLeg_54 l1 l2 l3 l4 l5 M = some (o, M9)) : AW G I_C_addLeg B (QM G I_C_addLeg B (oSi o) M9 (pS o φ)) 0 0 54 [(0, .ref 0), (1, .int l1), (2, .int l2), (3, .int l3), (4, .int l4), (5, .int l5)] [] M φ := by
  unfold f_C_addLeg_54 at h
  refine a_iconst (v := 0) hB e_C_addLeg_54 ic_0 ?_
  exact t_C_addLeg_55 hB hF h
set_option maxRecDepth 100000 in
theorem t_C_addLeg {G : Gt} {φ : Ph} {B : Bag} (hB : BF G I_C_addLeg B) (hF : SF 134 φ)    {o : Nat ⊕ Int32} {M9 : Mm} {l1 : Int32} {l2 : Int32} {l3 : Int32} {l4 : Int32} {l5 : Int32} {M : Mm} (h : f_C_addLeg l1 l2 l3 l4 l5 M = some (o, M9)) : AW G I_C_addLeg B (QM G I_C_addLeg B (oSi o) M9 (pS o φ)) 0 0 0 [(0, .ref 0), (1, .int l1), (2, .int l2), (3, .int l3), (4, .int l4), (5, .int l5)] [] M φ := by
  unfold f_C_addLeg at h
  refine a_iload_n (j := 1) hB e_C_addLeg_0 rfl rfl ?_
  obtain ⟨r1, hr1, h⟩ := bn_i h
  refine a_ret (v := (some (.int r1))) (M1 := M) (φ1 := φ) (st1 := [.int r1]) (j1 := 0) (j2 := 0) (ar_S (As := [.int l1]) (rest := []) hB (c_C_isBearing (bf_G hB) hF hr1) ml_C_133 md_C_isBearing rfl rfl (Nat.le_of_ble_eq_true rfl) rm_C_addLeg_C_isBearing e_C_addLeg_1) rfl rfl rfl ?_
  refine a_if_eq (tgt := 54) hB e_C_addLeg_4 (by decide) (fun c => ?_) (fun c => ?_)
  · have h := ip c h
    exact t_C_addLeg_54 hB hF h
  · have h := iq c h
    refine a_iload_n (j := 2) hB e_C_addLeg_7 rfl rfl ?_
    refine a_iconst (v := 0) hB e_C_addLeg_8 ic_0 ?_
    refine a_bipush (v := 99) hB e_C_addLeg_9 bp_99 ?_
    obtain ⟨r11, hr11, h⟩ := bn_i h
    refine a_ret (v := (some (.int r11))) (M1 := M) (φ1 := φ) (st1 := [.int r11]) (j1 := 0) (j2 := 0) (ar_S (As := [.int l2, .int (0 : Int32), .int (99 : Int32)]) (rest := []) hB (c_C_isBetween (bf_G hB) hF hr11) ml_C_100 md_C_isBetween rfl rfl (Nat.le_of_ble_eq_true rfl) rm_C_addLeg_C_isBetween e_C_addLeg_11) rfl rfl rfl ?_
    refine a_if_eq (tgt := 54) hB e_C_addLeg_14 (by decide) (fun c => ?_) (fun c => ?_)
    · have h := ip c h
      exact t_C_addLeg_54 hB hF h
    · have h := iq c h
      refine a_iload_n (j := 3) hB e_C_addLeg_17 rfl rfl ?_
      refine a_iconst (v := 0) hB e_C_addLeg_18 ic_0 ?_
      refine a_bipush (v := 99) hB e_C_addLeg_19 bp_99 ?_
      obtain ⟨r21, hr21, h⟩ := bn_i h
      refine a_ret (v := (some (.int r21))) (M1 := M) (φ1 := φ) (st1 := [.int r21]) (j1 := 0) (j2 := 0) (ar_S (As := [.int l3, .int (0 : Int32), .int (99 : Int32)]) (rest := []) hB (c_C_isBetween (bf_G hB) hF hr21) ml_C_100 md_C_isBetween rfl rfl (Nat.le_of_ble_eq_true rfl) rm_C_addLeg_C_isBetween e_C_addLeg_21) rfl rfl rfl ?_
      refine a_if_eq (tgt := 54) hB e_C_addLeg_24 (by decide) (fun c => ?_) (fun c => ?_)
      · have h := ip c h
        exact t_C_addLeg_54 hB hF h
      · have h := iq c h
        refine a_iload (j := 4) hB e_C_addLeg_27 rfl ?_
        refine a_iconst (v := 0) hB e_C_addLeg_29 ic_0 ?_
        refine a_sipush (v := 9999) hB e_C_addLeg_30 sp_9999 ?_
        obtain ⟨r33, hr33, h⟩ := bn_i h
        refine a_ret (v := (some (.int r33))) (M1 := M) (φ1 := φ) (st1 := [.int r33]) (j1 := 0) (j2 := 0) (ar_S (As := [.int l4, .int (0 : Int32), .int (9999 : Int32)]) (rest := []) hB (c_C_isBetween (bf_G hB) hF hr33) ml_C_100 md_C_isBetween rfl rfl (Nat.le_of_ble_eq_true rfl) rm_C_addLeg_C_isBetween e_C_addLeg_33) rfl rfl rfl ?_
        refine a_if_eq (tgt := 54) hB e_C_addLeg_36 (by decide) (fun c => ?_) (fun c => ?_)
        · have h := ip c h
          exact t_C_addLeg_54 hB hF h
        · have h := iq c h
          refine a_iload (j := 5) hB e_C_addLeg_39 rfl ?_
          refine a_iconst (v := 0) hB e_C_addLeg_41 ic_0 ?_
          refine a_bipush (v := 50) hB e_C_addLeg_42 bp_50 ?_
          obtain ⟨r44, hr44, h⟩ := bn_i h
          refine a_ret (v := (some (.int r44))) (M1 := M) (φ1 := φ) (st1 := [.int r44]) (j1 := 0) (j2 := 0) (ar_S (As := [.int l5, .int (0 : Int32), .int (50 : Int32)]) (rest := []) hB (c_C_isBetween (bf_G hB) hF hr44) ml_C_100 md_C_isBetween rfl rfl (Nat.le_of_ble_eq_true rfl) rm_C_addLeg_C_isBetween e_C_addLeg_44) rfl rfl rfl ?_
          refine a_if_eq (tgt := 54) hB e_C_addLeg_47 (by decide) (fun c => ?_) (fun c => ?_)
          · have h := ip c h
            exact t_C_addLeg_54 hB hF h
          · have h := iq c h
            refine a_iconst (v := 1) hB e_C_addLeg_50 ic_1 ?_
            refine a_goto (tgt := 55) hB e_C_addLeg_51 (by decide) ?_
            exact t_C_addLeg_55 hB hF h
set_option maxRecDepth 100000 in
theorem c_C_addLeg {G : Gt} (hG : GOK G) {φ : Ph} (hF : SF 134 φ)   {M : Mm} {l1 : Int32} {l2 : Int32} {l3 : Int32} {l4 : Int32} {l5 : Int32} {o : Nat ⊕ Int32} {M9 : Mm} (h : f_C_addLeg l1 l2 l3 l4 l5 M = some (o, M9)) : CT G I_C_addLeg [.ref 0, .int l1, .int l2, .int l3, .int l4, .int l5] M φ (oSi o) M9 (pS o φ) :=
  ct_of hG (by decide) (Nat.le_of_ble_eq_true rfl) (fun B hB => t_C_addLeg hB hF  h)
set_option maxRecDepth 100000 in
theorem t_C_addBog_18 {G : Gt} {φ : Ph} {B : Bag} (hB : BF G I_C_addBog B) (hF : SF 134 φ)    {o : Nat ⊕ Int32} {M9 : Mm}  {M : Mm} (h : f_C_addBog_18 M = some (o, M9)) : AW G I_C_addBog B (QM G I_C_addBog B (oSi o) M9 (pS o φ)) 0 0 18 [] [] M φ := by
  unfold f_C_addBog_18 at h
  cases h
  exact a_throwS (E := "java/lang/IllegalArgumentException") (i := 18) hB (by decide) cl_C_104 ini_1 rfl at_C_108 rfl e_C_addBog_18 e_C_addBog_21 e_C_addBog_22 e_C_addBog_24 e_C_addBog_27 (by decide) (by decide) (by decide) (by decide)
set_option maxRecDepth 100000 in
theorem t_C_addBog {G : Gt} {φ : Ph} {B : Bag} (hB : BF G I_C_addBog B) (hF : SF 134 φ)    {o : Nat ⊕ Int32} {M9 : Mm} {l1 : Int32} {l2 : Int32} {M : Mm} (h : f_C_addBog l1 l2 M = some (o, M9)) : AW G I_C_addBog B (QM G I_C_addBog B (oSi o) M9 (pS o φ)) 0 0 0 [(0, .ref 0), (1, .int l1), (2, .int l2)] [] M φ := by
  unfold f_C_addBog at h
  refine a_iload_n (j := 1) hB e_C_addBog_0 rfl rfl ?_
  obtain ⟨r1, hr1, h⟩ := bn_i h
  refine a_ret (v := (some (.int r1))) (M1 := M) (φ1 := φ) (st1 := [.int r1]) (j1 := 0) (j2 := 0) (ar_S (As := [.int l1]) (rest := []) hB (c_C_isBearing (bf_G hB) hF hr1) ml_C_133 md_C_isBearing rfl rfl (Nat.le_of_ble_eq_true rfl) rm_C_addBog_C_isBearing e_C_addBog_1) rfl rfl rfl ?_
  refine a_if_eq (tgt := 18) hB e_C_addBog_4 (by decide) (fun c => ?_) (fun c => ?_)
  · have h := ip c h
    refine a_ls [] (ls' := []) rfl ?_
    exact t_C_addBog_18 hB hF h
  · have h := iq c h
    refine a_iload_n (j := 2) hB e_C_addBog_7 rfl rfl ?_
    refine a_iconst (v := 1) hB e_C_addBog_8 ic_1 ?_
    refine a_sipush (v := 999) hB e_C_addBog_9 sp_999 ?_
    obtain ⟨r12, hr12, h⟩ := bn_i h
    refine a_ret (v := (some (.int r12))) (M1 := M) (φ1 := φ) (st1 := [.int r12]) (j1 := 0) (j2 := 0) (ar_S (As := [.int l2, .int (1 : Int32), .int (999 : Int32)]) (rest := []) hB (c_C_isBetween (bf_G hB) hF hr12) ml_C_100 md_C_isBetween rfl rfl (Nat.le_of_ble_eq_true rfl) rm_C_addBog_C_isBetween e_C_addBog_12) rfl rfl rfl ?_
    refine a_if_ne (tgt := 28) hB e_C_addBog_15 (by decide) (fun c => ?_) (fun c => ?_)
    · have h := iq c h
      refine a_aload_n (j := 0) hB e_C_addBog_28 rfl rfl ?_
      rcases bti_i h with ⟨e29, hr29, rfl, hz⟩ | ⟨r29, hr29, h⟩
      · obtain rfl := hz.symm
        exact a_thr (E := exS e29) (M1 := M) (φ1 := dirt φ) hB (ar_V (As := []) (rest := []) hB (c_C_nameForNextLeg (bf_G hB) hF hr29) ml_C_139 md_C_nameForNextLeg rc_C_nameForNextLeg (sf_lt hF (by decide)) kk_0 rfl rfl (Nat.le_of_ble_eq_true rfl) rm_C_addBog_C_nameForNextLeg e_C_addBog_29) rfl (by decide) (by decide)
      · refine a_ret (v := (some (.int r29))) (M1 := M) (φ1 := φ) (st1 := [.int r29]) (j1 := 1) (j2 := 6) (ar_V (As := []) (rest := []) hB (c_C_nameForNextLeg (bf_G hB) hF hr29) ml_C_139 md_C_nameForNextLeg rc_C_nameForNextLeg (sf_lt hF (by decide)) kk_0 rfl rfl (Nat.le_of_ble_eq_true rfl) rm_C_addBog_C_nameForNextLeg e_C_addBog_29) rfl rfl rfl ?_
        refine a_istore_n (ls' := [(3, .int r29), (0, .ref 0), (1, .int l1), (2, .int l2)]) hB e_C_addBog_32 rfl (Nat.le_of_ble_eq_true rfl) rfl ?_
        refine a_aload_n (j := 1) hB e_C_addBog_33 rfl rfl ?_
        obtain ⟨M34, hr34, h⟩ := bn_i h
        refine a_ret (v := none) (M1 := M34) (φ1 := φ) (st1 := []) (j1 := 1) (j2 := 6) (ar_V (As := []) (rest := []) hB (c_C_remember (bf_G hB) hF hr34) ml_C_130 md_C_remember rc_C_remember (sf_lt hF (by decide)) kk_0 rfl rfl (Nat.le_of_ble_eq_true rfl) rm_C_addBog_C_remember_1_6 e_C_addBog_34) rfl rfl rfl ?_
        refine a_aload_n (j := 1) hB e_C_addBog_37 rfl rfl ?_
        refine a_getR (r := 15) (k := 7) hB e_C_addBog_38 fl_C_39 (sf_lt hF (by decide)) kk_0 tt_0_7 (hF.1 _ _) ?_
        refine a_iload_n (j := 0) hB e_C_addBog_41 rfl rfl ?_
        refine a_iload_n (j := 2) hB e_C_addBog_42 rfl rfl ?_
        refine a_iload_n (j := 3) hB e_C_addBog_43 rfl rfl ?_
        obtain ⟨M44, hr44, h⟩ := bn_i h
        refine a_ret (v := none) (M1 := M44) (φ1 := φ) (st1 := []) (j1 := 1) (j2 := 6) (ar_V (As := [.int r29, .int l1, .int l2]) (rest := []) hB (c_S_addPaced (bf_G hB) hF sv_15 hr44) ml_C_148 md_S_addPaced rc_S_addPaced (sf_lt hF (by decide)) kk_15 rfl rfl (Nat.le_of_ble_eq_true rfl) rm_C_addBog_S_addPaced_1_6 e_C_addBog_44) rfl rfl rfl ?_
        refine a_aload_n (j := 1) hB e_C_addBog_47 rfl rfl ?_
        refine a_getR (r := 15) (k := 7) hB e_C_addBog_48 fl_C_39 (sf_lt hF (by decide)) kk_0 tt_0_7 (hF.1 _ _) ?_
        refine a_getI (k := 9) hB e_C_addBog_51 fl_C_115 (sf_lt hF (by decide)) kk_15 tt_15_9 ?_
        refine a_iconst (v := 1) hB e_C_addBog_54 ic_1 ?_
        refine a_isub hB e_C_addBog_55 ?_
        cases h
        exact a_iret hB rfl e_C_addBog_56 (by decide) (by decide)
    · have h := ip c h
      refine a_ls [] (ls' := []) rfl ?_
      exact t_C_addBog_18 hB hF h
set_option maxRecDepth 100000 in
theorem c_C_addBog {G : Gt} (hG : GOK G) {φ : Ph} (hF : SF 134 φ)   {M : Mm} {l1 : Int32} {l2 : Int32} {o : Nat ⊕ Int32} {M9 : Mm} (h : f_C_addBog l1 l2 M = some (o, M9)) : CT G I_C_addBog [.ref 0, .int l1, .int l2] M φ (oSi o) M9 (pS o φ) :=
  ct_of hG (by decide) (Nat.le_of_ble_eq_true rfl) (fun B hB => t_C_addBog hB hF  h)
set_option maxRecDepth 100000 in
theorem t_C_requireLeg {G : Gt} {φ : Ph} {B : Bag} (hB : BF G I_C_requireLeg B) (hF : SF 134 φ)   {M : Mm} {o : Nat ⊕ Unit} {l1 : Int32}  (h : f_C_requireLeg M l1 = some o) : AW G I_C_requireLeg B (QM G I_C_requireLeg B (oSv o) M (pS o φ)) 0 0 0 [(0, .ref 0), (1, .int l1)] [] M φ := by
  unfold f_C_requireLeg at h
  refine a_iload_n (j := 1) hB e_C_requireLeg_0 rfl rfl ?_
  refine a_iconst (v := 0) hB e_C_requireLeg_1 ic_0 ?_
  refine a_aload_n (j := 0) hB e_C_requireLeg_2 rfl rfl ?_
  refine a_getR (r := 15) (k := 7) hB e_C_requireLeg_3 fl_C_39 (sf_lt hF (by decide)) kk_0 tt_0_7 (hF.1 _ _) ?_
  refine a_getI (k := 9) hB e_C_requireLeg_6 fl_C_115 (sf_lt hF (by decide)) kk_15 tt_15_9 ?_
  refine a_iconst (v := 1) hB e_C_requireLeg_9 ic_1 ?_
  refine a_isub hB e_C_requireLeg_10 ?_
  obtain ⟨r11, hr11, h⟩ := bn_i h
  refine a_ret (v := (some (.int r11))) (M1 := M) (φ1 := φ) (st1 := [.int r11]) (j1 := 0) (j2 := 0) (ar_S (As := [.int l1, .int (0 : Int32), .int ((M 15 9) - (1 : Int32))]) (rest := []) hB (c_C_isBetween (bf_G hB) hF hr11) ml_C_100 md_C_isBetween rfl rfl (Nat.le_of_ble_eq_true rfl) rm_C_requireLeg_C_isBetween e_C_requireLeg_11) rfl rfl rfl ?_
  refine a_if_ne (tgt := 28) hB e_C_requireLeg_14 (by decide) (fun c => ?_) (fun c => ?_)
  · have h := iq c h
    cases h
    exact a_vret hB rfl e_C_requireLeg_28 (by decide) (by decide)
  · have h := ip c h
    cases h
    exact a_throwSW (E := "java/lang/IndexOutOfBoundsException") (i := 19) hB (by decide) cl_C_336 ini_3 rfl at_C_340 rfl e_C_requireLeg_17 e_C_requireLeg_20 e_C_requireLeg_21 e_C_requireLeg_24 e_C_requireLeg_27 (by decide) (by decide) (by decide) (by decide)
set_option maxRecDepth 100000 in
theorem c_C_requireLeg {G : Gt} (hG : GOK G) {φ : Ph} (hF : SF 134 φ)   {M : Mm} {l1 : Int32} {o : Nat ⊕ Unit} (h : f_C_requireLeg M l1 = some o) : CT G I_C_requireLeg [.ref 0, .int l1] M φ (oSv o) M (pS o φ) :=
  ct_of hG (by decide) (Nat.le_of_ble_eq_true rfl) (fun B hB => t_C_requireLeg hB hF  h)
set_option maxRecDepth 100000 in
theorem t_C_dropPin {G : Gt} {φ : Ph} {B : Bag} (hB : BF G I_C_dropPin B) (hF : SF 134 φ)    {o : Nat ⊕ Int32} {M9 : Mm} {l1 : Int32} {M : Mm} (h : f_C_dropPin l1 M = some (o, M9)) : AW G I_C_dropPin B (QM G I_C_dropPin B (oSi o) M9 (pS o φ)) 0 0 0 [(0, .ref 0), (1, .int l1)] [] M φ := by
  unfold f_C_dropPin at h
  refine a_aload_n (j := 0) hB e_C_dropPin_0 rfl rfl ?_
  refine a_iload_n (j := 1) hB e_C_dropPin_1 rfl rfl ?_
  rcases bti_i h with ⟨e2, hr2, rfl, hz⟩ | ⟨r2, hr2, h⟩
  · obtain rfl := hz.symm
    exact a_thr (E := exS e2) (M1 := M) (φ1 := dirt φ) hB (ar_V (As := [.int l1]) (rest := []) hB (c_C_requireLeg (bf_G hB) hF hr2) ml_C_163 md_C_requireLeg rc_C_requireLeg (sf_lt hF (by decide)) kk_0 rfl rfl (Nat.le_of_ble_eq_true rfl) rm_C_dropPin_C_requireLeg e_C_dropPin_2) rfl (by decide) (by decide)
  · refine a_ret (v := none) (M1 := M) (φ1 := φ) (st1 := []) (j1 := 1) (j2 := 6) (ar_V (As := [.int l1]) (rest := []) hB (c_C_requireLeg (bf_G hB) hF hr2) ml_C_163 md_C_requireLeg rc_C_requireLeg (sf_lt hF (by decide)) kk_0 rfl rfl (Nat.le_of_ble_eq_true rfl) rm_C_dropPin_C_requireLeg e_C_dropPin_2) rfl rfl rfl ?_
    refine a_aload_n (j := 0) hB e_C_dropPin_5 rfl rfl ?_
    refine a_getR (r := 15) (k := 7) hB e_C_dropPin_6 fl_C_39 (sf_lt hF (by decide)) kk_0 tt_0_7 (hF.1 _ _) ?_
    refine a_iload_n (j := 1) hB e_C_dropPin_9 rfl rfl ?_
    obtain ⟨r10, hr10, h⟩ := bn_i h
    refine a_ret (v := (some (.int r10))) (M1 := M) (φ1 := φ) (st1 := [.int r10]) (j1 := 1) (j2 := 6) (ar_V (As := [.int l1]) (rest := []) hB (c_S_canDrop (bf_G hB) hF sv_15 hr10) ml_C_166 md_S_canDrop rc_S_canDrop (sf_lt hF (by decide)) kk_15 rfl rfl (Nat.le_of_ble_eq_true rfl) rm_C_dropPin_S_canDrop_1_6 e_C_dropPin_10) rfl rfl rfl ?_
    refine a_if_ne (tgt := 26) hB e_C_dropPin_13 (by decide) (fun c => ?_) (fun c => ?_)
    · have h := iq c h
      refine a_aload_n (j := 0) hB e_C_dropPin_26 rfl rfl ?_
      obtain ⟨M27, hr27, h⟩ := bn_i h
      refine a_ret (v := none) (M1 := M27) (φ1 := φ) (st1 := []) (j1 := 1) (j2 := 6) (ar_V (As := []) (rest := []) hB (c_C_remember (bf_G hB) hF hr27) ml_C_130 md_C_remember rc_C_remember (sf_lt hF (by decide)) kk_0 rfl rfl (Nat.le_of_ble_eq_true rfl) rm_C_dropPin_C_remember_1_6 e_C_dropPin_27) rfl rfl rfl ?_
      refine a_aload_n (j := 0) hB e_C_dropPin_30 rfl rfl ?_
      refine a_getR (r := 15) (k := 7) hB e_C_dropPin_31 fl_C_39 (sf_lt hF (by decide)) kk_0 tt_0_7 (hF.1 _ _) ?_
      refine a_getR (r := 22) (k := 6) hB e_C_dropPin_34 fl_C_171 (sf_lt hF (by decide)) kk_15 tt_15_6 (hF.1 _ _) ?_
      refine a_iload_n (j := 1) hB e_C_dropPin_37 rfl rfl ?_
      refine a_dup2 hB e_C_dropPin_38 rfl rfl ?_
      obtain ⟨c39, h⟩ := chk_i h
      refine a_iald' hB e_C_dropPin_39 (sf_lt hF (by decide)) kk_22 ll_22 c39 ?_
      refine a_iconst (v := 1) hB e_C_dropPin_40 ic_1 ?_
      refine a_iadd hB e_C_dropPin_41 ?_
      obtain ⟨M42, hM42, h⟩ := bm_i h
      refine a_iast' hB e_C_dropPin_42 (sf_lt hF (by decide)) kk_22 ll_22 c39 ?_
      refine a_mem hM42 ?_
      refine a_aload_n (j := 0) hB e_C_dropPin_43 rfl rfl ?_
      refine a_getR (r := 15) (k := 7) hB e_C_dropPin_44 fl_C_39 (sf_lt hF (by decide)) kk_0 tt_0_7 (hF.1 _ _) ?_
      refine a_getR (r := 22) (k := 6) hB e_C_dropPin_47 fl_C_171 (sf_lt hF (by decide)) kk_15 tt_15_6 (hF.1 _ _) ?_
      refine a_iload_n (j := 1) hB e_C_dropPin_50 rfl rfl ?_
      refine a_iald' hB e_C_dropPin_51 (sf_lt hF (by decide)) kk_22 ll_22 c39 ?_
      cases h
      exact a_iret hB rfl e_C_dropPin_52 (by decide) (by decide)
    · have h := ip c h
      cases h
      exact a_throwS (E := "java/lang/IllegalStateException") (i := 20) hB (by decide) cl_C_152 ini_2 rfl at_C_156 rfl e_C_dropPin_16 e_C_dropPin_19 e_C_dropPin_20 e_C_dropPin_22 e_C_dropPin_25 (by decide) (by decide) (by decide) (by decide)
set_option maxRecDepth 100000 in
theorem c_C_dropPin {G : Gt} (hG : GOK G) {φ : Ph} (hF : SF 134 φ)   {M : Mm} {l1 : Int32} {o : Nat ⊕ Int32} {M9 : Mm} (h : f_C_dropPin l1 M = some (o, M9)) : CT G I_C_dropPin [.ref 0, .int l1] M φ (oSi o) M9 (pS o φ) :=
  ct_of hG (by decide) (Nat.le_of_ble_eq_true rfl) (fun B hB => t_C_dropPin hB hF  h)
set_option maxRecDepth 100000 in
theorem t_C_findPin {G : Gt} {φ : Ph} {B : Bag} (hB : BF G I_C_findPin B) (hF : SF 134 φ)    {o : Nat ⊕ Int32} {M9 : Mm} {l1 : Int32} {M : Mm} (h : f_C_findPin l1 M = some (o, M9)) : AW G I_C_findPin B (QM G I_C_findPin B (oSi o) M9 (pS o φ)) 0 0 0 [(0, .ref 0), (1, .int l1)] [] M φ := by
  unfold f_C_findPin at h
  refine a_aload_n (j := 0) hB e_C_findPin_0 rfl rfl ?_
  refine a_iload_n (j := 1) hB e_C_findPin_1 rfl rfl ?_
  rcases bti_i h with ⟨e2, hr2, rfl, hz⟩ | ⟨r2, hr2, h⟩
  · obtain rfl := hz.symm
    exact a_thr (E := exS e2) (M1 := M) (φ1 := dirt φ) hB (ar_V (As := [.int l1]) (rest := []) hB (c_C_requireLeg (bf_G hB) hF hr2) ml_C_163 md_C_requireLeg rc_C_requireLeg (sf_lt hF (by decide)) kk_0 rfl rfl (Nat.le_of_ble_eq_true rfl) rm_C_findPin_C_requireLeg e_C_findPin_2) rfl (by decide) (by decide)
  · refine a_ret (v := none) (M1 := M) (φ1 := φ) (st1 := []) (j1 := 1) (j2 := 6) (ar_V (As := [.int l1]) (rest := []) hB (c_C_requireLeg (bf_G hB) hF hr2) ml_C_163 md_C_requireLeg rc_C_requireLeg (sf_lt hF (by decide)) kk_0 rfl rfl (Nat.le_of_ble_eq_true rfl) rm_C_findPin_C_requireLeg e_C_findPin_2) rfl rfl rfl ?_
    refine a_aload_n (j := 0) hB e_C_findPin_5 rfl rfl ?_
    refine a_getR (r := 15) (k := 7) hB e_C_findPin_6 fl_C_39 (sf_lt hF (by decide)) kk_0 tt_0_7 (hF.1 _ _) ?_
    refine a_iload_n (j := 1) hB e_C_findPin_9 rfl rfl ?_
    obtain ⟨r10, hr10, h⟩ := bn_i h
    refine a_ret (v := (some (.int r10))) (M1 := M) (φ1 := φ) (st1 := [.int r10]) (j1 := 1) (j2 := 6) (ar_V (As := [.int l1]) (rest := []) hB (c_S_canFind (bf_G hB) hF sv_15 hr10) ml_C_175 md_S_canFind rc_S_canFind (sf_lt hF (by decide)) kk_15 rfl rfl (Nat.le_of_ble_eq_true rfl) rm_C_findPin_S_canFind_1_6 e_C_findPin_10) rfl rfl rfl ?_
    refine a_if_ne (tgt := 26) hB e_C_findPin_13 (by decide) (fun c => ?_) (fun c => ?_)
    · have h := iq c h
      refine a_aload_n (j := 0) hB e_C_findPin_26 rfl rfl ?_
      obtain ⟨M27, hr27, h⟩ := bn_i h
      refine a_ret (v := none) (M1 := M27) (φ1 := φ) (st1 := []) (j1 := 1) (j2 := 6) (ar_V (As := []) (rest := []) hB (c_C_remember (bf_G hB) hF hr27) ml_C_130 md_C_remember rc_C_remember (sf_lt hF (by decide)) kk_0 rfl rfl (Nat.le_of_ble_eq_true rfl) rm_C_findPin_C_remember_1_6 e_C_findPin_27) rfl rfl rfl ?_
      refine a_aload_n (j := 0) hB e_C_findPin_30 rfl rfl ?_
      refine a_getR (r := 15) (k := 7) hB e_C_findPin_31 fl_C_39 (sf_lt hF (by decide)) kk_0 tt_0_7 (hF.1 _ _) ?_
      refine a_getR (r := 22) (k := 6) hB e_C_findPin_34 fl_C_171 (sf_lt hF (by decide)) kk_15 tt_15_6 (hF.1 _ _) ?_
      refine a_iload_n (j := 1) hB e_C_findPin_37 rfl rfl ?_
      refine a_dup2 hB e_C_findPin_38 rfl rfl ?_
      obtain ⟨c39, h⟩ := chk_i h
      refine a_iald' hB e_C_findPin_39 (sf_lt hF (by decide)) kk_22 ll_22 c39 ?_
      refine a_iconst (v := 1) hB e_C_findPin_40 ic_1 ?_
      refine a_isub hB e_C_findPin_41 ?_
      obtain ⟨M42, hM42, h⟩ := bm_i h
      refine a_iast' hB e_C_findPin_42 (sf_lt hF (by decide)) kk_22 ll_22 c39 ?_
      refine a_mem hM42 ?_
      refine a_aload_n (j := 0) hB e_C_findPin_43 rfl rfl ?_
      refine a_getR (r := 15) (k := 7) hB e_C_findPin_44 fl_C_39 (sf_lt hF (by decide)) kk_0 tt_0_7 (hF.1 _ _) ?_
      refine a_getR (r := 22) (k := 6) hB e_C_findPin_47 fl_C_171 (sf_lt hF (by decide)) kk_15 tt_15_6 (hF.1 _ _) ?_
      refine a_iload_n (j := 1) hB e_C_findPin_50 rfl rfl ?_
      refine a_iald' hB e_C_findPin_51 (sf_lt hF (by decide)) kk_22 ll_22 c39 ?_
      cases h
      exact a_iret hB rfl e_C_findPin_52 (by decide) (by decide)
    · have h := ip c h
      cases h
      exact a_throwS (E := "java/lang/IllegalStateException") (i := 21) hB (by decide) cl_C_152 ini_2 rfl at_C_156 rfl e_C_findPin_16 e_C_findPin_19 e_C_findPin_20 e_C_findPin_22 e_C_findPin_25 (by decide) (by decide) (by decide) (by decide)
set_option maxRecDepth 100000 in
theorem c_C_findPin {G : Gt} (hG : GOK G) {φ : Ph} (hF : SF 134 φ)   {M : Mm} {l1 : Int32} {o : Nat ⊕ Int32} {M9 : Mm} (h : f_C_findPin l1 M = some (o, M9)) : CT G I_C_findPin [.ref 0, .int l1] M φ (oSi o) M9 (pS o φ) :=
  ct_of hG (by decide) (Nat.le_of_ble_eq_true rfl) (fun B hB => t_C_findPin hB hF  h)
set_option maxRecDepth 100000 in
theorem t_C_removeLast {G : Gt} {φ : Ph} {B : Bag} (hB : BF G I_C_removeLast B) (hF : SF 134 φ)    {o : Nat ⊕ Int32} {M9 : Mm}  {M : Mm} (h : f_C_removeLast M = some (o, M9)) : AW G I_C_removeLast B (QM G I_C_removeLast B (oSi o) M9 (pS o φ)) 0 0 0 [(0, .ref 0)] [] M φ := by
  unfold f_C_removeLast at h
  refine a_aload_n (j := 0) hB e_C_removeLast_0 rfl rfl ?_
  refine a_getR (r := 15) (k := 7) hB e_C_removeLast_1 fl_C_39 (sf_lt hF (by decide)) kk_0 tt_0_7 (hF.1 _ _) ?_
  refine a_getI (k := 9) hB e_C_removeLast_4 fl_C_115 (sf_lt hF (by decide)) kk_15 tt_15_9 ?_
  refine a_if_ne (tgt := 20) hB e_C_removeLast_7 (by decide) (fun c => ?_) (fun c => ?_)
  · have h := iq c h
    refine a_aload_n (j := 0) hB e_C_removeLast_20 rfl rfl ?_
    obtain ⟨M21, hr21, h⟩ := bn_i h
    refine a_ret (v := none) (M1 := M21) (φ1 := φ) (st1 := []) (j1 := 0) (j2 := 0) (ar_V (As := []) (rest := []) hB (c_C_remember (bf_G hB) hF hr21) ml_C_130 md_C_remember rc_C_remember (sf_lt hF (by decide)) kk_0 rfl rfl (Nat.le_of_ble_eq_true rfl) rm_C_removeLast_C_remember e_C_removeLast_21) rfl rfl rfl ?_
    refine a_aload_n (j := 0) hB e_C_removeLast_24 rfl rfl ?_
    refine a_getR (r := 15) (k := 7) hB e_C_removeLast_25 fl_C_39 (sf_lt hF (by decide)) kk_0 tt_0_7 (hF.1 _ _) ?_
    refine a_dup hB e_C_removeLast_28 rfl ?_
    refine a_getI (k := 9) hB e_C_removeLast_29 fl_C_115 (sf_lt hF (by decide)) kk_15 tt_15_9 ?_
    refine a_iconst (v := 1) hB e_C_removeLast_32 ic_1 ?_
    refine a_isub hB e_C_removeLast_33 ?_
    obtain ⟨M34, hM34, h⟩ := bm_i h
    refine a_putI (k := 9) hB e_C_removeLast_34 fw_C_115 (sf_lt hF (by decide)) kk_15 tt_15_9 ?_
    refine a_mem hM34 ?_
    refine a_aload_n (j := 0) hB e_C_removeLast_37 rfl rfl ?_
    refine a_getR (r := 15) (k := 7) hB e_C_removeLast_38 fl_C_39 (sf_lt hF (by decide)) kk_0 tt_0_7 (hF.1 _ _) ?_
    refine a_getI (k := 9) hB e_C_removeLast_41 fl_C_115 (sf_lt hF (by decide)) kk_15 tt_15_9 ?_
    cases h
    exact a_iret hB rfl e_C_removeLast_44 (by decide) (by decide)
  · have h := ip c h
    cases h
    exact a_throwS (E := "java/lang/IllegalStateException") (i := 22) hB (by decide) cl_C_152 ini_2 rfl at_C_156 rfl e_C_removeLast_10 e_C_removeLast_13 e_C_removeLast_14 e_C_removeLast_16 e_C_removeLast_19 (by decide) (by decide) (by decide) (by decide)
set_option maxRecDepth 100000 in
theorem c_C_removeLast {G : Gt} (hG : GOK G) {φ : Ph} (hF : SF 134 φ)   {M : Mm}  {o : Nat ⊕ Int32} {M9 : Mm} (h : f_C_removeLast M = some (o, M9)) : CT G I_C_removeLast [.ref 0] M φ (oSi o) M9 (pS o φ) :=
  ct_of hG (by decide) (Nat.le_of_ble_eq_true rfl) (fun B hB => t_C_removeLast hB hF  h)
set_option maxRecDepth 100000 in
theorem t_C_setWear {G : Gt} {φ : Ph} {B : Bag} (hB : BF G I_C_setWear B) (hF : SF 134 φ)    {o : Nat ⊕ Int32} {M9 : Mm} {l1 : Int32} {M : Mm} (h : f_C_setWear l1 M = some (o, M9)) : AW G I_C_setWear B (QM G I_C_setWear B (oSi o) M9 (pS o φ)) 0 0 0 [(0, .ref 0), (1, .int l1)] [] M φ := by
  unfold f_C_setWear at h
  refine a_iload_n (j := 1) hB e_C_setWear_0 rfl rfl ?_
  refine a_iconst (v := 0) hB e_C_setWear_1 ic_0 ?_
  refine a_sipush (v := 999) hB e_C_setWear_2 sp_999 ?_
  obtain ⟨r5, hr5, h⟩ := bn_i h
  refine a_ret (v := (some (.int r5))) (M1 := M) (φ1 := φ) (st1 := [.int r5]) (j1 := 0) (j2 := 0) (ar_S (As := [.int l1, .int (0 : Int32), .int (999 : Int32)]) (rest := []) hB (c_C_isBetween (bf_G hB) hF hr5) ml_C_100 md_C_isBetween rfl rfl (Nat.le_of_ble_eq_true rfl) rm_C_setWear_C_isBetween e_C_setWear_5) rfl rfl rfl ?_
  refine a_if_ne (tgt := 21) hB e_C_setWear_8 (by decide) (fun c => ?_) (fun c => ?_)
  · have h := iq c h
    refine a_aload_n (j := 0) hB e_C_setWear_21 rfl rfl ?_
    refine a_getR (r := 15) (k := 7) hB e_C_setWear_22 fl_C_39 (sf_lt hF (by decide)) kk_0 tt_0_7 (hF.1 _ _) ?_
    refine a_getI (k := 10) hB e_C_setWear_25 fl_C_184 (sf_lt hF (by decide)) kk_15 tt_15_10 ?_
    refine a_istore_n (ls' := [(2, .int (M 15 10)), (0, .ref 0), (1, .int l1)]) hB e_C_setWear_28 rfl (Nat.le_of_ble_eq_true rfl) rfl ?_
    refine a_aload_n (j := 1) hB e_C_setWear_29 rfl rfl ?_
    obtain ⟨M30, hr30, h⟩ := bn_i h
    refine a_ret (v := none) (M1 := M30) (φ1 := φ) (st1 := []) (j1 := 0) (j2 := 0) (ar_V (As := []) (rest := []) hB (c_C_remember (bf_G hB) hF hr30) ml_C_130 md_C_remember rc_C_remember (sf_lt hF (by decide)) kk_0 rfl rfl (Nat.le_of_ble_eq_true rfl) rm_C_setWear_C_remember e_C_setWear_30) rfl rfl rfl ?_
    refine a_aload_n (j := 1) hB e_C_setWear_33 rfl rfl ?_
    refine a_getR (r := 15) (k := 7) hB e_C_setWear_34 fl_C_39 (sf_lt hF (by decide)) kk_0 tt_0_7 (hF.1 _ _) ?_
    refine a_iload_n (j := 2) hB e_C_setWear_37 rfl rfl ?_
    obtain ⟨M38, hM38, h⟩ := bm_i h
    refine a_putI (k := 10) hB e_C_setWear_38 fw_C_184 (sf_lt hF (by decide)) kk_15 tt_15_10 ?_
    refine a_mem hM38 ?_
    refine a_iload_n (j := 0) hB e_C_setWear_41 rfl rfl ?_
    cases h
    exact a_iret hB rfl e_C_setWear_42 (by decide) (by decide)
  · have h := ip c h
    cases h
    exact a_throwS (E := "java/lang/IllegalArgumentException") (i := 23) hB (by decide) cl_C_104 ini_1 rfl at_C_108 rfl e_C_setWear_11 e_C_setWear_14 e_C_setWear_15 e_C_setWear_17 e_C_setWear_20 (by decide) (by decide) (by decide) (by decide)
set_option maxRecDepth 100000 in
theorem c_C_setWear {G : Gt} (hG : GOK G) {φ : Ph} (hF : SF 134 φ)   {M : Mm} {l1 : Int32} {o : Nat ⊕ Int32} {M9 : Mm} (h : f_C_setWear l1 M = some (o, M9)) : CT G I_C_setWear [.ref 0, .int l1] M φ (oSi o) M9 (pS o φ) :=
  ct_of hG (by decide) (Nat.le_of_ble_eq_true rfl) (fun B hB => t_C_setWear hB hF  h)
set_option maxRecDepth 100000 in
theorem t_C_setPace {G : Gt} {φ : Ph} {B : Bag} (hB : BF G I_C_setPace B) (hF : SF 134 φ)    {o : Nat ⊕ Int32} {M9 : Mm} {l1 : Int32} {M : Mm} (h : f_C_setPace l1 M = some (o, M9)) : AW G I_C_setPace B (QM G I_C_setPace B (oSi o) M9 (pS o φ)) 0 0 0 [(0, .ref 0), (1, .int l1)] [] M φ := by
  unfold f_C_setPace at h
  refine a_iload_n (j := 1) hB e_C_setPace_0 rfl rfl ?_
  refine a_bipush (v := 100) hB e_C_setPace_1 bp_100 ?_
  refine a_sipush (v := 999) hB e_C_setPace_3 sp_999 ?_
  obtain ⟨r6, hr6, h⟩ := bn_i h
  refine a_ret (v := (some (.int r6))) (M1 := M) (φ1 := φ) (st1 := [.int r6]) (j1 := 0) (j2 := 0) (ar_S (As := [.int l1, .int (100 : Int32), .int (999 : Int32)]) (rest := []) hB (c_C_isBetween (bf_G hB) hF hr6) ml_C_100 md_C_isBetween rfl rfl (Nat.le_of_ble_eq_true rfl) rm_C_setPace_C_isBetween e_C_setPace_6) rfl rfl rfl ?_
  refine a_if_ne (tgt := 22) hB e_C_setPace_9 (by decide) (fun c => ?_) (fun c => ?_)
  · have h := iq c h
    refine a_aload_n (j := 0) hB e_C_setPace_22 rfl rfl ?_
    refine a_getR (r := 15) (k := 7) hB e_C_setPace_23 fl_C_39 (sf_lt hF (by decide)) kk_0 tt_0_7 (hF.1 _ _) ?_
    refine a_getI (k := 11) hB e_C_setPace_26 fl_C_189 (sf_lt hF (by decide)) kk_15 tt_15_11 ?_
    refine a_istore_n (ls' := [(2, .int (M 15 11)), (0, .ref 0), (1, .int l1)]) hB e_C_setPace_29 rfl (Nat.le_of_ble_eq_true rfl) rfl ?_
    refine a_aload_n (j := 1) hB e_C_setPace_30 rfl rfl ?_
    obtain ⟨M31, hr31, h⟩ := bn_i h
    refine a_ret (v := none) (M1 := M31) (φ1 := φ) (st1 := []) (j1 := 0) (j2 := 0) (ar_V (As := []) (rest := []) hB (c_C_remember (bf_G hB) hF hr31) ml_C_130 md_C_remember rc_C_remember (sf_lt hF (by decide)) kk_0 rfl rfl (Nat.le_of_ble_eq_true rfl) rm_C_setPace_C_remember e_C_setPace_31) rfl rfl rfl ?_
    refine a_aload_n (j := 1) hB e_C_setPace_34 rfl rfl ?_
    refine a_getR (r := 15) (k := 7) hB e_C_setPace_35 fl_C_39 (sf_lt hF (by decide)) kk_0 tt_0_7 (hF.1 _ _) ?_
    refine a_iload_n (j := 2) hB e_C_setPace_38 rfl rfl ?_
    obtain ⟨M39, hM39, h⟩ := bm_i h
    refine a_putI (k := 11) hB e_C_setPace_39 fw_C_189 (sf_lt hF (by decide)) kk_15 tt_15_11 ?_
    refine a_mem hM39 ?_
    refine a_iload_n (j := 0) hB e_C_setPace_42 rfl rfl ?_
    cases h
    exact a_iret hB rfl e_C_setPace_43 (by decide) (by decide)
  · have h := ip c h
    cases h
    exact a_throwS (E := "java/lang/IllegalArgumentException") (i := 24) hB (by decide) cl_C_104 ini_1 rfl at_C_108 rfl e_C_setPace_12 e_C_setPace_15 e_C_setPace_16 e_C_setPace_18 e_C_setPace_21 (by decide) (by decide) (by decide) (by decide)
set_option maxRecDepth 100000 in
theorem c_C_setPace {G : Gt} (hG : GOK G) {φ : Ph} (hF : SF 134 φ)   {M : Mm} {l1 : Int32} {o : Nat ⊕ Int32} {M9 : Mm} (h : f_C_setPace l1 M = some (o, M9)) : CT G I_C_setPace [.ref 0, .int l1] M φ (oSi o) M9 (pS o φ) :=
  ct_of hG (by decide) (Nat.le_of_ble_eq_true rfl) (fun B hB => t_C_setPace hB hF  h)
set_option maxRecDepth 100000 in
theorem t_C_setAdjusted {G : Gt} {φ : Ph} {B : Bag} (hB : BF G I_C_setAdjusted B) (hF : SF 134 φ)    {o : Int32} {M9 : Mm} {l1 : Int32} {M : Mm} (h : f_C_setAdjusted l1 M = some (o, M9)) : AW G I_C_setAdjusted B (QM G I_C_setAdjusted B (.inl (some (.int o))) M9 φ) 0 0 0 [(0, .ref 0), (1, .int l1)] [] M φ := by
  unfold f_C_setAdjusted at h
  refine a_aload_n (j := 0) hB e_C_setAdjusted_0 rfl rfl ?_
  refine a_getR (r := 15) (k := 7) hB e_C_setAdjusted_1 fl_C_39 (sf_lt hF (by decide)) kk_0 tt_0_7 (hF.1 _ _) ?_
  refine a_getI (k := 12) hB e_C_setAdjusted_4 fl_C_192 (sf_lt hF (by decide)) kk_15 tt_15_12 ?_
  refine a_istore_n (ls' := [(2, .int (M 15 12)), (0, .ref 0), (1, .int l1)]) hB e_C_setAdjusted_7 rfl (Nat.le_of_ble_eq_true rfl) rfl ?_
  refine a_aload_n (j := 1) hB e_C_setAdjusted_8 rfl rfl ?_
  obtain ⟨M9, hr9, h⟩ := bn_i h
  refine a_ret (v := none) (M1 := M9) (φ1 := φ) (st1 := []) (j1 := 0) (j2 := 0) (ar_V (As := []) (rest := []) hB (c_C_remember (bf_G hB) hF hr9) ml_C_130 md_C_remember rc_C_remember (sf_lt hF (by decide)) kk_0 rfl rfl (Nat.le_of_ble_eq_true rfl) rm_C_setAdjusted_C_remember e_C_setAdjusted_9) rfl rfl rfl ?_
  refine a_aload_n (j := 1) hB e_C_setAdjusted_12 rfl rfl ?_
  refine a_getR (r := 15) (k := 7) hB e_C_setAdjusted_13 fl_C_39 (sf_lt hF (by decide)) kk_0 tt_0_7 (hF.1 _ _) ?_
  refine a_iload_n (j := 2) hB e_C_setAdjusted_16 rfl rfl ?_
  obtain ⟨z17, h⟩ := chk_i h
  obtain ⟨M17, hM17, h⟩ := bm_i h
  refine a_putZ (k := 12) hB e_C_setAdjusted_17 fw_C_192 (sf_lt hF (by decide)) kk_15 tt_15_12 z17 ?_
  refine a_mem hM17 ?_
  refine a_iload_n (j := 0) hB e_C_setAdjusted_20 rfl rfl ?_
  obtain ⟨z21, h⟩ := chk_i h
  cases h
  exact a_zret hB rfl z21 e_C_setAdjusted_21 (by decide) (by decide)
set_option maxRecDepth 100000 in
theorem c_C_setAdjusted {G : Gt} (hG : GOK G) {φ : Ph} (hF : SF 134 φ)   {M : Mm} {l1 : Int32} {o : Int32} {M9 : Mm} (h : f_C_setAdjusted l1 M = some (o, M9)) : CT G I_C_setAdjusted [.ref 0, .int l1] M φ (.inl (some (.int o))) M9 φ :=
  ct_of hG (by decide) (Nat.le_of_ble_eq_true rfl) (fun B hB => t_C_setAdjusted hB hF  h)
set_option maxRecDepth 100000 in
theorem t_C_undo_36 {G : Gt} {φ : Ph} {B : Bag} (hB : BF G I_C_undo B) (hF : SF 134 φ)    {o : Nat ⊕ Int32} {M9 : Mm} {t1 : Int32} {M : Mm} (h : f_C_undo_36 t1 M = some (o, M9)) : AW G I_C_undo B (QM G I_C_undo B (oSi o) M9 (pS o φ)) 0 0 36 [(0, .ref 0)] [.int t1, .ref 0] M φ := by
  unfold f_C_undo_36 at h
  obtain ⟨M36, hM36, h⟩ := bm_i h
  refine a_putI (k := 11) hB e_C_undo_36 fw_C_201 (sf_lt hF (by decide)) kk_0 tt_0_11 ?_
  refine a_mem hM36 ?_
  refine a_aload_n (j := 0) hB e_C_undo_39 rfl rfl ?_
  refine a_dup hB e_C_undo_40 rfl ?_
  refine a_getI (k := 12) hB e_C_undo_41 fl_C_196 (sf_lt hF (by decide)) kk_0 tt_0_12 ?_
  refine a_iconst (v := 1) hB e_C_undo_44 ic_1 ?_
  refine a_isub hB e_C_undo_45 ?_
  obtain ⟨M46, hM46, h⟩ := bm_i h
  refine a_putI (k := 12) hB e_C_undo_46 fw_C_196 (sf_lt hF (by decide)) kk_0 tt_0_12 ?_
  refine a_mem hM46 ?_
  refine a_aload_n (j := 0) hB e_C_undo_49 rfl rfl ?_
  refine a_getR (r := 15) (k := 7) hB e_C_undo_50 fl_C_39 (sf_lt hF (by decide)) kk_0 tt_0_7 (hF.1 _ _) ?_
  refine a_aload_n (j := 0) hB e_C_undo_53 rfl rfl ?_
  refine a_getR (r := 31) (k := 10) hB e_C_undo_54 fl_C_56 (sf_lt hF (by decide)) kk_0 tt_0_10 (hF.1 _ _) ?_
  refine a_aload_n (j := 0) hB e_C_undo_57 rfl rfl ?_
  refine a_getI (k := 11) hB e_C_undo_58 fl_C_201 (sf_lt hF (by decide)) kk_0 tt_0_11 ?_
  obtain ⟨c61, h⟩ := chk_i h
  refine a_aald' (r := 34 + 10 * ix (M46 0 11)) hB e_C_undo_61 (sf_lt hF (by decide)) kk_31 ll_31 c61 (hF.1 _ _) (tg_past c61) ?_
  obtain ⟨M62, hr62, h⟩ := bn_i h
  refine a_ret (v := none) (M1 := M62) (φ1 := φ) (st1 := []) (j1 := 0) (j2 := 0) (ar_V (As := [.ref (34 + 10 * ix (M46 0 11))]) (rest := []) hB (c_S_copyFrom (bf_G hB) hF sv_15 (sv_past c61) hr62) ml_C_90 md_S_copyFrom rc_S_copyFrom (sf_lt hF (by decide)) kk_15 rfl rfl (Nat.le_of_ble_eq_true rfl) rm_C_undo_S_copyFrom e_C_undo_62) rfl rfl rfl ?_
  refine a_aload_n (j := 0) hB e_C_undo_65 rfl rfl ?_
  refine a_getI (k := 12) hB e_C_undo_66 fl_C_196 (sf_lt hF (by decide)) kk_0 tt_0_12 ?_
  cases h
  exact a_iret hB rfl e_C_undo_69 (by decide) (by decide)
set_option maxRecDepth 100000 in
theorem t_C_undo {G : Gt} {φ : Ph} {B : Bag} (hB : BF G I_C_undo B) (hF : SF 134 φ)    {o : Nat ⊕ Int32} {M9 : Mm}  {M : Mm} (h : f_C_undo M = some (o, M9)) : AW G I_C_undo B (QM G I_C_undo B (oSi o) M9 (pS o φ)) 0 0 0 [(0, .ref 0)] [] M φ := by
  unfold f_C_undo at h
  refine a_aload_n (j := 0) hB e_C_undo_0 rfl rfl ?_
  refine a_getI (k := 12) hB e_C_undo_1 fl_C_196 (sf_lt hF (by decide)) kk_0 tt_0_12 ?_
  refine a_if_ne (tgt := 17) hB e_C_undo_4 (by decide) (fun c => ?_) (fun c => ?_)
  · have h := iq c h
    refine a_aload_n (j := 0) hB e_C_undo_17 rfl rfl ?_
    refine a_aload_n (j := 0) hB e_C_undo_18 rfl rfl ?_
    refine a_getI (k := 11) hB e_C_undo_19 fl_C_201 (sf_lt hF (by decide)) kk_0 tt_0_11 ?_
    refine a_if_ne (tgt := 30) hB e_C_undo_22 (by decide) (fun c => ?_) (fun c => ?_)
    · have h := iq c h
      refine a_aload_n (j := 0) hB e_C_undo_30 rfl rfl ?_
      refine a_getI (k := 11) hB e_C_undo_31 fl_C_201 (sf_lt hF (by decide)) kk_0 tt_0_11 ?_
      refine a_iconst (v := 1) hB e_C_undo_34 ic_1 ?_
      refine a_isub hB e_C_undo_35 ?_
      exact t_C_undo_36 hB hF h
    · have h := ip c h
      refine a_bipush (v := 7) hB e_C_undo_25 bp_7 ?_
      refine a_goto (tgt := 36) hB e_C_undo_27 (by decide) ?_
      exact t_C_undo_36 hB hF h
  · have h := ip c h
    cases h
    exact a_throwS (E := "java/lang/IllegalStateException") (i := 25) hB (by decide) cl_C_152 ini_2 rfl at_C_156 rfl e_C_undo_7 e_C_undo_10 e_C_undo_11 e_C_undo_13 e_C_undo_16 (by decide) (by decide) (by decide) (by decide)
set_option maxRecDepth 100000 in
theorem c_C_undo {G : Gt} (hG : GOK G) {φ : Ph} (hF : SF 134 φ)   {M : Mm}  {o : Nat ⊕ Int32} {M9 : Mm} (h : f_C_undo M = some (o, M9)) : CT G I_C_undo [.ref 0] M φ (oSi o) M9 (pS o φ) :=
  ct_of hG (by decide) (Nat.le_of_ble_eq_true rfl) (fun B hB => t_C_undo hB hF  h)
set_option maxRecDepth 100000 in
theorem t_C_legCount {G : Gt} {φ : Ph} {B : Bag} (hB : BF G I_C_legCount B) (hF : SF 134 φ)   {M : Mm} {o : Int32}   (h : f_C_legCount M = some o) : AW G I_C_legCount B (QM G I_C_legCount B (.inl (some (.int o))) M φ) 0 0 0 [(0, .ref 0)] [] M φ := by
  unfold f_C_legCount at h
  refine a_aload_n (j := 0) hB e_C_legCount_0 rfl rfl ?_
  refine a_getR (r := 15) (k := 7) hB e_C_legCount_1 fl_C_39 (sf_lt hF (by decide)) kk_0 tt_0_7 (hF.1 _ _) ?_
  refine a_getI (k := 9) hB e_C_legCount_4 fl_C_115 (sf_lt hF (by decide)) kk_15 tt_15_9 ?_
  cases h
  exact a_iret hB rfl e_C_legCount_7 (by decide) (by decide)
set_option maxRecDepth 100000 in
theorem c_C_legCount {G : Gt} (hG : GOK G) {φ : Ph} (hF : SF 134 φ)   {M : Mm}  {o : Int32} (h : f_C_legCount M = some o) : CT G I_C_legCount [.ref 0] M φ (.inl (some (.int o))) M φ :=
  ct_of hG (by decide) (Nat.le_of_ble_eq_true rfl) (fun B hB => t_C_legCount hB hF  h)
set_option maxRecDepth 100000 in
theorem t_C_stationCount {G : Gt} {φ : Ph} {B : Bag} (hB : BF G I_C_stationCount B) (hF : SF 134 φ)   {M : Mm} {o : Int32}   (h : f_C_stationCount M = some o) : AW G I_C_stationCount B (QM G I_C_stationCount B (.inl (some (.int o))) M φ) 0 0 0 [(0, .ref 0)] [] M φ := by
  unfold f_C_stationCount at h
  refine a_aload_n (j := 0) hB e_C_stationCount_0 rfl rfl ?_
  refine a_getR (r := 15) (k := 7) hB e_C_stationCount_1 fl_C_39 (sf_lt hF (by decide)) kk_0 tt_0_7 (hF.1 _ _) ?_
  refine a_getI (k := 9) hB e_C_stationCount_4 fl_C_115 (sf_lt hF (by decide)) kk_15 tt_15_9 ?_
  refine a_iconst (v := 1) hB e_C_stationCount_7 ic_1 ?_
  refine a_iadd hB e_C_stationCount_8 ?_
  cases h
  exact a_iret hB rfl e_C_stationCount_9 (by decide) (by decide)
set_option maxRecDepth 100000 in
theorem c_C_stationCount {G : Gt} (hG : GOK G) {φ : Ph} (hF : SF 134 φ)   {M : Mm}  {o : Int32} (h : f_C_stationCount M = some o) : CT G I_C_stationCount [.ref 0] M φ (.inl (some (.int o))) M φ :=
  ct_of hG (by decide) (Nat.le_of_ble_eq_true rfl) (fun B hB => t_C_stationCount hB hF  h)
set_option maxRecDepth 100000 in
theorem t_C_wear {G : Gt} {φ : Ph} {B : Bag} (hB : BF G I_C_wear B) (hF : SF 134 φ)   {M : Mm} {o : Int32}   (h : f_C_wear M = some o) : AW G I_C_wear B (QM G I_C_wear B (.inl (some (.int o))) M φ) 0 0 0 [(0, .ref 0)] [] M φ := by
  unfold f_C_wear at h
  refine a_aload_n (j := 0) hB e_C_wear_0 rfl rfl ?_
  refine a_getR (r := 15) (k := 7) hB e_C_wear_1 fl_C_39 (sf_lt hF (by decide)) kk_0 tt_0_7 (hF.1 _ _) ?_
  refine a_getI (k := 10) hB e_C_wear_4 fl_C_184 (sf_lt hF (by decide)) kk_15 tt_15_10 ?_
  cases h
  exact a_iret hB rfl e_C_wear_7 (by decide) (by decide)
set_option maxRecDepth 100000 in
theorem c_C_wear {G : Gt} (hG : GOK G) {φ : Ph} (hF : SF 134 φ)   {M : Mm}  {o : Int32} (h : f_C_wear M = some o) : CT G I_C_wear [.ref 0] M φ (.inl (some (.int o))) M φ :=
  ct_of hG (by decide) (Nat.le_of_ble_eq_true rfl) (fun B hB => t_C_wear hB hF  h)
set_option maxRecDepth 100000 in
theorem t_C_pace {G : Gt} {φ : Ph} {B : Bag} (hB : BF G I_C_pace B) (hF : SF 134 φ)   {M : Mm} {o : Int32}   (h : f_C_pace M = some o) : AW G I_C_pace B (QM G I_C_pace B (.inl (some (.int o))) M φ) 0 0 0 [(0, .ref 0)] [] M φ := by
  unfold f_C_pace at h
  refine a_aload_n (j := 0) hB e_C_pace_0 rfl rfl ?_
  refine a_getR (r := 15) (k := 7) hB e_C_pace_1 fl_C_39 (sf_lt hF (by decide)) kk_0 tt_0_7 (hF.1 _ _) ?_
  refine a_getI (k := 11) hB e_C_pace_4 fl_C_189 (sf_lt hF (by decide)) kk_15 tt_15_11 ?_
  cases h
  exact a_iret hB rfl e_C_pace_7 (by decide) (by decide)
set_option maxRecDepth 100000 in
theorem c_C_pace {G : Gt} (hG : GOK G) {φ : Ph} (hF : SF 134 φ)   {M : Mm}  {o : Int32} (h : f_C_pace M = some o) : CT G I_C_pace [.ref 0] M φ (.inl (some (.int o))) M φ :=
  ct_of hG (by decide) (Nat.le_of_ble_eq_true rfl) (fun B hB => t_C_pace hB hF  h)
set_option maxRecDepth 100000 in
theorem t_C_undoableChanges {G : Gt} {φ : Ph} {B : Bag} (hB : BF G I_C_undoableChanges B) (hF : SF 134 φ)   {M : Mm} {o : Int32}   (h : f_C_undoableChanges M = some o) : AW G I_C_undoableChanges B (QM G I_C_undoableChanges B (.inl (some (.int o))) M φ) 0 0 0 [(0, .ref 0)] [] M φ := by
  unfold f_C_undoableChanges at h
  refine a_aload_n (j := 0) hB e_C_undoableChanges_0 rfl rfl ?_
  refine a_getI (k := 12) hB e_C_undoableChanges_1 fl_C_196 (sf_lt hF (by decide)) kk_0 tt_0_12 ?_
  cases h
  exact a_iret hB rfl e_C_undoableChanges_4 (by decide) (by decide)
set_option maxRecDepth 100000 in
theorem c_C_undoableChanges {G : Gt} (hG : GOK G) {φ : Ph} (hF : SF 134 φ)   {M : Mm}  {o : Int32} (h : f_C_undoableChanges M = some o) : CT G I_C_undoableChanges [.ref 0] M φ (.inl (some (.int o))) M φ :=
  ct_of hG (by decide) (Nat.le_of_ble_eq_true rfl) (fun B hB => t_C_undoableChanges hB hF  h)
set_option maxRecDepth 100000 in
theorem t_C_isAdjusted {G : Gt} {φ : Ph} {B : Bag} (hB : BF G I_C_isAdjusted B) (hF : SF 134 φ)   {M : Mm} {o : Int32}   (h : f_C_isAdjusted M = some o) : AW G I_C_isAdjusted B (QM G I_C_isAdjusted B (.inl (some (.int o))) M φ) 0 0 0 [(0, .ref 0)] [] M φ := by
  unfold f_C_isAdjusted at h
  refine a_aload_n (j := 0) hB e_C_isAdjusted_0 rfl rfl ?_
  refine a_getR (r := 15) (k := 7) hB e_C_isAdjusted_1 fl_C_39 (sf_lt hF (by decide)) kk_0 tt_0_7 (hF.1 _ _) ?_
  refine a_getI (k := 12) hB e_C_isAdjusted_4 fl_C_192 (sf_lt hF (by decide)) kk_15 tt_15_12 ?_
  obtain ⟨z7, h⟩ := chk_i h
  cases h
  exact a_zret hB rfl z7 e_C_isAdjusted_7 (by decide) (by decide)
set_option maxRecDepth 100000 in
theorem c_C_isAdjusted {G : Gt} (hG : GOK G) {φ : Ph} (hF : SF 134 φ)   {M : Mm}  {o : Int32} (h : f_C_isAdjusted M = some o) : CT G I_C_isAdjusted [.ref 0] M φ (.inl (some (.int o))) M φ :=
  ct_of hG (by decide) (Nat.le_of_ble_eq_true rfl) (fun B hB => t_C_isAdjusted hB hF  h)
set_option maxRecDepth 100000 in
theorem t_C_bearing {G : Gt} {φ : Ph} {B : Bag} (hB : BF G I_C_bearing B) (hF : SF 134 φ)   {M : Mm} {o : Nat ⊕ Int32} {l1 : Int32}  (h : f_C_bearing M l1 = some o) : AW G I_C_bearing B (QM G I_C_bearing B (oSi o) M (pS o φ)) 0 0 0 [(0, .ref 0), (1, .int l1)] [] M φ := by
  unfold f_C_bearing at h
  refine a_aload_n (j := 0) hB e_C_bearing_0 rfl rfl ?_
  refine a_iload_n (j := 1) hB e_C_bearing_1 rfl rfl ?_
  rcases bt_i h with ⟨e2, hr2, rfl⟩ | ⟨r2, hr2, h⟩
  · exact a_thr (E := exS e2) (M1 := M) (φ1 := dirt φ) hB (ar_V (As := [.int l1]) (rest := []) hB (c_C_requireLeg (bf_G hB) hF hr2) ml_C_163 md_C_requireLeg rc_C_requireLeg (sf_lt hF (by decide)) kk_0 rfl rfl (Nat.le_of_ble_eq_true rfl) rm_C_bearing_C_requireLeg e_C_bearing_2) rfl (by decide) (by decide)
  · refine a_ret (v := none) (M1 := M) (φ1 := φ) (st1 := []) (j1 := 1) (j2 := 6) (ar_V (As := [.int l1]) (rest := []) hB (c_C_requireLeg (bf_G hB) hF hr2) ml_C_163 md_C_requireLeg rc_C_requireLeg (sf_lt hF (by decide)) kk_0 rfl rfl (Nat.le_of_ble_eq_true rfl) rm_C_bearing_C_requireLeg e_C_bearing_2) rfl rfl rfl ?_
    refine a_aload_n (j := 0) hB e_C_bearing_5 rfl rfl ?_
    refine a_getR (r := 15) (k := 7) hB e_C_bearing_6 fl_C_39 (sf_lt hF (by decide)) kk_0 tt_0_7 (hF.1 _ _) ?_
    refine a_getR (r := 17) (k := 1) hB e_C_bearing_9 fl_C_215 (sf_lt hF (by decide)) kk_15 tt_15_1 (hF.1 _ _) ?_
    refine a_iload_n (j := 1) hB e_C_bearing_12 rfl rfl ?_
    obtain ⟨c13, h⟩ := chk_i h
    refine a_iald' hB e_C_bearing_13 (sf_lt hF (by decide)) kk_17 ll_17 c13 ?_
    cases h
    exact a_iret hB rfl e_C_bearing_14 (by decide) (by decide)
set_option maxRecDepth 100000 in
theorem c_C_bearing {G : Gt} (hG : GOK G) {φ : Ph} (hF : SF 134 φ)   {M : Mm} {l1 : Int32} {o : Nat ⊕ Int32} (h : f_C_bearing M l1 = some o) : CT G I_C_bearing [.ref 0, .int l1] M φ (oSi o) M (pS o φ) :=
  ct_of hG (by decide) (Nat.le_of_ble_eq_true rfl) (fun B hB => t_C_bearing hB hF  h)
set_option maxRecDepth 100000 in
theorem t_C_pins {G : Gt} {φ : Ph} {B : Bag} (hB : BF G I_C_pins B) (hF : SF 134 φ)   {M : Mm} {o : Nat ⊕ Int32} {l1 : Int32}  (h : f_C_pins M l1 = some o) : AW G I_C_pins B (QM G I_C_pins B (oSi o) M (pS o φ)) 0 0 0 [(0, .ref 0), (1, .int l1)] [] M φ := by
  unfold f_C_pins at h
  refine a_aload_n (j := 0) hB e_C_pins_0 rfl rfl ?_
  refine a_iload_n (j := 1) hB e_C_pins_1 rfl rfl ?_
  rcases bt_i h with ⟨e2, hr2, rfl⟩ | ⟨r2, hr2, h⟩
  · exact a_thr (E := exS e2) (M1 := M) (φ1 := dirt φ) hB (ar_V (As := [.int l1]) (rest := []) hB (c_C_requireLeg (bf_G hB) hF hr2) ml_C_163 md_C_requireLeg rc_C_requireLeg (sf_lt hF (by decide)) kk_0 rfl rfl (Nat.le_of_ble_eq_true rfl) rm_C_pins_C_requireLeg e_C_pins_2) rfl (by decide) (by decide)
  · refine a_ret (v := none) (M1 := M) (φ1 := φ) (st1 := []) (j1 := 1) (j2 := 6) (ar_V (As := [.int l1]) (rest := []) hB (c_C_requireLeg (bf_G hB) hF hr2) ml_C_163 md_C_requireLeg rc_C_requireLeg (sf_lt hF (by decide)) kk_0 rfl rfl (Nat.le_of_ble_eq_true rfl) rm_C_pins_C_requireLeg e_C_pins_2) rfl rfl rfl ?_
    refine a_aload_n (j := 0) hB e_C_pins_5 rfl rfl ?_
    refine a_getR (r := 15) (k := 7) hB e_C_pins_6 fl_C_39 (sf_lt hF (by decide)) kk_0 tt_0_7 (hF.1 _ _) ?_
    refine a_getR (r := 20) (k := 4) hB e_C_pins_9 fl_C_218 (sf_lt hF (by decide)) kk_15 tt_15_4 (hF.1 _ _) ?_
    refine a_iload_n (j := 1) hB e_C_pins_12 rfl rfl ?_
    obtain ⟨c13, h⟩ := chk_i h
    refine a_iald' hB e_C_pins_13 (sf_lt hF (by decide)) kk_20 ll_20 c13 ?_
    cases h
    exact a_iret hB rfl e_C_pins_14 (by decide) (by decide)
set_option maxRecDepth 100000 in
theorem c_C_pins {G : Gt} (hG : GOK G) {φ : Ph} (hF : SF 134 φ)   {M : Mm} {l1 : Int32} {o : Nat ⊕ Int32} (h : f_C_pins M l1 = some o) : CT G I_C_pins [.ref 0, .int l1] M φ (oSi o) M (pS o φ) :=
  ct_of hG (by decide) (Nat.le_of_ble_eq_true rfl) (fun B hB => t_C_pins hB hF  h)
set_option maxRecDepth 100000 in
theorem t_C_droppedPins {G : Gt} {φ : Ph} {B : Bag} (hB : BF G I_C_droppedPins B) (hF : SF 134 φ)   {M : Mm} {o : Nat ⊕ Int32} {l1 : Int32}  (h : f_C_droppedPins M l1 = some o) : AW G I_C_droppedPins B (QM G I_C_droppedPins B (oSi o) M (pS o φ)) 0 0 0 [(0, .ref 0), (1, .int l1)] [] M φ := by
  unfold f_C_droppedPins at h
  refine a_aload_n (j := 0) hB e_C_droppedPins_0 rfl rfl ?_
  refine a_iload_n (j := 1) hB e_C_droppedPins_1 rfl rfl ?_
  rcases bt_i h with ⟨e2, hr2, rfl⟩ | ⟨r2, hr2, h⟩
  · exact a_thr (E := exS e2) (M1 := M) (φ1 := dirt φ) hB (ar_V (As := [.int l1]) (rest := []) hB (c_C_requireLeg (bf_G hB) hF hr2) ml_C_163 md_C_requireLeg rc_C_requireLeg (sf_lt hF (by decide)) kk_0 rfl rfl (Nat.le_of_ble_eq_true rfl) rm_C_droppedPins_C_requireLeg e_C_droppedPins_2) rfl (by decide) (by decide)
  · refine a_ret (v := none) (M1 := M) (φ1 := φ) (st1 := []) (j1 := 1) (j2 := 6) (ar_V (As := [.int l1]) (rest := []) hB (c_C_requireLeg (bf_G hB) hF hr2) ml_C_163 md_C_requireLeg rc_C_requireLeg (sf_lt hF (by decide)) kk_0 rfl rfl (Nat.le_of_ble_eq_true rfl) rm_C_droppedPins_C_requireLeg e_C_droppedPins_2) rfl rfl rfl ?_
    refine a_aload_n (j := 0) hB e_C_droppedPins_5 rfl rfl ?_
    refine a_getR (r := 15) (k := 7) hB e_C_droppedPins_6 fl_C_39 (sf_lt hF (by decide)) kk_0 tt_0_7 (hF.1 _ _) ?_
    refine a_getR (r := 22) (k := 6) hB e_C_droppedPins_9 fl_C_171 (sf_lt hF (by decide)) kk_15 tt_15_6 (hF.1 _ _) ?_
    refine a_iload_n (j := 1) hB e_C_droppedPins_12 rfl rfl ?_
    obtain ⟨c13, h⟩ := chk_i h
    refine a_iald' hB e_C_droppedPins_13 (sf_lt hF (by decide)) kk_22 ll_22 c13 ?_
    cases h
    exact a_iret hB rfl e_C_droppedPins_14 (by decide) (by decide)
set_option maxRecDepth 100000 in
theorem c_C_droppedPins {G : Gt} (hG : GOK G) {φ : Ph} (hF : SF 134 φ)   {M : Mm} {l1 : Int32} {o : Nat ⊕ Int32} (h : f_C_droppedPins M l1 = some o) : CT G I_C_droppedPins [.ref 0, .int l1] M φ (oSi o) M (pS o φ) :=
  ct_of hG (by decide) (Nat.le_of_ble_eq_true rfl) (fun B hB => t_C_droppedPins hB hF  h)
set_option maxRecDepth 100000 in
theorem t_C_readLength {G : Gt} {φ : Ph} {B : Bag} (hB : BF G I_C_readLength B) (hF : SF 134 φ)   {M : Mm} {o : Nat ⊕ Int32} {l1 : Int32}  (h : f_C_readLength M l1 = some o) : AW G I_C_readLength B (QM G I_C_readLength B (oSi o) M (pS o φ)) 0 0 0 [(0, .ref 0), (1, .int l1)] [] M φ := by
  unfold f_C_readLength at h
  refine a_aload_n (j := 0) hB e_C_readLength_0 rfl rfl ?_
  refine a_iload_n (j := 1) hB e_C_readLength_1 rfl rfl ?_
  rcases bt_i h with ⟨e2, hr2, rfl⟩ | ⟨r2, hr2, h⟩
  · exact a_thr (E := exS e2) (M1 := M) (φ1 := dirt φ) hB (ar_V (As := [.int l1]) (rest := []) hB (c_C_requireLeg (bf_G hB) hF hr2) ml_C_163 md_C_requireLeg rc_C_requireLeg (sf_lt hF (by decide)) kk_0 rfl rfl (Nat.le_of_ble_eq_true rfl) rm_C_readLength_C_requireLeg e_C_readLength_2) rfl (by decide) (by decide)
  · refine a_ret (v := none) (M1 := M) (φ1 := φ) (st1 := []) (j1 := 1) (j2 := 6) (ar_V (As := [.int l1]) (rest := []) hB (c_C_requireLeg (bf_G hB) hF hr2) ml_C_163 md_C_requireLeg rc_C_requireLeg (sf_lt hF (by decide)) kk_0 rfl rfl (Nat.le_of_ble_eq_true rfl) rm_C_readLength_C_requireLeg e_C_readLength_2) rfl rfl rfl ?_
    refine a_aload_n (j := 0) hB e_C_readLength_5 rfl rfl ?_
    refine a_getR (r := 15) (k := 7) hB e_C_readLength_6 fl_C_39 (sf_lt hF (by decide)) kk_0 tt_0_7 (hF.1 _ _) ?_
    refine a_iload_n (j := 1) hB e_C_readLength_9 rfl rfl ?_
    obtain ⟨r10, hr10, h⟩ := bn_i h
    refine a_ret (v := (some (.int r10))) (M1 := M) (φ1 := φ) (st1 := [.int r10]) (j1 := 1) (j2 := 6) (ar_V (As := [.int l1]) (rest := []) hB (c_S_readUnits (bf_G hB) hF sv_15 hr10) ml_C_221 md_S_readUnits rc_S_readUnits (sf_lt hF (by decide)) kk_15 rfl rfl (Nat.le_of_ble_eq_true rfl) rm_C_readLength_S_readUnits_1_6 e_C_readLength_10) rfl rfl rfl ?_
    cases h
    exact a_iret hB rfl e_C_readLength_13 (by decide) (by decide)
set_option maxRecDepth 100000 in
theorem c_C_readLength {G : Gt} (hG : GOK G) {φ : Ph} (hF : SF 134 φ)   {M : Mm} {l1 : Int32} {o : Nat ⊕ Int32} (h : f_C_readLength M l1 = some o) : CT G I_C_readLength [.ref 0, .int l1] M φ (oSi o) M (pS o φ) :=
  ct_of hG (by decide) (Nat.le_of_ble_eq_true rfl) (fun B hB => t_C_readLength hB hF  h)
set_option maxRecDepth 100000 in
theorem t_C_slopeLength {G : Gt} {φ : Ph} {B : Bag} (hB : BF G I_C_slopeLength B) (hF : SF 134 φ)   {M : Mm} {o : Nat ⊕ Int32} {l1 : Int32}  (h : f_C_slopeLength M l1 = some o) : AW G I_C_slopeLength B (QM G I_C_slopeLength B (oSi o) M (pS o φ)) 0 0 0 [(0, .ref 0), (1, .int l1)] [] M φ := by
  unfold f_C_slopeLength at h
  refine a_aload_n (j := 0) hB e_C_slopeLength_0 rfl rfl ?_
  refine a_iload_n (j := 1) hB e_C_slopeLength_1 rfl rfl ?_
  rcases bt_i h with ⟨e2, hr2, rfl⟩ | ⟨r2, hr2, h⟩
  · exact a_thr (E := exS e2) (M1 := M) (φ1 := dirt φ) hB (ar_V (As := [.int l1]) (rest := []) hB (c_C_requireLeg (bf_G hB) hF hr2) ml_C_163 md_C_requireLeg rc_C_requireLeg (sf_lt hF (by decide)) kk_0 rfl rfl (Nat.le_of_ble_eq_true rfl) rm_C_slopeLength_C_requireLeg e_C_slopeLength_2) rfl (by decide) (by decide)
  · refine a_ret (v := none) (M1 := M) (φ1 := φ) (st1 := []) (j1 := 1) (j2 := 6) (ar_V (As := [.int l1]) (rest := []) hB (c_C_requireLeg (bf_G hB) hF hr2) ml_C_163 md_C_requireLeg rc_C_requireLeg (sf_lt hF (by decide)) kk_0 rfl rfl (Nat.le_of_ble_eq_true rfl) rm_C_slopeLength_C_requireLeg e_C_slopeLength_2) rfl rfl rfl ?_
    refine a_aload_n (j := 0) hB e_C_slopeLength_5 rfl rfl ?_
    refine a_getR (r := 15) (k := 7) hB e_C_slopeLength_6 fl_C_39 (sf_lt hF (by decide)) kk_0 tt_0_7 (hF.1 _ _) ?_
    refine a_iload_n (j := 1) hB e_C_slopeLength_9 rfl rfl ?_
    obtain ⟨r10, hr10, h⟩ := bn_i h
    refine a_ret (v := (some (.int r10))) (M1 := M) (φ1 := φ) (st1 := [.int r10]) (j1 := 1) (j2 := 6) (ar_V (As := [.int l1]) (rest := []) hB (c_S_slopeUnits (bf_G hB) hF sv_15 hr10) ml_C_224 md_S_slopeUnits rc_S_slopeUnits (sf_lt hF (by decide)) kk_15 rfl rfl (Nat.le_of_ble_eq_true rfl) rm_C_slopeLength_S_slopeUnits_1_6 e_C_slopeLength_10) rfl rfl rfl ?_
    cases h
    exact a_iret hB rfl e_C_slopeLength_13 (by decide) (by decide)
set_option maxRecDepth 100000 in
theorem c_C_slopeLength {G : Gt} (hG : GOK G) {φ : Ph} (hF : SF 134 φ)   {M : Mm} {l1 : Int32} {o : Nat ⊕ Int32} (h : f_C_slopeLength M l1 = some o) : CT G I_C_slopeLength [.ref 0, .int l1] M φ (oSi o) M (pS o φ) :=
  ct_of hG (by decide) (Nat.le_of_ble_eq_true rfl) (fun B hB => t_C_slopeLength hB hF  h)
set_option maxRecDepth 100000 in
theorem t_C_horizontalLength {G : Gt} {φ : Ph} {B : Bag} (hB : BF G I_C_horizontalLength B) (hF : SF 134 φ)   {M : Mm} {o : Nat ⊕ Int32} {l1 : Int32}  (h : f_C_horizontalLength M l1 = some o) : AW G I_C_horizontalLength B (QM G I_C_horizontalLength B (oSi o) M (pS o φ)) 0 0 0 [(0, .ref 0), (1, .int l1)] [] M φ := by
  unfold f_C_horizontalLength at h
  refine a_aload_n (j := 0) hB e_C_horizontalLength_0 rfl rfl ?_
  refine a_iload_n (j := 1) hB e_C_horizontalLength_1 rfl rfl ?_
  rcases bt_i h with ⟨e2, hr2, rfl⟩ | ⟨r2, hr2, h⟩
  · exact a_thr (E := exS e2) (M1 := M) (φ1 := dirt φ) hB (ar_V (As := [.int l1]) (rest := []) hB (c_C_requireLeg (bf_G hB) hF hr2) ml_C_163 md_C_requireLeg rc_C_requireLeg (sf_lt hF (by decide)) kk_0 rfl rfl (Nat.le_of_ble_eq_true rfl) rm_C_horizontalLength_C_requireLeg e_C_horizontalLength_2) rfl (by decide) (by decide)
  · refine a_ret (v := none) (M1 := M) (φ1 := φ) (st1 := []) (j1 := 1) (j2 := 6) (ar_V (As := [.int l1]) (rest := []) hB (c_C_requireLeg (bf_G hB) hF hr2) ml_C_163 md_C_requireLeg rc_C_requireLeg (sf_lt hF (by decide)) kk_0 rfl rfl (Nat.le_of_ble_eq_true rfl) rm_C_horizontalLength_C_requireLeg e_C_horizontalLength_2) rfl rfl rfl ?_
    refine a_aload_n (j := 0) hB e_C_horizontalLength_5 rfl rfl ?_
    refine a_getR (r := 15) (k := 7) hB e_C_horizontalLength_6 fl_C_39 (sf_lt hF (by decide)) kk_0 tt_0_7 (hF.1 _ _) ?_
    refine a_iload_n (j := 1) hB e_C_horizontalLength_9 rfl rfl ?_
    obtain ⟨r10, hr10, h⟩ := bn_i h
    refine a_ret (v := (some (.int r10))) (M1 := M) (φ1 := φ) (st1 := [.int r10]) (j1 := 1) (j2 := 6) (ar_V (As := [.int l1]) (rest := []) hB (c_S_horizontalUnits (bf_G hB) hF sv_15 hr10) ml_C_227 md_S_horizontalUnits rc_S_horizontalUnits (sf_lt hF (by decide)) kk_15 rfl rfl (Nat.le_of_ble_eq_true rfl) rm_C_horizontalLength_S_horizontalUnits_1_6 e_C_horizontalLength_10) rfl rfl rfl ?_
    cases h
    exact a_iret hB rfl e_C_horizontalLength_13 (by decide) (by decide)
set_option maxRecDepth 100000 in
theorem c_C_horizontalLength {G : Gt} (hG : GOK G) {φ : Ph} (hF : SF 134 φ)   {M : Mm} {l1 : Int32} {o : Nat ⊕ Int32} (h : f_C_horizontalLength M l1 = some o) : CT G I_C_horizontalLength [.ref 0, .int l1] M φ (oSi o) M (pS o φ) :=
  ct_of hG (by decide) (Nat.le_of_ble_eq_true rfl) (fun B hB => t_C_horizontalLength hB hF  h)
set_option maxRecDepth 100000 in
theorem t_C_eastStep {G : Gt} {φ : Ph} {B : Bag} (hB : BF G I_C_eastStep B) (hF : SF 134 φ)   {M : Mm} {o : Nat ⊕ Int32} {l1 : Int32}  (h : f_C_eastStep M l1 = some o) : AW G I_C_eastStep B (QM G I_C_eastStep B (oSi o) M (pS o φ)) 0 0 0 [(0, .ref 0), (1, .int l1)] [] M φ := by
  unfold f_C_eastStep at h
  refine a_aload_n (j := 0) hB e_C_eastStep_0 rfl rfl ?_
  refine a_iload_n (j := 1) hB e_C_eastStep_1 rfl rfl ?_
  rcases bt_i h with ⟨e2, hr2, rfl⟩ | ⟨r2, hr2, h⟩
  · exact a_thr (E := exS e2) (M1 := M) (φ1 := dirt φ) hB (ar_V (As := [.int l1]) (rest := []) hB (c_C_requireLeg (bf_G hB) hF hr2) ml_C_163 md_C_requireLeg rc_C_requireLeg (sf_lt hF (by decide)) kk_0 rfl rfl (Nat.le_of_ble_eq_true rfl) rm_C_eastStep_C_requireLeg e_C_eastStep_2) rfl (by decide) (by decide)
  · refine a_ret (v := none) (M1 := M) (φ1 := φ) (st1 := []) (j1 := 1) (j2 := 6) (ar_V (As := [.int l1]) (rest := []) hB (c_C_requireLeg (bf_G hB) hF hr2) ml_C_163 md_C_requireLeg rc_C_requireLeg (sf_lt hF (by decide)) kk_0 rfl rfl (Nat.le_of_ble_eq_true rfl) rm_C_eastStep_C_requireLeg e_C_eastStep_2) rfl rfl rfl ?_
    refine a_aload_n (j := 0) hB e_C_eastStep_5 rfl rfl ?_
    refine a_getR (r := 15) (k := 7) hB e_C_eastStep_6 fl_C_39 (sf_lt hF (by decide)) kk_0 tt_0_7 (hF.1 _ _) ?_
    refine a_iload_n (j := 1) hB e_C_eastStep_9 rfl rfl ?_
    obtain ⟨r10, hr10, h⟩ := bn_i h
    refine a_ret (v := (some (.int r10))) (M1 := M) (φ1 := φ) (st1 := [.int r10]) (j1 := 1) (j2 := 6) (ar_V (As := [.int l1]) (rest := []) hB (c_S_horizontalUnits (bf_G hB) hF sv_15 hr10) ml_C_227 md_S_horizontalUnits rc_S_horizontalUnits (sf_lt hF (by decide)) kk_15 rfl rfl (Nat.le_of_ble_eq_true rfl) rm_C_eastStep_S_horizontalUnits_1_6 e_C_eastStep_10) rfl rfl rfl ?_
    refine a_aload_n (j := 0) hB e_C_eastStep_13 rfl rfl ?_
    refine a_getR (r := 15) (k := 7) hB e_C_eastStep_14 fl_C_39 (sf_lt hF (by decide)) kk_0 tt_0_7 (hF.1 _ _) ?_
    refine a_getR (r := 17) (k := 1) hB e_C_eastStep_17 fl_C_215 (sf_lt hF (by decide)) kk_15 tt_15_1 (hF.1 _ _) ?_
    refine a_iload_n (j := 1) hB e_C_eastStep_20 rfl rfl ?_
    obtain ⟨c21, h⟩ := chk_i h
    refine a_iald' hB e_C_eastStep_21 (sf_lt hF (by decide)) kk_17 ll_17 c21 ?_
    obtain ⟨r22, hr22, h⟩ := bn_i h
    refine a_ret (v := (some (.int r22))) (M1 := M) (φ1 := φ) (st1 := [.int r22, .int r10]) (j1 := 1) (j2 := 6) (ar_S (As := [.int (M 17 (ix l1))]) (rest := [.int r10]) hB (c_C_sine (bf_G hB) hF hr22) ml_C_230 md_C_sine rfl rfl (Nat.le_of_ble_eq_true rfl) rm_C_eastStep_C_sine_1_6 e_C_eastStep_22) rfl rfl rfl ?_
    obtain ⟨r25, hr25, h⟩ := bn_i h
    refine a_ret (v := (some (.int r25))) (M1 := M) (φ1 := φ) (st1 := [.int r25]) (j1 := 1) (j2 := 6) (ar_S (As := [.int r10, .int r22]) (rest := []) hB (c_C_stepOf (bf_G hB) hF hr25) ml_C_233 md_C_stepOf rfl rfl (Nat.le_of_ble_eq_true rfl) rm_C_eastStep_C_stepOf_1_6 e_C_eastStep_25) rfl rfl rfl ?_
    cases h
    exact a_iret hB rfl e_C_eastStep_28 (by decide) (by decide)
set_option maxRecDepth 100000 in
theorem c_C_eastStep {G : Gt} (hG : GOK G) {φ : Ph} (hF : SF 134 φ)   {M : Mm} {l1 : Int32} {o : Nat ⊕ Int32} (h : f_C_eastStep M l1 = some o) : CT G I_C_eastStep [.ref 0, .int l1] M φ (oSi o) M (pS o φ) :=
  ct_of hG (by decide) (Nat.le_of_ble_eq_true rfl) (fun B hB => t_C_eastStep hB hF  h)
set_option maxRecDepth 100000 in
theorem t_C_northStep {G : Gt} {φ : Ph} {B : Bag} (hB : BF G I_C_northStep B) (hF : SF 134 φ)   {M : Mm} {o : Nat ⊕ Int32} {l1 : Int32}  (h : f_C_northStep M l1 = some o) : AW G I_C_northStep B (QM G I_C_northStep B (oSi o) M (pS o φ)) 0 0 0 [(0, .ref 0), (1, .int l1)] [] M φ := by
  unfold f_C_northStep at h
  refine a_aload_n (j := 0) hB e_C_northStep_0 rfl rfl ?_
  refine a_iload_n (j := 1) hB e_C_northStep_1 rfl rfl ?_
  rcases bt_i h with ⟨e2, hr2, rfl⟩ | ⟨r2, hr2, h⟩
  · exact a_thr (E := exS e2) (M1 := M) (φ1 := dirt φ) hB (ar_V (As := [.int l1]) (rest := []) hB (c_C_requireLeg (bf_G hB) hF hr2) ml_C_163 md_C_requireLeg rc_C_requireLeg (sf_lt hF (by decide)) kk_0 rfl rfl (Nat.le_of_ble_eq_true rfl) rm_C_northStep_C_requireLeg e_C_northStep_2) rfl (by decide) (by decide)
  · refine a_ret (v := none) (M1 := M) (φ1 := φ) (st1 := []) (j1 := 1) (j2 := 6) (ar_V (As := [.int l1]) (rest := []) hB (c_C_requireLeg (bf_G hB) hF hr2) ml_C_163 md_C_requireLeg rc_C_requireLeg (sf_lt hF (by decide)) kk_0 rfl rfl (Nat.le_of_ble_eq_true rfl) rm_C_northStep_C_requireLeg e_C_northStep_2) rfl rfl rfl ?_
    refine a_aload_n (j := 0) hB e_C_northStep_5 rfl rfl ?_
    refine a_getR (r := 15) (k := 7) hB e_C_northStep_6 fl_C_39 (sf_lt hF (by decide)) kk_0 tt_0_7 (hF.1 _ _) ?_
    refine a_iload_n (j := 1) hB e_C_northStep_9 rfl rfl ?_
    obtain ⟨r10, hr10, h⟩ := bn_i h
    refine a_ret (v := (some (.int r10))) (M1 := M) (φ1 := φ) (st1 := [.int r10]) (j1 := 1) (j2 := 6) (ar_V (As := [.int l1]) (rest := []) hB (c_S_horizontalUnits (bf_G hB) hF sv_15 hr10) ml_C_227 md_S_horizontalUnits rc_S_horizontalUnits (sf_lt hF (by decide)) kk_15 rfl rfl (Nat.le_of_ble_eq_true rfl) rm_C_northStep_S_horizontalUnits_1_6 e_C_northStep_10) rfl rfl rfl ?_
    refine a_aload_n (j := 0) hB e_C_northStep_13 rfl rfl ?_
    refine a_getR (r := 15) (k := 7) hB e_C_northStep_14 fl_C_39 (sf_lt hF (by decide)) kk_0 tt_0_7 (hF.1 _ _) ?_
    refine a_getR (r := 17) (k := 1) hB e_C_northStep_17 fl_C_215 (sf_lt hF (by decide)) kk_15 tt_15_1 (hF.1 _ _) ?_
    refine a_iload_n (j := 1) hB e_C_northStep_20 rfl rfl ?_
    obtain ⟨c21, h⟩ := chk_i h
    refine a_iald' hB e_C_northStep_21 (sf_lt hF (by decide)) kk_17 ll_17 c21 ?_
    obtain ⟨r22, hr22, h⟩ := bn_i h
    refine a_ret (v := (some (.int r22))) (M1 := M) (φ1 := φ) (st1 := [.int r22, .int r10]) (j1 := 1) (j2 := 6) (ar_S (As := [.int (M 17 (ix l1))]) (rest := [.int r10]) hB (c_C_cosine (bf_G hB) hF hr22) ml_C_236 md_C_cosine rfl rfl (Nat.le_of_ble_eq_true rfl) rm_C_northStep_C_cosine_1_6 e_C_northStep_22) rfl rfl rfl ?_
    obtain ⟨r25, hr25, h⟩ := bn_i h
    refine a_ret (v := (some (.int r25))) (M1 := M) (φ1 := φ) (st1 := [.int r25]) (j1 := 1) (j2 := 6) (ar_S (As := [.int r10, .int r22]) (rest := []) hB (c_C_stepOf (bf_G hB) hF hr25) ml_C_233 md_C_stepOf rfl rfl (Nat.le_of_ble_eq_true rfl) rm_C_northStep_C_stepOf_1_6 e_C_northStep_25) rfl rfl rfl ?_
    cases h
    exact a_iret hB rfl e_C_northStep_28 (by decide) (by decide)
set_option maxRecDepth 100000 in
theorem c_C_northStep {G : Gt} (hG : GOK G) {φ : Ph} (hF : SF 134 φ)   {M : Mm} {l1 : Int32} {o : Nat ⊕ Int32} (h : f_C_northStep M l1 = some o) : CT G I_C_northStep [.ref 0, .int l1] M φ (oSi o) M (pS o φ) :=
  ct_of hG (by decide) (Nat.le_of_ble_eq_true rfl) (fun B hB => t_C_northStep hB hF  h)
set_option maxRecDepth 100000 in
theorem t_C_tallies {G : Gt} {φ : Ph} {B : Bag} (hB : BF G I_C_tallies B) (hF : SF 134 φ)   {M : Mm} {o : Nat ⊕ Int32} {l1 : Int32}  (h : f_C_tallies M l1 = some o) : AW G I_C_tallies B (QM G I_C_tallies B (oSi o) M (pS o φ)) 0 0 0 [(0, .ref 0), (1, .int l1)] [] M φ := by
  unfold f_C_tallies at h
  refine a_aload_n (j := 0) hB e_C_tallies_0 rfl rfl ?_
  refine a_iload_n (j := 1) hB e_C_tallies_1 rfl rfl ?_
  rcases bt_i h with ⟨e2, hr2, rfl⟩ | ⟨r2, hr2, h⟩
  · exact a_thr (E := exS e2) (M1 := M) (φ1 := dirt φ) hB (ar_V (As := [.int l1]) (rest := []) hB (c_C_requireLeg (bf_G hB) hF hr2) ml_C_163 md_C_requireLeg rc_C_requireLeg (sf_lt hF (by decide)) kk_0 rfl rfl (Nat.le_of_ble_eq_true rfl) rm_C_tallies_C_requireLeg e_C_tallies_2) rfl (by decide) (by decide)
  · refine a_ret (v := none) (M1 := M) (φ1 := φ) (st1 := []) (j1 := 1) (j2 := 6) (ar_V (As := [.int l1]) (rest := []) hB (c_C_requireLeg (bf_G hB) hF hr2) ml_C_163 md_C_requireLeg rc_C_requireLeg (sf_lt hF (by decide)) kk_0 rfl rfl (Nat.le_of_ble_eq_true rfl) rm_C_tallies_C_requireLeg e_C_tallies_2) rfl rfl rfl ?_
    refine a_aload_n (j := 0) hB e_C_tallies_5 rfl rfl ?_
    refine a_getR (r := 15) (k := 7) hB e_C_tallies_6 fl_C_39 (sf_lt hF (by decide)) kk_0 tt_0_7 (hF.1 _ _) ?_
    refine a_getR (r := 20) (k := 4) hB e_C_tallies_9 fl_C_218 (sf_lt hF (by decide)) kk_15 tt_15_4 (hF.1 _ _) ?_
    refine a_iload_n (j := 1) hB e_C_tallies_12 rfl rfl ?_
    obtain ⟨c13, h⟩ := chk_i h
    refine a_iald' hB e_C_tallies_13 (sf_lt hF (by decide)) kk_20 ll_20 c13 ?_
    refine a_aload_n (j := 0) hB e_C_tallies_14 rfl rfl ?_
    refine a_getR (r := 15) (k := 7) hB e_C_tallies_15 fl_C_39 (sf_lt hF (by decide)) kk_0 tt_0_7 (hF.1 _ _) ?_
    refine a_getR (r := 22) (k := 6) hB e_C_tallies_18 fl_C_171 (sf_lt hF (by decide)) kk_15 tt_15_6 (hF.1 _ _) ?_
    refine a_iload_n (j := 1) hB e_C_tallies_21 rfl rfl ?_
    refine a_iald' hB e_C_tallies_22 (sf_lt hF (by decide)) kk_22 ll_22 c13 ?_
    refine a_iadd hB e_C_tallies_23 ?_
    refine a_bipush (v := 10) hB e_C_tallies_24 bp_10 ?_
    refine a_idiv hB e_C_tallies_26 (by decide) ?_
    cases h
    exact a_iret hB rfl e_C_tallies_27 (by decide) (by decide)
