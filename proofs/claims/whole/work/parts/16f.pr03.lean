/-! their proofs -/
set_option maxRecDepth 100000 in
theorem t_W_east {G : Gt} {φ : Ph} {B : Bag} (hB : BF G I_W_east B) (hF : SF 149 φ)    {o : Int32} {M9 : Mm} {ψ : Ph} (hψ : pK o φ = ψ) {l1 : Int32} {M : Mm} (h : f_W_east l1 M = some (o, M9)) : AW G I_W_east B (QM G I_W_east B (.inl (some (.int o))) M9 ψ) 0 0 0 [(0, .ref 0), (1, .int l1), (2, .ref 148)] [] M φ := by
  unfold f_W_east at h
  refine a_aload_n (j := 2) hB e_W_east_0 rfl rfl ?_
  refine a_iconst (v := 0) hB e_W_east_1 ic_0 ?_
  refine a_aload_n (j := 0) hB e_W_east_2 rfl rfl ?_
  refine a_iload_n (j := 1) hB e_W_east_3 rfl rfl ?_
  rcases bc2_i h with ⟨e4, M4, hr4, h⟩ | ⟨r4, M4, hr4, h⟩
  · rcases Decidable.em (e4 = 3) with q | q
    · have h := ip q h
      subst q
      refine a_catN (E := "java/lang/IndexOutOfBoundsException") (M1 := M4) (φ1 := dirt φ) (j1 := 1) (j2 := 6) (pc1 := 13) hB (ar_V (As := [.int l1]) (rest := [.int (0 : Int32), .ref 148]) hB (c_C_east (bf_G hB) (sf_m hF (by decide)) hr4) ml_W_92 md_C_east rc_C_east (sf_lt hF (by decide)) kk_0 rfl rfl (Nat.le_of_ble_eq_true rfl) rm_W_east_C_east e_W_east_4) rfl rfl [] ⟨0, 9, 12, 28⟩ [] rfl (fun z hz => nomatch hz) (by decide) (by decide) cl_W_28 ca_3 e_W_east_12 (by decide) rfl ?_
      refine a_iconst (v := 1) hB e_W_east_13 ic_1 ?_
      cases h
      have hψ := (pK_1 φ).symm.trans hψ
      subst hψ
      exact a_iret hB rfl e_W_east_14 (by decide) (by decide)
    · have h := iq q h
      cases h
  · refine a_ret (v := (some (.int r4))) (M1 := M4) (φ1 := φ) (st1 := [.int r4, .int (0 : Int32), .ref 148]) (j1 := 1) (j2 := 6) (ar_V (As := [.int l1]) (rest := [.int (0 : Int32), .ref 148]) hB (c_C_east (bf_G hB) (sf_m hF (by decide)) hr4) ml_W_92 md_C_east rc_C_east (sf_lt hF (by decide)) kk_0 rfl rfl (Nat.le_of_ble_eq_true rfl) rm_W_east_C_east e_W_east_4) rfl rfl rfl ?_
    refine a_i2l hB e_W_east_7 ?_
    obtain ⟨M8, hM8, h⟩ := bm_i h
    refine a_last hB e_W_east_8 (sf_lt hF (by decide)) kk_148 ll_148 (by decide) ?_
    refine a_mem hM8 ?_
    refine a_goto (tgt := 15) hB e_W_east_9 (by decide) ?_
    refine a_iconst (v := 0) hB e_W_east_15 ic_0 ?_
    cases h
    have hψ := (pK_0 φ).symm.trans hψ
    subst hψ
    exact a_iret hB rfl e_W_east_16 (by decide) (by decide)
set_option maxRecDepth 100000 in
theorem c_W_east {G : Gt} (hG : GOK G) {φ : Ph} (hF : SF 149 φ)   {M : Mm} {l1 : Int32} {o : Int32} {M9 : Mm} {ψ : Ph} (hψ : pK o φ = ψ) (h : f_W_east l1 M = some (o, M9)) : CT G I_W_east [.ref 0, .int l1, .ref 148] M φ (.inl (some (.int o))) M9 ψ :=
  ct_of hG (by decide) (Nat.le_of_ble_eq_true rfl) (fun B hB => t_W_east hB hF  hψ h)
set_option maxRecDepth 100000 in
theorem t_W_north {G : Gt} {φ : Ph} {B : Bag} (hB : BF G I_W_north B) (hF : SF 149 φ)    {o : Int32} {M9 : Mm} {ψ : Ph} (hψ : pK o φ = ψ) {l1 : Int32} {M : Mm} (h : f_W_north l1 M = some (o, M9)) : AW G I_W_north B (QM G I_W_north B (.inl (some (.int o))) M9 ψ) 0 0 0 [(0, .ref 0), (1, .int l1), (2, .ref 148)] [] M φ := by
  unfold f_W_north at h
  refine a_aload_n (j := 2) hB e_W_north_0 rfl rfl ?_
  refine a_iconst (v := 0) hB e_W_north_1 ic_0 ?_
  refine a_aload_n (j := 0) hB e_W_north_2 rfl rfl ?_
  refine a_iload_n (j := 1) hB e_W_north_3 rfl rfl ?_
  rcases bc2_i h with ⟨e4, M4, hr4, h⟩ | ⟨r4, M4, hr4, h⟩
  · rcases Decidable.em (e4 = 3) with q | q
    · have h := ip q h
      subst q
      refine a_catN (E := "java/lang/IndexOutOfBoundsException") (M1 := M4) (φ1 := dirt φ) (j1 := 1) (j2 := 6) (pc1 := 13) hB (ar_V (As := [.int l1]) (rest := [.int (0 : Int32), .ref 148]) hB (c_C_north (bf_G hB) (sf_m hF (by decide)) hr4) ml_W_95 md_C_north rc_C_north (sf_lt hF (by decide)) kk_0 rfl rfl (Nat.le_of_ble_eq_true rfl) rm_W_north_C_north e_W_north_4) rfl rfl [] ⟨0, 9, 12, 28⟩ [] rfl (fun z hz => nomatch hz) (by decide) (by decide) cl_W_28 ca_3 e_W_north_12 (by decide) rfl ?_
      refine a_iconst (v := 1) hB e_W_north_13 ic_1 ?_
      cases h
      have hψ := (pK_1 φ).symm.trans hψ
      subst hψ
      exact a_iret hB rfl e_W_north_14 (by decide) (by decide)
    · have h := iq q h
      cases h
  · refine a_ret (v := (some (.int r4))) (M1 := M4) (φ1 := φ) (st1 := [.int r4, .int (0 : Int32), .ref 148]) (j1 := 1) (j2 := 6) (ar_V (As := [.int l1]) (rest := [.int (0 : Int32), .ref 148]) hB (c_C_north (bf_G hB) (sf_m hF (by decide)) hr4) ml_W_95 md_C_north rc_C_north (sf_lt hF (by decide)) kk_0 rfl rfl (Nat.le_of_ble_eq_true rfl) rm_W_north_C_north e_W_north_4) rfl rfl rfl ?_
    refine a_i2l hB e_W_north_7 ?_
    obtain ⟨M8, hM8, h⟩ := bm_i h
    refine a_last hB e_W_north_8 (sf_lt hF (by decide)) kk_148 ll_148 (by decide) ?_
    refine a_mem hM8 ?_
    refine a_goto (tgt := 15) hB e_W_north_9 (by decide) ?_
    refine a_iconst (v := 0) hB e_W_north_15 ic_0 ?_
    cases h
    have hψ := (pK_0 φ).symm.trans hψ
    subst hψ
    exact a_iret hB rfl e_W_north_16 (by decide) (by decide)
set_option maxRecDepth 100000 in
theorem c_W_north {G : Gt} (hG : GOK G) {φ : Ph} (hF : SF 149 φ)   {M : Mm} {l1 : Int32} {o : Int32} {M9 : Mm} {ψ : Ph} (hψ : pK o φ = ψ) (h : f_W_north l1 M = some (o, M9)) : CT G I_W_north [.ref 0, .int l1, .ref 148] M φ (.inl (some (.int o))) M9 ψ :=
  ct_of hG (by decide) (Nat.le_of_ble_eq_true rfl) (fun B hB => t_W_north hB hF  hψ h)
set_option maxRecDepth 100000 in
theorem t_W_run {G : Gt} {φ : Ph} {B : Bag} (hB : BF G I_W_run B) (hF : SF 149 φ)    {o : Int32} {M9 : Mm} {ψ : Ph} (hψ : pK o φ = ψ) {l1 : Int32} {M : Mm} (h : f_W_run l1 M = some (o, M9)) : AW G I_W_run B (QM G I_W_run B (.inl (some (.int o))) M9 ψ) 0 0 0 [(0, .ref 0), (1, .int l1), (2, .ref 148)] [] M φ := by
  unfold f_W_run at h
  refine a_aload_n (j := 2) hB e_W_run_0 rfl rfl ?_
  refine a_iconst (v := 0) hB e_W_run_1 ic_0 ?_
  refine a_aload_n (j := 0) hB e_W_run_2 rfl rfl ?_
  refine a_iload_n (j := 1) hB e_W_run_3 rfl rfl ?_
  rcases bc2_i h with ⟨e4, M4, hr4, h⟩ | ⟨r4, M4, hr4, h⟩
  · rcases Decidable.em (e4 = 3) with q | q
    · have h := ip q h
      subst q
      refine a_catN (E := "java/lang/IndexOutOfBoundsException") (M1 := M4) (φ1 := dirt φ) (j1 := 1) (j2 := 6) (pc1 := 13) hB (ar_V (As := [.int l1]) (rest := [.int (0 : Int32), .ref 148]) hB (c_C_run (bf_G hB) (sf_m hF (by decide)) hr4) ml_W_98 md_C_run rc_C_run (sf_lt hF (by decide)) kk_0 rfl rfl (Nat.le_of_ble_eq_true rfl) rm_W_run_C_run e_W_run_4) rfl rfl [] ⟨0, 9, 12, 28⟩ [] rfl (fun z hz => nomatch hz) (by decide) (by decide) cl_W_28 ca_3 e_W_run_12 (by decide) rfl ?_
      refine a_iconst (v := 1) hB e_W_run_13 ic_1 ?_
      cases h
      have hψ := (pK_1 φ).symm.trans hψ
      subst hψ
      exact a_iret hB rfl e_W_run_14 (by decide) (by decide)
    · have h := iq q h
      cases h
  · refine a_ret (v := (some (.int r4))) (M1 := M4) (φ1 := φ) (st1 := [.int r4, .int (0 : Int32), .ref 148]) (j1 := 1) (j2 := 6) (ar_V (As := [.int l1]) (rest := [.int (0 : Int32), .ref 148]) hB (c_C_run (bf_G hB) (sf_m hF (by decide)) hr4) ml_W_98 md_C_run rc_C_run (sf_lt hF (by decide)) kk_0 rfl rfl (Nat.le_of_ble_eq_true rfl) rm_W_run_C_run e_W_run_4) rfl rfl rfl ?_
    refine a_i2l hB e_W_run_7 ?_
    obtain ⟨M8, hM8, h⟩ := bm_i h
    refine a_last hB e_W_run_8 (sf_lt hF (by decide)) kk_148 ll_148 (by decide) ?_
    refine a_mem hM8 ?_
    refine a_goto (tgt := 15) hB e_W_run_9 (by decide) ?_
    refine a_iconst (v := 0) hB e_W_run_15 ic_0 ?_
    cases h
    have hψ := (pK_0 φ).symm.trans hψ
    subst hψ
    exact a_iret hB rfl e_W_run_16 (by decide) (by decide)
set_option maxRecDepth 100000 in
theorem c_W_run {G : Gt} (hG : GOK G) {φ : Ph} (hF : SF 149 φ)   {M : Mm} {l1 : Int32} {o : Int32} {M9 : Mm} {ψ : Ph} (hψ : pK o φ = ψ) (h : f_W_run l1 M = some (o, M9)) : CT G I_W_run [.ref 0, .int l1, .ref 148] M φ (.inl (some (.int o))) M9 ψ :=
  ct_of hG (by decide) (Nat.le_of_ble_eq_true rfl) (fun B hB => t_W_run hB hF  hψ h)
set_option maxRecDepth 100000 in
theorem t_W_distanceFromStart {G : Gt} {φ : Ph} {B : Bag} (hB : BF G I_W_distanceFromStart B) (hF : SF 149 φ)    {o : Int32} {M9 : Mm} {ψ : Ph} (hψ : pK o φ = ψ) {l1 : Int32} {M : Mm} (h : f_W_distanceFromStart l1 M = some (o, M9)) : AW G I_W_distanceFromStart B (QM G I_W_distanceFromStart B (.inl (some (.int o))) M9 ψ) 0 0 0 [(0, .ref 0), (1, .int l1), (2, .ref 148)] [] M φ := by
  unfold f_W_distanceFromStart at h
  refine a_aload_n (j := 2) hB e_W_distanceFromStart_0 rfl rfl ?_
  refine a_iconst (v := 0) hB e_W_distanceFromStart_1 ic_0 ?_
  refine a_aload_n (j := 0) hB e_W_distanceFromStart_2 rfl rfl ?_
  refine a_iload_n (j := 1) hB e_W_distanceFromStart_3 rfl rfl ?_
  rcases bc2_i h with ⟨e4, M4, hr4, h⟩ | ⟨r4, M4, hr4, h⟩
  · rcases Decidable.em (e4 = 3) with q | q
    · have h := ip q h
      subst q
      refine a_catN (E := "java/lang/IndexOutOfBoundsException") (M1 := M4) (φ1 := dirt φ) (j1 := 1) (j2 := 6) (pc1 := 13) hB (ar_V (As := [.int l1]) (rest := [.int (0 : Int32), .ref 148]) hB (c_C_distanceFromStart (bf_G hB) (sf_m hF (by decide)) hr4) ml_W_101 md_C_distanceFromStart rc_C_distanceFromStart (sf_lt hF (by decide)) kk_0 rfl rfl (Nat.le_of_ble_eq_true rfl) rm_W_distanceFromStart_C_distanceFromStart e_W_distanceFromStart_4) rfl rfl [] ⟨0, 9, 12, 28⟩ [] rfl (fun z hz => nomatch hz) (by decide) (by decide) cl_W_28 ca_3 e_W_distanceFromStart_12 (by decide) rfl ?_
      refine a_iconst (v := 1) hB e_W_distanceFromStart_13 ic_1 ?_
      cases h
      have hψ := (pK_1 φ).symm.trans hψ
      subst hψ
      exact a_iret hB rfl e_W_distanceFromStart_14 (by decide) (by decide)
    · have h := iq q h
      cases h
  · refine a_ret (v := (some (.int r4))) (M1 := M4) (φ1 := φ) (st1 := [.int r4, .int (0 : Int32), .ref 148]) (j1 := 1) (j2 := 6) (ar_V (As := [.int l1]) (rest := [.int (0 : Int32), .ref 148]) hB (c_C_distanceFromStart (bf_G hB) (sf_m hF (by decide)) hr4) ml_W_101 md_C_distanceFromStart rc_C_distanceFromStart (sf_lt hF (by decide)) kk_0 rfl rfl (Nat.le_of_ble_eq_true rfl) rm_W_distanceFromStart_C_distanceFromStart e_W_distanceFromStart_4) rfl rfl rfl ?_
    refine a_i2l hB e_W_distanceFromStart_7 ?_
    obtain ⟨M8, hM8, h⟩ := bm_i h
    refine a_last hB e_W_distanceFromStart_8 (sf_lt hF (by decide)) kk_148 ll_148 (by decide) ?_
    refine a_mem hM8 ?_
    refine a_goto (tgt := 15) hB e_W_distanceFromStart_9 (by decide) ?_
    refine a_iconst (v := 0) hB e_W_distanceFromStart_15 ic_0 ?_
    cases h
    have hψ := (pK_0 φ).symm.trans hψ
    subst hψ
    exact a_iret hB rfl e_W_distanceFromStart_16 (by decide) (by decide)
set_option maxRecDepth 100000 in
theorem c_W_distanceFromStart {G : Gt} (hG : GOK G) {φ : Ph} (hF : SF 149 φ)   {M : Mm} {l1 : Int32} {o : Int32} {M9 : Mm} {ψ : Ph} (hψ : pK o φ = ψ) (h : f_W_distanceFromStart l1 M = some (o, M9)) : CT G I_W_distanceFromStart [.ref 0, .int l1, .ref 148] M φ (.inl (some (.int o))) M9 ψ :=
  ct_of hG (by decide) (Nat.le_of_ble_eq_true rfl) (fun B hB => t_W_distanceFromStart hB hF  hψ h)
set_option maxRecDepth 100000 in
theorem t_W_misclosureIfDropped {G : Gt} {φ : Ph} {B : Bag} (hB : BF G I_W_misclosureIfDropped B) (hF : SF 149 φ)    {o : Int32} {M9 : Mm} {ψ : Ph} (hψ : pK o φ = ψ) {l1 : Int32} {M : Mm} (h : f_W_misclosureIfDropped l1 M = some (o, M9)) : AW G I_W_misclosureIfDropped B (QM G I_W_misclosureIfDropped B (.inl (some (.int o))) M9 ψ) 0 0 0 [(0, .ref 0), (1, .int l1), (2, .ref 148)] [] M φ := by
  unfold f_W_misclosureIfDropped at h
  refine a_aload_n (j := 2) hB e_W_misclosureIfDropped_0 rfl rfl ?_
  refine a_iconst (v := 0) hB e_W_misclosureIfDropped_1 ic_0 ?_
  refine a_aload_n (j := 0) hB e_W_misclosureIfDropped_2 rfl rfl ?_
  refine a_iload_n (j := 1) hB e_W_misclosureIfDropped_3 rfl rfl ?_
  rcases bc2_i h with ⟨e4, M4, hr4, h⟩ | ⟨r4, M4, hr4, h⟩
  · rcases Decidable.em (e4 = 3) with q | q
    · have h := ip q h
      subst q
      refine a_catN (E := "java/lang/IndexOutOfBoundsException") (M1 := M4) (φ1 := dirt φ) (j1 := 1) (j2 := 6) (pc1 := 13) hB (ar_V (As := [.int l1]) (rest := [.int (0 : Int32), .ref 148]) hB (c_C_misclosureIfDropped (bf_G hB) (sf_m hF (by decide)) hr4) ml_W_104 md_C_misclosureIfDropped rc_C_misclosureIfDropped (sf_lt hF (by decide)) kk_0 rfl rfl (Nat.le_of_ble_eq_true rfl) rm_W_misclosureIfDropped_C_misclosureIfDropped e_W_misclosureIfDropped_4) rfl rfl [] ⟨0, 9, 12, 28⟩ [] rfl (fun z hz => nomatch hz) (by decide) (by decide) cl_W_28 ca_3 e_W_misclosureIfDropped_12 (by decide) rfl ?_
      refine a_iconst (v := 1) hB e_W_misclosureIfDropped_13 ic_1 ?_
      cases h
      have hψ := (pK_1 φ).symm.trans hψ
      subst hψ
      exact a_iret hB rfl e_W_misclosureIfDropped_14 (by decide) (by decide)
    · have h := iq q h
      cases h
  · refine a_ret (v := (some (.int r4))) (M1 := M4) (φ1 := φ) (st1 := [.int r4, .int (0 : Int32), .ref 148]) (j1 := 1) (j2 := 6) (ar_V (As := [.int l1]) (rest := [.int (0 : Int32), .ref 148]) hB (c_C_misclosureIfDropped (bf_G hB) (sf_m hF (by decide)) hr4) ml_W_104 md_C_misclosureIfDropped rc_C_misclosureIfDropped (sf_lt hF (by decide)) kk_0 rfl rfl (Nat.le_of_ble_eq_true rfl) rm_W_misclosureIfDropped_C_misclosureIfDropped e_W_misclosureIfDropped_4) rfl rfl rfl ?_
    refine a_i2l hB e_W_misclosureIfDropped_7 ?_
    obtain ⟨M8, hM8, h⟩ := bm_i h
    refine a_last hB e_W_misclosureIfDropped_8 (sf_lt hF (by decide)) kk_148 ll_148 (by decide) ?_
    refine a_mem hM8 ?_
    refine a_goto (tgt := 15) hB e_W_misclosureIfDropped_9 (by decide) ?_
    refine a_iconst (v := 0) hB e_W_misclosureIfDropped_15 ic_0 ?_
    cases h
    have hψ := (pK_0 φ).symm.trans hψ
    subst hψ
    exact a_iret hB rfl e_W_misclosureIfDropped_16 (by decide) (by decide)
set_option maxRecDepth 100000 in
theorem c_W_misclosureIfDropped {G : Gt} (hG : GOK G) {φ : Ph} (hF : SF 149 φ)   {M : Mm} {l1 : Int32} {o : Int32} {M9 : Mm} {ψ : Ph} (hψ : pK o φ = ψ) (h : f_W_misclosureIfDropped l1 M = some (o, M9)) : CT G I_W_misclosureIfDropped [.ref 0, .int l1, .ref 148] M φ (.inl (some (.int o))) M9 ψ :=
  ct_of hG (by decide) (Nat.le_of_ble_eq_true rfl) (fun B hB => t_W_misclosureIfDropped hB hF  hψ h)
