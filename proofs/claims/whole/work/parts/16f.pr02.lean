/-! their proofs -/
set_option maxRecDepth 100000 in
theorem t_W_save {G : Gt} {φ : Ph} {B : Bag} (hB : BF G I_W_save B) (hF : SF 149 φ)    {o : Int32} {M9 : Mm} {ψ : Ph} (hψ : pK o φ = ψ) {l1 : Int32} {M : Mm} (h : f_W_save l1 M = some (o, M9)) : AW G I_W_save B (QM G I_W_save B (.inl (some (.int o))) M9 ψ) 0 0 0 [(0, .ref 0), (1, .int l1), (2, .ref 148)] [] M φ := by
  unfold f_W_save at h
  refine a_aload_n (j := 2) hB e_W_save_0 rfl rfl ?_
  refine a_iconst (v := 0) hB e_W_save_1 ic_0 ?_
  refine a_aload_n (j := 0) hB e_W_save_2 rfl rfl ?_
  refine a_iload_n (j := 1) hB e_W_save_3 rfl rfl ?_
  rcases bc2_i h with ⟨e4, M4, hr4, h⟩ | ⟨r4, M4, hr4, h⟩
  · rcases Decidable.em (e4 = 1) with q | q
    · have h := ip q h
      subst q
      refine a_catN (E := "java/lang/IllegalArgumentException") (M1 := M4) (φ1 := dirt φ) (j1 := 1) (j2 := 6) (pc1 := 13) hB (ar_V (As := [.int l1]) (rest := [.int (0 : Int32), .ref 148]) hB (c_C_save (bf_G hB) (sf_m hF (by decide)) hr4) ml_W_46 md_C_save rc_C_save (sf_lt hF (by decide)) kk_0 rfl rfl (Nat.le_of_ble_eq_true rfl) rm_W_save_C_save e_W_save_4) rfl rfl [] ⟨0, 9, 12, 13⟩ [] rfl (fun z hz => nomatch hz) (by decide) (by decide) cl_W_13 ca_1 e_W_save_12 (by decide) rfl ?_
      refine a_iconst (v := 1) hB e_W_save_13 ic_1 ?_
      cases h
      have hψ := (pK_1 φ).symm.trans hψ
      subst hψ
      exact a_iret hB rfl e_W_save_14 (by decide) (by decide)
    · have h := iq q h
      cases h
  · refine a_ret (v := (some (.int r4))) (M1 := M4) (φ1 := φ) (st1 := [.int r4, .int (0 : Int32), .ref 148]) (j1 := 1) (j2 := 6) (ar_V (As := [.int l1]) (rest := [.int (0 : Int32), .ref 148]) hB (c_C_save (bf_G hB) (sf_m hF (by decide)) hr4) ml_W_46 md_C_save rc_C_save (sf_lt hF (by decide)) kk_0 rfl rfl (Nat.le_of_ble_eq_true rfl) rm_W_save_C_save e_W_save_4) rfl rfl rfl ?_
    refine a_i2l hB e_W_save_7 ?_
    obtain ⟨M8, hM8, h⟩ := bm_i h
    refine a_last hB e_W_save_8 (sf_lt hF (by decide)) kk_148 ll_148 (by decide) ?_
    refine a_mem hM8 ?_
    refine a_goto (tgt := 15) hB e_W_save_9 (by decide) ?_
    refine a_iconst (v := 0) hB e_W_save_15 ic_0 ?_
    cases h
    have hψ := (pK_0 φ).symm.trans hψ
    subst hψ
    exact a_iret hB rfl e_W_save_16 (by decide) (by decide)
set_option maxRecDepth 100000 in
theorem c_W_save {G : Gt} (hG : GOK G) {φ : Ph} (hF : SF 149 φ)   {M : Mm} {l1 : Int32} {o : Int32} {M9 : Mm} {ψ : Ph} (hψ : pK o φ = ψ) (h : f_W_save l1 M = some (o, M9)) : CT G I_W_save [.ref 0, .int l1, .ref 148] M φ (.inl (some (.int o))) M9 ψ :=
  ct_of hG (by decide) (Nat.le_of_ble_eq_true rfl) (fun B hB => t_W_save hB hF  hψ h)
set_option maxRecDepth 100000 in
theorem t_W_restore {G : Gt} {φ : Ph} {B : Bag} (hB : BF G I_W_restore B) (hF : SF 149 φ)    {o : Int32} {M9 : Mm} {ψ : Ph} (hψ : pK o φ = ψ) {l1 : Int32} {M : Mm} (h : f_W_restore l1 M = some (o, M9)) : AW G I_W_restore B (QM G I_W_restore B (.inl (some (.int o))) M9 ψ) 0 0 0 [(0, .ref 0), (1, .int l1), (2, .ref 148)] [] M φ := by
  unfold f_W_restore at h
  refine a_aload_n (j := 2) hB e_W_restore_0 rfl rfl ?_
  refine a_iconst (v := 0) hB e_W_restore_1 ic_0 ?_
  refine a_aload_n (j := 0) hB e_W_restore_2 rfl rfl ?_
  refine a_iload_n (j := 1) hB e_W_restore_3 rfl rfl ?_
  rcases bc2_i h with ⟨e4, M4, hr4, h⟩ | ⟨r4, M4, hr4, h⟩
  · rcases Decidable.em (e4 = 1) with q | q
    · have h := ip q h
      subst q
      refine a_catN (E := "java/lang/IllegalArgumentException") (M1 := M4) (φ1 := dirt φ) (j1 := 2) (j2 := 12) (pc1 := 13) hB (ar_V (As := [.int l1]) (rest := [.int (0 : Int32), .ref 148]) hB (c_C_restore (bf_G hB) (sf_m hF (by decide)) hr4) ml_W_49 md_C_restore rc_C_restore (sf_lt hF (by decide)) kk_0 rfl rfl (Nat.le_of_ble_eq_true rfl) rm_W_restore_C_restore e_W_restore_4) rfl rfl [] ⟨0, 9, 12, 13⟩ [⟨0, 9, 15, 19⟩] rfl (fun z hz => nomatch hz) (by decide) (by decide) cl_W_13 ca_1 e_W_restore_12 (by decide) rfl ?_
      refine a_iconst (v := 1) hB e_W_restore_13 ic_1 ?_
      cases h
      have hψ := (pK_1 φ).symm.trans hψ
      subst hψ
      exact a_iret hB rfl e_W_restore_14 (by decide) (by decide)
    · have h := iq q h
      rcases Decidable.em (e4 = 2) with q | q
      · have h := ip q h
        subst q
        refine a_catN (E := "java/lang/IllegalStateException") (M1 := M4) (φ1 := dirt φ) (j1 := 2) (j2 := 12) (pc1 := 16) hB (ar_V (As := [.int l1]) (rest := [.int (0 : Int32), .ref 148]) hB (c_C_restore (bf_G hB) (sf_m hF (by decide)) hr4) ml_W_49 md_C_restore rc_C_restore (sf_lt hF (by decide)) kk_0 rfl rfl (Nat.le_of_ble_eq_true rfl) rm_W_restore_C_restore e_W_restore_4) rfl rfl [⟨0, 9, 12, 13⟩] ⟨0, 9, 15, 19⟩ [] rfl (fun z hz => by rcases List.mem_singleton.mp hz with rfl; exact Or.inr ⟨by decide, _, cl_W_13, (bf_G hB).2.2.2.2.2.2.2.2.1 _ (by decide) _ (by decide) (by decide)⟩) (by decide) (by decide) cl_W_19 ca_2 e_W_restore_15 (by decide) rfl ?_
        refine a_iconst (v := 2) hB e_W_restore_16 ic_2 ?_
        cases h
        have hψ := (pK_2 φ).symm.trans hψ
        subst hψ
        exact a_iret hB rfl e_W_restore_17 (by decide) (by decide)
      · have h := iq q h
        cases h
  · refine a_ret (v := (some (.int r4))) (M1 := M4) (φ1 := φ) (st1 := [.int r4, .int (0 : Int32), .ref 148]) (j1 := 2) (j2 := 12) (ar_V (As := [.int l1]) (rest := [.int (0 : Int32), .ref 148]) hB (c_C_restore (bf_G hB) (sf_m hF (by decide)) hr4) ml_W_49 md_C_restore rc_C_restore (sf_lt hF (by decide)) kk_0 rfl rfl (Nat.le_of_ble_eq_true rfl) rm_W_restore_C_restore e_W_restore_4) rfl rfl rfl ?_
    refine a_i2l hB e_W_restore_7 ?_
    obtain ⟨M8, hM8, h⟩ := bm_i h
    refine a_last hB e_W_restore_8 (sf_lt hF (by decide)) kk_148 ll_148 (by decide) ?_
    refine a_mem hM8 ?_
    refine a_goto (tgt := 18) hB e_W_restore_9 (by decide) ?_
    refine a_iconst (v := 0) hB e_W_restore_18 ic_0 ?_
    cases h
    have hψ := (pK_0 φ).symm.trans hψ
    subst hψ
    exact a_iret hB rfl e_W_restore_19 (by decide) (by decide)
set_option maxRecDepth 100000 in
theorem c_W_restore {G : Gt} (hG : GOK G) {φ : Ph} (hF : SF 149 φ)   {M : Mm} {l1 : Int32} {o : Int32} {M9 : Mm} {ψ : Ph} (hψ : pK o φ = ψ) (h : f_W_restore l1 M = some (o, M9)) : CT G I_W_restore [.ref 0, .int l1, .ref 148] M φ (.inl (some (.int o))) M9 ψ :=
  ct_of hG (by decide) (Nat.le_of_ble_eq_true rfl) (fun B hB => t_W_restore hB hF  hψ h)
set_option maxRecDepth 100000 in
theorem t_W_bearing {G : Gt} {φ : Ph} {B : Bag} (hB : BF G I_W_bearing B) (hF : SF 149 φ)    {o : Int32} {M9 : Mm} {ψ : Ph} (hψ : pK o φ = ψ) {l1 : Int32} {M : Mm} (h : f_W_bearing l1 M = some (o, M9)) : AW G I_W_bearing B (QM G I_W_bearing B (.inl (some (.int o))) M9 ψ) 0 0 0 [(0, .ref 0), (1, .int l1), (2, .ref 148)] [] M φ := by
  unfold f_W_bearing at h
  refine a_aload_n (j := 2) hB e_W_bearing_0 rfl rfl ?_
  refine a_iconst (v := 0) hB e_W_bearing_1 ic_0 ?_
  refine a_aload_n (j := 0) hB e_W_bearing_2 rfl rfl ?_
  refine a_iload_n (j := 1) hB e_W_bearing_3 rfl rfl ?_
  rcases bc_i h with ⟨e4, hr4, h⟩ | ⟨r4, hr4, h⟩
  · rcases Decidable.em (e4 = 3) with q | q
    · have h := ip q h
      subst q
      refine a_catN (E := "java/lang/IndexOutOfBoundsException") (M1 := M) (φ1 := dirt φ) (j1 := 1) (j2 := 6) (pc1 := 13) hB (ar_V (As := [.int l1]) (rest := [.int (0 : Int32), .ref 148]) hB (c_C_bearing (bf_G hB) (sf_m hF (by decide)) hr4) ml_W_52 md_C_bearing rc_C_bearing (sf_lt hF (by decide)) kk_0 rfl rfl (Nat.le_of_ble_eq_true rfl) rm_W_bearing_C_bearing e_W_bearing_4) rfl rfl [] ⟨0, 9, 12, 28⟩ [] rfl (fun z hz => nomatch hz) (by decide) (by decide) cl_W_28 ca_3 e_W_bearing_12 (by decide) rfl ?_
      refine a_iconst (v := 1) hB e_W_bearing_13 ic_1 ?_
      cases h
      have hψ := (pK_1 φ).symm.trans hψ
      subst hψ
      exact a_iret hB rfl e_W_bearing_14 (by decide) (by decide)
    · have h := iq q h
      cases h
  · refine a_ret (v := (some (.int r4))) (M1 := M) (φ1 := φ) (st1 := [.int r4, .int (0 : Int32), .ref 148]) (j1 := 1) (j2 := 6) (ar_V (As := [.int l1]) (rest := [.int (0 : Int32), .ref 148]) hB (c_C_bearing (bf_G hB) (sf_m hF (by decide)) hr4) ml_W_52 md_C_bearing rc_C_bearing (sf_lt hF (by decide)) kk_0 rfl rfl (Nat.le_of_ble_eq_true rfl) rm_W_bearing_C_bearing e_W_bearing_4) rfl rfl rfl ?_
    refine a_i2l hB e_W_bearing_7 ?_
    obtain ⟨M8, hM8, h⟩ := bm_i h
    refine a_last hB e_W_bearing_8 (sf_lt hF (by decide)) kk_148 ll_148 (by decide) ?_
    refine a_mem hM8 ?_
    refine a_goto (tgt := 15) hB e_W_bearing_9 (by decide) ?_
    refine a_iconst (v := 0) hB e_W_bearing_15 ic_0 ?_
    cases h
    have hψ := (pK_0 φ).symm.trans hψ
    subst hψ
    exact a_iret hB rfl e_W_bearing_16 (by decide) (by decide)
set_option maxRecDepth 100000 in
theorem c_W_bearing {G : Gt} (hG : GOK G) {φ : Ph} (hF : SF 149 φ)   {M : Mm} {l1 : Int32} {o : Int32} {M9 : Mm} {ψ : Ph} (hψ : pK o φ = ψ) (h : f_W_bearing l1 M = some (o, M9)) : CT G I_W_bearing [.ref 0, .int l1, .ref 148] M φ (.inl (some (.int o))) M9 ψ :=
  ct_of hG (by decide) (Nat.le_of_ble_eq_true rfl) (fun B hB => t_W_bearing hB hF  hψ h)
set_option maxRecDepth 100000 in
theorem t_W_pins {G : Gt} {φ : Ph} {B : Bag} (hB : BF G I_W_pins B) (hF : SF 149 φ)    {o : Int32} {M9 : Mm} {ψ : Ph} (hψ : pK o φ = ψ) {l1 : Int32} {M : Mm} (h : f_W_pins l1 M = some (o, M9)) : AW G I_W_pins B (QM G I_W_pins B (.inl (some (.int o))) M9 ψ) 0 0 0 [(0, .ref 0), (1, .int l1), (2, .ref 148)] [] M φ := by
  unfold f_W_pins at h
  refine a_aload_n (j := 2) hB e_W_pins_0 rfl rfl ?_
  refine a_iconst (v := 0) hB e_W_pins_1 ic_0 ?_
  refine a_aload_n (j := 0) hB e_W_pins_2 rfl rfl ?_
  refine a_iload_n (j := 1) hB e_W_pins_3 rfl rfl ?_
  rcases bc_i h with ⟨e4, hr4, h⟩ | ⟨r4, hr4, h⟩
  · rcases Decidable.em (e4 = 3) with q | q
    · have h := ip q h
      subst q
      refine a_catN (E := "java/lang/IndexOutOfBoundsException") (M1 := M) (φ1 := dirt φ) (j1 := 1) (j2 := 6) (pc1 := 13) hB (ar_V (As := [.int l1]) (rest := [.int (0 : Int32), .ref 148]) hB (c_C_pins (bf_G hB) (sf_m hF (by decide)) hr4) ml_W_55 md_C_pins rc_C_pins (sf_lt hF (by decide)) kk_0 rfl rfl (Nat.le_of_ble_eq_true rfl) rm_W_pins_C_pins e_W_pins_4) rfl rfl [] ⟨0, 9, 12, 28⟩ [] rfl (fun z hz => nomatch hz) (by decide) (by decide) cl_W_28 ca_3 e_W_pins_12 (by decide) rfl ?_
      refine a_iconst (v := 1) hB e_W_pins_13 ic_1 ?_
      cases h
      have hψ := (pK_1 φ).symm.trans hψ
      subst hψ
      exact a_iret hB rfl e_W_pins_14 (by decide) (by decide)
    · have h := iq q h
      cases h
  · refine a_ret (v := (some (.int r4))) (M1 := M) (φ1 := φ) (st1 := [.int r4, .int (0 : Int32), .ref 148]) (j1 := 1) (j2 := 6) (ar_V (As := [.int l1]) (rest := [.int (0 : Int32), .ref 148]) hB (c_C_pins (bf_G hB) (sf_m hF (by decide)) hr4) ml_W_55 md_C_pins rc_C_pins (sf_lt hF (by decide)) kk_0 rfl rfl (Nat.le_of_ble_eq_true rfl) rm_W_pins_C_pins e_W_pins_4) rfl rfl rfl ?_
    refine a_i2l hB e_W_pins_7 ?_
    obtain ⟨M8, hM8, h⟩ := bm_i h
    refine a_last hB e_W_pins_8 (sf_lt hF (by decide)) kk_148 ll_148 (by decide) ?_
    refine a_mem hM8 ?_
    refine a_goto (tgt := 15) hB e_W_pins_9 (by decide) ?_
    refine a_iconst (v := 0) hB e_W_pins_15 ic_0 ?_
    cases h
    have hψ := (pK_0 φ).symm.trans hψ
    subst hψ
    exact a_iret hB rfl e_W_pins_16 (by decide) (by decide)
set_option maxRecDepth 100000 in
theorem c_W_pins {G : Gt} (hG : GOK G) {φ : Ph} (hF : SF 149 φ)   {M : Mm} {l1 : Int32} {o : Int32} {M9 : Mm} {ψ : Ph} (hψ : pK o φ = ψ) (h : f_W_pins l1 M = some (o, M9)) : CT G I_W_pins [.ref 0, .int l1, .ref 148] M φ (.inl (some (.int o))) M9 ψ :=
  ct_of hG (by decide) (Nat.le_of_ble_eq_true rfl) (fun B hB => t_W_pins hB hF  hψ h)
set_option maxRecDepth 100000 in
theorem t_W_droppedPins {G : Gt} {φ : Ph} {B : Bag} (hB : BF G I_W_droppedPins B) (hF : SF 149 φ)    {o : Int32} {M9 : Mm} {ψ : Ph} (hψ : pK o φ = ψ) {l1 : Int32} {M : Mm} (h : f_W_droppedPins l1 M = some (o, M9)) : AW G I_W_droppedPins B (QM G I_W_droppedPins B (.inl (some (.int o))) M9 ψ) 0 0 0 [(0, .ref 0), (1, .int l1), (2, .ref 148)] [] M φ := by
  unfold f_W_droppedPins at h
  refine a_aload_n (j := 2) hB e_W_droppedPins_0 rfl rfl ?_
  refine a_iconst (v := 0) hB e_W_droppedPins_1 ic_0 ?_
  refine a_aload_n (j := 0) hB e_W_droppedPins_2 rfl rfl ?_
  refine a_iload_n (j := 1) hB e_W_droppedPins_3 rfl rfl ?_
  rcases bc_i h with ⟨e4, hr4, h⟩ | ⟨r4, hr4, h⟩
  · rcases Decidable.em (e4 = 3) with q | q
    · have h := ip q h
      subst q
      refine a_catN (E := "java/lang/IndexOutOfBoundsException") (M1 := M) (φ1 := dirt φ) (j1 := 1) (j2 := 6) (pc1 := 13) hB (ar_V (As := [.int l1]) (rest := [.int (0 : Int32), .ref 148]) hB (c_C_droppedPins (bf_G hB) (sf_m hF (by decide)) hr4) ml_W_58 md_C_droppedPins rc_C_droppedPins (sf_lt hF (by decide)) kk_0 rfl rfl (Nat.le_of_ble_eq_true rfl) rm_W_droppedPins_C_droppedPins e_W_droppedPins_4) rfl rfl [] ⟨0, 9, 12, 28⟩ [] rfl (fun z hz => nomatch hz) (by decide) (by decide) cl_W_28 ca_3 e_W_droppedPins_12 (by decide) rfl ?_
      refine a_iconst (v := 1) hB e_W_droppedPins_13 ic_1 ?_
      cases h
      have hψ := (pK_1 φ).symm.trans hψ
      subst hψ
      exact a_iret hB rfl e_W_droppedPins_14 (by decide) (by decide)
    · have h := iq q h
      cases h
  · refine a_ret (v := (some (.int r4))) (M1 := M) (φ1 := φ) (st1 := [.int r4, .int (0 : Int32), .ref 148]) (j1 := 1) (j2 := 6) (ar_V (As := [.int l1]) (rest := [.int (0 : Int32), .ref 148]) hB (c_C_droppedPins (bf_G hB) (sf_m hF (by decide)) hr4) ml_W_58 md_C_droppedPins rc_C_droppedPins (sf_lt hF (by decide)) kk_0 rfl rfl (Nat.le_of_ble_eq_true rfl) rm_W_droppedPins_C_droppedPins e_W_droppedPins_4) rfl rfl rfl ?_
    refine a_i2l hB e_W_droppedPins_7 ?_
    obtain ⟨M8, hM8, h⟩ := bm_i h
    refine a_last hB e_W_droppedPins_8 (sf_lt hF (by decide)) kk_148 ll_148 (by decide) ?_
    refine a_mem hM8 ?_
    refine a_goto (tgt := 15) hB e_W_droppedPins_9 (by decide) ?_
    refine a_iconst (v := 0) hB e_W_droppedPins_15 ic_0 ?_
    cases h
    have hψ := (pK_0 φ).symm.trans hψ
    subst hψ
    exact a_iret hB rfl e_W_droppedPins_16 (by decide) (by decide)
set_option maxRecDepth 100000 in
theorem c_W_droppedPins {G : Gt} (hG : GOK G) {φ : Ph} (hF : SF 149 φ)   {M : Mm} {l1 : Int32} {o : Int32} {M9 : Mm} {ψ : Ph} (hψ : pK o φ = ψ) (h : f_W_droppedPins l1 M = some (o, M9)) : CT G I_W_droppedPins [.ref 0, .int l1, .ref 148] M φ (.inl (some (.int o))) M9 ψ :=
  ct_of hG (by decide) (Nat.le_of_ble_eq_true rfl) (fun B hB => t_W_droppedPins hB hF  hψ h)
set_option maxRecDepth 100000 in
theorem t_W_readLength {G : Gt} {φ : Ph} {B : Bag} (hB : BF G I_W_readLength B) (hF : SF 149 φ)    {o : Int32} {M9 : Mm} {ψ : Ph} (hψ : pK o φ = ψ) {l1 : Int32} {M : Mm} (h : f_W_readLength l1 M = some (o, M9)) : AW G I_W_readLength B (QM G I_W_readLength B (.inl (some (.int o))) M9 ψ) 0 0 0 [(0, .ref 0), (1, .int l1), (2, .ref 148)] [] M φ := by
  unfold f_W_readLength at h
  refine a_aload_n (j := 2) hB e_W_readLength_0 rfl rfl ?_
  refine a_iconst (v := 0) hB e_W_readLength_1 ic_0 ?_
  refine a_aload_n (j := 0) hB e_W_readLength_2 rfl rfl ?_
  refine a_iload_n (j := 1) hB e_W_readLength_3 rfl rfl ?_
  rcases bc_i h with ⟨e4, hr4, h⟩ | ⟨r4, hr4, h⟩
  · rcases Decidable.em (e4 = 3) with q | q
    · have h := ip q h
      subst q
      refine a_catN (E := "java/lang/IndexOutOfBoundsException") (M1 := M) (φ1 := dirt φ) (j1 := 1) (j2 := 6) (pc1 := 13) hB (ar_V (As := [.int l1]) (rest := [.int (0 : Int32), .ref 148]) hB (c_C_readLength (bf_G hB) (sf_m hF (by decide)) hr4) ml_W_61 md_C_readLength rc_C_readLength (sf_lt hF (by decide)) kk_0 rfl rfl (Nat.le_of_ble_eq_true rfl) rm_W_readLength_C_readLength e_W_readLength_4) rfl rfl [] ⟨0, 9, 12, 28⟩ [] rfl (fun z hz => nomatch hz) (by decide) (by decide) cl_W_28 ca_3 e_W_readLength_12 (by decide) rfl ?_
      refine a_iconst (v := 1) hB e_W_readLength_13 ic_1 ?_
      cases h
      have hψ := (pK_1 φ).symm.trans hψ
      subst hψ
      exact a_iret hB rfl e_W_readLength_14 (by decide) (by decide)
    · have h := iq q h
      cases h
  · refine a_ret (v := (some (.int r4))) (M1 := M) (φ1 := φ) (st1 := [.int r4, .int (0 : Int32), .ref 148]) (j1 := 1) (j2 := 6) (ar_V (As := [.int l1]) (rest := [.int (0 : Int32), .ref 148]) hB (c_C_readLength (bf_G hB) (sf_m hF (by decide)) hr4) ml_W_61 md_C_readLength rc_C_readLength (sf_lt hF (by decide)) kk_0 rfl rfl (Nat.le_of_ble_eq_true rfl) rm_W_readLength_C_readLength e_W_readLength_4) rfl rfl rfl ?_
    refine a_i2l hB e_W_readLength_7 ?_
    obtain ⟨M8, hM8, h⟩ := bm_i h
    refine a_last hB e_W_readLength_8 (sf_lt hF (by decide)) kk_148 ll_148 (by decide) ?_
    refine a_mem hM8 ?_
    refine a_goto (tgt := 15) hB e_W_readLength_9 (by decide) ?_
    refine a_iconst (v := 0) hB e_W_readLength_15 ic_0 ?_
    cases h
    have hψ := (pK_0 φ).symm.trans hψ
    subst hψ
    exact a_iret hB rfl e_W_readLength_16 (by decide) (by decide)
set_option maxRecDepth 100000 in
theorem c_W_readLength {G : Gt} (hG : GOK G) {φ : Ph} (hF : SF 149 φ)   {M : Mm} {l1 : Int32} {o : Int32} {M9 : Mm} {ψ : Ph} (hψ : pK o φ = ψ) (h : f_W_readLength l1 M = some (o, M9)) : CT G I_W_readLength [.ref 0, .int l1, .ref 148] M φ (.inl (some (.int o))) M9 ψ :=
  ct_of hG (by decide) (Nat.le_of_ble_eq_true rfl) (fun B hB => t_W_readLength hB hF  hψ h)
set_option maxRecDepth 100000 in
theorem t_W_slopeLength {G : Gt} {φ : Ph} {B : Bag} (hB : BF G I_W_slopeLength B) (hF : SF 149 φ)    {o : Int32} {M9 : Mm} {ψ : Ph} (hψ : pK o φ = ψ) {l1 : Int32} {M : Mm} (h : f_W_slopeLength l1 M = some (o, M9)) : AW G I_W_slopeLength B (QM G I_W_slopeLength B (.inl (some (.int o))) M9 ψ) 0 0 0 [(0, .ref 0), (1, .int l1), (2, .ref 148)] [] M φ := by
  unfold f_W_slopeLength at h
  refine a_aload_n (j := 2) hB e_W_slopeLength_0 rfl rfl ?_
  refine a_iconst (v := 0) hB e_W_slopeLength_1 ic_0 ?_
  refine a_aload_n (j := 0) hB e_W_slopeLength_2 rfl rfl ?_
  refine a_iload_n (j := 1) hB e_W_slopeLength_3 rfl rfl ?_
  rcases bc_i h with ⟨e4, hr4, h⟩ | ⟨r4, hr4, h⟩
  · rcases Decidable.em (e4 = 3) with q | q
    · have h := ip q h
      subst q
      refine a_catN (E := "java/lang/IndexOutOfBoundsException") (M1 := M) (φ1 := dirt φ) (j1 := 1) (j2 := 6) (pc1 := 13) hB (ar_V (As := [.int l1]) (rest := [.int (0 : Int32), .ref 148]) hB (c_C_slopeLength (bf_G hB) (sf_m hF (by decide)) hr4) ml_W_64 md_C_slopeLength rc_C_slopeLength (sf_lt hF (by decide)) kk_0 rfl rfl (Nat.le_of_ble_eq_true rfl) rm_W_slopeLength_C_slopeLength e_W_slopeLength_4) rfl rfl [] ⟨0, 9, 12, 28⟩ [] rfl (fun z hz => nomatch hz) (by decide) (by decide) cl_W_28 ca_3 e_W_slopeLength_12 (by decide) rfl ?_
      refine a_iconst (v := 1) hB e_W_slopeLength_13 ic_1 ?_
      cases h
      have hψ := (pK_1 φ).symm.trans hψ
      subst hψ
      exact a_iret hB rfl e_W_slopeLength_14 (by decide) (by decide)
    · have h := iq q h
      cases h
  · refine a_ret (v := (some (.int r4))) (M1 := M) (φ1 := φ) (st1 := [.int r4, .int (0 : Int32), .ref 148]) (j1 := 1) (j2 := 6) (ar_V (As := [.int l1]) (rest := [.int (0 : Int32), .ref 148]) hB (c_C_slopeLength (bf_G hB) (sf_m hF (by decide)) hr4) ml_W_64 md_C_slopeLength rc_C_slopeLength (sf_lt hF (by decide)) kk_0 rfl rfl (Nat.le_of_ble_eq_true rfl) rm_W_slopeLength_C_slopeLength e_W_slopeLength_4) rfl rfl rfl ?_
    refine a_i2l hB e_W_slopeLength_7 ?_
    obtain ⟨M8, hM8, h⟩ := bm_i h
    refine a_last hB e_W_slopeLength_8 (sf_lt hF (by decide)) kk_148 ll_148 (by decide) ?_
    refine a_mem hM8 ?_
    refine a_goto (tgt := 15) hB e_W_slopeLength_9 (by decide) ?_
    refine a_iconst (v := 0) hB e_W_slopeLength_15 ic_0 ?_
    cases h
    have hψ := (pK_0 φ).symm.trans hψ
    subst hψ
    exact a_iret hB rfl e_W_slopeLength_16 (by decide) (by decide)
set_option maxRecDepth 100000 in
theorem c_W_slopeLength {G : Gt} (hG : GOK G) {φ : Ph} (hF : SF 149 φ)   {M : Mm} {l1 : Int32} {o : Int32} {M9 : Mm} {ψ : Ph} (hψ : pK o φ = ψ) (h : f_W_slopeLength l1 M = some (o, M9)) : CT G I_W_slopeLength [.ref 0, .int l1, .ref 148] M φ (.inl (some (.int o))) M9 ψ :=
  ct_of hG (by decide) (Nat.le_of_ble_eq_true rfl) (fun B hB => t_W_slopeLength hB hF  hψ h)
set_option maxRecDepth 100000 in
theorem t_W_horizontalLength {G : Gt} {φ : Ph} {B : Bag} (hB : BF G I_W_horizontalLength B) (hF : SF 149 φ)    {o : Int32} {M9 : Mm} {ψ : Ph} (hψ : pK o φ = ψ) {l1 : Int32} {M : Mm} (h : f_W_horizontalLength l1 M = some (o, M9)) : AW G I_W_horizontalLength B (QM G I_W_horizontalLength B (.inl (some (.int o))) M9 ψ) 0 0 0 [(0, .ref 0), (1, .int l1), (2, .ref 148)] [] M φ := by
  unfold f_W_horizontalLength at h
  refine a_aload_n (j := 2) hB e_W_horizontalLength_0 rfl rfl ?_
  refine a_iconst (v := 0) hB e_W_horizontalLength_1 ic_0 ?_
  refine a_aload_n (j := 0) hB e_W_horizontalLength_2 rfl rfl ?_
  refine a_iload_n (j := 1) hB e_W_horizontalLength_3 rfl rfl ?_
  rcases bc_i h with ⟨e4, hr4, h⟩ | ⟨r4, hr4, h⟩
  · rcases Decidable.em (e4 = 3) with q | q
    · have h := ip q h
      subst q
      refine a_catN (E := "java/lang/IndexOutOfBoundsException") (M1 := M) (φ1 := dirt φ) (j1 := 1) (j2 := 6) (pc1 := 13) hB (ar_V (As := [.int l1]) (rest := [.int (0 : Int32), .ref 148]) hB (c_C_horizontalLength (bf_G hB) (sf_m hF (by decide)) hr4) ml_W_67 md_C_horizontalLength rc_C_horizontalLength (sf_lt hF (by decide)) kk_0 rfl rfl (Nat.le_of_ble_eq_true rfl) rm_W_horizontalLength_C_horizontalLength e_W_horizontalLength_4) rfl rfl [] ⟨0, 9, 12, 28⟩ [] rfl (fun z hz => nomatch hz) (by decide) (by decide) cl_W_28 ca_3 e_W_horizontalLength_12 (by decide) rfl ?_
      refine a_iconst (v := 1) hB e_W_horizontalLength_13 ic_1 ?_
      cases h
      have hψ := (pK_1 φ).symm.trans hψ
      subst hψ
      exact a_iret hB rfl e_W_horizontalLength_14 (by decide) (by decide)
    · have h := iq q h
      cases h
  · refine a_ret (v := (some (.int r4))) (M1 := M) (φ1 := φ) (st1 := [.int r4, .int (0 : Int32), .ref 148]) (j1 := 1) (j2 := 6) (ar_V (As := [.int l1]) (rest := [.int (0 : Int32), .ref 148]) hB (c_C_horizontalLength (bf_G hB) (sf_m hF (by decide)) hr4) ml_W_67 md_C_horizontalLength rc_C_horizontalLength (sf_lt hF (by decide)) kk_0 rfl rfl (Nat.le_of_ble_eq_true rfl) rm_W_horizontalLength_C_horizontalLength e_W_horizontalLength_4) rfl rfl rfl ?_
    refine a_i2l hB e_W_horizontalLength_7 ?_
    obtain ⟨M8, hM8, h⟩ := bm_i h
    refine a_last hB e_W_horizontalLength_8 (sf_lt hF (by decide)) kk_148 ll_148 (by decide) ?_
    refine a_mem hM8 ?_
    refine a_goto (tgt := 15) hB e_W_horizontalLength_9 (by decide) ?_
    refine a_iconst (v := 0) hB e_W_horizontalLength_15 ic_0 ?_
    cases h
    have hψ := (pK_0 φ).symm.trans hψ
    subst hψ
    exact a_iret hB rfl e_W_horizontalLength_16 (by decide) (by decide)
set_option maxRecDepth 100000 in
theorem c_W_horizontalLength {G : Gt} (hG : GOK G) {φ : Ph} (hF : SF 149 φ)   {M : Mm} {l1 : Int32} {o : Int32} {M9 : Mm} {ψ : Ph} (hψ : pK o φ = ψ) (h : f_W_horizontalLength l1 M = some (o, M9)) : CT G I_W_horizontalLength [.ref 0, .int l1, .ref 148] M φ (.inl (some (.int o))) M9 ψ :=
  ct_of hG (by decide) (Nat.le_of_ble_eq_true rfl) (fun B hB => t_W_horizontalLength hB hF  hψ h)
set_option maxRecDepth 100000 in
theorem t_W_eastStep {G : Gt} {φ : Ph} {B : Bag} (hB : BF G I_W_eastStep B) (hF : SF 149 φ)    {o : Int32} {M9 : Mm} {ψ : Ph} (hψ : pK o φ = ψ) {l1 : Int32} {M : Mm} (h : f_W_eastStep l1 M = some (o, M9)) : AW G I_W_eastStep B (QM G I_W_eastStep B (.inl (some (.int o))) M9 ψ) 0 0 0 [(0, .ref 0), (1, .int l1), (2, .ref 148)] [] M φ := by
  unfold f_W_eastStep at h
  refine a_aload_n (j := 2) hB e_W_eastStep_0 rfl rfl ?_
  refine a_iconst (v := 0) hB e_W_eastStep_1 ic_0 ?_
  refine a_aload_n (j := 0) hB e_W_eastStep_2 rfl rfl ?_
  refine a_iload_n (j := 1) hB e_W_eastStep_3 rfl rfl ?_
  rcases bc_i h with ⟨e4, hr4, h⟩ | ⟨r4, hr4, h⟩
  · rcases Decidable.em (e4 = 3) with q | q
    · have h := ip q h
      subst q
      refine a_catN (E := "java/lang/IndexOutOfBoundsException") (M1 := M) (φ1 := dirt φ) (j1 := 1) (j2 := 6) (pc1 := 13) hB (ar_V (As := [.int l1]) (rest := [.int (0 : Int32), .ref 148]) hB (c_C_eastStep (bf_G hB) (sf_m hF (by decide)) hr4) ml_W_70 md_C_eastStep rc_C_eastStep (sf_lt hF (by decide)) kk_0 rfl rfl (Nat.le_of_ble_eq_true rfl) rm_W_eastStep_C_eastStep e_W_eastStep_4) rfl rfl [] ⟨0, 9, 12, 28⟩ [] rfl (fun z hz => nomatch hz) (by decide) (by decide) cl_W_28 ca_3 e_W_eastStep_12 (by decide) rfl ?_
      refine a_iconst (v := 1) hB e_W_eastStep_13 ic_1 ?_
      cases h
      have hψ := (pK_1 φ).symm.trans hψ
      subst hψ
      exact a_iret hB rfl e_W_eastStep_14 (by decide) (by decide)
    · have h := iq q h
      cases h
  · refine a_ret (v := (some (.int r4))) (M1 := M) (φ1 := φ) (st1 := [.int r4, .int (0 : Int32), .ref 148]) (j1 := 1) (j2 := 6) (ar_V (As := [.int l1]) (rest := [.int (0 : Int32), .ref 148]) hB (c_C_eastStep (bf_G hB) (sf_m hF (by decide)) hr4) ml_W_70 md_C_eastStep rc_C_eastStep (sf_lt hF (by decide)) kk_0 rfl rfl (Nat.le_of_ble_eq_true rfl) rm_W_eastStep_C_eastStep e_W_eastStep_4) rfl rfl rfl ?_
    refine a_i2l hB e_W_eastStep_7 ?_
    obtain ⟨M8, hM8, h⟩ := bm_i h
    refine a_last hB e_W_eastStep_8 (sf_lt hF (by decide)) kk_148 ll_148 (by decide) ?_
    refine a_mem hM8 ?_
    refine a_goto (tgt := 15) hB e_W_eastStep_9 (by decide) ?_
    refine a_iconst (v := 0) hB e_W_eastStep_15 ic_0 ?_
    cases h
    have hψ := (pK_0 φ).symm.trans hψ
    subst hψ
    exact a_iret hB rfl e_W_eastStep_16 (by decide) (by decide)
set_option maxRecDepth 100000 in
theorem c_W_eastStep {G : Gt} (hG : GOK G) {φ : Ph} (hF : SF 149 φ)   {M : Mm} {l1 : Int32} {o : Int32} {M9 : Mm} {ψ : Ph} (hψ : pK o φ = ψ) (h : f_W_eastStep l1 M = some (o, M9)) : CT G I_W_eastStep [.ref 0, .int l1, .ref 148] M φ (.inl (some (.int o))) M9 ψ :=
  ct_of hG (by decide) (Nat.le_of_ble_eq_true rfl) (fun B hB => t_W_eastStep hB hF  hψ h)
set_option maxRecDepth 100000 in
theorem t_W_northStep {G : Gt} {φ : Ph} {B : Bag} (hB : BF G I_W_northStep B) (hF : SF 149 φ)    {o : Int32} {M9 : Mm} {ψ : Ph} (hψ : pK o φ = ψ) {l1 : Int32} {M : Mm} (h : f_W_northStep l1 M = some (o, M9)) : AW G I_W_northStep B (QM G I_W_northStep B (.inl (some (.int o))) M9 ψ) 0 0 0 [(0, .ref 0), (1, .int l1), (2, .ref 148)] [] M φ := by
  unfold f_W_northStep at h
  refine a_aload_n (j := 2) hB e_W_northStep_0 rfl rfl ?_
  refine a_iconst (v := 0) hB e_W_northStep_1 ic_0 ?_
  refine a_aload_n (j := 0) hB e_W_northStep_2 rfl rfl ?_
  refine a_iload_n (j := 1) hB e_W_northStep_3 rfl rfl ?_
  rcases bc_i h with ⟨e4, hr4, h⟩ | ⟨r4, hr4, h⟩
  · rcases Decidable.em (e4 = 3) with q | q
    · have h := ip q h
      subst q
      refine a_catN (E := "java/lang/IndexOutOfBoundsException") (M1 := M) (φ1 := dirt φ) (j1 := 1) (j2 := 6) (pc1 := 13) hB (ar_V (As := [.int l1]) (rest := [.int (0 : Int32), .ref 148]) hB (c_C_northStep (bf_G hB) (sf_m hF (by decide)) hr4) ml_W_73 md_C_northStep rc_C_northStep (sf_lt hF (by decide)) kk_0 rfl rfl (Nat.le_of_ble_eq_true rfl) rm_W_northStep_C_northStep e_W_northStep_4) rfl rfl [] ⟨0, 9, 12, 28⟩ [] rfl (fun z hz => nomatch hz) (by decide) (by decide) cl_W_28 ca_3 e_W_northStep_12 (by decide) rfl ?_
      refine a_iconst (v := 1) hB e_W_northStep_13 ic_1 ?_
      cases h
      have hψ := (pK_1 φ).symm.trans hψ
      subst hψ
      exact a_iret hB rfl e_W_northStep_14 (by decide) (by decide)
    · have h := iq q h
      cases h
  · refine a_ret (v := (some (.int r4))) (M1 := M) (φ1 := φ) (st1 := [.int r4, .int (0 : Int32), .ref 148]) (j1 := 1) (j2 := 6) (ar_V (As := [.int l1]) (rest := [.int (0 : Int32), .ref 148]) hB (c_C_northStep (bf_G hB) (sf_m hF (by decide)) hr4) ml_W_73 md_C_northStep rc_C_northStep (sf_lt hF (by decide)) kk_0 rfl rfl (Nat.le_of_ble_eq_true rfl) rm_W_northStep_C_northStep e_W_northStep_4) rfl rfl rfl ?_
    refine a_i2l hB e_W_northStep_7 ?_
    obtain ⟨M8, hM8, h⟩ := bm_i h
    refine a_last hB e_W_northStep_8 (sf_lt hF (by decide)) kk_148 ll_148 (by decide) ?_
    refine a_mem hM8 ?_
    refine a_goto (tgt := 15) hB e_W_northStep_9 (by decide) ?_
    refine a_iconst (v := 0) hB e_W_northStep_15 ic_0 ?_
    cases h
    have hψ := (pK_0 φ).symm.trans hψ
    subst hψ
    exact a_iret hB rfl e_W_northStep_16 (by decide) (by decide)
set_option maxRecDepth 100000 in
theorem c_W_northStep {G : Gt} (hG : GOK G) {φ : Ph} (hF : SF 149 φ)   {M : Mm} {l1 : Int32} {o : Int32} {M9 : Mm} {ψ : Ph} (hψ : pK o φ = ψ) (h : f_W_northStep l1 M = some (o, M9)) : CT G I_W_northStep [.ref 0, .int l1, .ref 148] M φ (.inl (some (.int o))) M9 ψ :=
  ct_of hG (by decide) (Nat.le_of_ble_eq_true rfl) (fun B hB => t_W_northStep hB hF  hψ h)
set_option maxRecDepth 100000 in
theorem t_W_tallies {G : Gt} {φ : Ph} {B : Bag} (hB : BF G I_W_tallies B) (hF : SF 149 φ)    {o : Int32} {M9 : Mm} {ψ : Ph} (hψ : pK o φ = ψ) {l1 : Int32} {M : Mm} (h : f_W_tallies l1 M = some (o, M9)) : AW G I_W_tallies B (QM G I_W_tallies B (.inl (some (.int o))) M9 ψ) 0 0 0 [(0, .ref 0), (1, .int l1), (2, .ref 148)] [] M φ := by
  unfold f_W_tallies at h
  refine a_aload_n (j := 2) hB e_W_tallies_0 rfl rfl ?_
  refine a_iconst (v := 0) hB e_W_tallies_1 ic_0 ?_
  refine a_aload_n (j := 0) hB e_W_tallies_2 rfl rfl ?_
  refine a_iload_n (j := 1) hB e_W_tallies_3 rfl rfl ?_
  rcases bc_i h with ⟨e4, hr4, h⟩ | ⟨r4, hr4, h⟩
  · rcases Decidable.em (e4 = 3) with q | q
    · have h := ip q h
      subst q
      refine a_catN (E := "java/lang/IndexOutOfBoundsException") (M1 := M) (φ1 := dirt φ) (j1 := 1) (j2 := 6) (pc1 := 13) hB (ar_V (As := [.int l1]) (rest := [.int (0 : Int32), .ref 148]) hB (c_C_tallies (bf_G hB) (sf_m hF (by decide)) hr4) ml_W_76 md_C_tallies rc_C_tallies (sf_lt hF (by decide)) kk_0 rfl rfl (Nat.le_of_ble_eq_true rfl) rm_W_tallies_C_tallies e_W_tallies_4) rfl rfl [] ⟨0, 9, 12, 28⟩ [] rfl (fun z hz => nomatch hz) (by decide) (by decide) cl_W_28 ca_3 e_W_tallies_12 (by decide) rfl ?_
      refine a_iconst (v := 1) hB e_W_tallies_13 ic_1 ?_
      cases h
      have hψ := (pK_1 φ).symm.trans hψ
      subst hψ
      exact a_iret hB rfl e_W_tallies_14 (by decide) (by decide)
    · have h := iq q h
      cases h
  · refine a_ret (v := (some (.int r4))) (M1 := M) (φ1 := φ) (st1 := [.int r4, .int (0 : Int32), .ref 148]) (j1 := 1) (j2 := 6) (ar_V (As := [.int l1]) (rest := [.int (0 : Int32), .ref 148]) hB (c_C_tallies (bf_G hB) (sf_m hF (by decide)) hr4) ml_W_76 md_C_tallies rc_C_tallies (sf_lt hF (by decide)) kk_0 rfl rfl (Nat.le_of_ble_eq_true rfl) rm_W_tallies_C_tallies e_W_tallies_4) rfl rfl rfl ?_
    refine a_i2l hB e_W_tallies_7 ?_
    obtain ⟨M8, hM8, h⟩ := bm_i h
    refine a_last hB e_W_tallies_8 (sf_lt hF (by decide)) kk_148 ll_148 (by decide) ?_
    refine a_mem hM8 ?_
    refine a_goto (tgt := 15) hB e_W_tallies_9 (by decide) ?_
    refine a_iconst (v := 0) hB e_W_tallies_15 ic_0 ?_
    cases h
    have hψ := (pK_0 φ).symm.trans hψ
    subst hψ
    exact a_iret hB rfl e_W_tallies_16 (by decide) (by decide)
set_option maxRecDepth 100000 in
theorem c_W_tallies {G : Gt} (hG : GOK G) {φ : Ph} (hF : SF 149 φ)   {M : Mm} {l1 : Int32} {o : Int32} {M9 : Mm} {ψ : Ph} (hψ : pK o φ = ψ) (h : f_W_tallies l1 M = some (o, M9)) : CT G I_W_tallies [.ref 0, .int l1, .ref 148] M φ (.inl (some (.int o))) M9 ψ :=
  ct_of hG (by decide) (Nat.le_of_ble_eq_true rfl) (fun B hB => t_W_tallies hB hF  hψ h)
set_option maxRecDepth 100000 in
theorem t_W_isBog {G : Gt} {φ : Ph} {B : Bag} (hB : BF G I_W_isBog B) (hF : SF 149 φ)    {o : Int32} {M9 : Mm} {ψ : Ph} (hψ : pK o φ = ψ) {l1 : Int32} {M : Mm} (h : f_W_isBog l1 M = some (o, M9)) : AW G I_W_isBog B (QM G I_W_isBog B (.inl (some (.int o))) M9 ψ) 0 0 0 [(0, .ref 0), (1, .int l1), (2, .ref 148)] [] M φ := by
  unfold f_W_isBog at h
  refine a_aload_n (j := 2) hB e_W_isBog_0 rfl rfl ?_
  refine a_iconst (v := 0) hB e_W_isBog_1 ic_0 ?_
  refine a_aload_n (j := 0) hB e_W_isBog_2 rfl rfl ?_
  refine a_iload_n (j := 1) hB e_W_isBog_3 rfl rfl ?_
  rcases bc_i h with ⟨e4, hr4, h⟩ | ⟨r4, hr4, h⟩
  · rcases Decidable.em (e4 = 3) with q | q
    · have h := ip q h
      subst q
      refine a_catN (E := "java/lang/IndexOutOfBoundsException") (M1 := M) (φ1 := dirt φ) (j1 := 1) (j2 := 6) (pc1 := 20) hB (ar_V (As := [.int l1]) (rest := [.int (0 : Int32), .ref 148]) hB (c_C_isBog (bf_G hB) (sf_m hF (by decide)) hr4) ml_W_79 md_C_isBog rc_C_isBog (sf_lt hF (by decide)) kk_0 rfl rfl (Nat.le_of_ble_eq_true rfl) rm_W_isBog_C_isBog e_W_isBog_4) rfl rfl [] ⟨0, 16, 19, 28⟩ [] rfl (fun z hz => nomatch hz) (by decide) (by decide) cl_W_28 ca_3 e_W_isBog_19 (by decide) rfl ?_
      refine a_iconst (v := 1) hB e_W_isBog_20 ic_1 ?_
      cases h
      have hψ := (pK_1 φ).symm.trans hψ
      subst hψ
      exact a_iret hB rfl e_W_isBog_21 (by decide) (by decide)
    · have h := iq q h
      cases h
  · refine a_ret (v := (some (.int r4))) (M1 := M) (φ1 := φ) (st1 := [.int r4, .int (0 : Int32), .ref 148]) (j1 := 1) (j2 := 6) (ar_V (As := [.int l1]) (rest := [.int (0 : Int32), .ref 148]) hB (c_C_isBog (bf_G hB) (sf_m hF (by decide)) hr4) ml_W_79 md_C_isBog rc_C_isBog (sf_lt hF (by decide)) kk_0 rfl rfl (Nat.le_of_ble_eq_true rfl) rm_W_isBog_C_isBog e_W_isBog_4) rfl rfl rfl ?_
    refine a_if_eq (tgt := 14) hB e_W_isBog_7 (by decide) (fun c => ?_) (fun c => ?_)
    · have h := ip c h
      refine a_lconst (v := 0) hB e_W_isBog_14 rfl ?_
      obtain ⟨M15, hM15, h⟩ := bm_i h
      refine a_last hB e_W_isBog_15 (sf_lt hF (by decide)) kk_148 ll_148 (by decide) ?_
      refine a_mem hM15 ?_
      refine a_goto (tgt := 22) hB e_W_isBog_16 (by decide) ?_
      refine a_iconst (v := 0) hB e_W_isBog_22 ic_0 ?_
      cases h
      have hψ := (pK_0 φ).symm.trans hψ
      subst hψ
      exact a_iret hB rfl e_W_isBog_23 (by decide) (by decide)
    · have h := iq c h
      refine a_lconst (v := 1) hB e_W_isBog_10 rfl ?_
      refine a_goto (tgt := 15) hB e_W_isBog_11 (by decide) ?_
      obtain ⟨M15, hM15, h⟩ := bm_i h
      refine a_last hB e_W_isBog_15 (sf_lt hF (by decide)) kk_148 ll_148 (by decide) ?_
      refine a_mem hM15 ?_
      refine a_goto (tgt := 22) hB e_W_isBog_16 (by decide) ?_
      refine a_iconst (v := 0) hB e_W_isBog_22 ic_0 ?_
      cases h
      have hψ := (pK_0 φ).symm.trans hψ
      subst hψ
      exact a_iret hB rfl e_W_isBog_23 (by decide) (by decide)
set_option maxRecDepth 100000 in
theorem c_W_isBog {G : Gt} (hG : GOK G) {φ : Ph} (hF : SF 149 φ)   {M : Mm} {l1 : Int32} {o : Int32} {M9 : Mm} {ψ : Ph} (hψ : pK o φ = ψ) (h : f_W_isBog l1 M = some (o, M9)) : CT G I_W_isBog [.ref 0, .int l1, .ref 148] M φ (.inl (some (.int o))) M9 ψ :=
  ct_of hG (by decide) (Nat.le_of_ble_eq_true rfl) (fun B hB => t_W_isBog hB hF  hψ h)
set_option maxRecDepth 100000 in
theorem t_W_nameByte {G : Gt} {φ : Ph} {B : Bag} (hB : BF G I_W_nameByte B) (hF : SF 149 φ)    {o : Int32} {M9 : Mm} {ψ : Ph} (hψ : pK o φ = ψ) {l1 : Int32} {l2 : Int32} {M : Mm} (h : f_W_nameByte l1 l2 M = some (o, M9)) : AW G I_W_nameByte B (QM G I_W_nameByte B (.inl (some (.int o))) M9 ψ) 0 0 0 [(0, .ref 0), (1, .int l1), (2, .int l2), (3, .ref 148)] [] M φ := by
  unfold f_W_nameByte at h
  refine a_aload_n (j := 3) hB e_W_nameByte_0 rfl rfl ?_
  refine a_iconst (v := 0) hB e_W_nameByte_1 ic_0 ?_
  refine a_aload_n (j := 0) hB e_W_nameByte_2 rfl rfl ?_
  refine a_iload_n (j := 1) hB e_W_nameByte_3 rfl rfl ?_
  refine a_iload_n (j := 2) hB e_W_nameByte_4 rfl rfl ?_
  rcases bc_i h with ⟨e5, hr5, h⟩ | ⟨r5, hr5, h⟩
  · rcases Decidable.em (e5 = 3) with q | q
    · have h := ip q h
      subst q
      refine a_cat (E := "java/lang/IndexOutOfBoundsException") (M1 := M) (φ1 := dirt φ) (j1 := 1) (j2 := 6) (pc1 := 15) hB (ar_V (As := [.int l1, .int l2]) (rest := [.int (0 : Int32), .ref 148]) hB (c_C_nameByte (bf_G hB) (sf_m hF (by decide)) hr5) ml_W_83 md_C_nameByte rc_C_nameByte (sf_lt hF (by decide)) kk_0 rfl rfl (Nat.le_of_ble_eq_true rfl) rm_W_nameByte_C_nameByte e_W_nameByte_5) rfl rfl [] ⟨0, 10, 13, 28⟩ [] rfl (fun z hz => nomatch hz) (by decide) (by decide) cl_W_28 ca_3 e_W_nameByte_13 (by decide) rfl ?_
      refine a_iconst (v := 1) hB e_W_nameByte_15 ic_1 ?_
      cases h
      have hψ := (pK_1 φ).symm.trans hψ
      subst hψ
      exact a_iret hB rfl e_W_nameByte_16 (by decide) (by decide)
    · have h := iq q h
      cases h
  · refine a_ret (v := (some (.int r5))) (M1 := M) (φ1 := φ) (st1 := [.int r5, .int (0 : Int32), .ref 148]) (j1 := 1) (j2 := 6) (ar_V (As := [.int l1, .int l2]) (rest := [.int (0 : Int32), .ref 148]) hB (c_C_nameByte (bf_G hB) (sf_m hF (by decide)) hr5) ml_W_83 md_C_nameByte rc_C_nameByte (sf_lt hF (by decide)) kk_0 rfl rfl (Nat.le_of_ble_eq_true rfl) rm_W_nameByte_C_nameByte e_W_nameByte_5) rfl rfl rfl ?_
    refine a_i2l hB e_W_nameByte_8 ?_
    obtain ⟨M9, hM9, h⟩ := bm_i h
    refine a_last hB e_W_nameByte_9 (sf_lt hF (by decide)) kk_148 ll_148 (by decide) ?_
    refine a_mem hM9 ?_
    refine a_goto (tgt := 17) hB e_W_nameByte_10 (by decide) ?_
    refine a_iconst (v := 0) hB e_W_nameByte_17 ic_0 ?_
    cases h
    have hψ := (pK_0 φ).symm.trans hψ
    subst hψ
    exact a_iret hB rfl e_W_nameByte_18 (by decide) (by decide)
set_option maxRecDepth 100000 in
theorem c_W_nameByte {G : Gt} (hG : GOK G) {φ : Ph} (hF : SF 149 φ)   {M : Mm} {l1 : Int32} {l2 : Int32} {o : Int32} {M9 : Mm} {ψ : Ph} (hψ : pK o φ = ψ) (h : f_W_nameByte l1 l2 M = some (o, M9)) : CT G I_W_nameByte [.ref 0, .int l1, .int l2, .ref 148] M φ (.inl (some (.int o))) M9 ψ :=
  ct_of hG (by decide) (Nat.le_of_ble_eq_true rfl) (fun B hB => t_W_nameByte hB hF  hψ h)
set_option maxRecDepth 100000 in
theorem t_W_rawEast {G : Gt} {φ : Ph} {B : Bag} (hB : BF G I_W_rawEast B) (hF : SF 149 φ)    {o : Int32} {M9 : Mm} {ψ : Ph} (hψ : pK o φ = ψ) {l1 : Int32} {M : Mm} (h : f_W_rawEast l1 M = some (o, M9)) : AW G I_W_rawEast B (QM G I_W_rawEast B (.inl (some (.int o))) M9 ψ) 0 0 0 [(0, .ref 0), (1, .int l1), (2, .ref 148)] [] M φ := by
  unfold f_W_rawEast at h
  refine a_aload_n (j := 2) hB e_W_rawEast_0 rfl rfl ?_
  refine a_iconst (v := 0) hB e_W_rawEast_1 ic_0 ?_
  refine a_aload_n (j := 0) hB e_W_rawEast_2 rfl rfl ?_
  refine a_iload_n (j := 1) hB e_W_rawEast_3 rfl rfl ?_
  rcases bc2_i h with ⟨e4, M4, hr4, h⟩ | ⟨r4, M4, hr4, h⟩
  · rcases Decidable.em (e4 = 3) with q | q
    · have h := ip q h
      subst q
      refine a_catN (E := "java/lang/IndexOutOfBoundsException") (M1 := M4) (φ1 := dirt φ) (j1 := 1) (j2 := 6) (pc1 := 13) hB (ar_V (As := [.int l1]) (rest := [.int (0 : Int32), .ref 148]) hB (c_C_rawEast (bf_G hB) (sf_m hF (by decide)) hr4) ml_W_86 md_C_rawEast rc_C_rawEast (sf_lt hF (by decide)) kk_0 rfl rfl (Nat.le_of_ble_eq_true rfl) rm_W_rawEast_C_rawEast e_W_rawEast_4) rfl rfl [] ⟨0, 9, 12, 28⟩ [] rfl (fun z hz => nomatch hz) (by decide) (by decide) cl_W_28 ca_3 e_W_rawEast_12 (by decide) rfl ?_
      refine a_iconst (v := 1) hB e_W_rawEast_13 ic_1 ?_
      cases h
      have hψ := (pK_1 φ).symm.trans hψ
      subst hψ
      exact a_iret hB rfl e_W_rawEast_14 (by decide) (by decide)
    · have h := iq q h
      cases h
  · refine a_ret (v := (some (.int r4))) (M1 := M4) (φ1 := φ) (st1 := [.int r4, .int (0 : Int32), .ref 148]) (j1 := 1) (j2 := 6) (ar_V (As := [.int l1]) (rest := [.int (0 : Int32), .ref 148]) hB (c_C_rawEast (bf_G hB) (sf_m hF (by decide)) hr4) ml_W_86 md_C_rawEast rc_C_rawEast (sf_lt hF (by decide)) kk_0 rfl rfl (Nat.le_of_ble_eq_true rfl) rm_W_rawEast_C_rawEast e_W_rawEast_4) rfl rfl rfl ?_
    refine a_i2l hB e_W_rawEast_7 ?_
    obtain ⟨M8, hM8, h⟩ := bm_i h
    refine a_last hB e_W_rawEast_8 (sf_lt hF (by decide)) kk_148 ll_148 (by decide) ?_
    refine a_mem hM8 ?_
    refine a_goto (tgt := 15) hB e_W_rawEast_9 (by decide) ?_
    refine a_iconst (v := 0) hB e_W_rawEast_15 ic_0 ?_
    cases h
    have hψ := (pK_0 φ).symm.trans hψ
    subst hψ
    exact a_iret hB rfl e_W_rawEast_16 (by decide) (by decide)
set_option maxRecDepth 100000 in
theorem c_W_rawEast {G : Gt} (hG : GOK G) {φ : Ph} (hF : SF 149 φ)   {M : Mm} {l1 : Int32} {o : Int32} {M9 : Mm} {ψ : Ph} (hψ : pK o φ = ψ) (h : f_W_rawEast l1 M = some (o, M9)) : CT G I_W_rawEast [.ref 0, .int l1, .ref 148] M φ (.inl (some (.int o))) M9 ψ :=
  ct_of hG (by decide) (Nat.le_of_ble_eq_true rfl) (fun B hB => t_W_rawEast hB hF  hψ h)
set_option maxRecDepth 100000 in
theorem t_W_rawNorth {G : Gt} {φ : Ph} {B : Bag} (hB : BF G I_W_rawNorth B) (hF : SF 149 φ)    {o : Int32} {M9 : Mm} {ψ : Ph} (hψ : pK o φ = ψ) {l1 : Int32} {M : Mm} (h : f_W_rawNorth l1 M = some (o, M9)) : AW G I_W_rawNorth B (QM G I_W_rawNorth B (.inl (some (.int o))) M9 ψ) 0 0 0 [(0, .ref 0), (1, .int l1), (2, .ref 148)] [] M φ := by
  unfold f_W_rawNorth at h
  refine a_aload_n (j := 2) hB e_W_rawNorth_0 rfl rfl ?_
  refine a_iconst (v := 0) hB e_W_rawNorth_1 ic_0 ?_
  refine a_aload_n (j := 0) hB e_W_rawNorth_2 rfl rfl ?_
  refine a_iload_n (j := 1) hB e_W_rawNorth_3 rfl rfl ?_
  rcases bc2_i h with ⟨e4, M4, hr4, h⟩ | ⟨r4, M4, hr4, h⟩
  · rcases Decidable.em (e4 = 3) with q | q
    · have h := ip q h
      subst q
      refine a_catN (E := "java/lang/IndexOutOfBoundsException") (M1 := M4) (φ1 := dirt φ) (j1 := 1) (j2 := 6) (pc1 := 13) hB (ar_V (As := [.int l1]) (rest := [.int (0 : Int32), .ref 148]) hB (c_C_rawNorth (bf_G hB) (sf_m hF (by decide)) hr4) ml_W_89 md_C_rawNorth rc_C_rawNorth (sf_lt hF (by decide)) kk_0 rfl rfl (Nat.le_of_ble_eq_true rfl) rm_W_rawNorth_C_rawNorth e_W_rawNorth_4) rfl rfl [] ⟨0, 9, 12, 28⟩ [] rfl (fun z hz => nomatch hz) (by decide) (by decide) cl_W_28 ca_3 e_W_rawNorth_12 (by decide) rfl ?_
      refine a_iconst (v := 1) hB e_W_rawNorth_13 ic_1 ?_
      cases h
      have hψ := (pK_1 φ).symm.trans hψ
      subst hψ
      exact a_iret hB rfl e_W_rawNorth_14 (by decide) (by decide)
    · have h := iq q h
      cases h
  · refine a_ret (v := (some (.int r4))) (M1 := M4) (φ1 := φ) (st1 := [.int r4, .int (0 : Int32), .ref 148]) (j1 := 1) (j2 := 6) (ar_V (As := [.int l1]) (rest := [.int (0 : Int32), .ref 148]) hB (c_C_rawNorth (bf_G hB) (sf_m hF (by decide)) hr4) ml_W_89 md_C_rawNorth rc_C_rawNorth (sf_lt hF (by decide)) kk_0 rfl rfl (Nat.le_of_ble_eq_true rfl) rm_W_rawNorth_C_rawNorth e_W_rawNorth_4) rfl rfl rfl ?_
    refine a_i2l hB e_W_rawNorth_7 ?_
    obtain ⟨M8, hM8, h⟩ := bm_i h
    refine a_last hB e_W_rawNorth_8 (sf_lt hF (by decide)) kk_148 ll_148 (by decide) ?_
    refine a_mem hM8 ?_
    refine a_goto (tgt := 15) hB e_W_rawNorth_9 (by decide) ?_
    refine a_iconst (v := 0) hB e_W_rawNorth_15 ic_0 ?_
    cases h
    have hψ := (pK_0 φ).symm.trans hψ
    subst hψ
    exact a_iret hB rfl e_W_rawNorth_16 (by decide) (by decide)
set_option maxRecDepth 100000 in
theorem c_W_rawNorth {G : Gt} (hG : GOK G) {φ : Ph} (hF : SF 149 φ)   {M : Mm} {l1 : Int32} {o : Int32} {M9 : Mm} {ψ : Ph} (hψ : pK o φ = ψ) (h : f_W_rawNorth l1 M = some (o, M9)) : CT G I_W_rawNorth [.ref 0, .int l1, .ref 148] M φ (.inl (some (.int o))) M9 ψ :=
  ct_of hG (by decide) (Nat.le_of_ble_eq_true rfl) (fun B hB => t_W_rawNorth hB hF  hψ h)
