/-! their proofs -/
set_option maxRecDepth 100000 in
theorem c_W_setWear {G : Gt} (hG : GOK G) {φ : Ph} (hF : SF 138 φ) (hd : dirt φ = φ)   {M : Mm} {l1 : Int32} {o : Int32} {M9 : Mm} (h : f_W_setWear l1 M = some (o, M9)) : CT G I_W_setWear [.ref 0, .int l1] M φ (.inl (some (.int o))) M9 φ :=
  ct_of hG (by decide) (Nat.le_of_ble_eq_true rfl) (fun B hB => t_W_setWear hB hF hd  h)
set_option maxRecDepth 100000 in
theorem t_W_setPace {G : Gt} {φ : Ph} {B : Bag} (hB : BF G I_W_setPace B) (hF : SF 138 φ) (hd : dirt φ = φ)    {o : Int32} {M9 : Mm} {l1 : Int32} {M : Mm} (h : f_W_setPace l1 M = some (o, M9)) : AW G I_W_setPace B (QM G I_W_setPace B (.inl (some (.int o))) M9 φ) 0 0 0 [(0, .ref 0), (1, .int l1)] [] M φ := by
  unfold f_W_setPace at h
  refine a_aload_n (j := 0) hB e_W_setPace_0 rfl rfl ?_
  refine a_iload_n (j := 1) hB e_W_setPace_1 rfl rfl ?_
  rcases bc2_i h with ⟨e2, M2, hr2, h⟩ | ⟨r2, M2, hr2, h⟩
  · rcases Decidable.em (e2 = 1) with q | q
    · have h := ip q h
      subst q
      refine a_catN (E := "java/lang/IllegalArgumentException") (M1 := M2) (φ1 := dirt φ) (j1 := 1) (j2 := 6) (pc1 := 7) hB (ar_V (As := [.int l1]) (rest := []) hB (c_C_setPace (bf_G hB) (sf_m hF (by decide)) hr2) ml_W_43 md_C_setPace rc_C_setPace (sf_lt hF (by decide)) kk_0 rfl rfl (Nat.le_of_ble_eq_true rfl) rm_W_setPace_C_setPace e_W_setPace_2) rfl rfl [] ⟨0, 5, 6, 13⟩ [] rfl (fun z hz => nomatch hz) (by decide) (by decide) cl_W_13 ca_1 e_W_setPace_6 (by decide) rfl ?_
      rw [hd]
      refine a_ldc (v := -1000000018) hB cn_W_15 e_W_setPace_7 ?_
      cases h
      exact a_iret hB rfl e_W_setPace_9 (by decide) (by decide)
    · have h := iq q h
      cases h
  · refine a_ret (v := (some (.int r2))) (M1 := M2) (φ1 := φ) (st1 := [.int r2]) (j1 := 1) (j2 := 6) (ar_V (As := [.int l1]) (rest := []) hB (c_C_setPace (bf_G hB) (sf_m hF (by decide)) hr2) ml_W_43 md_C_setPace rc_C_setPace (sf_lt hF (by decide)) kk_0 rfl rfl (Nat.le_of_ble_eq_true rfl) rm_W_setPace_C_setPace e_W_setPace_2) rfl rfl rfl ?_
    cases h
    exact a_iret hB rfl e_W_setPace_5 (by decide) (by decide)
set_option maxRecDepth 100000 in
theorem c_W_setPace {G : Gt} (hG : GOK G) {φ : Ph} (hF : SF 138 φ) (hd : dirt φ = φ)   {M : Mm} {l1 : Int32} {o : Int32} {M9 : Mm} (h : f_W_setPace l1 M = some (o, M9)) : CT G I_W_setPace [.ref 0, .int l1] M φ (.inl (some (.int o))) M9 φ :=
  ct_of hG (by decide) (Nat.le_of_ble_eq_true rfl) (fun B hB => t_W_setPace hB hF hd  h)
set_option maxRecDepth 100000 in
theorem t_W_undo {G : Gt} {φ : Ph} {B : Bag} (hB : BF G I_W_undo B) (hF : SF 138 φ) (hd : dirt φ = φ)    {o : Int32} {M9 : Mm}  {M : Mm} (h : f_W_undo M = some (o, M9)) : AW G I_W_undo B (QM G I_W_undo B (.inl (some (.int o))) M9 φ) 0 0 0 [(0, .ref 0)] [] M φ := by
  unfold f_W_undo at h
  refine a_aload_n (j := 0) hB e_W_undo_0 rfl rfl ?_
  rcases bc2_i h with ⟨e1, M1, hr1, h⟩ | ⟨r1, M1, hr1, h⟩
  · rcases Decidable.em (e1 = 2) with q | q
    · have h := ip q h
      subst q
      refine a_catN (E := "java/lang/IllegalStateException") (M1 := M1) (φ1 := dirt φ) (j1 := 1) (j2 := 6) (pc1 := 6) hB (ar_V (As := []) (rest := []) hB (c_C_undo (bf_G hB) (sf_m hF (by decide)) hr1) ml_W_46 md_C_undo rc_C_undo (sf_lt hF (by decide)) kk_0 rfl rfl (Nat.le_of_ble_eq_true rfl) rm_W_undo_C_undo e_W_undo_1) rfl rfl [] ⟨0, 4, 5, 20⟩ [] rfl (fun z hz => nomatch hz) (by decide) (by decide) cl_W_20 ca_2 e_W_undo_5 (by decide) rfl ?_
      rw [hd]
      refine a_ldc (v := -1000000019) hB cn_W_22 e_W_undo_6 ?_
      cases h
      exact a_iret hB rfl e_W_undo_8 (by decide) (by decide)
    · have h := iq q h
      cases h
  · refine a_ret (v := (some (.int r1))) (M1 := M1) (φ1 := φ) (st1 := [.int r1]) (j1 := 1) (j2 := 6) (ar_V (As := []) (rest := []) hB (c_C_undo (bf_G hB) (sf_m hF (by decide)) hr1) ml_W_46 md_C_undo rc_C_undo (sf_lt hF (by decide)) kk_0 rfl rfl (Nat.le_of_ble_eq_true rfl) rm_W_undo_C_undo e_W_undo_1) rfl rfl rfl ?_
    cases h
    exact a_iret hB rfl e_W_undo_4 (by decide) (by decide)
set_option maxRecDepth 100000 in
theorem c_W_undo {G : Gt} (hG : GOK G) {φ : Ph} (hF : SF 138 φ) (hd : dirt φ = φ)   {M : Mm}  {o : Int32} {M9 : Mm} (h : f_W_undo M = some (o, M9)) : CT G I_W_undo [.ref 0] M φ (.inl (some (.int o))) M9 φ :=
  ct_of hG (by decide) (Nat.le_of_ble_eq_true rfl) (fun B hB => t_W_undo hB hF hd  h)
set_option maxRecDepth 100000 in
theorem t_W_bearing {G : Gt} {φ : Ph} {B : Bag} (hB : BF G I_W_bearing B) (hF : SF 138 φ) (hd : dirt φ = φ)   {M : Mm} {o : Int32} {l1 : Int32}  (h : f_W_bearing M l1 = some o) : AW G I_W_bearing B (QM G I_W_bearing B (.inl (some (.int o))) M φ) 0 0 0 [(0, .ref 0), (1, .int l1)] [] M φ := by
  unfold f_W_bearing at h
  refine a_aload_n (j := 0) hB e_W_bearing_0 rfl rfl ?_
  refine a_iload_n (j := 1) hB e_W_bearing_1 rfl rfl ?_
  rcases bc_i h with ⟨e2, hr2, h⟩ | ⟨r2, hr2, h⟩
  · rcases Decidable.em (e2 = 3) with q | q
    · have h := ip q h
      subst q
      refine a_catN (E := "java/lang/IndexOutOfBoundsException") (M1 := M) (φ1 := dirt φ) (j1 := 1) (j2 := 6) (pc1 := 7) hB (ar_V (As := [.int l1]) (rest := []) hB (c_C_bearing (bf_G hB) (sf_m hF (by decide)) hr2) ml_W_49 md_C_bearing rc_C_bearing (sf_lt hF (by decide)) kk_0 rfl rfl (Nat.le_of_ble_eq_true rfl) rm_W_bearing_C_bearing e_W_bearing_2) rfl rfl [] ⟨0, 5, 6, 30⟩ [] rfl (fun z hz => nomatch hz) (by decide) (by decide) cl_W_30 ca_3 e_W_bearing_6 (by decide) rfl ?_
      rw [hd]
      refine a_ldc (v := -1000000017) hB cn_W_32 e_W_bearing_7 ?_
      cases h
      exact a_iret hB rfl e_W_bearing_9 (by decide) (by decide)
    · have h := iq q h
      cases h
  · refine a_ret (v := (some (.int r2))) (M1 := M) (φ1 := φ) (st1 := [.int r2]) (j1 := 1) (j2 := 6) (ar_V (As := [.int l1]) (rest := []) hB (c_C_bearing (bf_G hB) (sf_m hF (by decide)) hr2) ml_W_49 md_C_bearing rc_C_bearing (sf_lt hF (by decide)) kk_0 rfl rfl (Nat.le_of_ble_eq_true rfl) rm_W_bearing_C_bearing e_W_bearing_2) rfl rfl rfl ?_
    cases h
    exact a_iret hB rfl e_W_bearing_5 (by decide) (by decide)
set_option maxRecDepth 100000 in
theorem c_W_bearing {G : Gt} (hG : GOK G) {φ : Ph} (hF : SF 138 φ) (hd : dirt φ = φ)   {M : Mm} {l1 : Int32} {o : Int32} (h : f_W_bearing M l1 = some o) : CT G I_W_bearing [.ref 0, .int l1] M φ (.inl (some (.int o))) M φ :=
  ct_of hG (by decide) (Nat.le_of_ble_eq_true rfl) (fun B hB => t_W_bearing hB hF hd  h)
set_option maxRecDepth 100000 in
theorem t_W_pins {G : Gt} {φ : Ph} {B : Bag} (hB : BF G I_W_pins B) (hF : SF 138 φ) (hd : dirt φ = φ)   {M : Mm} {o : Int32} {l1 : Int32}  (h : f_W_pins M l1 = some o) : AW G I_W_pins B (QM G I_W_pins B (.inl (some (.int o))) M φ) 0 0 0 [(0, .ref 0), (1, .int l1)] [] M φ := by
  unfold f_W_pins at h
  refine a_aload_n (j := 0) hB e_W_pins_0 rfl rfl ?_
  refine a_iload_n (j := 1) hB e_W_pins_1 rfl rfl ?_
  rcases bc_i h with ⟨e2, hr2, h⟩ | ⟨r2, hr2, h⟩
  · rcases Decidable.em (e2 = 3) with q | q
    · have h := ip q h
      subst q
      refine a_catN (E := "java/lang/IndexOutOfBoundsException") (M1 := M) (φ1 := dirt φ) (j1 := 1) (j2 := 6) (pc1 := 7) hB (ar_V (As := [.int l1]) (rest := []) hB (c_C_pins (bf_G hB) (sf_m hF (by decide)) hr2) ml_W_52 md_C_pins rc_C_pins (sf_lt hF (by decide)) kk_0 rfl rfl (Nat.le_of_ble_eq_true rfl) rm_W_pins_C_pins e_W_pins_2) rfl rfl [] ⟨0, 5, 6, 30⟩ [] rfl (fun z hz => nomatch hz) (by decide) (by decide) cl_W_30 ca_3 e_W_pins_6 (by decide) rfl ?_
      rw [hd]
      refine a_ldc (v := -1000000017) hB cn_W_32 e_W_pins_7 ?_
      cases h
      exact a_iret hB rfl e_W_pins_9 (by decide) (by decide)
    · have h := iq q h
      cases h
  · refine a_ret (v := (some (.int r2))) (M1 := M) (φ1 := φ) (st1 := [.int r2]) (j1 := 1) (j2 := 6) (ar_V (As := [.int l1]) (rest := []) hB (c_C_pins (bf_G hB) (sf_m hF (by decide)) hr2) ml_W_52 md_C_pins rc_C_pins (sf_lt hF (by decide)) kk_0 rfl rfl (Nat.le_of_ble_eq_true rfl) rm_W_pins_C_pins e_W_pins_2) rfl rfl rfl ?_
    cases h
    exact a_iret hB rfl e_W_pins_5 (by decide) (by decide)
set_option maxRecDepth 100000 in
theorem c_W_pins {G : Gt} (hG : GOK G) {φ : Ph} (hF : SF 138 φ) (hd : dirt φ = φ)   {M : Mm} {l1 : Int32} {o : Int32} (h : f_W_pins M l1 = some o) : CT G I_W_pins [.ref 0, .int l1] M φ (.inl (some (.int o))) M φ :=
  ct_of hG (by decide) (Nat.le_of_ble_eq_true rfl) (fun B hB => t_W_pins hB hF hd  h)
set_option maxRecDepth 100000 in
theorem t_W_droppedPins {G : Gt} {φ : Ph} {B : Bag} (hB : BF G I_W_droppedPins B) (hF : SF 138 φ) (hd : dirt φ = φ)   {M : Mm} {o : Int32} {l1 : Int32}  (h : f_W_droppedPins M l1 = some o) : AW G I_W_droppedPins B (QM G I_W_droppedPins B (.inl (some (.int o))) M φ) 0 0 0 [(0, .ref 0), (1, .int l1)] [] M φ := by
  unfold f_W_droppedPins at h
  refine a_aload_n (j := 0) hB e_W_droppedPins_0 rfl rfl ?_
  refine a_iload_n (j := 1) hB e_W_droppedPins_1 rfl rfl ?_
  rcases bc_i h with ⟨e2, hr2, h⟩ | ⟨r2, hr2, h⟩
  · rcases Decidable.em (e2 = 3) with q | q
    · have h := ip q h
      subst q
      refine a_catN (E := "java/lang/IndexOutOfBoundsException") (M1 := M) (φ1 := dirt φ) (j1 := 1) (j2 := 6) (pc1 := 7) hB (ar_V (As := [.int l1]) (rest := []) hB (c_C_droppedPins (bf_G hB) (sf_m hF (by decide)) hr2) ml_W_55 md_C_droppedPins rc_C_droppedPins (sf_lt hF (by decide)) kk_0 rfl rfl (Nat.le_of_ble_eq_true rfl) rm_W_droppedPins_C_droppedPins e_W_droppedPins_2) rfl rfl [] ⟨0, 5, 6, 30⟩ [] rfl (fun z hz => nomatch hz) (by decide) (by decide) cl_W_30 ca_3 e_W_droppedPins_6 (by decide) rfl ?_
      rw [hd]
      refine a_ldc (v := -1000000017) hB cn_W_32 e_W_droppedPins_7 ?_
      cases h
      exact a_iret hB rfl e_W_droppedPins_9 (by decide) (by decide)
    · have h := iq q h
      cases h
  · refine a_ret (v := (some (.int r2))) (M1 := M) (φ1 := φ) (st1 := [.int r2]) (j1 := 1) (j2 := 6) (ar_V (As := [.int l1]) (rest := []) hB (c_C_droppedPins (bf_G hB) (sf_m hF (by decide)) hr2) ml_W_55 md_C_droppedPins rc_C_droppedPins (sf_lt hF (by decide)) kk_0 rfl rfl (Nat.le_of_ble_eq_true rfl) rm_W_droppedPins_C_droppedPins e_W_droppedPins_2) rfl rfl rfl ?_
    cases h
    exact a_iret hB rfl e_W_droppedPins_5 (by decide) (by decide)
set_option maxRecDepth 100000 in
theorem c_W_droppedPins {G : Gt} (hG : GOK G) {φ : Ph} (hF : SF 138 φ) (hd : dirt φ = φ)   {M : Mm} {l1 : Int32} {o : Int32} (h : f_W_droppedPins M l1 = some o) : CT G I_W_droppedPins [.ref 0, .int l1] M φ (.inl (some (.int o))) M φ :=
  ct_of hG (by decide) (Nat.le_of_ble_eq_true rfl) (fun B hB => t_W_droppedPins hB hF hd  h)
set_option maxRecDepth 100000 in
theorem t_W_readLength {G : Gt} {φ : Ph} {B : Bag} (hB : BF G I_W_readLength B) (hF : SF 138 φ) (hd : dirt φ = φ)   {M : Mm} {o : Int32} {l1 : Int32}  (h : f_W_readLength M l1 = some o) : AW G I_W_readLength B (QM G I_W_readLength B (.inl (some (.int o))) M φ) 0 0 0 [(0, .ref 0), (1, .int l1)] [] M φ := by
  unfold f_W_readLength at h
  refine a_aload_n (j := 0) hB e_W_readLength_0 rfl rfl ?_
  refine a_iload_n (j := 1) hB e_W_readLength_1 rfl rfl ?_
  rcases bc_i h with ⟨e2, hr2, h⟩ | ⟨r2, hr2, h⟩
  · rcases Decidable.em (e2 = 3) with q | q
    · have h := ip q h
      subst q
      refine a_catN (E := "java/lang/IndexOutOfBoundsException") (M1 := M) (φ1 := dirt φ) (j1 := 1) (j2 := 6) (pc1 := 7) hB (ar_V (As := [.int l1]) (rest := []) hB (c_C_readLength (bf_G hB) (sf_m hF (by decide)) hr2) ml_W_58 md_C_readLength rc_C_readLength (sf_lt hF (by decide)) kk_0 rfl rfl (Nat.le_of_ble_eq_true rfl) rm_W_readLength_C_readLength e_W_readLength_2) rfl rfl [] ⟨0, 5, 6, 30⟩ [] rfl (fun z hz => nomatch hz) (by decide) (by decide) cl_W_30 ca_3 e_W_readLength_6 (by decide) rfl ?_
      rw [hd]
      refine a_ldc (v := -1000000017) hB cn_W_32 e_W_readLength_7 ?_
      cases h
      exact a_iret hB rfl e_W_readLength_9 (by decide) (by decide)
    · have h := iq q h
      cases h
  · refine a_ret (v := (some (.int r2))) (M1 := M) (φ1 := φ) (st1 := [.int r2]) (j1 := 1) (j2 := 6) (ar_V (As := [.int l1]) (rest := []) hB (c_C_readLength (bf_G hB) (sf_m hF (by decide)) hr2) ml_W_58 md_C_readLength rc_C_readLength (sf_lt hF (by decide)) kk_0 rfl rfl (Nat.le_of_ble_eq_true rfl) rm_W_readLength_C_readLength e_W_readLength_2) rfl rfl rfl ?_
    cases h
    exact a_iret hB rfl e_W_readLength_5 (by decide) (by decide)
set_option maxRecDepth 100000 in
theorem c_W_readLength {G : Gt} (hG : GOK G) {φ : Ph} (hF : SF 138 φ) (hd : dirt φ = φ)   {M : Mm} {l1 : Int32} {o : Int32} (h : f_W_readLength M l1 = some o) : CT G I_W_readLength [.ref 0, .int l1] M φ (.inl (some (.int o))) M φ :=
  ct_of hG (by decide) (Nat.le_of_ble_eq_true rfl) (fun B hB => t_W_readLength hB hF hd  h)
set_option maxRecDepth 100000 in
theorem t_W_slopeLength {G : Gt} {φ : Ph} {B : Bag} (hB : BF G I_W_slopeLength B) (hF : SF 138 φ) (hd : dirt φ = φ)   {M : Mm} {o : Int32} {l1 : Int32}  (h : f_W_slopeLength M l1 = some o) : AW G I_W_slopeLength B (QM G I_W_slopeLength B (.inl (some (.int o))) M φ) 0 0 0 [(0, .ref 0), (1, .int l1)] [] M φ := by
  unfold f_W_slopeLength at h
  refine a_aload_n (j := 0) hB e_W_slopeLength_0 rfl rfl ?_
  refine a_iload_n (j := 1) hB e_W_slopeLength_1 rfl rfl ?_
  rcases bc_i h with ⟨e2, hr2, h⟩ | ⟨r2, hr2, h⟩
  · rcases Decidable.em (e2 = 3) with q | q
    · have h := ip q h
      subst q
      refine a_catN (E := "java/lang/IndexOutOfBoundsException") (M1 := M) (φ1 := dirt φ) (j1 := 1) (j2 := 6) (pc1 := 7) hB (ar_V (As := [.int l1]) (rest := []) hB (c_C_slopeLength (bf_G hB) (sf_m hF (by decide)) hr2) ml_W_61 md_C_slopeLength rc_C_slopeLength (sf_lt hF (by decide)) kk_0 rfl rfl (Nat.le_of_ble_eq_true rfl) rm_W_slopeLength_C_slopeLength e_W_slopeLength_2) rfl rfl [] ⟨0, 5, 6, 30⟩ [] rfl (fun z hz => nomatch hz) (by decide) (by decide) cl_W_30 ca_3 e_W_slopeLength_6 (by decide) rfl ?_
      rw [hd]
      refine a_ldc (v := -1000000017) hB cn_W_32 e_W_slopeLength_7 ?_
      cases h
      exact a_iret hB rfl e_W_slopeLength_9 (by decide) (by decide)
    · have h := iq q h
      cases h
  · refine a_ret (v := (some (.int r2))) (M1 := M) (φ1 := φ) (st1 := [.int r2]) (j1 := 1) (j2 := 6) (ar_V (As := [.int l1]) (rest := []) hB (c_C_slopeLength (bf_G hB) (sf_m hF (by decide)) hr2) ml_W_61 md_C_slopeLength rc_C_slopeLength (sf_lt hF (by decide)) kk_0 rfl rfl (Nat.le_of_ble_eq_true rfl) rm_W_slopeLength_C_slopeLength e_W_slopeLength_2) rfl rfl rfl ?_
    cases h
    exact a_iret hB rfl e_W_slopeLength_5 (by decide) (by decide)
set_option maxRecDepth 100000 in
theorem c_W_slopeLength {G : Gt} (hG : GOK G) {φ : Ph} (hF : SF 138 φ) (hd : dirt φ = φ)   {M : Mm} {l1 : Int32} {o : Int32} (h : f_W_slopeLength M l1 = some o) : CT G I_W_slopeLength [.ref 0, .int l1] M φ (.inl (some (.int o))) M φ :=
  ct_of hG (by decide) (Nat.le_of_ble_eq_true rfl) (fun B hB => t_W_slopeLength hB hF hd  h)
set_option maxRecDepth 100000 in
theorem t_W_horizontalLength {G : Gt} {φ : Ph} {B : Bag} (hB : BF G I_W_horizontalLength B) (hF : SF 138 φ) (hd : dirt φ = φ)   {M : Mm} {o : Int32} {l1 : Int32}  (h : f_W_horizontalLength M l1 = some o) : AW G I_W_horizontalLength B (QM G I_W_horizontalLength B (.inl (some (.int o))) M φ) 0 0 0 [(0, .ref 0), (1, .int l1)] [] M φ := by
  unfold f_W_horizontalLength at h
  refine a_aload_n (j := 0) hB e_W_horizontalLength_0 rfl rfl ?_
  refine a_iload_n (j := 1) hB e_W_horizontalLength_1 rfl rfl ?_
  rcases bc_i h with ⟨e2, hr2, h⟩ | ⟨r2, hr2, h⟩
  · rcases Decidable.em (e2 = 3) with q | q
    · have h := ip q h
      subst q
      refine a_catN (E := "java/lang/IndexOutOfBoundsException") (M1 := M) (φ1 := dirt φ) (j1 := 1) (j2 := 6) (pc1 := 7) hB (ar_V (As := [.int l1]) (rest := []) hB (c_C_horizontalLength (bf_G hB) (sf_m hF (by decide)) hr2) ml_W_64 md_C_horizontalLength rc_C_horizontalLength (sf_lt hF (by decide)) kk_0 rfl rfl (Nat.le_of_ble_eq_true rfl) rm_W_horizontalLength_C_horizontalLength e_W_horizontalLength_2) rfl rfl [] ⟨0, 5, 6, 30⟩ [] rfl (fun z hz => nomatch hz) (by decide) (by decide) cl_W_30 ca_3 e_W_horizontalLength_6 (by decide) rfl ?_
      rw [hd]
      refine a_ldc (v := -1000000017) hB cn_W_32 e_W_horizontalLength_7 ?_
      cases h
      exact a_iret hB rfl e_W_horizontalLength_9 (by decide) (by decide)
    · have h := iq q h
      cases h
  · refine a_ret (v := (some (.int r2))) (M1 := M) (φ1 := φ) (st1 := [.int r2]) (j1 := 1) (j2 := 6) (ar_V (As := [.int l1]) (rest := []) hB (c_C_horizontalLength (bf_G hB) (sf_m hF (by decide)) hr2) ml_W_64 md_C_horizontalLength rc_C_horizontalLength (sf_lt hF (by decide)) kk_0 rfl rfl (Nat.le_of_ble_eq_true rfl) rm_W_horizontalLength_C_horizontalLength e_W_horizontalLength_2) rfl rfl rfl ?_
    cases h
    exact a_iret hB rfl e_W_horizontalLength_5 (by decide) (by decide)
set_option maxRecDepth 100000 in
theorem c_W_horizontalLength {G : Gt} (hG : GOK G) {φ : Ph} (hF : SF 138 φ) (hd : dirt φ = φ)   {M : Mm} {l1 : Int32} {o : Int32} (h : f_W_horizontalLength M l1 = some o) : CT G I_W_horizontalLength [.ref 0, .int l1] M φ (.inl (some (.int o))) M φ :=
  ct_of hG (by decide) (Nat.le_of_ble_eq_true rfl) (fun B hB => t_W_horizontalLength hB hF hd  h)
set_option maxRecDepth 100000 in
theorem t_W_eastStep {G : Gt} {φ : Ph} {B : Bag} (hB : BF G I_W_eastStep B) (hF : SF 138 φ) (hd : dirt φ = φ)   {M : Mm} {o : Int32} {l1 : Int32}  (h : f_W_eastStep M l1 = some o) : AW G I_W_eastStep B (QM G I_W_eastStep B (.inl (some (.int o))) M φ) 0 0 0 [(0, .ref 0), (1, .int l1)] [] M φ := by
  unfold f_W_eastStep at h
  refine a_aload_n (j := 0) hB e_W_eastStep_0 rfl rfl ?_
  refine a_iload_n (j := 1) hB e_W_eastStep_1 rfl rfl ?_
  rcases bc_i h with ⟨e2, hr2, h⟩ | ⟨r2, hr2, h⟩
  · rcases Decidable.em (e2 = 3) with q | q
    · have h := ip q h
      subst q
      refine a_catN (E := "java/lang/IndexOutOfBoundsException") (M1 := M) (φ1 := dirt φ) (j1 := 1) (j2 := 6) (pc1 := 7) hB (ar_V (As := [.int l1]) (rest := []) hB (c_C_eastStep (bf_G hB) (sf_m hF (by decide)) hr2) ml_W_67 md_C_eastStep rc_C_eastStep (sf_lt hF (by decide)) kk_0 rfl rfl (Nat.le_of_ble_eq_true rfl) rm_W_eastStep_C_eastStep e_W_eastStep_2) rfl rfl [] ⟨0, 5, 6, 30⟩ [] rfl (fun z hz => nomatch hz) (by decide) (by decide) cl_W_30 ca_3 e_W_eastStep_6 (by decide) rfl ?_
      rw [hd]
      refine a_ldc (v := -1000000017) hB cn_W_32 e_W_eastStep_7 ?_
      cases h
      exact a_iret hB rfl e_W_eastStep_9 (by decide) (by decide)
    · have h := iq q h
      cases h
  · refine a_ret (v := (some (.int r2))) (M1 := M) (φ1 := φ) (st1 := [.int r2]) (j1 := 1) (j2 := 6) (ar_V (As := [.int l1]) (rest := []) hB (c_C_eastStep (bf_G hB) (sf_m hF (by decide)) hr2) ml_W_67 md_C_eastStep rc_C_eastStep (sf_lt hF (by decide)) kk_0 rfl rfl (Nat.le_of_ble_eq_true rfl) rm_W_eastStep_C_eastStep e_W_eastStep_2) rfl rfl rfl ?_
    cases h
    exact a_iret hB rfl e_W_eastStep_5 (by decide) (by decide)
set_option maxRecDepth 100000 in
theorem c_W_eastStep {G : Gt} (hG : GOK G) {φ : Ph} (hF : SF 138 φ) (hd : dirt φ = φ)   {M : Mm} {l1 : Int32} {o : Int32} (h : f_W_eastStep M l1 = some o) : CT G I_W_eastStep [.ref 0, .int l1] M φ (.inl (some (.int o))) M φ :=
  ct_of hG (by decide) (Nat.le_of_ble_eq_true rfl) (fun B hB => t_W_eastStep hB hF hd  h)
set_option maxRecDepth 100000 in
theorem t_W_northStep {G : Gt} {φ : Ph} {B : Bag} (hB : BF G I_W_northStep B) (hF : SF 138 φ) (hd : dirt φ = φ)   {M : Mm} {o : Int32} {l1 : Int32}  (h : f_W_northStep M l1 = some o) : AW G I_W_northStep B (QM G I_W_northStep B (.inl (some (.int o))) M φ) 0 0 0 [(0, .ref 0), (1, .int l1)] [] M φ := by
  unfold f_W_northStep at h
  refine a_aload_n (j := 0) hB e_W_northStep_0 rfl rfl ?_
  refine a_iload_n (j := 1) hB e_W_northStep_1 rfl rfl ?_
  rcases bc_i h with ⟨e2, hr2, h⟩ | ⟨r2, hr2, h⟩
  · rcases Decidable.em (e2 = 3) with q | q
    · have h := ip q h
      subst q
      refine a_catN (E := "java/lang/IndexOutOfBoundsException") (M1 := M) (φ1 := dirt φ) (j1 := 1) (j2 := 6) (pc1 := 7) hB (ar_V (As := [.int l1]) (rest := []) hB (c_C_northStep (bf_G hB) (sf_m hF (by decide)) hr2) ml_W_70 md_C_northStep rc_C_northStep (sf_lt hF (by decide)) kk_0 rfl rfl (Nat.le_of_ble_eq_true rfl) rm_W_northStep_C_northStep e_W_northStep_2) rfl rfl [] ⟨0, 5, 6, 30⟩ [] rfl (fun z hz => nomatch hz) (by decide) (by decide) cl_W_30 ca_3 e_W_northStep_6 (by decide) rfl ?_
      rw [hd]
      refine a_ldc (v := -1000000017) hB cn_W_32 e_W_northStep_7 ?_
      cases h
      exact a_iret hB rfl e_W_northStep_9 (by decide) (by decide)
    · have h := iq q h
      cases h
  · refine a_ret (v := (some (.int r2))) (M1 := M) (φ1 := φ) (st1 := [.int r2]) (j1 := 1) (j2 := 6) (ar_V (As := [.int l1]) (rest := []) hB (c_C_northStep (bf_G hB) (sf_m hF (by decide)) hr2) ml_W_70 md_C_northStep rc_C_northStep (sf_lt hF (by decide)) kk_0 rfl rfl (Nat.le_of_ble_eq_true rfl) rm_W_northStep_C_northStep e_W_northStep_2) rfl rfl rfl ?_
    cases h
    exact a_iret hB rfl e_W_northStep_5 (by decide) (by decide)
set_option maxRecDepth 100000 in
theorem c_W_northStep {G : Gt} (hG : GOK G) {φ : Ph} (hF : SF 138 φ) (hd : dirt φ = φ)   {M : Mm} {l1 : Int32} {o : Int32} (h : f_W_northStep M l1 = some o) : CT G I_W_northStep [.ref 0, .int l1] M φ (.inl (some (.int o))) M φ :=
  ct_of hG (by decide) (Nat.le_of_ble_eq_true rfl) (fun B hB => t_W_northStep hB hF hd  h)
set_option maxRecDepth 100000 in
theorem t_W_tallies {G : Gt} {φ : Ph} {B : Bag} (hB : BF G I_W_tallies B) (hF : SF 138 φ) (hd : dirt φ = φ)   {M : Mm} {o : Int32} {l1 : Int32}  (h : f_W_tallies M l1 = some o) : AW G I_W_tallies B (QM G I_W_tallies B (.inl (some (.int o))) M φ) 0 0 0 [(0, .ref 0), (1, .int l1)] [] M φ := by
  unfold f_W_tallies at h
  refine a_aload_n (j := 0) hB e_W_tallies_0 rfl rfl ?_
  refine a_iload_n (j := 1) hB e_W_tallies_1 rfl rfl ?_
  rcases bc_i h with ⟨e2, hr2, h⟩ | ⟨r2, hr2, h⟩
  · rcases Decidable.em (e2 = 3) with q | q
    · have h := ip q h
      subst q
      refine a_catN (E := "java/lang/IndexOutOfBoundsException") (M1 := M) (φ1 := dirt φ) (j1 := 1) (j2 := 6) (pc1 := 7) hB (ar_V (As := [.int l1]) (rest := []) hB (c_C_tallies (bf_G hB) (sf_m hF (by decide)) hr2) ml_W_73 md_C_tallies rc_C_tallies (sf_lt hF (by decide)) kk_0 rfl rfl (Nat.le_of_ble_eq_true rfl) rm_W_tallies_C_tallies e_W_tallies_2) rfl rfl [] ⟨0, 5, 6, 30⟩ [] rfl (fun z hz => nomatch hz) (by decide) (by decide) cl_W_30 ca_3 e_W_tallies_6 (by decide) rfl ?_
      rw [hd]
      refine a_ldc (v := -1000000017) hB cn_W_32 e_W_tallies_7 ?_
      cases h
      exact a_iret hB rfl e_W_tallies_9 (by decide) (by decide)
    · have h := iq q h
      cases h
  · refine a_ret (v := (some (.int r2))) (M1 := M) (φ1 := φ) (st1 := [.int r2]) (j1 := 1) (j2 := 6) (ar_V (As := [.int l1]) (rest := []) hB (c_C_tallies (bf_G hB) (sf_m hF (by decide)) hr2) ml_W_73 md_C_tallies rc_C_tallies (sf_lt hF (by decide)) kk_0 rfl rfl (Nat.le_of_ble_eq_true rfl) rm_W_tallies_C_tallies e_W_tallies_2) rfl rfl rfl ?_
    cases h
    exact a_iret hB rfl e_W_tallies_5 (by decide) (by decide)
set_option maxRecDepth 100000 in
theorem c_W_tallies {G : Gt} (hG : GOK G) {φ : Ph} (hF : SF 138 φ) (hd : dirt φ = φ)   {M : Mm} {l1 : Int32} {o : Int32} (h : f_W_tallies M l1 = some o) : CT G I_W_tallies [.ref 0, .int l1] M φ (.inl (some (.int o))) M φ :=
  ct_of hG (by decide) (Nat.le_of_ble_eq_true rfl) (fun B hB => t_W_tallies hB hF hd  h)
set_option maxRecDepth 100000 in
theorem t_W_misclosureIfDropped {G : Gt} {φ : Ph} {B : Bag} (hB : BF G I_W_misclosureIfDropped B) (hF : SF 138 φ) (hd : dirt φ = φ)    {o : Int32} {M9 : Mm} {l1 : Int32} {M : Mm} (h : f_W_misclosureIfDropped l1 M = some (o, M9)) : AW G I_W_misclosureIfDropped B (QM G I_W_misclosureIfDropped B (.inl (some (.int o))) M9 φ) 0 0 0 [(0, .ref 0), (1, .int l1)] [] M φ := by
  unfold f_W_misclosureIfDropped at h
  refine a_aload_n (j := 0) hB e_W_misclosureIfDropped_0 rfl rfl ?_
  refine a_iload_n (j := 1) hB e_W_misclosureIfDropped_1 rfl rfl ?_
  rcases bc2_i h with ⟨e2, M2, hr2, h⟩ | ⟨r2, M2, hr2, h⟩
  · rcases Decidable.em (e2 = 3) with q | q
    · have h := ip q h
      subst q
      refine a_catN (E := "java/lang/IndexOutOfBoundsException") (M1 := M2) (φ1 := dirt φ) (j1 := 1) (j2 := 6) (pc1 := 7) hB (ar_V (As := [.int l1]) (rest := []) hB (c_C_misclosureIfDropped (bf_G hB) (sf_m hF (by decide)) hr2) ml_W_76 md_C_misclosureIfDropped rc_C_misclosureIfDropped (sf_lt hF (by decide)) kk_0 rfl rfl (Nat.le_of_ble_eq_true rfl) rm_W_misclosureIfDropped_C_misclosureIfDropped e_W_misclosureIfDropped_2) rfl rfl [] ⟨0, 5, 6, 30⟩ [] rfl (fun z hz => nomatch hz) (by decide) (by decide) cl_W_30 ca_3 e_W_misclosureIfDropped_6 (by decide) rfl ?_
      rw [hd]
      refine a_ldc (v := -1000000017) hB cn_W_32 e_W_misclosureIfDropped_7 ?_
      cases h
      exact a_iret hB rfl e_W_misclosureIfDropped_9 (by decide) (by decide)
    · have h := iq q h
      cases h
  · refine a_ret (v := (some (.int r2))) (M1 := M2) (φ1 := φ) (st1 := [.int r2]) (j1 := 1) (j2 := 6) (ar_V (As := [.int l1]) (rest := []) hB (c_C_misclosureIfDropped (bf_G hB) (sf_m hF (by decide)) hr2) ml_W_76 md_C_misclosureIfDropped rc_C_misclosureIfDropped (sf_lt hF (by decide)) kk_0 rfl rfl (Nat.le_of_ble_eq_true rfl) rm_W_misclosureIfDropped_C_misclosureIfDropped e_W_misclosureIfDropped_2) rfl rfl rfl ?_
    cases h
    exact a_iret hB rfl e_W_misclosureIfDropped_5 (by decide) (by decide)
set_option maxRecDepth 100000 in
theorem c_W_misclosureIfDropped {G : Gt} (hG : GOK G) {φ : Ph} (hF : SF 138 φ) (hd : dirt φ = φ)   {M : Mm} {l1 : Int32} {o : Int32} {M9 : Mm} (h : f_W_misclosureIfDropped l1 M = some (o, M9)) : CT G I_W_misclosureIfDropped [.ref 0, .int l1] M φ (.inl (some (.int o))) M9 φ :=
  ct_of hG (by decide) (Nat.le_of_ble_eq_true rfl) (fun B hB => t_W_misclosureIfDropped hB hF hd  h)
set_option maxRecDepth 100000 in
theorem t_W_isBog {G : Gt} {φ : Ph} {B : Bag} (hB : BF G I_W_isBog B) (hF : SF 138 φ) (hd : dirt φ = φ)   {M : Mm} {o : Int32} {l1 : Int32}  (h : f_W_isBog M l1 = some o) : AW G I_W_isBog B (QM G I_W_isBog B (.inl (some (.int o))) M φ) 0 0 0 [(0, .ref 0), (1, .int l1)] [] M φ := by
  unfold f_W_isBog at h
  refine a_aload_n (j := 0) hB e_W_isBog_0 rfl rfl ?_
  refine a_iload_n (j := 1) hB e_W_isBog_1 rfl rfl ?_
  rcases bc_i h with ⟨e2, hr2, h⟩ | ⟨r2, hr2, h⟩
  · rcases Decidable.em (e2 = 3) with q | q
    · have h := ip q h
      subst q
      refine a_catN (E := "java/lang/IndexOutOfBoundsException") (M1 := M) (φ1 := dirt φ) (j1 := 1) (j2 := 6) (pc1 := 15) hB (ar_V (As := [.int l1]) (rest := []) hB (c_C_isBog (bf_G hB) (sf_m hF (by decide)) hr2) ml_W_79 md_C_isBog rc_C_isBog (sf_lt hF (by decide)) kk_0 rfl rfl (Nat.le_of_ble_eq_true rfl) rm_W_isBog_C_isBog e_W_isBog_2) rfl rfl [] ⟨0, 13, 14, 30⟩ [] rfl (fun z hz => nomatch hz) (by decide) (by decide) cl_W_30 ca_3 e_W_isBog_14 (by decide) rfl ?_
      rw [hd]
      refine a_ldc (v := -1000000017) hB cn_W_32 e_W_isBog_15 ?_
      cases h
      exact a_iret hB rfl e_W_isBog_17 (by decide) (by decide)
    · have h := iq q h
      cases h
  · refine a_ret (v := (some (.int r2))) (M1 := M) (φ1 := φ) (st1 := [.int r2]) (j1 := 1) (j2 := 6) (ar_V (As := [.int l1]) (rest := []) hB (c_C_isBog (bf_G hB) (sf_m hF (by decide)) hr2) ml_W_79 md_C_isBog rc_C_isBog (sf_lt hF (by decide)) kk_0 rfl rfl (Nat.le_of_ble_eq_true rfl) rm_W_isBog_C_isBog e_W_isBog_2) rfl rfl rfl ?_
    refine a_if_eq (tgt := 12) hB e_W_isBog_5 (by decide) (fun c => ?_) (fun c => ?_)
    · have h := ip c h
      refine a_iconst (v := 0) hB e_W_isBog_12 ic_0 ?_
      cases h
      exact a_iret hB rfl e_W_isBog_13 (by decide) (by decide)
    · have h := iq c h
      refine a_iconst (v := 1) hB e_W_isBog_8 ic_1 ?_
      refine a_goto (tgt := 13) hB e_W_isBog_9 (by decide) ?_
      cases h
      exact a_iret hB rfl e_W_isBog_13 (by decide) (by decide)
set_option maxRecDepth 100000 in
theorem c_W_isBog {G : Gt} (hG : GOK G) {φ : Ph} (hF : SF 138 φ) (hd : dirt φ = φ)   {M : Mm} {l1 : Int32} {o : Int32} (h : f_W_isBog M l1 = some o) : CT G I_W_isBog [.ref 0, .int l1] M φ (.inl (some (.int o))) M φ :=
  ct_of hG (by decide) (Nat.le_of_ble_eq_true rfl) (fun B hB => t_W_isBog hB hF hd  h)
set_option maxRecDepth 100000 in
theorem t_W_nameByte {G : Gt} {φ : Ph} {B : Bag} (hB : BF G I_W_nameByte B) (hF : SF 138 φ) (hd : dirt φ = φ)   {M : Mm} {o : Int32} {l1 : Int32} {l2 : Int32}  (h : f_W_nameByte M l1 l2 = some o) : AW G I_W_nameByte B (QM G I_W_nameByte B (.inl (some (.int o))) M φ) 0 0 0 [(0, .ref 0), (1, .int l1), (2, .int l2)] [] M φ := by
  unfold f_W_nameByte at h
  refine a_aload_n (j := 0) hB e_W_nameByte_0 rfl rfl ?_
  refine a_iload_n (j := 1) hB e_W_nameByte_1 rfl rfl ?_
  refine a_iload_n (j := 2) hB e_W_nameByte_2 rfl rfl ?_
  rcases bc_i h with ⟨e3, hr3, h⟩ | ⟨r3, hr3, h⟩
  · rcases Decidable.em (e3 = 3) with q | q
    · have h := ip q h
      subst q
      refine a_catN (E := "java/lang/IndexOutOfBoundsException") (M1 := M) (φ1 := dirt φ) (j1 := 1) (j2 := 6) (pc1 := 8) hB (ar_V (As := [.int l1, .int l2]) (rest := []) hB (c_C_nameByte (bf_G hB) (sf_m hF (by decide)) hr3) ml_W_83 md_C_nameByte rc_C_nameByte (sf_lt hF (by decide)) kk_0 rfl rfl (Nat.le_of_ble_eq_true rfl) rm_W_nameByte_C_nameByte e_W_nameByte_3) rfl rfl [] ⟨0, 6, 7, 30⟩ [] rfl (fun z hz => nomatch hz) (by decide) (by decide) cl_W_30 ca_3 e_W_nameByte_7 (by decide) rfl ?_
      rw [hd]
      refine a_ldc (v := -1000000017) hB cn_W_32 e_W_nameByte_8 ?_
      cases h
      exact a_iret hB rfl e_W_nameByte_10 (by decide) (by decide)
    · have h := iq q h
      cases h
  · refine a_ret (v := (some (.int r3))) (M1 := M) (φ1 := φ) (st1 := [.int r3]) (j1 := 1) (j2 := 6) (ar_V (As := [.int l1, .int l2]) (rest := []) hB (c_C_nameByte (bf_G hB) (sf_m hF (by decide)) hr3) ml_W_83 md_C_nameByte rc_C_nameByte (sf_lt hF (by decide)) kk_0 rfl rfl (Nat.le_of_ble_eq_true rfl) rm_W_nameByte_C_nameByte e_W_nameByte_3) rfl rfl rfl ?_
    cases h
    exact a_iret hB rfl e_W_nameByte_6 (by decide) (by decide)
set_option maxRecDepth 100000 in
theorem c_W_nameByte {G : Gt} (hG : GOK G) {φ : Ph} (hF : SF 138 φ) (hd : dirt φ = φ)   {M : Mm} {l1 : Int32} {l2 : Int32} {o : Int32} (h : f_W_nameByte M l1 l2 = some o) : CT G I_W_nameByte [.ref 0, .int l1, .int l2] M φ (.inl (some (.int o))) M φ :=
  ct_of hG (by decide) (Nat.le_of_ble_eq_true rfl) (fun B hB => t_W_nameByte hB hF hd  h)
set_option maxRecDepth 100000 in
theorem t_W_rawEast {G : Gt} {φ : Ph} {B : Bag} (hB : BF G I_W_rawEast B) (hF : SF 138 φ) (hd : dirt φ = φ)    {o : Int32} {M9 : Mm} {l1 : Int32} {M : Mm} (h : f_W_rawEast l1 M = some (o, M9)) : AW G I_W_rawEast B (QM G I_W_rawEast B (.inl (some (.int o))) M9 φ) 0 0 0 [(0, .ref 0), (1, .int l1)] [] M φ := by
  unfold f_W_rawEast at h
  refine a_aload_n (j := 0) hB e_W_rawEast_0 rfl rfl ?_
  refine a_iload_n (j := 1) hB e_W_rawEast_1 rfl rfl ?_
  rcases bc2_i h with ⟨e2, M2, hr2, h⟩ | ⟨r2, M2, hr2, h⟩
  · rcases Decidable.em (e2 = 3) with q | q
    · have h := ip q h
      subst q
      refine a_catN (E := "java/lang/IndexOutOfBoundsException") (M1 := M2) (φ1 := dirt φ) (j1 := 1) (j2 := 6) (pc1 := 7) hB (ar_V (As := [.int l1]) (rest := []) hB (c_C_rawEast (bf_G hB) (sf_m hF (by decide)) hr2) ml_W_86 md_C_rawEast rc_C_rawEast (sf_lt hF (by decide)) kk_0 rfl rfl (Nat.le_of_ble_eq_true rfl) rm_W_rawEast_C_rawEast e_W_rawEast_2) rfl rfl [] ⟨0, 5, 6, 30⟩ [] rfl (fun z hz => nomatch hz) (by decide) (by decide) cl_W_30 ca_3 e_W_rawEast_6 (by decide) rfl ?_
      rw [hd]
      refine a_ldc (v := -1000000017) hB cn_W_32 e_W_rawEast_7 ?_
      cases h
      exact a_iret hB rfl e_W_rawEast_9 (by decide) (by decide)
    · have h := iq q h
      cases h
  · refine a_ret (v := (some (.int r2))) (M1 := M2) (φ1 := φ) (st1 := [.int r2]) (j1 := 1) (j2 := 6) (ar_V (As := [.int l1]) (rest := []) hB (c_C_rawEast (bf_G hB) (sf_m hF (by decide)) hr2) ml_W_86 md_C_rawEast rc_C_rawEast (sf_lt hF (by decide)) kk_0 rfl rfl (Nat.le_of_ble_eq_true rfl) rm_W_rawEast_C_rawEast e_W_rawEast_2) rfl rfl rfl ?_
    cases h
    exact a_iret hB rfl e_W_rawEast_5 (by decide) (by decide)
set_option maxRecDepth 100000 in
theorem c_W_rawEast {G : Gt} (hG : GOK G) {φ : Ph} (hF : SF 138 φ) (hd : dirt φ = φ)   {M : Mm} {l1 : Int32} {o : Int32} {M9 : Mm} (h : f_W_rawEast l1 M = some (o, M9)) : CT G I_W_rawEast [.ref 0, .int l1] M φ (.inl (some (.int o))) M9 φ :=
  ct_of hG (by decide) (Nat.le_of_ble_eq_true rfl) (fun B hB => t_W_rawEast hB hF hd  h)
set_option maxRecDepth 100000 in
theorem t_W_rawNorth {G : Gt} {φ : Ph} {B : Bag} (hB : BF G I_W_rawNorth B) (hF : SF 138 φ) (hd : dirt φ = φ)    {o : Int32} {M9 : Mm} {l1 : Int32} {M : Mm} (h : f_W_rawNorth l1 M = some (o, M9)) : AW G I_W_rawNorth B (QM G I_W_rawNorth B (.inl (some (.int o))) M9 φ) 0 0 0 [(0, .ref 0), (1, .int l1)] [] M φ := by
  unfold f_W_rawNorth at h
  refine a_aload_n (j := 0) hB e_W_rawNorth_0 rfl rfl ?_
  refine a_iload_n (j := 1) hB e_W_rawNorth_1 rfl rfl ?_
  rcases bc2_i h with ⟨e2, M2, hr2, h⟩ | ⟨r2, M2, hr2, h⟩
  · rcases Decidable.em (e2 = 3) with q | q
    · have h := ip q h
      subst q
      refine a_catN (E := "java/lang/IndexOutOfBoundsException") (M1 := M2) (φ1 := dirt φ) (j1 := 1) (j2 := 6) (pc1 := 7) hB (ar_V (As := [.int l1]) (rest := []) hB (c_C_rawNorth (bf_G hB) (sf_m hF (by decide)) hr2) ml_W_89 md_C_rawNorth rc_C_rawNorth (sf_lt hF (by decide)) kk_0 rfl rfl (Nat.le_of_ble_eq_true rfl) rm_W_rawNorth_C_rawNorth e_W_rawNorth_2) rfl rfl [] ⟨0, 5, 6, 30⟩ [] rfl (fun z hz => nomatch hz) (by decide) (by decide) cl_W_30 ca_3 e_W_rawNorth_6 (by decide) rfl ?_
      rw [hd]
      refine a_ldc (v := -1000000017) hB cn_W_32 e_W_rawNorth_7 ?_
      cases h
      exact a_iret hB rfl e_W_rawNorth_9 (by decide) (by decide)
    · have h := iq q h
      cases h
  · refine a_ret (v := (some (.int r2))) (M1 := M2) (φ1 := φ) (st1 := [.int r2]) (j1 := 1) (j2 := 6) (ar_V (As := [.int l1]) (rest := []) hB (c_C_rawNorth (bf_G hB) (sf_m hF (by decide)) hr2) ml_W_89 md_C_rawNorth rc_C_rawNorth (sf_lt hF (by decide)) kk_0 rfl rfl (Nat.le_of_ble_eq_true rfl) rm_W_rawNorth_C_rawNorth e_W_rawNorth_2) rfl rfl rfl ?_
    cases h
    exact a_iret hB rfl e_W_rawNorth_5 (by decide) (by decide)
set_option maxRecDepth 100000 in
theorem c_W_rawNorth {G : Gt} (hG : GOK G) {φ : Ph} (hF : SF 138 φ) (hd : dirt φ = φ)   {M : Mm} {l1 : Int32} {o : Int32} {M9 : Mm} (h : f_W_rawNorth l1 M = some (o, M9)) : CT G I_W_rawNorth [.ref 0, .int l1] M φ (.inl (some (.int o))) M9 φ :=
  ct_of hG (by decide) (Nat.le_of_ble_eq_true rfl) (fun B hB => t_W_rawNorth hB hF hd  h)
set_option maxRecDepth 100000 in
theorem t_W_east {G : Gt} {φ : Ph} {B : Bag} (hB : BF G I_W_east B) (hF : SF 138 φ) (hd : dirt φ = φ)    {o : Int32} {M9 : Mm} {l1 : Int32} {M : Mm} (h : f_W_east l1 M = some (o, M9)) : AW G I_W_east B (QM G I_W_east B (.inl (some (.int o))) M9 φ) 0 0 0 [(0, .ref 0), (1, .int l1)] [] M φ := by
  unfold f_W_east at h
  refine a_aload_n (j := 0) hB e_W_east_0 rfl rfl ?_
  refine a_iload_n (j := 1) hB e_W_east_1 rfl rfl ?_
  rcases bc2_i h with ⟨e2, M2, hr2, h⟩ | ⟨r2, M2, hr2, h⟩
  · rcases Decidable.em (e2 = 3) with q | q
    · have h := ip q h
      subst q
      refine a_catN (E := "java/lang/IndexOutOfBoundsException") (M1 := M2) (φ1 := dirt φ) (j1 := 1) (j2 := 6) (pc1 := 7) hB (ar_V (As := [.int l1]) (rest := []) hB (c_C_east (bf_G hB) (sf_m hF (by decide)) hr2) ml_W_92 md_C_east rc_C_east (sf_lt hF (by decide)) kk_0 rfl rfl (Nat.le_of_ble_eq_true rfl) rm_W_east_C_east e_W_east_2) rfl rfl [] ⟨0, 5, 6, 30⟩ [] rfl (fun z hz => nomatch hz) (by decide) (by decide) cl_W_30 ca_3 e_W_east_6 (by decide) rfl ?_
      rw [hd]
      refine a_ldc (v := -1000000017) hB cn_W_32 e_W_east_7 ?_
      cases h
      exact a_iret hB rfl e_W_east_9 (by decide) (by decide)
    · have h := iq q h
      cases h
  · refine a_ret (v := (some (.int r2))) (M1 := M2) (φ1 := φ) (st1 := [.int r2]) (j1 := 1) (j2 := 6) (ar_V (As := [.int l1]) (rest := []) hB (c_C_east (bf_G hB) (sf_m hF (by decide)) hr2) ml_W_92 md_C_east rc_C_east (sf_lt hF (by decide)) kk_0 rfl rfl (Nat.le_of_ble_eq_true rfl) rm_W_east_C_east e_W_east_2) rfl rfl rfl ?_
    cases h
    exact a_iret hB rfl e_W_east_5 (by decide) (by decide)
set_option maxRecDepth 100000 in
theorem c_W_east {G : Gt} (hG : GOK G) {φ : Ph} (hF : SF 138 φ) (hd : dirt φ = φ)   {M : Mm} {l1 : Int32} {o : Int32} {M9 : Mm} (h : f_W_east l1 M = some (o, M9)) : CT G I_W_east [.ref 0, .int l1] M φ (.inl (some (.int o))) M9 φ :=
  ct_of hG (by decide) (Nat.le_of_ble_eq_true rfl) (fun B hB => t_W_east hB hF hd  h)
set_option maxRecDepth 100000 in
theorem t_W_north {G : Gt} {φ : Ph} {B : Bag} (hB : BF G I_W_north B) (hF : SF 138 φ) (hd : dirt φ = φ)    {o : Int32} {M9 : Mm} {l1 : Int32} {M : Mm} (h : f_W_north l1 M = some (o, M9)) : AW G I_W_north B (QM G I_W_north B (.inl (some (.int o))) M9 φ) 0 0 0 [(0, .ref 0), (1, .int l1)] [] M φ := by
  unfold f_W_north at h
  refine a_aload_n (j := 0) hB e_W_north_0 rfl rfl ?_
  refine a_iload_n (j := 1) hB e_W_north_1 rfl rfl ?_
  rcases bc2_i h with ⟨e2, M2, hr2, h⟩ | ⟨r2, M2, hr2, h⟩
  · rcases Decidable.em (e2 = 3) with q | q
    · have h := ip q h
      subst q
      refine a_catN (E := "java/lang/IndexOutOfBoundsException") (M1 := M2) (φ1 := dirt φ) (j1 := 1) (j2 := 6) (pc1 := 7) hB (ar_V (As := [.int l1]) (rest := []) hB (c_C_north (bf_G hB) (sf_m hF (by decide)) hr2) ml_W_95 md_C_north rc_C_north (sf_lt hF (by decide)) kk_0 rfl rfl (Nat.le_of_ble_eq_true rfl) rm_W_north_C_north e_W_north_2) rfl rfl [] ⟨0, 5, 6, 30⟩ [] rfl (fun z hz => nomatch hz) (by decide) (by decide) cl_W_30 ca_3 e_W_north_6 (by decide) rfl ?_
      rw [hd]
      refine a_ldc (v := -1000000017) hB cn_W_32 e_W_north_7 ?_
      cases h
      exact a_iret hB rfl e_W_north_9 (by decide) (by decide)
    · have h := iq q h
      cases h
  · refine a_ret (v := (some (.int r2))) (M1 := M2) (φ1 := φ) (st1 := [.int r2]) (j1 := 1) (j2 := 6) (ar_V (As := [.int l1]) (rest := []) hB (c_C_north (bf_G hB) (sf_m hF (by decide)) hr2) ml_W_95 md_C_north rc_C_north (sf_lt hF (by decide)) kk_0 rfl rfl (Nat.le_of_ble_eq_true rfl) rm_W_north_C_north e_W_north_2) rfl rfl rfl ?_
    cases h
    exact a_iret hB rfl e_W_north_5 (by decide) (by decide)
set_option maxRecDepth 100000 in
theorem c_W_north {G : Gt} (hG : GOK G) {φ : Ph} (hF : SF 138 φ) (hd : dirt φ = φ)   {M : Mm} {l1 : Int32} {o : Int32} {M9 : Mm} (h : f_W_north l1 M = some (o, M9)) : CT G I_W_north [.ref 0, .int l1] M φ (.inl (some (.int o))) M9 φ :=
  ct_of hG (by decide) (Nat.le_of_ble_eq_true rfl) (fun B hB => t_W_north hB hF hd  h)
set_option maxRecDepth 100000 in
theorem t_W_run {G : Gt} {φ : Ph} {B : Bag} (hB : BF G I_W_run B) (hF : SF 138 φ) (hd : dirt φ = φ)    {o : Int32} {M9 : Mm} {l1 : Int32} {M : Mm} (h : f_W_run l1 M = some (o, M9)) : AW G I_W_run B (QM G I_W_run B (.inl (some (.int o))) M9 φ) 0 0 0 [(0, .ref 0), (1, .int l1)] [] M φ := by
  unfold f_W_run at h
  refine a_aload_n (j := 0) hB e_W_run_0 rfl rfl ?_
  refine a_iload_n (j := 1) hB e_W_run_1 rfl rfl ?_
  rcases bc2_i h with ⟨e2, M2, hr2, h⟩ | ⟨r2, M2, hr2, h⟩
  · rcases Decidable.em (e2 = 3) with q | q
    · have h := ip q h
      subst q
      refine a_catN (E := "java/lang/IndexOutOfBoundsException") (M1 := M2) (φ1 := dirt φ) (j1 := 1) (j2 := 6) (pc1 := 7) hB (ar_V (As := [.int l1]) (rest := []) hB (c_C_run (bf_G hB) (sf_m hF (by decide)) hr2) ml_W_98 md_C_run rc_C_run (sf_lt hF (by decide)) kk_0 rfl rfl (Nat.le_of_ble_eq_true rfl) rm_W_run_C_run e_W_run_2) rfl rfl [] ⟨0, 5, 6, 30⟩ [] rfl (fun z hz => nomatch hz) (by decide) (by decide) cl_W_30 ca_3 e_W_run_6 (by decide) rfl ?_
      rw [hd]
      refine a_ldc (v := -1000000017) hB cn_W_32 e_W_run_7 ?_
      cases h
      exact a_iret hB rfl e_W_run_9 (by decide) (by decide)
    · have h := iq q h
      cases h
  · refine a_ret (v := (some (.int r2))) (M1 := M2) (φ1 := φ) (st1 := [.int r2]) (j1 := 1) (j2 := 6) (ar_V (As := [.int l1]) (rest := []) hB (c_C_run (bf_G hB) (sf_m hF (by decide)) hr2) ml_W_98 md_C_run rc_C_run (sf_lt hF (by decide)) kk_0 rfl rfl (Nat.le_of_ble_eq_true rfl) rm_W_run_C_run e_W_run_2) rfl rfl rfl ?_
    cases h
    exact a_iret hB rfl e_W_run_5 (by decide) (by decide)
set_option maxRecDepth 100000 in
theorem c_W_run {G : Gt} (hG : GOK G) {φ : Ph} (hF : SF 138 φ) (hd : dirt φ = φ)   {M : Mm} {l1 : Int32} {o : Int32} {M9 : Mm} (h : f_W_run l1 M = some (o, M9)) : CT G I_W_run [.ref 0, .int l1] M φ (.inl (some (.int o))) M9 φ :=
  ct_of hG (by decide) (Nat.le_of_ble_eq_true rfl) (fun B hB => t_W_run hB hF hd  h)
set_option maxRecDepth 100000 in
theorem t_W_distanceFromStart {G : Gt} {φ : Ph} {B : Bag} (hB : BF G I_W_distanceFromStart B) (hF : SF 138 φ) (hd : dirt φ = φ)    {o : Int32} {M9 : Mm} {l1 : Int32} {M : Mm} (h : f_W_distanceFromStart l1 M = some (o, M9)) : AW G I_W_distanceFromStart B (QM G I_W_distanceFromStart B (.inl (some (.int o))) M9 φ) 0 0 0 [(0, .ref 0), (1, .int l1)] [] M φ := by
  unfold f_W_distanceFromStart at h
  refine a_aload_n (j := 0) hB e_W_distanceFromStart_0 rfl rfl ?_
  refine a_iload_n (j := 1) hB e_W_distanceFromStart_1 rfl rfl ?_
  rcases bc2_i h with ⟨e2, M2, hr2, h⟩ | ⟨r2, M2, hr2, h⟩
  · rcases Decidable.em (e2 = 3) with q | q
    · have h := ip q h
      subst q
      refine a_catN (E := "java/lang/IndexOutOfBoundsException") (M1 := M2) (φ1 := dirt φ) (j1 := 1) (j2 := 6) (pc1 := 7) hB (ar_V (As := [.int l1]) (rest := []) hB (c_C_distanceFromStart (bf_G hB) (sf_m hF (by decide)) hr2) ml_W_101 md_C_distanceFromStart rc_C_distanceFromStart (sf_lt hF (by decide)) kk_0 rfl rfl (Nat.le_of_ble_eq_true rfl) rm_W_distanceFromStart_C_distanceFromStart e_W_distanceFromStart_2) rfl rfl [] ⟨0, 5, 6, 30⟩ [] rfl (fun z hz => nomatch hz) (by decide) (by decide) cl_W_30 ca_3 e_W_distanceFromStart_6 (by decide) rfl ?_
      rw [hd]
      refine a_ldc (v := -1000000017) hB cn_W_32 e_W_distanceFromStart_7 ?_
      cases h
      exact a_iret hB rfl e_W_distanceFromStart_9 (by decide) (by decide)
    · have h := iq q h
      cases h
  · refine a_ret (v := (some (.int r2))) (M1 := M2) (φ1 := φ) (st1 := [.int r2]) (j1 := 1) (j2 := 6) (ar_V (As := [.int l1]) (rest := []) hB (c_C_distanceFromStart (bf_G hB) (sf_m hF (by decide)) hr2) ml_W_101 md_C_distanceFromStart rc_C_distanceFromStart (sf_lt hF (by decide)) kk_0 rfl rfl (Nat.le_of_ble_eq_true rfl) rm_W_distanceFromStart_C_distanceFromStart e_W_distanceFromStart_2) rfl rfl rfl ?_
    cases h
    exact a_iret hB rfl e_W_distanceFromStart_5 (by decide) (by decide)
set_option maxRecDepth 100000 in
theorem c_W_distanceFromStart {G : Gt} (hG : GOK G) {φ : Ph} (hF : SF 138 φ) (hd : dirt φ = φ)   {M : Mm} {l1 : Int32} {o : Int32} {M9 : Mm} (h : f_W_distanceFromStart l1 M = some (o, M9)) : CT G I_W_distanceFromStart [.ref 0, .int l1] M φ (.inl (some (.int o))) M9 φ :=
  ct_of hG (by decide) (Nat.le_of_ble_eq_true rfl) (fun B hB => t_W_distanceFromStart hB hF hd  h)
set_option maxRecDepth 100000 in
theorem t_W_word_32 {G : Gt} {φ : Ph} {B : Bag} (hB : BF G I_W_word B) (hF : SF 138 φ) (hd : dirt φ = φ) {T : Nat} (hT_T : gT G = T) {M : Mm} {o : Int32} {r4 : Int32 → Int32 → Int32 → Option Int32} (hr4 : ∀ (l1 : Int32) (l2 : Int32) (l3 : Int32), r4 l1 l2 l3 = some o → AW G I_W_word B (QM G I_W_word B (.inl (some (.int o))) M φ) 0 0 4 [(0, .ref 136), (1, .int l1), (2, .int l2), (3, .int l3)] [] M φ) {l1 : Int32} {l3 : Int32} {t0 : Int32} {t1 : Int32}  (h : f_W_word_32 T M r4 l1 l3 t0 t1 = some o) : AW G I_W_word B (QM G I_W_word B (.inl (some (.int o))) M φ) 0 0 32 [(0, .ref 136), (1, .int l1), (3, .int l3)] [.int t1, .int t0] M φ := by
  unfold f_W_word_32 at h
  refine a_ior hB e_W_word_32 ?_
  refine a_istore_n (ls' := [(2, .int (t0 ||| t1)), (0, .ref 136), (1, .int l1), (3, .int l3)]) hB e_W_word_33 rfl (Nat.le_of_ble_eq_true rfl) rfl ?_
  refine a_iinc (j := 3) (v := l3 + 1) (ls' := [(3, .int (l3 + 1)), (2, .int (t0 ||| t1)), (0, .ref 136), (1, .int l1)]) hB e_W_word_34 rfl (inc_1 _) (Nat.le_of_ble_eq_true rfl) rfl ?_
  refine a_goto (tgt := 4) hB e_W_word_37 (by decide) ?_
  refine a_ls [2, 3, 1, 0] (ls' := [(0, .ref 136), (1, .int l1), (2, .int (t0 ||| t1)), (3, .int (l3 + 1))]) rfl ?_
  exact hr4 _ _ _ h
