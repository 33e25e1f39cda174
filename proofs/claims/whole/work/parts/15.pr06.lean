/-! the functions are what the machine does -/
set_option maxRecDepth 100000 in
theorem t_C_north {G : Gt} {φ : Ph} {B : Bag} (hB : BF G I_C_north B) (hF : SF 134 φ)    {o : Nat ⊕ Int32} {M9 : Mm} {l1 : Int32} {M : Mm} (h : f_C_north l1 M = some (o, M9)) : AW G I_C_north B (QM G I_C_north B (oSi o) M9 (pS o φ)) 0 0 0 [(0, .ref 0), (1, .int l1)] [] M φ := by
  unfold f_C_north at h
  refine a_aload_n (j := 0) hB e_C_north_0 rfl rfl ?_
  refine a_iload_n (j := 1) hB e_C_north_1 rfl rfl ?_
  rcases bti_i h with ⟨e2, hr2, rfl, hz⟩ | ⟨r2, hr2, h⟩
  · obtain rfl := hz.symm
    exact a_thr (E := exS e2) (M1 := M) (φ1 := dirt φ) hB (ar_V (As := [.int l1]) (rest := []) hB (c_C_requireStation (bf_G hB) hF hr2) ml_C_252 md_C_requireStation rc_C_requireStation (sf_lt hF (by decide)) kk_0 rfl rfl (Nat.le_of_ble_eq_true rfl) rm_C_north_C_requireStation e_C_north_2) rfl (by decide) (by decide)
  · refine a_ret (v := none) (M1 := M) (φ1 := φ) (st1 := []) (j1 := 1) (j2 := 6) (ar_V (As := [.int l1]) (rest := []) hB (c_C_requireStation (bf_G hB) hF hr2) ml_C_252 md_C_requireStation rc_C_requireStation (sf_lt hF (by decide)) kk_0 rfl rfl (Nat.le_of_ble_eq_true rfl) rm_C_north_C_requireStation e_C_north_2) rfl rfl rfl ?_
    refine a_aload_n (j := 0) hB e_C_north_5 rfl rfl ?_
    obtain ⟨M6, hr6, h⟩ := bn_i h
    refine a_ret (v := (some (.ref 25))) (M1 := M6) (φ1 := φ) (st1 := [.ref 25]) (j1 := 1) (j2 := 6) (ar_V (As := []) (rest := []) hB (c_C_followed (bf_G hB) hF hr6) ml_C_255 md_C_followed rc_C_followed (sf_lt hF (by decide)) kk_0 rfl rfl (Nat.le_of_ble_eq_true rfl) rm_C_north_C_followed_1_6 e_C_north_6) rfl rfl rfl ?_
    refine a_getR (r := 30) (k := 4) hB e_C_north_9 fl_C_268 (sf_lt hF (by decide)) kk_25 tt_25_4 (hF.1 _ _) ?_
    refine a_iload_n (j := 1) hB e_C_north_12 rfl rfl ?_
    obtain ⟨c13, h⟩ := chk_i h
    refine a_iald' hB e_C_north_13 (sf_lt hF (by decide)) kk_30 ll_30 c13 ?_
    cases h
    exact a_iret hB rfl e_C_north_14 (by decide) (by decide)
set_option maxRecDepth 100000 in
theorem c_C_north {G : Gt} (hG : GOK G) {φ : Ph} (hF : SF 134 φ)   {M : Mm} {l1 : Int32} {o : Nat ⊕ Int32} {M9 : Mm} (h : f_C_north l1 M = some (o, M9)) : CT G I_C_north [.ref 0, .int l1] M φ (oSi o) M9 (pS o φ) :=
  ct_of hG (by decide) (Nat.le_of_ble_eq_true rfl) (fun B hB => t_C_north hB hF  h)
set_option maxRecDepth 100000 in
theorem t_C_run {G : Gt} {φ : Ph} {B : Bag} (hB : BF G I_C_run B) (hF : SF 134 φ)    {o : Nat ⊕ Int32} {M9 : Mm} {l1 : Int32} {M : Mm} (h : f_C_run l1 M = some (o, M9)) : AW G I_C_run B (QM G I_C_run B (oSi o) M9 (pS o φ)) 0 0 0 [(0, .ref 0), (1, .int l1)] [] M φ := by
  unfold f_C_run at h
  refine a_aload_n (j := 0) hB e_C_run_0 rfl rfl ?_
  refine a_iload_n (j := 1) hB e_C_run_1 rfl rfl ?_
  rcases bti_i h with ⟨e2, hr2, rfl, hz⟩ | ⟨r2, hr2, h⟩
  · obtain rfl := hz.symm
    exact a_thr (E := exS e2) (M1 := M) (φ1 := dirt φ) hB (ar_V (As := [.int l1]) (rest := []) hB (c_C_requireStation (bf_G hB) hF hr2) ml_C_252 md_C_requireStation rc_C_requireStation (sf_lt hF (by decide)) kk_0 rfl rfl (Nat.le_of_ble_eq_true rfl) rm_C_run_C_requireStation e_C_run_2) rfl (by decide) (by decide)
  · refine a_ret (v := none) (M1 := M) (φ1 := φ) (st1 := []) (j1 := 1) (j2 := 6) (ar_V (As := [.int l1]) (rest := []) hB (c_C_requireStation (bf_G hB) hF hr2) ml_C_252 md_C_requireStation rc_C_requireStation (sf_lt hF (by decide)) kk_0 rfl rfl (Nat.le_of_ble_eq_true rfl) rm_C_run_C_requireStation e_C_run_2) rfl rfl rfl ?_
    refine a_aload_n (j := 0) hB e_C_run_5 rfl rfl ?_
    obtain ⟨M6, hr6, h⟩ := bn_i h
    refine a_ret (v := (some (.ref 25))) (M1 := M6) (φ1 := φ) (st1 := [.ref 25]) (j1 := 1) (j2 := 6) (ar_V (As := []) (rest := []) hB (c_C_followed (bf_G hB) hF hr6) ml_C_255 md_C_followed rc_C_followed (sf_lt hF (by decide)) kk_0 rfl rfl (Nat.le_of_ble_eq_true rfl) rm_C_run_C_followed_1_6 e_C_run_6) rfl rfl rfl ?_
    refine a_getR (r := 26) (k := 0) hB e_C_run_9 fl_C_271 (sf_lt hF (by decide)) kk_25 tt_25_0 (hF.1 _ _) ?_
    refine a_iload_n (j := 1) hB e_C_run_12 rfl rfl ?_
    obtain ⟨c13, h⟩ := chk_i h
    refine a_iald' hB e_C_run_13 (sf_lt hF (by decide)) kk_26 ll_26 c13 ?_
    cases h
    exact a_iret hB rfl e_C_run_14 (by decide) (by decide)
set_option maxRecDepth 100000 in
theorem c_C_run {G : Gt} (hG : GOK G) {φ : Ph} (hF : SF 134 φ)   {M : Mm} {l1 : Int32} {o : Nat ⊕ Int32} {M9 : Mm} (h : f_C_run l1 M = some (o, M9)) : CT G I_C_run [.ref 0, .int l1] M φ (oSi o) M9 (pS o φ) :=
  ct_of hG (by decide) (Nat.le_of_ble_eq_true rfl) (fun B hB => t_C_run hB hF  h)
set_option maxRecDepth 100000 in
theorem t_C_distanceFromStart {G : Gt} {φ : Ph} {B : Bag} (hB : BF G I_C_distanceFromStart B) (hF : SF 134 φ)    {o : Nat ⊕ Int32} {M9 : Mm} {l1 : Int32} {M : Mm} (h : f_C_distanceFromStart l1 M = some (o, M9)) : AW G I_C_distanceFromStart B (QM G I_C_distanceFromStart B (oSi o) M9 (pS o φ)) 0 0 0 [(0, .ref 0), (1, .int l1)] [] M φ := by
  unfold f_C_distanceFromStart at h
  refine a_aload_n (j := 0) hB e_C_distanceFromStart_0 rfl rfl ?_
  refine a_iload_n (j := 1) hB e_C_distanceFromStart_1 rfl rfl ?_
  rcases bti_i h with ⟨e2, hr2, rfl, hz⟩ | ⟨r2, hr2, h⟩
  · obtain rfl := hz.symm
    exact a_thr (E := exS e2) (M1 := M) (φ1 := dirt φ) hB (ar_V (As := [.int l1]) (rest := []) hB (c_C_requireStation (bf_G hB) hF hr2) ml_C_252 md_C_requireStation rc_C_requireStation (sf_lt hF (by decide)) kk_0 rfl rfl (Nat.le_of_ble_eq_true rfl) rm_C_distanceFromStart_C_requireStation e_C_distanceFromStart_2) rfl (by decide) (by decide)
  · refine a_ret (v := none) (M1 := M) (φ1 := φ) (st1 := []) (j1 := 1) (j2 := 6) (ar_V (As := [.int l1]) (rest := []) hB (c_C_requireStation (bf_G hB) hF hr2) ml_C_252 md_C_requireStation rc_C_requireStation (sf_lt hF (by decide)) kk_0 rfl rfl (Nat.le_of_ble_eq_true rfl) rm_C_distanceFromStart_C_requireStation e_C_distanceFromStart_2) rfl rfl rfl ?_
    refine a_aload_n (j := 0) hB e_C_distanceFromStart_5 rfl rfl ?_
    obtain ⟨M6, hr6, h⟩ := bn_i h
    refine a_ret (v := (some (.ref 25))) (M1 := M6) (φ1 := φ) (st1 := [.ref 25]) (j1 := 1) (j2 := 6) (ar_V (As := []) (rest := []) hB (c_C_followed (bf_G hB) hF hr6) ml_C_255 md_C_followed rc_C_followed (sf_lt hF (by decide)) kk_0 rfl rfl (Nat.le_of_ble_eq_true rfl) rm_C_distanceFromStart_C_followed_1_6 e_C_distanceFromStart_6) rfl rfl rfl ?_
    refine a_iload_n (j := 1) hB e_C_distanceFromStart_9 rfl rfl ?_
    obtain ⟨r10, hr10, h⟩ := bn_i h
    refine a_ret (v := (some (.int r10))) (M1 := M6) (φ1 := φ) (st1 := [.int r10]) (j1 := 1) (j2 := 6) (ar_V (As := [.int l1]) (rest := []) hB (c_T_distanceOf (bf_G hB) hF hr10) ml_C_274 md_T_distanceOf rc_T_distanceOf (sf_lt hF (by decide)) kk_25 rfl rfl (Nat.le_of_ble_eq_true rfl) rm_C_distanceFromStart_T_distanceOf_1_6 e_C_distanceFromStart_10) rfl rfl rfl ?_
    cases h
    exact a_iret hB rfl e_C_distanceFromStart_13 (by decide) (by decide)
set_option maxRecDepth 100000 in
theorem c_C_distanceFromStart {G : Gt} (hG : GOK G) {φ : Ph} (hF : SF 134 φ)   {M : Mm} {l1 : Int32} {o : Nat ⊕ Int32} {M9 : Mm} (h : f_C_distanceFromStart l1 M = some (o, M9)) : CT G I_C_distanceFromStart [.ref 0, .int l1] M φ (oSi o) M9 (pS o φ) :=
  ct_of hG (by decide) (Nat.le_of_ble_eq_true rfl) (fun B hB => t_C_distanceFromStart hB hF  h)
set_option maxRecDepth 100000 in
theorem t_C_perimeter {G : Gt} {φ : Ph} {B : Bag} (hB : BF G I_C_perimeter B) (hF : SF 134 φ)    {o : Int32} {M9 : Mm}  {M : Mm} (h : f_C_perimeter M = some (o, M9)) : AW G I_C_perimeter B (QM G I_C_perimeter B (.inl (some (.int o))) M9 φ) 0 0 0 [(0, .ref 0)] [] M φ := by
  unfold f_C_perimeter at h
  refine a_aload_n (j := 0) hB e_C_perimeter_0 rfl rfl ?_
  obtain ⟨M1, hr1, h⟩ := bn_i h
  refine a_ret (v := (some (.ref 25))) (M1 := M1) (φ1 := φ) (st1 := [.ref 25]) (j1 := 0) (j2 := 0) (ar_V (As := []) (rest := []) hB (c_C_followed (bf_G hB) hF hr1) ml_C_255 md_C_followed rc_C_followed (sf_lt hF (by decide)) kk_0 rfl rfl (Nat.le_of_ble_eq_true rfl) rm_C_perimeter_C_followed e_C_perimeter_1) rfl rfl rfl ?_
  obtain ⟨r4, hr4, h⟩ := bn_i h
  refine a_ret (v := (some (.int r4))) (M1 := M1) (φ1 := φ) (st1 := [.int r4]) (j1 := 0) (j2 := 0) (ar_V (As := []) (rest := []) hB (c_T_totalRun (bf_G hB) hF hr4) ml_C_277 md_T_totalRun rc_T_totalRun (sf_lt hF (by decide)) kk_25 rfl rfl (Nat.le_of_ble_eq_true rfl) rm_C_perimeter_T_totalRun e_C_perimeter_4) rfl rfl rfl ?_
  cases h
  exact a_iret hB rfl e_C_perimeter_7 (by decide) (by decide)
set_option maxRecDepth 100000 in
theorem c_C_perimeter {G : Gt} (hG : GOK G) {φ : Ph} (hF : SF 134 φ)   {M : Mm}  {o : Int32} {M9 : Mm} (h : f_C_perimeter M = some (o, M9)) : CT G I_C_perimeter [.ref 0] M φ (.inl (some (.int o))) M9 φ :=
  ct_of hG (by decide) (Nat.le_of_ble_eq_true rfl) (fun B hB => t_C_perimeter hB hF  h)
set_option maxRecDepth 100000 in
theorem t_C_closingEast {G : Gt} {φ : Ph} {B : Bag} (hB : BF G I_C_closingEast B) (hF : SF 134 φ)    {o : Int32} {M9 : Mm}  {M : Mm} (h : f_C_closingEast M = some (o, M9)) : AW G I_C_closingEast B (QM G I_C_closingEast B (.inl (some (.int o))) M9 φ) 0 0 0 [(0, .ref 0)] [] M φ := by
  unfold f_C_closingEast at h
  refine a_aload_n (j := 0) hB e_C_closingEast_0 rfl rfl ?_
  obtain ⟨M1, hr1, h⟩ := bn_i h
  refine a_ret (v := (some (.ref 25))) (M1 := M1) (φ1 := φ) (st1 := [.ref 25]) (j1 := 0) (j2 := 0) (ar_V (As := []) (rest := []) hB (c_C_followed (bf_G hB) hF hr1) ml_C_255 md_C_followed rc_C_followed (sf_lt hF (by decide)) kk_0 rfl rfl (Nat.le_of_ble_eq_true rfl) rm_C_closingEast_C_followed e_C_closingEast_1) rfl rfl rfl ?_
  obtain ⟨r4, hr4, h⟩ := bn_i h
  refine a_ret (v := (some (.int r4))) (M1 := M1) (φ1 := φ) (st1 := [.int r4]) (j1 := 0) (j2 := 0) (ar_V (As := []) (rest := []) hB (c_T_endEast (bf_G hB) hF hr4) ml_C_280 md_T_endEast rc_T_endEast (sf_lt hF (by decide)) kk_25 rfl rfl (Nat.le_of_ble_eq_true rfl) rm_C_closingEast_T_endEast e_C_closingEast_4) rfl rfl rfl ?_
  cases h
  exact a_iret hB rfl e_C_closingEast_7 (by decide) (by decide)
set_option maxRecDepth 100000 in
theorem c_C_closingEast {G : Gt} (hG : GOK G) {φ : Ph} (hF : SF 134 φ)   {M : Mm}  {o : Int32} {M9 : Mm} (h : f_C_closingEast M = some (o, M9)) : CT G I_C_closingEast [.ref 0] M φ (.inl (some (.int o))) M9 φ :=
  ct_of hG (by decide) (Nat.le_of_ble_eq_true rfl) (fun B hB => t_C_closingEast hB hF  h)
set_option maxRecDepth 100000 in
theorem t_C_closingNorth {G : Gt} {φ : Ph} {B : Bag} (hB : BF G I_C_closingNorth B) (hF : SF 134 φ)    {o : Int32} {M9 : Mm}  {M : Mm} (h : f_C_closingNorth M = some (o, M9)) : AW G I_C_closingNorth B (QM G I_C_closingNorth B (.inl (some (.int o))) M9 φ) 0 0 0 [(0, .ref 0)] [] M φ := by
  unfold f_C_closingNorth at h
  refine a_aload_n (j := 0) hB e_C_closingNorth_0 rfl rfl ?_
  obtain ⟨M1, hr1, h⟩ := bn_i h
  refine a_ret (v := (some (.ref 25))) (M1 := M1) (φ1 := φ) (st1 := [.ref 25]) (j1 := 0) (j2 := 0) (ar_V (As := []) (rest := []) hB (c_C_followed (bf_G hB) hF hr1) ml_C_255 md_C_followed rc_C_followed (sf_lt hF (by decide)) kk_0 rfl rfl (Nat.le_of_ble_eq_true rfl) rm_C_closingNorth_C_followed e_C_closingNorth_1) rfl rfl rfl ?_
  obtain ⟨r4, hr4, h⟩ := bn_i h
  refine a_ret (v := (some (.int r4))) (M1 := M1) (φ1 := φ) (st1 := [.int r4]) (j1 := 0) (j2 := 0) (ar_V (As := []) (rest := []) hB (c_T_endNorth (bf_G hB) hF hr4) ml_C_283 md_T_endNorth rc_T_endNorth (sf_lt hF (by decide)) kk_25 rfl rfl (Nat.le_of_ble_eq_true rfl) rm_C_closingNorth_T_endNorth e_C_closingNorth_4) rfl rfl rfl ?_
  cases h
  exact a_iret hB rfl e_C_closingNorth_7 (by decide) (by decide)
set_option maxRecDepth 100000 in
theorem c_C_closingNorth {G : Gt} (hG : GOK G) {φ : Ph} (hF : SF 134 φ)   {M : Mm}  {o : Int32} {M9 : Mm} (h : f_C_closingNorth M = some (o, M9)) : CT G I_C_closingNorth [.ref 0] M φ (.inl (some (.int o))) M9 φ :=
  ct_of hG (by decide) (Nat.le_of_ble_eq_true rfl) (fun B hB => t_C_closingNorth hB hF  h)
set_option maxRecDepth 100000 in
theorem t_C_misclosure {G : Gt} {φ : Ph} {B : Bag} (hB : BF G I_C_misclosure B) (hF : SF 134 φ)    {o : Int32} {M9 : Mm}  {M : Mm} (h : f_C_misclosure M = some (o, M9)) : AW G I_C_misclosure B (QM G I_C_misclosure B (.inl (some (.int o))) M9 φ) 0 0 0 [(0, .ref 0)] [] M φ := by
  unfold f_C_misclosure at h
  refine a_aload_n (j := 0) hB e_C_misclosure_0 rfl rfl ?_
  obtain ⟨M1, hr1, h⟩ := bn_i h
  refine a_ret (v := (some (.ref 25))) (M1 := M1) (φ1 := φ) (st1 := [.ref 25]) (j1 := 0) (j2 := 0) (ar_V (As := []) (rest := []) hB (c_C_followed (bf_G hB) hF hr1) ml_C_255 md_C_followed rc_C_followed (sf_lt hF (by decide)) kk_0 rfl rfl (Nat.le_of_ble_eq_true rfl) rm_C_misclosure_C_followed e_C_misclosure_1) rfl rfl rfl ?_
  obtain ⟨r4, hr4, h⟩ := bn_i h
  refine a_ret (v := (some (.int r4))) (M1 := M1) (φ1 := φ) (st1 := [.int r4]) (j1 := 0) (j2 := 0) (ar_V (As := []) (rest := []) hB (c_T_closingDistance (bf_G hB) hF hr4) ml_C_286 md_T_closingDistance rc_T_closingDistance (sf_lt hF (by decide)) kk_25 rfl rfl (Nat.le_of_ble_eq_true rfl) rm_C_misclosure_T_closingDistance e_C_misclosure_4) rfl rfl rfl ?_
  cases h
  exact a_iret hB rfl e_C_misclosure_7 (by decide) (by decide)
set_option maxRecDepth 100000 in
theorem c_C_misclosure {G : Gt} (hG : GOK G) {φ : Ph} (hF : SF 134 φ)   {M : Mm}  {o : Int32} {M9 : Mm} (h : f_C_misclosure M = some (o, M9)) : CT G I_C_misclosure [.ref 0] M φ (.inl (some (.int o))) M9 φ :=
  ct_of hG (by decide) (Nat.le_of_ble_eq_true rfl) (fun B hB => t_C_misclosure hB hF  h)
set_option maxRecDepth 100000 in
theorem t_C_precision_24 {G : Gt} {φ : Ph} {B : Bag} (hB : BF G I_C_precision B) (hF : SF 134 φ)    {o : Int32} {M9 : Mm} {t0 : Int32} {M : Mm} (h : f_C_precision_24 t0 M = some (o, M9)) : AW G I_C_precision B (QM G I_C_precision B (.inl (some (.int o))) M9 φ) 0 0 24 [] [.int t0] M φ := by
  unfold f_C_precision_24 at h
  cases h
  exact a_iret hB rfl e_C_precision_24 (by decide) (by decide)
set_option maxRecDepth 100000 in
theorem t_C_precision {G : Gt} {φ : Ph} {B : Bag} (hB : BF G I_C_precision B) (hF : SF 134 φ)    {o : Int32} {M9 : Mm}  {M : Mm} (h : f_C_precision M = some (o, M9)) : AW G I_C_precision B (QM G I_C_precision B (.inl (some (.int o))) M9 φ) 0 0 0 [(0, .ref 0)] [] M φ := by
  unfold f_C_precision at h
  refine a_aload_n (j := 0) hB e_C_precision_0 rfl rfl ?_
  obtain ⟨M1, hr1, h⟩ := bn_i h
  refine a_ret (v := (some (.ref 25))) (M1 := M1) (φ1 := φ) (st1 := [.ref 25]) (j1 := 0) (j2 := 0) (ar_V (As := []) (rest := []) hB (c_C_followed (bf_G hB) hF hr1) ml_C_255 md_C_followed rc_C_followed (sf_lt hF (by decide)) kk_0 rfl rfl (Nat.le_of_ble_eq_true rfl) rm_C_precision_C_followed e_C_precision_1) rfl rfl rfl ?_
  refine a_astore_n (ls' := [(1, .ref 25), (0, .ref 0)]) hB e_C_precision_4 rfl (Nat.le_of_ble_eq_true rfl) rfl ?_
  refine a_aload_n (j := 0) hB e_C_precision_5 rfl rfl ?_
  obtain ⟨r6, hr6, h⟩ := bn_i h
  refine a_ret (v := (some (.int r6))) (M1 := M1) (φ1 := φ) (st1 := [.int r6]) (j1 := 0) (j2 := 0) (ar_V (As := []) (rest := []) hB (c_T_closingDistance (bf_G hB) hF hr6) ml_C_286 md_T_closingDistance rc_T_closingDistance (sf_lt hF (by decide)) kk_25 rfl rfl (Nat.le_of_ble_eq_true rfl) rm_C_precision_T_closingDistance e_C_precision_6) rfl rfl rfl ?_
  refine a_istore_n (ls' := [(2, .int r6), (1, .ref 25), (0, .ref 0)]) hB e_C_precision_9 rfl (Nat.le_of_ble_eq_true rfl) rfl ?_
  refine a_iload_n (j := 0) hB e_C_precision_10 rfl rfl ?_
  refine a_if_ne (tgt := 18) hB e_C_precision_11 (by decide) (fun c => ?_) (fun c => ?_)
  · have h := iq c h
    refine a_aload_n (j := 1) hB e_C_precision_18 rfl rfl ?_
    obtain ⟨r19, hr19, h⟩ := bn_i h
    refine a_ret (v := (some (.int r19))) (M1 := M1) (φ1 := φ) (st1 := [.int r19]) (j1 := 0) (j2 := 0) (ar_V (As := []) (rest := []) hB (c_T_totalRun (bf_G hB) hF hr19) ml_C_277 md_T_totalRun rc_T_totalRun (sf_lt hF (by decide)) kk_25 rfl rfl (Nat.le_of_ble_eq_true rfl) rm_C_precision_T_totalRun e_C_precision_19) rfl rfl rfl ?_
    refine a_iload_n (j := 0) hB e_C_precision_22 rfl rfl ?_
    obtain ⟨c23, h⟩ := chk_i h
    refine a_idiv hB e_C_precision_23 c23 ?_
    refine a_ls [] (ls' := []) rfl ?_
    exact t_C_precision_24 hB hF h
  · have h := ip c h
    refine a_iconst (v := -1) hB e_C_precision_14 ic_m1 ?_
    refine a_goto (tgt := 24) hB e_C_precision_15 (by decide) ?_
    refine a_ls [] (ls' := []) rfl ?_
    exact t_C_precision_24 hB hF h
set_option maxRecDepth 100000 in
theorem c_C_precision {G : Gt} (hG : GOK G) {φ : Ph} (hF : SF 134 φ)   {M : Mm}  {o : Int32} {M9 : Mm} (h : f_C_precision M = some (o, M9)) : CT G I_C_precision [.ref 0] M φ (.inl (some (.int o))) M9 φ :=
  ct_of hG (by decide) (Nat.le_of_ble_eq_true rfl) (fun B hB => t_C_precision hB hF  h)
set_option maxRecDepth 100000 in
theorem t_C_spread_44 {G : Gt} {φ : Ph} {B : Bag} (hB : BF G I_C_spread B) (hF : SF 134 φ) {a : Nat} (hk_a : kd a = 10) (ha_a : a < 134) (hn_a : ln a = 21) {M : Mm} {o : Int32} {l2 : Int32} {l3 : Int32}  (h : f_C_spread_44 a M l2 l3 = some o) : AW G I_C_spread B (QM G I_C_spread B (.inl (some (.int o))) M φ) 0 0 44 [(2, .int l2), (3, .int l3)] [] M φ := by
  unfold f_C_spread_44 at h
  refine a_iload_n (j := 1) hB e_C_spread_44 rfl rfl ?_
  refine a_iload_n (j := 0) hB e_C_spread_45 rfl rfl ?_
  refine a_isub hB e_C_spread_46 ?_
  cases h
  exact a_iret hB rfl e_C_spread_47 (by decide) (by decide)
set_option maxRecDepth 100000 in
theorem t_C_spread_7 {G : Gt} {φ : Ph} {B : Bag} (hB : BF G I_C_spread B) (hF : SF 134 φ) {a : Nat} (hk_a : kd a = 10) (ha_a : a < 134) (hn_a : ln a = 21) {M : Mm} {o : Int32} : ∀ (n : Nat) (l1 : Int32) (l2 : Int32) (l3 : Int32) (l4 : Int32), f_C_spread_7 a M n l1 l2 l3 l4 = some o → AW G I_C_spread B (QM G I_C_spread B (.inl (some (.int o))) M φ) 0 0 7 [(0, .ref a), (1, .int l1), (2, .int l2), (3, .int l3), (4, .int l4)] [] M φ := by
  intro n
  induction n with
  | zero => intro l1 l2 l3 l4 h; cases h
  | succ n hr7 =>
    intro l1 l2 l3 l4 h
    rw [f_C_spread_7] at h
    refine a_iload (j := 4) hB e_C_spread_7 rfl ?_
    refine a_iload_n (j := 1) hB e_C_spread_9 rfl rfl ?_
    refine a_icmp_ge (tgt := 44) hB e_C_spread_10 (by decide) (fun c => ?_) (fun c => ?_)
    · have h := ip c h
      refine a_ls [2, 3] (ls' := [(2, .int l2), (3, .int l3)]) rfl ?_
      exact t_C_spread_44 hB hF hk_a ha_a hn_a h
    · have h := iq c h
      refine a_iload (j := 4) hB e_C_spread_13 rfl ?_
      refine a_aload_n (j := 0) hB e_C_spread_15 rfl rfl ?_
      refine a_alen (v := 21) (t := 10) hB e_C_spread_16 (sf_lt2 hF ha_a (by decide)) hk_a (by decide) hn_a rfl ?_
      refine a_icmp_ge (tgt := 44) hB e_C_spread_17 (by decide) (fun c => ?_) (fun c => ?_)
      · have h := ip c h
        refine a_ls [2, 3] (ls' := [(2, .int l2), (3, .int l3)]) rfl ?_
        exact t_C_spread_44 hB hF hk_a ha_a hn_a h
      · have h := iq c h
        refine a_iload_n (j := 2) hB e_C_spread_20 rfl rfl ?_
        refine a_aload_n (j := 0) hB e_C_spread_21 rfl rfl ?_
        refine a_iload (j := 4) hB e_C_spread_22 rfl ?_
        obtain ⟨c24, h⟩ := chk_i h
        refine a_iald' hB e_C_spread_24 (sf_lt2 hF ha_a (by decide)) hk_a hn_a c24 ?_
        refine a_min hB ml_C_204 ms_min ini_math mc_min (by decide) (Nat.le_of_ble_eq_true rfl) (by decide) (by decide) e_C_spread_25 ?_
        refine a_istore_n (ls' := [(2, .int (if (M a (ix l4)) < l2 then (M a (ix l4)) else l2)), (0, .ref a), (1, .int l1), (3, .int l3), (4, .int l4)]) hB e_C_spread_28 rfl (Nat.le_of_ble_eq_true rfl) rfl ?_
        refine a_iload_n (j := 3) hB e_C_spread_29 rfl rfl ?_
        refine a_aload_n (j := 1) hB e_C_spread_30 rfl rfl ?_
        refine a_iload (j := 4) hB e_C_spread_31 rfl ?_
        refine a_iald' hB e_C_spread_33 (sf_lt2 hF ha_a (by decide)) hk_a hn_a c24 ?_
        refine a_max hB ml_C_358 ms_max ini_math mc_max (by decide) (Nat.le_of_ble_eq_true rfl) (by decide) (by decide) e_C_spread_34 ?_
        refine a_istore_n (ls' := [(3, .int (if l3 < (M a (ix l4)) then (M a (ix l4)) else l3)), (2, .int (if (M a (ix l4)) < l2 then (M a (ix l4)) else l2)), (0, .ref a), (1, .int l1), (4, .int l4)]) hB e_C_spread_37 rfl (Nat.le_of_ble_eq_true rfl) rfl ?_
        refine a_iinc (j := 4) (v := l4 + 1) (ls' := [(4, .int (l4 + 1)), (3, .int (if l3 < (M a (ix l4)) then (M a (ix l4)) else l3)), (2, .int (if (M a (ix l4)) < l2 then (M a (ix l4)) else l2)), (0, .ref a), (1, .int l1)]) hB e_C_spread_38 rfl (inc_1 _) (Nat.le_of_ble_eq_true rfl) rfl ?_
        refine a_goto (tgt := 7) hB e_C_spread_41 (by decide) ?_
        refine a_ls [3, 4, 2, 1, 0] (ls' := [(0, .ref a), (1, .int l1), (2, .int (if (M a (ix l4)) < l2 then (M a (ix l4)) else l2)), (3, .int (if l3 < (M a (ix l4)) then (M a (ix l4)) else l3)), (4, .int (l4 + 1))]) rfl ?_
        exact hr7 _ _ _ _ h
set_option maxRecDepth 100000 in
theorem t_C_spread {G : Gt} {φ : Ph} {B : Bag} (hB : BF G I_C_spread B) (hF : SF 134 φ) {a : Nat} (hk_a : kd a = 10) (ha_a : a < 134) (hn_a : ln a = 21) {M : Mm} {o : Int32} {l1 : Int32}  (h : f_C_spread a M l1 = some o) : AW G I_C_spread B (QM G I_C_spread B (.inl (some (.int o))) M φ) 0 0 0 [(0, .ref a), (1, .int l1)] [] M φ := by
  unfold f_C_spread at h
  refine a_iconst (v := 0) hB e_C_spread_0 ic_0 ?_
  refine a_istore_n (ls' := [(2, .int (0 : Int32)), (0, .ref a), (1, .int l1)]) hB e_C_spread_1 rfl (Nat.le_of_ble_eq_true rfl) rfl ?_
  refine a_iconst (v := 0) hB e_C_spread_2 ic_0 ?_
  refine a_istore_n (ls' := [(3, .int (0 : Int32)), (2, .int (0 : Int32)), (0, .ref a), (1, .int l1)]) hB e_C_spread_3 rfl (Nat.le_of_ble_eq_true rfl) rfl ?_
  refine a_iconst (v := 0) hB e_C_spread_4 ic_0 ?_
  refine a_istore (ls' := [(4, .int (0 : Int32)), (3, .int (0 : Int32)), (2, .int (0 : Int32)), (0, .ref a), (1, .int l1)]) hB e_C_spread_5 (Nat.le_of_ble_eq_true rfl) rfl ?_
  refine a_ls [3, 4, 2, 1, 0] (ls' := [(0, .ref a), (1, .int l1), (2, .int (0 : Int32)), (3, .int (0 : Int32)), (4, .int (0 : Int32))]) rfl ?_
  exact t_C_spread_7 hB hF hk_a ha_a hn_a _ _ _ _ _ h
set_option maxRecDepth 100000 in
theorem c_C_spread {G : Gt} (hG : GOK G) {φ : Ph} (hF : SF 134 φ) {a : Nat} (hk_a : kd a = 10) (ha_a : a < 134) (hn_a : ln a = 21) {M : Mm} {l1 : Int32} {o : Int32} (h : f_C_spread a M l1 = some o) : CT G I_C_spread [.ref a, .int l1] M φ (.inl (some (.int o))) M φ :=
  ct_of hG (by decide) (Nat.le_of_ble_eq_true rfl) (fun B hB => t_C_spread hB hF hk_a ha_a hn_a h)
set_option maxRecDepth 100000 in
theorem t_C_width {G : Gt} {φ : Ph} {B : Bag} (hB : BF G I_C_width B) (hF : SF 134 φ)    {o : Int32} {M9 : Mm}  {M : Mm} (h : f_C_width M = some (o, M9)) : AW G I_C_width B (QM G I_C_width B (.inl (some (.int o))) M9 φ) 0 0 0 [(0, .ref 0)] [] M φ := by
  unfold f_C_width at h
  refine a_aload_n (j := 0) hB e_C_width_0 rfl rfl ?_
  obtain ⟨M1, hr1, h⟩ := bn_i h
  refine a_ret (v := (some (.ref 25))) (M1 := M1) (φ1 := φ) (st1 := [.ref 25]) (j1 := 0) (j2 := 0) (ar_V (As := []) (rest := []) hB (c_C_followed (bf_G hB) hF hr1) ml_C_255 md_C_followed rc_C_followed (sf_lt hF (by decide)) kk_0 rfl rfl (Nat.le_of_ble_eq_true rfl) rm_C_width_C_followed e_C_width_1) rfl rfl rfl ?_
  refine a_astore_n (ls' := [(1, .ref 25), (0, .ref 0)]) hB e_C_width_4 rfl (Nat.le_of_ble_eq_true rfl) rfl ?_
  refine a_aload_n (j := 0) hB e_C_width_5 rfl rfl ?_
  refine a_getR (r := 29) (k := 3) hB e_C_width_6 fl_C_265 (sf_lt hF (by decide)) kk_25 tt_25_3 (hF.1 _ _) ?_
  refine a_aload_n (j := 0) hB e_C_width_9 rfl rfl ?_
  refine a_getI (k := 5) hB e_C_width_10 fl_C_289 (sf_lt hF (by decide)) kk_25 tt_25_5 ?_
  refine a_iconst (v := 1) hB e_C_width_13 ic_1 ?_
  refine a_iadd hB e_C_width_14 ?_
  obtain ⟨r15, hr15, h⟩ := bn_i h
  refine a_ret (v := (some (.int r15))) (M1 := M1) (φ1 := φ) (st1 := [.int r15]) (j1 := 0) (j2 := 0) (ar_S (As := [.ref 29, .int ((M1 25 5) + (1 : Int32))]) (rest := []) hB (c_C_spread (bf_G hB) hF kk_29 (by decide) ll_29 hr15) ml_C_290 md_C_spread rfl rfl (Nat.le_of_ble_eq_true rfl) rm_C_width_C_spread e_C_width_15) rfl rfl rfl ?_
  cases h
  exact a_iret hB rfl e_C_width_18 (by decide) (by decide)
set_option maxRecDepth 100000 in
theorem c_C_width {G : Gt} (hG : GOK G) {φ : Ph} (hF : SF 134 φ)   {M : Mm}  {o : Int32} {M9 : Mm} (h : f_C_width M = some (o, M9)) : CT G I_C_width [.ref 0] M φ (.inl (some (.int o))) M9 φ :=
  ct_of hG (by decide) (Nat.le_of_ble_eq_true rfl) (fun B hB => t_C_width hB hF  h)
set_option maxRecDepth 100000 in
theorem t_C_height {G : Gt} {φ : Ph} {B : Bag} (hB : BF G I_C_height B) (hF : SF 134 φ)    {o : Int32} {M9 : Mm}  {M : Mm} (h : f_C_height M = some (o, M9)) : AW G I_C_height B (QM G I_C_height B (.inl (some (.int o))) M9 φ) 0 0 0 [(0, .ref 0)] [] M φ := by
  unfold f_C_height at h
  refine a_aload_n (j := 0) hB e_C_height_0 rfl rfl ?_
  obtain ⟨M1, hr1, h⟩ := bn_i h
  refine a_ret (v := (some (.ref 25))) (M1 := M1) (φ1 := φ) (st1 := [.ref 25]) (j1 := 0) (j2 := 0) (ar_V (As := []) (rest := []) hB (c_C_followed (bf_G hB) hF hr1) ml_C_255 md_C_followed rc_C_followed (sf_lt hF (by decide)) kk_0 rfl rfl (Nat.le_of_ble_eq_true rfl) rm_C_height_C_followed e_C_height_1) rfl rfl rfl ?_
  refine a_astore_n (ls' := [(1, .ref 25), (0, .ref 0)]) hB e_C_height_4 rfl (Nat.le_of_ble_eq_true rfl) rfl ?_
  refine a_aload_n (j := 0) hB e_C_height_5 rfl rfl ?_
  refine a_getR (r := 30) (k := 4) hB e_C_height_6 fl_C_268 (sf_lt hF (by decide)) kk_25 tt_25_4 (hF.1 _ _) ?_
  refine a_aload_n (j := 0) hB e_C_height_9 rfl rfl ?_
  refine a_getI (k := 5) hB e_C_height_10 fl_C_289 (sf_lt hF (by decide)) kk_25 tt_25_5 ?_
  refine a_iconst (v := 1) hB e_C_height_13 ic_1 ?_
  refine a_iadd hB e_C_height_14 ?_
  obtain ⟨r15, hr15, h⟩ := bn_i h
  refine a_ret (v := (some (.int r15))) (M1 := M1) (φ1 := φ) (st1 := [.int r15]) (j1 := 0) (j2 := 0) (ar_S (As := [.ref 30, .int ((M1 25 5) + (1 : Int32))]) (rest := []) hB (c_C_spread (bf_G hB) hF kk_30 (by decide) ll_30 hr15) ml_C_290 md_C_spread rfl rfl (Nat.le_of_ble_eq_true rfl) rm_C_height_C_spread e_C_height_15) rfl rfl rfl ?_
  cases h
  exact a_iret hB rfl e_C_height_18 (by decide) (by decide)
set_option maxRecDepth 100000 in
theorem c_C_height {G : Gt} (hG : GOK G) {φ : Ph} (hF : SF 134 φ)   {M : Mm}  {o : Int32} {M9 : Mm} (h : f_C_height M = some (o, M9)) : CT G I_C_height [.ref 0] M φ (.inl (some (.int o))) M9 φ :=
  ct_of hG (by decide) (Nat.le_of_ble_eq_true rfl) (fun B hB => t_C_height hB hF  h)
set_option maxRecDepth 100000 in
theorem t_C_farthestStation_41 {G : Gt} {φ : Ph} {B : Bag} (hB : BF G I_C_farthestStation B) (hF : SF 134 φ)    {o : Int32} {M9 : Mm} {r12 : Int32 → Int32 → Int32 → Mm → Option (Int32 × Mm)} (hr12 : ∀ (l2 : Int32) (l3 : Int32) (l4 : Int32) (M : Mm), r12 l2 l3 l4 M = some (o, M9) → AW G I_C_farthestStation B (QM G I_C_farthestStation B (.inl (some (.int o))) M9 φ) 0 0 12 [(1, .ref 25), (2, .int l2), (3, .int l3), (4, .int l4)] [] M φ) {l2 : Int32} {l3 : Int32} {l4 : Int32} {M : Mm} (h : f_C_farthestStation_41 r12 l2 l3 l4 M = some (o, M9)) : AW G I_C_farthestStation B (QM G I_C_farthestStation B (.inl (some (.int o))) M9 φ) 0 0 41 [(1, .ref 25), (2, .int l2), (3, .int l3), (4, .int l4)] [] M φ := by
  unfold f_C_farthestStation_41 at h
  refine a_iinc (j := 3) (v := l4 + 1) (ls' := [(4, .int (l4 + 1)), (1, .ref 25), (2, .int l2), (3, .int l3)]) hB e_C_farthestStation_41 rfl (inc_1 _) (Nat.le_of_ble_eq_true rfl) rfl ?_
  refine a_goto (tgt := 12) hB e_C_farthestStation_44 (by decide) ?_
  refine a_ls [1, 2, 3, 0] (ls' := [(1, .ref 25), (2, .int l2), (3, .int l3), (4, .int (l4 + 1))]) rfl ?_
  exact hr12 _ _ _ _ h
set_option maxRecDepth 100000 in
theorem t_C_farthestStation_12 {G : Gt} {φ : Ph} {B : Bag} (hB : BF G I_C_farthestStation B) (hF : SF 134 φ)    {o : Int32} {M9 : Mm} : ∀ (n : Nat) (l2 : Int32) (l3 : Int32) (l4 : Int32) (M : Mm), f_C_farthestStation_12 n l2 l3 l4 M = some (o, M9) → AW G I_C_farthestStation B (QM G I_C_farthestStation B (.inl (some (.int o))) M9 φ) 0 0 12 [(1, .ref 25), (2, .int l2), (3, .int l3), (4, .int l4)] [] M φ := by
  intro n
  induction n with
  | zero => intro l2 l3 l4 M h; cases h
  | succ n hr12 =>
    intro l2 l3 l4 M h
    rw [f_C_farthestStation_12] at h
    refine a_iload (j := 3) hB e_C_farthestStation_12 rfl ?_
    refine a_aload_n (j := 0) hB e_C_farthestStation_14 rfl rfl ?_
    refine a_getI (k := 5) hB e_C_farthestStation_15 fl_C_289 (sf_lt hF (by decide)) kk_25 tt_25_5 ?_
    refine a_icmp_gt (tgt := 47) hB e_C_farthestStation_18 (by decide) (fun c => ?_) (fun c => ?_)
    · have h := ip c h
      refine a_iload_n (j := 1) hB e_C_farthestStation_47 rfl rfl ?_
      cases h
      exact a_iret hB rfl e_C_farthestStation_48 (by decide) (by decide)
    · have h := iq c h
      refine a_aload_n (j := 0) hB e_C_farthestStation_21 rfl rfl ?_
      refine a_iload (j := 3) hB e_C_farthestStation_22 rfl ?_
      obtain ⟨r24, hr24, h⟩ := bn_i h
      refine a_ret (v := (some (.int r24))) (M1 := M) (φ1 := φ) (st1 := [.int r24]) (j1 := 0) (j2 := 0) (ar_V (As := [.int l4]) (rest := []) hB (c_T_distanceOf (bf_G hB) hF hr24) ml_C_274 md_T_distanceOf rc_T_distanceOf (sf_lt hF (by decide)) kk_25 rfl rfl (Nat.le_of_ble_eq_true rfl) rm_C_farthestStation_T_distanceOf e_C_farthestStation_24) rfl rfl rfl ?_
      refine a_istore (ls' := [(5, .int r24), (1, .ref 25), (2, .int l2), (3, .int l3), (4, .int l4)]) hB e_C_farthestStation_27 (Nat.le_of_ble_eq_true rfl) rfl ?_
      refine a_iload (j := 0) hB e_C_farthestStation_29 rfl ?_
      refine a_iload_n (j := 3) hB e_C_farthestStation_31 rfl rfl ?_
      refine a_icmp_le (tgt := 41) hB e_C_farthestStation_32 (by decide) (fun c => ?_) (fun c => ?_)
      · have h := ip c h
        refine a_ls [1, 2, 3, 4] (ls' := [(1, .ref 25), (2, .int l2), (3, .int l3), (4, .int l4)]) rfl ?_
        exact t_C_farthestStation_41 hB hF hr12 h
      · have h := iq c h
        refine a_iload (j := 4) hB e_C_farthestStation_35 rfl ?_
        refine a_istore_n (ls' := [(2, .int l4), (5, .int r24), (1, .ref 25), (3, .int l3), (4, .int l4)]) hB e_C_farthestStation_37 rfl (Nat.le_of_ble_eq_true rfl) rfl ?_
        refine a_iload (j := 1) hB e_C_farthestStation_38 rfl ?_
        refine a_istore_n (ls' := [(3, .int r24), (2, .int l4), (5, .int r24), (1, .ref 25), (4, .int l4)]) hB e_C_farthestStation_40 rfl (Nat.le_of_ble_eq_true rfl) rfl ?_
        refine a_ls [3, 1, 0, 4] (ls' := [(1, .ref 25), (2, .int l4), (3, .int r24), (4, .int l4)]) rfl ?_
        exact t_C_farthestStation_41 hB hF hr12 h
set_option maxRecDepth 100000 in
theorem t_C_farthestStation {G : Gt} {φ : Ph} {B : Bag} (hB : BF G I_C_farthestStation B) (hF : SF 134 φ)    {o : Int32} {M9 : Mm}  {M : Mm} (h : f_C_farthestStation M = some (o, M9)) : AW G I_C_farthestStation B (QM G I_C_farthestStation B (.inl (some (.int o))) M9 φ) 0 0 0 [(0, .ref 0)] [] M φ := by
  unfold f_C_farthestStation at h
  refine a_aload_n (j := 0) hB e_C_farthestStation_0 rfl rfl ?_
  obtain ⟨M1, hr1, h⟩ := bn_i h
  refine a_ret (v := (some (.ref 25))) (M1 := M1) (φ1 := φ) (st1 := [.ref 25]) (j1 := 0) (j2 := 0) (ar_V (As := []) (rest := []) hB (c_C_followed (bf_G hB) hF hr1) ml_C_255 md_C_followed rc_C_followed (sf_lt hF (by decide)) kk_0 rfl rfl (Nat.le_of_ble_eq_true rfl) rm_C_farthestStation_C_followed e_C_farthestStation_1) rfl rfl rfl ?_
  refine a_astore_n (ls' := [(1, .ref 25), (0, .ref 0)]) hB e_C_farthestStation_4 rfl (Nat.le_of_ble_eq_true rfl) rfl ?_
  refine a_iconst (v := 0) hB e_C_farthestStation_5 ic_0 ?_
  refine a_istore_n (ls' := [(2, .int (0 : Int32)), (1, .ref 25), (0, .ref 0)]) hB e_C_farthestStation_6 rfl (Nat.le_of_ble_eq_true rfl) rfl ?_
  refine a_iconst (v := 0) hB e_C_farthestStation_7 ic_0 ?_
  refine a_istore_n (ls' := [(3, .int (0 : Int32)), (2, .int (0 : Int32)), (1, .ref 25), (0, .ref 0)]) hB e_C_farthestStation_8 rfl (Nat.le_of_ble_eq_true rfl) rfl ?_
  refine a_iconst (v := 1) hB e_C_farthestStation_9 ic_1 ?_
  refine a_istore (ls' := [(4, .int (1 : Int32)), (3, .int (0 : Int32)), (2, .int (0 : Int32)), (1, .ref 25), (0, .ref 0)]) hB e_C_farthestStation_10 (Nat.le_of_ble_eq_true rfl) rfl ?_
  refine a_ls [3, 2, 1, 0] (ls' := [(1, .ref 25), (2, .int (0 : Int32)), (3, .int (0 : Int32)), (4, .int (1 : Int32))]) rfl ?_
  exact t_C_farthestStation_12 hB hF _ _ _ _ _ h
set_option maxRecDepth 100000 in
theorem c_C_farthestStation {G : Gt} (hG : GOK G) {φ : Ph} (hF : SF 134 φ)   {M : Mm}  {o : Int32} {M9 : Mm} (h : f_C_farthestStation M = some (o, M9)) : CT G I_C_farthestStation [.ref 0] M φ (.inl (some (.int o))) M9 φ :=
  ct_of hG (by decide) (Nat.le_of_ble_eq_true rfl) (fun B hB => t_C_farthestStation hB hF  h)
set_option maxRecDepth 100000 in
theorem t_C_longestLeg_38 {G : Gt} {φ : Ph} {B : Bag} (hB : BF G I_C_longestLeg B) (hF : SF 134 φ)   {M : Mm} {o : Int32} {r6 : Int32 → Int32 → Int32 → Option Int32} (hr6 : ∀ (l1 : Int32) (l2 : Int32) (l3 : Int32), r6 l1 l2 l3 = some o → AW G I_C_longestLeg B (QM G I_C_longestLeg B (.inl (some (.int o))) M φ) 0 0 6 [(0, .ref 0), (1, .int l1), (2, .int l2), (3, .int l3)] [] M φ) {l1 : Int32} {l2 : Int32} {l3 : Int32}  (h : f_C_longestLeg_38 M r6 l1 l2 l3 = some o) : AW G I_C_longestLeg B (QM G I_C_longestLeg B (.inl (some (.int o))) M φ) 0 0 38 [(0, .ref 0), (1, .int l1), (2, .int l2), (3, .int l3)] [] M φ := by
  unfold f_C_longestLeg_38 at h
  refine a_iinc (j := 3) (v := l3 + 1) (ls' := [(3, .int (l3 + 1)), (0, .ref 0), (1, .int l1), (2, .int l2)]) hB e_C_longestLeg_38 rfl (inc_1 _) (Nat.le_of_ble_eq_true rfl) rfl ?_
  refine a_goto (tgt := 6) hB e_C_longestLeg_41 (by decide) ?_
  refine a_ls [1, 2, 3, 0] (ls' := [(0, .ref 0), (1, .int l1), (2, .int l2), (3, .int (l3 + 1))]) rfl ?_
  exact hr6 _ _ _ h
set_option maxRecDepth 100000 in
theorem t_C_longestLeg_6 {G : Gt} {φ : Ph} {B : Bag} (hB : BF G I_C_longestLeg B) (hF : SF 134 φ)   {M : Mm} {o : Int32} : ∀ (n : Nat) (l1 : Int32) (l2 : Int32) (l3 : Int32), f_C_longestLeg_6 M n l1 l2 l3 = some o → AW G I_C_longestLeg B (QM G I_C_longestLeg B (.inl (some (.int o))) M φ) 0 0 6 [(0, .ref 0), (1, .int l1), (2, .int l2), (3, .int l3)] [] M φ := by
  intro n
  induction n with
  | zero => intro l1 l2 l3 h; cases h
  | succ n hr6 =>
    intro l1 l2 l3 h
    rw [f_C_longestLeg_6] at h
    refine a_iload_n (j := 3) hB e_C_longestLeg_6 rfl rfl ?_
    refine a_aload_n (j := 0) hB e_C_longestLeg_7 rfl rfl ?_
    refine a_getR (r := 15) (k := 7) hB e_C_longestLeg_8 fl_C_39 (sf_lt hF (by decide)) kk_0 tt_0_7 (hF.1 _ _) ?_
    refine a_getI (k := 9) hB e_C_longestLeg_11 fl_C_115 (sf_lt hF (by decide)) kk_15 tt_15_9 ?_
    refine a_icmp_ge (tgt := 44) hB e_C_longestLeg_14 (by decide) (fun c => ?_) (fun c => ?_)
    · have h := ip c h
      refine a_iload_n (j := 1) hB e_C_longestLeg_44 rfl rfl ?_
      cases h
      exact a_iret hB rfl e_C_longestLeg_45 (by decide) (by decide)
    · have h := iq c h
      refine a_aload_n (j := 0) hB e_C_longestLeg_17 rfl rfl ?_
      refine a_getR (r := 15) (k := 7) hB e_C_longestLeg_18 fl_C_39 (sf_lt hF (by decide)) kk_0 tt_0_7 (hF.1 _ _) ?_
      refine a_iload_n (j := 3) hB e_C_longestLeg_21 rfl rfl ?_
      obtain ⟨r22, hr22, h⟩ := bn_i h
      refine a_ret (v := (some (.int r22))) (M1 := M) (φ1 := φ) (st1 := [.int r22]) (j1 := 0) (j2 := 0) (ar_V (As := [.int l3]) (rest := []) hB (c_S_horizontalUnits (bf_G hB) hF sv_15 hr22) ml_C_227 md_S_horizontalUnits rc_S_horizontalUnits (sf_lt hF (by decide)) kk_15 rfl rfl (Nat.le_of_ble_eq_true rfl) rm_C_longestLeg_S_horizontalUnits e_C_longestLeg_22) rfl rfl rfl ?_
      refine a_istore (ls' := [(4, .int r22), (0, .ref 0), (1, .int l1), (2, .int l2), (3, .int l3)]) hB e_C_longestLeg_25 (Nat.le_of_ble_eq_true rfl) rfl ?_
      refine a_iload (j := 0) hB e_C_longestLeg_27 rfl ?_
      refine a_iload_n (j := 3) hB e_C_longestLeg_29 rfl rfl ?_
      refine a_icmp_le (tgt := 38) hB e_C_longestLeg_30 (by decide) (fun c => ?_) (fun c => ?_)
      · have h := ip c h
        refine a_ls [1, 2, 3, 4] (ls' := [(0, .ref 0), (1, .int l1), (2, .int l2), (3, .int l3)]) rfl ?_
        exact t_C_longestLeg_38 hB hF hr6 h
      · have h := iq c h
        refine a_iload_n (j := 4) hB e_C_longestLeg_33 rfl rfl ?_
        refine a_istore_n (ls' := [(1, .int l3), (4, .int r22), (0, .ref 0), (2, .int l2), (3, .int l3)]) hB e_C_longestLeg_34 rfl (Nat.le_of_ble_eq_true rfl) rfl ?_
        refine a_iload (j := 1) hB e_C_longestLeg_35 rfl ?_
        refine a_istore_n (ls' := [(2, .int r22), (1, .int l3), (4, .int r22), (0, .ref 0), (3, .int l3)]) hB e_C_longestLeg_37 rfl (Nat.le_of_ble_eq_true rfl) rfl ?_
        refine a_ls [3, 1, 0, 4] (ls' := [(0, .ref 0), (1, .int l3), (2, .int r22), (3, .int l3)]) rfl ?_
        exact t_C_longestLeg_38 hB hF hr6 h
set_option maxRecDepth 100000 in
theorem t_C_longestLeg {G : Gt} {φ : Ph} {B : Bag} (hB : BF G I_C_longestLeg B) (hF : SF 134 φ)   {M : Mm} {o : Int32}   (h : f_C_longestLeg M = some o) : AW G I_C_longestLeg B (QM G I_C_longestLeg B (.inl (some (.int o))) M φ) 0 0 0 [(0, .ref 0)] [] M φ := by
  unfold f_C_longestLeg at h
  refine a_iconst (v := -1) hB e_C_longestLeg_0 ic_m1 ?_
  refine a_istore_n (ls' := [(1, .int (-1 : Int32)), (0, .ref 0)]) hB e_C_longestLeg_1 rfl (Nat.le_of_ble_eq_true rfl) rfl ?_
  refine a_iconst (v := -1) hB e_C_longestLeg_2 ic_m1 ?_
  refine a_istore_n (ls' := [(2, .int (-1 : Int32)), (1, .int (-1 : Int32)), (0, .ref 0)]) hB e_C_longestLeg_3 rfl (Nat.le_of_ble_eq_true rfl) rfl ?_
  refine a_iconst (v := 0) hB e_C_longestLeg_4 ic_0 ?_
  refine a_istore_n (ls' := [(3, .int (0 : Int32)), (2, .int (-1 : Int32)), (1, .int (-1 : Int32)), (0, .ref 0)]) hB e_C_longestLeg_5 rfl (Nat.le_of_ble_eq_true rfl) rfl ?_
  refine a_ls [3, 2, 1, 0] (ls' := [(0, .ref 0), (1, .int (-1 : Int32)), (2, .int (-1 : Int32)), (3, .int (0 : Int32))]) rfl ?_
  exact t_C_longestLeg_6 hB hF _ _ _ _ h
set_option maxRecDepth 100000 in
theorem c_C_longestLeg {G : Gt} (hG : GOK G) {φ : Ph} (hF : SF 134 φ)   {M : Mm}  {o : Int32} (h : f_C_longestLeg M = some o) : CT G I_C_longestLeg [.ref 0] M φ (.inl (some (.int o))) M φ :=
  ct_of hG (by decide) (Nat.le_of_ble_eq_true rfl) (fun B hB => t_C_longestLeg hB hF  h)
set_option maxRecDepth 100000 in
theorem t_C_bogLength_38 {G : Gt} {φ : Ph} {B : Bag} (hB : BF G I_C_bogLength B) (hF : SF 134 φ)   {M : Mm} {o : Int32} {r4 : Int32 → Int32 → Option Int32} (hr4 : ∀ (l1 : Int32) (l2 : Int32), r4 l1 l2 = some o → AW G I_C_bogLength B (QM G I_C_bogLength B (.inl (some (.int o))) M φ) 0 0 4 [(0, .ref 0), (1, .int l1), (2, .int l2)] [] M φ) {l1 : Int32} {l2 : Int32}  (h : f_C_bogLength_38 M r4 l1 l2 = some o) : AW G I_C_bogLength B (QM G I_C_bogLength B (.inl (some (.int o))) M φ) 0 0 38 [(0, .ref 0), (1, .int l1), (2, .int l2)] [] M φ := by
  unfold f_C_bogLength_38 at h
  refine a_iinc (j := 2) (v := l2 + 1) (ls' := [(2, .int (l2 + 1)), (0, .ref 0), (1, .int l1)]) hB e_C_bogLength_38 rfl (inc_1 _) (Nat.le_of_ble_eq_true rfl) rfl ?_
  refine a_goto (tgt := 4) hB e_C_bogLength_41 (by decide) ?_
  refine a_ls [1, 2, 0] (ls' := [(0, .ref 0), (1, .int l1), (2, .int (l2 + 1))]) rfl ?_
  exact hr4 _ _ h
set_option maxRecDepth 100000 in
theorem t_C_bogLength_4 {G : Gt} {φ : Ph} {B : Bag} (hB : BF G I_C_bogLength B) (hF : SF 134 φ)   {M : Mm} {o : Int32} : ∀ (n : Nat) (l1 : Int32) (l2 : Int32), f_C_bogLength_4 M n l1 l2 = some o → AW G I_C_bogLength B (QM G I_C_bogLength B (.inl (some (.int o))) M φ) 0 0 4 [(0, .ref 0), (1, .int l1), (2, .int l2)] [] M φ := by
  intro n
  induction n with
  | zero => intro l1 l2 h; cases h
  | succ n hr4 =>
    intro l1 l2 h
    rw [f_C_bogLength_4] at h
    refine a_iload_n (j := 2) hB e_C_bogLength_4 rfl rfl ?_
    refine a_aload_n (j := 0) hB e_C_bogLength_5 rfl rfl ?_
    refine a_getR (r := 15) (k := 7) hB e_C_bogLength_6 fl_C_39 (sf_lt hF (by decide)) kk_0 tt_0_7 (hF.1 _ _) ?_
    refine a_getI (k := 9) hB e_C_bogLength_9 fl_C_115 (sf_lt hF (by decide)) kk_15 tt_15_9 ?_
    refine a_icmp_ge (tgt := 44) hB e_C_bogLength_12 (by decide) (fun c => ?_) (fun c => ?_)
    · have h := ip c h
      refine a_iload_n (j := 1) hB e_C_bogLength_44 rfl rfl ?_
      cases h
      exact a_iret hB rfl e_C_bogLength_45 (by decide) (by decide)
    · have h := iq c h
      refine a_aload_n (j := 0) hB e_C_bogLength_15 rfl rfl ?_
      refine a_getR (r := 15) (k := 7) hB e_C_bogLength_16 fl_C_39 (sf_lt hF (by decide)) kk_0 tt_0_7 (hF.1 _ _) ?_
      refine a_getR (r := 18) (k := 2) hB e_C_bogLength_19 fl_C_239 (sf_lt hF (by decide)) kk_15 tt_15_2 (hF.1 _ _) ?_
      refine a_iload_n (j := 2) hB e_C_bogLength_22 rfl rfl ?_
      obtain ⟨c23, h⟩ := chk_i h
      refine a_zald' hB e_C_bogLength_23 (sf_lt hF (by decide)) kk_18 ll_18 c23 ?_
      refine a_if_eq (tgt := 38) hB e_C_bogLength_24 (by decide) (fun c => ?_) (fun c => ?_)
      · have h := ip c h
        exact t_C_bogLength_38 hB hF hr4 h
      · have h := iq c h
        refine a_iload_n (j := 1) hB e_C_bogLength_27 rfl rfl ?_
        refine a_aload_n (j := 0) hB e_C_bogLength_28 rfl rfl ?_
        refine a_getR (r := 15) (k := 7) hB e_C_bogLength_29 fl_C_39 (sf_lt hF (by decide)) kk_0 tt_0_7 (hF.1 _ _) ?_
        refine a_iload_n (j := 2) hB e_C_bogLength_32 rfl rfl ?_
        obtain ⟨r33, hr33, h⟩ := bn_i h
        refine a_ret (v := (some (.int r33))) (M1 := M) (φ1 := φ) (st1 := [.int r33, .int l1]) (j1 := 0) (j2 := 0) (ar_V (As := [.int l2]) (rest := [.int l1]) hB (c_S_horizontalUnits (bf_G hB) hF sv_15 hr33) ml_C_227 md_S_horizontalUnits rc_S_horizontalUnits (sf_lt hF (by decide)) kk_15 rfl rfl (Nat.le_of_ble_eq_true rfl) rm_C_bogLength_S_horizontalUnits e_C_bogLength_33) rfl rfl rfl ?_
        refine a_iadd hB e_C_bogLength_36 ?_
        refine a_istore_n (ls' := [(1, .int (l1 + r33)), (0, .ref 0), (2, .int l2)]) hB e_C_bogLength_37 rfl (Nat.le_of_ble_eq_true rfl) rfl ?_
        refine a_ls [1, 0, 2] (ls' := [(0, .ref 0), (1, .int (l1 + r33)), (2, .int l2)]) rfl ?_
        exact t_C_bogLength_38 hB hF hr4 h
set_option maxRecDepth 100000 in
theorem t_C_bogLength {G : Gt} {φ : Ph} {B : Bag} (hB : BF G I_C_bogLength B) (hF : SF 134 φ)   {M : Mm} {o : Int32}   (h : f_C_bogLength M = some o) : AW G I_C_bogLength B (QM G I_C_bogLength B (.inl (some (.int o))) M φ) 0 0 0 [(0, .ref 0)] [] M φ := by
  unfold f_C_bogLength at h
  refine a_iconst (v := 0) hB e_C_bogLength_0 ic_0 ?_
  refine a_istore_n (ls' := [(1, .int (0 : Int32)), (0, .ref 0)]) hB e_C_bogLength_1 rfl (Nat.le_of_ble_eq_true rfl) rfl ?_
  refine a_iconst (v := 0) hB e_C_bogLength_2 ic_0 ?_
  refine a_istore_n (ls' := [(2, .int (0 : Int32)), (1, .int (0 : Int32)), (0, .ref 0)]) hB e_C_bogLength_3 rfl (Nat.le_of_ble_eq_true rfl) rfl ?_
  refine a_ls [2, 1, 0] (ls' := [(0, .ref 0), (1, .int (0 : Int32)), (2, .int (0 : Int32))]) rfl ?_
  exact t_C_bogLength_4 hB hF _ _ _ h
set_option maxRecDepth 100000 in
theorem c_C_bogLength {G : Gt} (hG : GOK G) {φ : Ph} (hF : SF 134 φ)   {M : Mm}  {o : Int32} (h : f_C_bogLength M = some o) : CT G I_C_bogLength [.ref 0] M φ (.inl (some (.int o))) M φ :=
  ct_of hG (by decide) (Nat.le_of_ble_eq_true rfl) (fun B hB => t_C_bogLength hB hF  h)
set_option maxRecDepth 100000 in
theorem t_C_area {G : Gt} {φ : Ph} {B : Bag} (hB : BF G I_C_area B) (hF : SF 134 φ)    {o : Int64} {M9 : Mm}  {M : Mm} (h : f_C_area M = some (o, M9)) : AW G I_C_area B (QM G I_C_area B (.inl (some (.long o))) M9 φ) 0 0 0 [(0, .ref 0)] [] M φ := by
  unfold f_C_area at h
  refine a_aload_n (j := 0) hB e_C_area_0 rfl rfl ?_
  obtain ⟨M1, hr1, h⟩ := bn_i h
  refine a_ret (v := (some (.ref 25))) (M1 := M1) (φ1 := φ) (st1 := [.ref 25]) (j1 := 0) (j2 := 0) (ar_V (As := []) (rest := []) hB (c_C_followed (bf_G hB) hF hr1) ml_C_255 md_C_followed rc_C_followed (sf_lt hF (by decide)) kk_0 rfl rfl (Nat.le_of_ble_eq_true rfl) rm_C_area_C_followed e_C_area_1) rfl rfl rfl ?_
  obtain ⟨r4, hr4, h⟩ := bn_i h
  refine a_ret (v := (some (.long r4))) (M1 := M1) (φ1 := φ) (st1 := [.long r4]) (j1 := 0) (j2 := 0) (ar_V (As := []) (rest := []) hB (c_T_enclosedArea (bf_G hB) hF hr4) ml_C_294 md_T_enclosedArea rc_T_enclosedArea (sf_lt hF (by decide)) kk_25 rfl rfl (Nat.le_of_ble_eq_true rfl) rm_C_area_T_enclosedArea e_C_area_4) rfl rfl rfl ?_
  cases h
  exact a_lret hB rfl e_C_area_7 (by decide) (by decide)
set_option maxRecDepth 100000 in
theorem c_C_area {G : Gt} (hG : GOK G) {φ : Ph} (hF : SF 134 φ)   {M : Mm}  {o : Int64} {M9 : Mm} (h : f_C_area M = some (o, M9)) : CT G I_C_area [.ref 0] M φ (.inl (some (.long o))) M9 φ :=
  ct_of hG (by decide) (Nat.le_of_ble_eq_true rfl) (fun B hB => t_C_area hB hF  h)
set_option maxRecDepth 100000 in
theorem t_C_misclosureWithPin {G : Gt} {φ : Ph} {B : Bag} (hB : BF G I_C_misclosureWithPin B) (hF : SF 134 φ)    {o : Int32} {M9 : Mm} {l1 : Int32} {M : Mm} (h : f_C_misclosureWithPin l1 M = some (o, M9)) : AW G I_C_misclosureWithPin B (QM G I_C_misclosureWithPin B (.inl (some (.int o))) M9 φ) 0 0 0 [(0, .ref 0), (1, .int l1)] [] M φ := by
  unfold f_C_misclosureWithPin at h
  refine a_aload_n (j := 0) hB e_C_misclosureWithPin_0 rfl rfl ?_
  refine a_getR (r := 15) (k := 7) hB e_C_misclosureWithPin_1 fl_C_39 (sf_lt hF (by decide)) kk_0 tt_0_7 (hF.1 _ _) ?_
  refine a_iload_n (j := 1) hB e_C_misclosureWithPin_4 rfl rfl ?_
  obtain ⟨r5, hr5, h⟩ := bn_i h
  refine a_ret (v := (some (.int r5))) (M1 := M) (φ1 := φ) (st1 := [.int r5]) (j1 := 0) (j2 := 0) (ar_V (As := [.int l1]) (rest := []) hB (c_S_canDrop (bf_G hB) hF sv_15 hr5) ml_C_166 md_S_canDrop rc_S_canDrop (sf_lt hF (by decide)) kk_15 rfl rfl (Nat.le_of_ble_eq_true rfl) rm_C_misclosureWithPin_S_canDrop e_C_misclosureWithPin_5) rfl rfl rfl ?_
  refine a_if_ne (tgt := 13) hB e_C_misclosureWithPin_8 (by decide) (fun c => ?_) (fun c => ?_)
  · have h := iq c h
    refine a_aload_n (j := 0) hB e_C_misclosureWithPin_13 rfl rfl ?_
    refine a_getR (r := 4) (k := 8) hB e_C_misclosureWithPin_14 fl_C_46 (sf_lt hF (by decide)) kk_0 tt_0_8 (hF.1 _ _) ?_
    refine a_aload_n (j := 0) hB e_C_misclosureWithPin_17 rfl rfl ?_
    refine a_getR (r := 15) (k := 7) hB e_C_misclosureWithPin_18 fl_C_39 (sf_lt hF (by decide)) kk_0 tt_0_7 (hF.1 _ _) ?_
    obtain ⟨M21, hr21, h⟩ := bn_i h
    refine a_ret (v := none) (M1 := M21) (φ1 := φ) (st1 := []) (j1 := 0) (j2 := 0) (ar_V (As := [.ref 15]) (rest := []) hB (c_S_copyFrom (bf_G hB) hF sv_4 sv_15 hr21) ml_C_90 md_S_copyFrom rc_S_copyFrom (sf_lt hF (by decide)) kk_4 rfl rfl (Nat.le_of_ble_eq_true rfl) rm_C_misclosureWithPin_S_copyFrom e_C_misclosureWithPin_21) rfl rfl rfl ?_
    refine a_aload_n (j := 0) hB e_C_misclosureWithPin_24 rfl rfl ?_
    refine a_getR (r := 4) (k := 8) hB e_C_misclosureWithPin_25 fl_C_46 (sf_lt hF (by decide)) kk_0 tt_0_8 (hF.1 _ _) ?_
    refine a_getR (r := 11) (k := 6) hB e_C_misclosureWithPin_28 fl_C_171 (sf_lt hF (by decide)) kk_4 tt_4_6 (hF.1 _ _) ?_
    refine a_iload_n (j := 1) hB e_C_misclosureWithPin_31 rfl rfl ?_
    refine a_dup2 hB e_C_misclosureWithPin_32 rfl rfl ?_
    obtain ⟨c33, h⟩ := chk_i h
    refine a_iald' hB e_C_misclosureWithPin_33 (sf_lt hF (by decide)) kk_11 ll_11 c33 ?_
    refine a_iconst (v := 1) hB e_C_misclosureWithPin_34 ic_1 ?_
    refine a_iadd hB e_C_misclosureWithPin_35 ?_
    obtain ⟨M36, hM36, h⟩ := bm_i h
    refine a_iast' hB e_C_misclosureWithPin_36 (sf_lt hF (by decide)) kk_11 ll_11 c33 ?_
    refine a_mem hM36 ?_
    refine a_aload_n (j := 0) hB e_C_misclosureWithPin_37 rfl rfl ?_
    refine a_getR (r := 25) (k := 9) hB e_C_misclosureWithPin_38 fl_C_52 (sf_lt hF (by decide)) kk_0 tt_0_9 (hF.1 _ _) ?_
    refine a_aload_n (j := 0) hB e_C_misclosureWithPin_41 rfl rfl ?_
    refine a_getR (r := 4) (k := 8) hB e_C_misclosureWithPin_42 fl_C_46 (sf_lt hF (by decide)) kk_0 tt_0_8 (hF.1 _ _) ?_
    obtain ⟨M45, hr45, h⟩ := bn_i h
    refine a_ret (v := none) (M1 := M45) (φ1 := φ) (st1 := []) (j1 := 0) (j2 := 0) (ar_V (As := [.ref 4]) (rest := []) hB (c_T_follow (bf_G hB) hF sv_4 hr45) ml_C_301 md_T_follow rc_T_follow (sf_lt hF (by decide)) kk_25 rfl rfl (Nat.le_of_ble_eq_true rfl) rm_C_misclosureWithPin_T_follow e_C_misclosureWithPin_45) rfl rfl rfl ?_
    refine a_aload_n (j := 0) hB e_C_misclosureWithPin_48 rfl rfl ?_
    refine a_getR (r := 25) (k := 9) hB e_C_misclosureWithPin_49 fl_C_52 (sf_lt hF (by decide)) kk_0 tt_0_9 (hF.1 _ _) ?_
    obtain ⟨r52, hr52, h⟩ := bn_i h
    refine a_ret (v := (some (.int r52))) (M1 := M45) (φ1 := φ) (st1 := [.int r52]) (j1 := 0) (j2 := 0) (ar_V (As := []) (rest := []) hB (c_T_closingDistance (bf_G hB) hF hr52) ml_C_286 md_T_closingDistance rc_T_closingDistance (sf_lt hF (by decide)) kk_25 rfl rfl (Nat.le_of_ble_eq_true rfl) rm_C_misclosureWithPin_T_closingDistance e_C_misclosureWithPin_52) rfl rfl rfl ?_
    cases h
    exact a_iret hB rfl e_C_misclosureWithPin_55 (by decide) (by decide)
  · have h := ip c h
    refine a_iconst (v := -1) hB e_C_misclosureWithPin_11 ic_m1 ?_
    cases h
    exact a_iret hB rfl e_C_misclosureWithPin_12 (by decide) (by decide)
set_option maxRecDepth 100000 in
theorem c_C_misclosureWithPin {G : Gt} (hG : GOK G) {φ : Ph} (hF : SF 134 φ)   {M : Mm} {l1 : Int32} {o : Int32} {M9 : Mm} (h : f_C_misclosureWithPin l1 M = some (o, M9)) : CT G I_C_misclosureWithPin [.ref 0, .int l1] M φ (.inl (some (.int o))) M9 φ :=
  ct_of hG (by decide) (Nat.le_of_ble_eq_true rfl) (fun B hB => t_C_misclosureWithPin hB hF  h)
set_option maxRecDepth 100000 in
theorem t_C_misclosureIfDropped {G : Gt} {φ : Ph} {B : Bag} (hB : BF G I_C_misclosureIfDropped B) (hF : SF 134 φ)    {o : Nat ⊕ Int32} {M9 : Mm} {l1 : Int32} {M : Mm} (h : f_C_misclosureIfDropped l1 M = some (o, M9)) : AW G I_C_misclosureIfDropped B (QM G I_C_misclosureIfDropped B (oSi o) M9 (pS o φ)) 0 0 0 [(0, .ref 0), (1, .int l1)] [] M φ := by
  unfold f_C_misclosureIfDropped at h
  refine a_aload_n (j := 0) hB e_C_misclosureIfDropped_0 rfl rfl ?_
  refine a_iload_n (j := 1) hB e_C_misclosureIfDropped_1 rfl rfl ?_
  rcases bti_i h with ⟨e2, hr2, rfl, hz⟩ | ⟨r2, hr2, h⟩
  · obtain rfl := hz.symm
    exact a_thr (E := exS e2) (M1 := M) (φ1 := dirt φ) hB (ar_V (As := [.int l1]) (rest := []) hB (c_C_requireLeg (bf_G hB) hF hr2) ml_C_163 md_C_requireLeg rc_C_requireLeg (sf_lt hF (by decide)) kk_0 rfl rfl (Nat.le_of_ble_eq_true rfl) rm_C_misclosureIfDropped_C_requireLeg e_C_misclosureIfDropped_2) rfl (by decide) (by decide)
  · refine a_ret (v := none) (M1 := M) (φ1 := φ) (st1 := []) (j1 := 1) (j2 := 6) (ar_V (As := [.int l1]) (rest := []) hB (c_C_requireLeg (bf_G hB) hF hr2) ml_C_163 md_C_requireLeg rc_C_requireLeg (sf_lt hF (by decide)) kk_0 rfl rfl (Nat.le_of_ble_eq_true rfl) rm_C_misclosureIfDropped_C_requireLeg e_C_misclosureIfDropped_2) rfl rfl rfl ?_
    refine a_aload_n (j := 0) hB e_C_misclosureIfDropped_5 rfl rfl ?_
    refine a_iload_n (j := 1) hB e_C_misclosureIfDropped_6 rfl rfl ?_
    obtain ⟨r7, M7, hr7, h⟩ := bn2_i h
    refine a_ret (v := (some (.int r7))) (M1 := M7) (φ1 := φ) (st1 := [.int r7]) (j1 := 1) (j2 := 6) (ar_V (As := [.int l1]) (rest := []) hB (c_C_misclosureWithPin (bf_G hB) hF hr7) ml_C_298 md_C_misclosureWithPin rc_C_misclosureWithPin (sf_lt hF (by decide)) kk_0 rfl rfl (Nat.le_of_ble_eq_true rfl) rm_C_misclosureIfDropped_C_misclosureWithPin_1_6 e_C_misclosureIfDropped_7) rfl rfl rfl ?_
    cases h
    exact a_iret hB rfl e_C_misclosureIfDropped_10 (by decide) (by decide)
set_option maxRecDepth 100000 in
theorem c_C_misclosureIfDropped {G : Gt} (hG : GOK G) {φ : Ph} (hF : SF 134 φ)   {M : Mm} {l1 : Int32} {o : Nat ⊕ Int32} {M9 : Mm} (h : f_C_misclosureIfDropped l1 M = some (o, M9)) : CT G I_C_misclosureIfDropped [.ref 0, .int l1] M φ (oSi o) M9 (pS o φ) :=
  ct_of hG (by decide) (Nat.le_of_ble_eq_true rfl) (fun B hB => t_C_misclosureIfDropped hB hF  h)
set_option maxRecDepth 100000 in
theorem t_C_suspectLeg_47 {G : Gt} {φ : Ph} {B : Bag} (hB : BF G I_C_suspectLeg B) (hF : SF 134 φ)    {o : Int32} {M9 : Mm} {r12 : Int32 → Int32 → Int32 → Mm → Option (Int32 × Mm)} (hr12 : ∀ (l1 : Int32) (l2 : Int32) (l3 : Int32) (M : Mm), r12 l1 l2 l3 M = some (o, M9) → AW G I_C_suspectLeg B (QM G I_C_suspectLeg B (.inl (some (.int o))) M9 φ) 0 0 12 [(0, .ref 0), (1, .int l1), (2, .int l2), (3, .int l3)] [] M φ) {l1 : Int32} {l2 : Int32} {l3 : Int32} {M : Mm} (h : f_C_suspectLeg_47 r12 l1 l2 l3 M = some (o, M9)) : AW G I_C_suspectLeg B (QM G I_C_suspectLeg B (.inl (some (.int o))) M9 φ) 0 0 47 [(0, .ref 0), (1, .int l1), (2, .int l2), (3, .int l3)] [] M φ := by
  unfold f_C_suspectLeg_47 at h
  refine a_iinc (j := 3) (v := l3 + 1) (ls' := [(3, .int (l3 + 1)), (0, .ref 0), (1, .int l1), (2, .int l2)]) hB e_C_suspectLeg_47 rfl (inc_1 _) (Nat.le_of_ble_eq_true rfl) rfl ?_
  refine a_goto (tgt := 12) hB e_C_suspectLeg_50 (by decide) ?_
  refine a_ls [1, 2, 3, 0] (ls' := [(0, .ref 0), (1, .int l1), (2, .int l2), (3, .int (l3 + 1))]) rfl ?_
  exact hr12 _ _ _ _ h
set_option maxRecDepth 100000 in
theorem t_C_suspectLeg_12 {G : Gt} {φ : Ph} {B : Bag} (hB : BF G I_C_suspectLeg B) (hF : SF 134 φ)    {o : Int32} {M9 : Mm} : ∀ (n : Nat) (l1 : Int32) (l2 : Int32) (l3 : Int32) (M : Mm), f_C_suspectLeg_12 n l1 l2 l3 M = some (o, M9) → AW G I_C_suspectLeg B (QM G I_C_suspectLeg B (.inl (some (.int o))) M9 φ) 0 0 12 [(0, .ref 0), (1, .int l1), (2, .int l2), (3, .int l3)] [] M φ := by
  intro n
  induction n with
  | zero => intro l1 l2 l3 M h; cases h
  | succ n hr12 =>
    intro l1 l2 l3 M h
    rw [f_C_suspectLeg_12] at h
    refine a_iload_n (j := 3) hB e_C_suspectLeg_12 rfl rfl ?_
    refine a_aload_n (j := 0) hB e_C_suspectLeg_13 rfl rfl ?_
    refine a_getR (r := 15) (k := 7) hB e_C_suspectLeg_14 fl_C_39 (sf_lt hF (by decide)) kk_0 tt_0_7 (hF.1 _ _) ?_
    refine a_getI (k := 9) hB e_C_suspectLeg_17 fl_C_115 (sf_lt hF (by decide)) kk_15 tt_15_9 ?_
    refine a_icmp_ge (tgt := 53) hB e_C_suspectLeg_20 (by decide) (fun c => ?_) (fun c => ?_)
    · have h := ip c h
      refine a_iload_n (j := 1) hB e_C_suspectLeg_53 rfl rfl ?_
      cases h
      exact a_iret hB rfl e_C_suspectLeg_54 (by decide) (by decide)
    · have h := iq c h
      refine a_aload_n (j := 0) hB e_C_suspectLeg_23 rfl rfl ?_
      refine a_iload_n (j := 3) hB e_C_suspectLeg_24 rfl rfl ?_
      obtain ⟨r25, M25, hr25, h⟩ := bn2_i h
      refine a_ret (v := (some (.int r25))) (M1 := M25) (φ1 := φ) (st1 := [.int r25]) (j1 := 0) (j2 := 0) (ar_V (As := [.int l3]) (rest := []) hB (c_C_misclosureWithPin (bf_G hB) hF hr25) ml_C_298 md_C_misclosureWithPin rc_C_misclosureWithPin (sf_lt hF (by decide)) kk_0 rfl rfl (Nat.le_of_ble_eq_true rfl) rm_C_suspectLeg_C_misclosureWithPin e_C_suspectLeg_25) rfl rfl rfl ?_
      refine a_istore (ls' := [(4, .int r25), (0, .ref 0), (1, .int l1), (2, .int l2), (3, .int l3)]) hB e_C_suspectLeg_28 (Nat.le_of_ble_eq_true rfl) rfl ?_
      refine a_iload (j := 0) hB e_C_suspectLeg_30 rfl ?_
      refine a_iconst (v := -1) hB e_C_suspectLeg_32 ic_m1 ?_
      refine a_icmp_eq (tgt := 47) hB e_C_suspectLeg_33 (by decide) (fun c => ?_) (fun c => ?_)
      · have h := ip c h
        refine a_ls [1, 2, 3, 4] (ls' := [(0, .ref 0), (1, .int l1), (2, .int l2), (3, .int l3)]) rfl ?_
        exact t_C_suspectLeg_47 hB hF hr12 h
      · have h := iq c h
        refine a_iload (j := 0) hB e_C_suspectLeg_36 rfl ?_
        refine a_iload_n (j := 3) hB e_C_suspectLeg_38 rfl rfl ?_
        refine a_icmp_ge (tgt := 47) hB e_C_suspectLeg_39 (by decide) (fun c => ?_) (fun c => ?_)
        · have h := ip c h
          refine a_ls [1, 2, 3, 4] (ls' := [(0, .ref 0), (1, .int l1), (2, .int l2), (3, .int l3)]) rfl ?_
          exact t_C_suspectLeg_47 hB hF hr12 h
        · have h := iq c h
          refine a_iload_n (j := 4) hB e_C_suspectLeg_42 rfl rfl ?_
          refine a_istore_n (ls' := [(1, .int l3), (4, .int r25), (0, .ref 0), (2, .int l2), (3, .int l3)]) hB e_C_suspectLeg_43 rfl (Nat.le_of_ble_eq_true rfl) rfl ?_
          refine a_iload (j := 1) hB e_C_suspectLeg_44 rfl ?_
          refine a_istore_n (ls' := [(2, .int r25), (1, .int l3), (4, .int r25), (0, .ref 0), (3, .int l3)]) hB e_C_suspectLeg_46 rfl (Nat.le_of_ble_eq_true rfl) rfl ?_
          refine a_ls [3, 1, 0, 4] (ls' := [(0, .ref 0), (1, .int l3), (2, .int r25), (3, .int l3)]) rfl ?_
          exact t_C_suspectLeg_47 hB hF hr12 h
set_option maxRecDepth 100000 in
theorem t_C_suspectLeg {G : Gt} {φ : Ph} {B : Bag} (hB : BF G I_C_suspectLeg B) (hF : SF 134 φ)    {o : Int32} {M9 : Mm}  {M : Mm} (h : f_C_suspectLeg M = some (o, M9)) : AW G I_C_suspectLeg B (QM G I_C_suspectLeg B (.inl (some (.int o))) M9 φ) 0 0 0 [(0, .ref 0)] [] M φ := by
  unfold f_C_suspectLeg at h
  refine a_iconst (v := -1) hB e_C_suspectLeg_0 ic_m1 ?_
  refine a_istore_n (ls' := [(1, .int (-1 : Int32)), (0, .ref 0)]) hB e_C_suspectLeg_1 rfl (Nat.le_of_ble_eq_true rfl) rfl ?_
  refine a_aload_n (j := 1) hB e_C_suspectLeg_2 rfl rfl ?_
  obtain ⟨M3, hr3, h⟩ := bn_i h
  refine a_ret (v := (some (.ref 25))) (M1 := M3) (φ1 := φ) (st1 := [.ref 25]) (j1 := 0) (j2 := 0) (ar_V (As := []) (rest := []) hB (c_C_followed (bf_G hB) hF hr3) ml_C_255 md_C_followed rc_C_followed (sf_lt hF (by decide)) kk_0 rfl rfl (Nat.le_of_ble_eq_true rfl) rm_C_suspectLeg_C_followed e_C_suspectLeg_3) rfl rfl rfl ?_
  obtain ⟨r6, hr6, h⟩ := bn_i h
  refine a_ret (v := (some (.int r6))) (M1 := M3) (φ1 := φ) (st1 := [.int r6]) (j1 := 0) (j2 := 0) (ar_V (As := []) (rest := []) hB (c_T_closingDistance (bf_G hB) hF hr6) ml_C_286 md_T_closingDistance rc_T_closingDistance (sf_lt hF (by decide)) kk_25 rfl rfl (Nat.le_of_ble_eq_true rfl) rm_C_suspectLeg_T_closingDistance e_C_suspectLeg_6) rfl rfl rfl ?_
  refine a_istore_n (ls' := [(2, .int r6), (1, .int (-1 : Int32)), (0, .ref 0)]) hB e_C_suspectLeg_9 rfl (Nat.le_of_ble_eq_true rfl) rfl ?_
  refine a_iconst (v := 0) hB e_C_suspectLeg_10 ic_0 ?_
  refine a_istore_n (ls' := [(3, .int (0 : Int32)), (2, .int r6), (1, .int (-1 : Int32)), (0, .ref 0)]) hB e_C_suspectLeg_11 rfl (Nat.le_of_ble_eq_true rfl) rfl ?_
  refine a_ls [3, 2, 1, 0] (ls' := [(0, .ref 0), (1, .int (-1 : Int32)), (2, .int r6), (3, .int (0 : Int32))]) rfl ?_
  exact t_C_suspectLeg_12 hB hF _ _ _ _ _ h
set_option maxRecDepth 100000 in
theorem c_C_suspectLeg {G : Gt} (hG : GOK G) {φ : Ph} (hF : SF 134 φ)   {M : Mm}  {o : Int32} {M9 : Mm} (h : f_C_suspectLeg M = some (o, M9)) : CT G I_C_suspectLeg [.ref 0] M φ (.inl (some (.int o))) M9 φ :=
  ct_of hG (by decide) (Nat.le_of_ble_eq_true rfl) (fun B hB => t_C_suspectLeg hB hF  h)
set_option maxRecDepth 100000 in
theorem t_C_misclosureWithPace_94 {G : Gt} {φ : Ph} {B : Bag} (hB : BF G I_C_misclosureWithPace B) (hF : SF 134 φ)   {M : Mm} {o : Int32} {r9 : Int32 → Int32 → Int32 → Int32 → Option Int32} (hr9 : ∀ (l3 : Int32) (l4 : Int32) (l5 : Int32) (l6 : Int32), r9 l3 l4 l5 l6 = some o → AW G I_C_misclosureWithPace B (QM G I_C_misclosureWithPace B (.inl (some (.int o))) M φ) 0 0 9 [(0, .ref 0), (3, .int l3), (4, .int l4), (5, .int l5), (6, .int l6)] [] M φ) {l3 : Int32} {l4 : Int32} {l5 : Int32} {l6 : Int32}  (h : f_C_misclosureWithPace_94 M r9 l3 l4 l5 l6 = some o) : AW G I_C_misclosureWithPace B (QM G I_C_misclosureWithPace B (.inl (some (.int o))) M φ) 0 0 94 [(0, .ref 0), (3, .int l3), (4, .int l4), (5, .int l5), (6, .int l6)] [] M φ := by
  unfold f_C_misclosureWithPace_94 at h
  refine a_iinc (j := 4) (v := l6 + 1) (ls' := [(6, .int (l6 + 1)), (0, .ref 0), (3, .int l3), (4, .int l4), (5, .int l5)]) hB e_C_misclosureWithPace_94 rfl (inc_1 _) (Nat.le_of_ble_eq_true rfl) rfl ?_
  refine a_goto (tgt := 9) hB e_C_misclosureWithPace_97 (by decide) ?_
  refine a_ls [1, 2, 3, 4, 0] (ls' := [(0, .ref 0), (3, .int l3), (4, .int l4), (5, .int l5), (6, .int (l6 + 1))]) rfl ?_
  exact hr9 _ _ _ _ h
set_option maxRecDepth 100000 in
theorem t_C_misclosureWithPace_9 {G : Gt} {φ : Ph} {B : Bag} (hB : BF G I_C_misclosureWithPace B) (hF : SF 134 φ)   {M : Mm} {o : Int32} : ∀ (n : Nat) (l3 : Int32) (l4 : Int32) (l5 : Int32) (l6 : Int32), f_C_misclosureWithPace_9 M n l3 l4 l5 l6 = some o → AW G I_C_misclosureWithPace B (QM G I_C_misclosureWithPace B (.inl (some (.int o))) M φ) 0 0 9 [(0, .ref 0), (3, .int l3), (4, .int l4), (5, .int l5), (6, .int l6)] [] M φ := by
  intro n
  induction n with
  | zero => intro l3 l4 l5 l6 h; cases h
  | succ n hr9 =>
    intro l3 l4 l5 l6 h
    rw [f_C_misclosureWithPace_9] at h
    refine a_iload (j := 4) hB e_C_misclosureWithPace_9 rfl ?_
    refine a_aload_n (j := 0) hB e_C_misclosureWithPace_11 rfl rfl ?_
    refine a_getR (r := 15) (k := 7) hB e_C_misclosureWithPace_12 fl_C_39 (sf_lt hF (by decide)) kk_0 tt_0_7 (hF.1 _ _) ?_
    refine a_getI (k := 9) hB e_C_misclosureWithPace_15 fl_C_115 (sf_lt hF (by decide)) kk_15 tt_15_9 ?_
    refine a_icmp_ge (tgt := 100) hB e_C_misclosureWithPace_18 (by decide) (fun c => ?_) (fun c => ?_)
    · have h := ip c h
      refine a_iload (j := 2) hB e_C_misclosureWithPace_100 rfl ?_
      refine a_iload (j := 3) hB e_C_misclosureWithPace_102 rfl ?_
      obtain ⟨r104, hr104, h⟩ := bn_i h
      refine a_ret (v := (some (.int r104))) (M1 := M) (φ1 := φ) (st1 := [.int r104]) (j1 := 0) (j2 := 0) (ar_S (As := [.int l4, .int l5]) (rest := []) hB (c_C_distance (bf_G hB) hF hr104) ml_C_314 md_C_distance rfl rfl (Nat.le_of_ble_eq_true rfl) rm_C_misclosureWithPace_C_distance e_C_misclosureWithPace_104) rfl rfl rfl ?_
      cases h
      exact a_iret hB rfl e_C_misclosureWithPace_107 (by decide) (by decide)
    · have h := iq c h
      refine a_aload_n (j := 0) hB e_C_misclosureWithPace_21 rfl rfl ?_
      refine a_getR (r := 15) (k := 7) hB e_C_misclosureWithPace_22 fl_C_39 (sf_lt hF (by decide)) kk_0 tt_0_7 (hF.1 _ _) ?_
      refine a_getR (r := 18) (k := 2) hB e_C_misclosureWithPace_25 fl_C_239 (sf_lt hF (by decide)) kk_15 tt_15_2 (hF.1 _ _) ?_
      refine a_iload (j := 4) hB e_C_misclosureWithPace_28 rfl ?_
      obtain ⟨c30, h⟩ := chk_i h
      refine a_zald' hB e_C_misclosureWithPace_30 (sf_lt hF (by decide)) kk_18 ll_18 c30 ?_
      refine a_if_eq (tgt := 94) hB e_C_misclosureWithPace_31 (by decide) (fun c => ?_) (fun c => ?_)
      · have h := ip c h
        exact t_C_misclosureWithPace_94 hB hF hr9 h
      · have h := iq c h
        refine a_aload_n (j := 0) hB e_C_misclosureWithPace_34 rfl rfl ?_
        refine a_getR (r := 15) (k := 7) hB e_C_misclosureWithPace_35 fl_C_39 (sf_lt hF (by decide)) kk_0 tt_0_7 (hF.1 _ _) ?_
        refine a_getR (r := 19) (k := 3) hB e_C_misclosureWithPace_38 fl_C_311 (sf_lt hF (by decide)) kk_15 tt_15_3 (hF.1 _ _) ?_
        refine a_iload (j := 4) hB e_C_misclosureWithPace_41 rfl ?_
        refine a_iald' hB e_C_misclosureWithPace_43 (sf_lt hF (by decide)) kk_19 ll_19 c30 ?_
        refine a_iload_n (j := 1) hB e_C_misclosureWithPace_44 rfl rfl ?_
        refine a_imul hB e_C_misclosureWithPace_45 ?_
        refine a_istore (ls' := [(7, .int ((M 19 (ix l6)) * l3)), (0, .ref 0), (3, .int l3), (4, .int l4), (5, .int l5), (6, .int l6)]) hB e_C_misclosureWithPace_46 (Nat.le_of_ble_eq_true rfl) rfl ?_
        refine a_iload (j := 3) hB e_C_misclosureWithPace_48 rfl ?_
        refine a_iload (j := 0) hB e_C_misclosureWithPace_50 rfl ?_
        refine a_aload_n (j := 1) hB e_C_misclosureWithPace_52 rfl rfl ?_
        refine a_getR (r := 15) (k := 7) hB e_C_misclosureWithPace_53 fl_C_39 (sf_lt hF (by decide)) kk_0 tt_0_7 (hF.1 _ _) ?_
        refine a_getR (r := 17) (k := 1) hB e_C_misclosureWithPace_56 fl_C_215 (sf_lt hF (by decide)) kk_15 tt_15_1 (hF.1 _ _) ?_
        refine a_iload (j := 5) hB e_C_misclosureWithPace_59 rfl ?_
        refine a_iald' hB e_C_misclosureWithPace_61 (sf_lt hF (by decide)) kk_17 ll_17 c30 ?_
        obtain ⟨r62, hr62, h⟩ := bn_i h
        refine a_ret (v := (some (.int r62))) (M1 := M) (φ1 := φ) (st1 := [.int r62, .int ((M 19 (ix l6)) * l3), .int l4]) (j1 := 0) (j2 := 0) (ar_S (As := [.int (M 17 (ix l6))]) (rest := [.int ((M 19 (ix l6)) * l3), .int l4]) hB (c_C_sine (bf_G hB) hF hr62) ml_C_230 md_C_sine rfl rfl (Nat.le_of_ble_eq_true rfl) rm_C_misclosureWithPace_C_sine e_C_misclosureWithPace_62) rfl rfl rfl ?_
        obtain ⟨r65, hr65, h⟩ := bn_i h
        refine a_ret (v := (some (.int r65))) (M1 := M) (φ1 := φ) (st1 := [.int r65, .int l4]) (j1 := 0) (j2 := 0) (ar_S (As := [.int ((M 19 (ix l6)) * l3), .int r62]) (rest := [.int l4]) hB (c_C_stepOf (bf_G hB) hF hr65) ml_C_233 md_C_stepOf rfl rfl (Nat.le_of_ble_eq_true rfl) rm_C_misclosureWithPace_C_stepOf e_C_misclosureWithPace_65) rfl rfl rfl ?_
        refine a_iadd hB e_C_misclosureWithPace_68 ?_
        refine a_istore (ls' := [(4, .int (l4 + r65)), (7, .int ((M 19 (ix l6)) * l3)), (0, .ref 0), (3, .int l3), (5, .int l5), (6, .int l6)]) hB e_C_misclosureWithPace_69 (Nat.le_of_ble_eq_true rfl) rfl ?_
        refine a_iload (j := 4) hB e_C_misclosureWithPace_71 rfl ?_
        refine a_iload (j := 1) hB e_C_misclosureWithPace_73 rfl ?_
        refine a_aload_n (j := 2) hB e_C_misclosureWithPace_75 rfl rfl ?_
        refine a_getR (r := 15) (k := 7) hB e_C_misclosureWithPace_76 fl_C_39 (sf_lt hF (by decide)) kk_0 tt_0_7 (hF.1 _ _) ?_
        refine a_getR (r := 17) (k := 1) hB e_C_misclosureWithPace_79 fl_C_215 (sf_lt hF (by decide)) kk_15 tt_15_1 (hF.1 _ _) ?_
        refine a_iload (j := 5) hB e_C_misclosureWithPace_82 rfl ?_
        refine a_iald' hB e_C_misclosureWithPace_84 (sf_lt hF (by decide)) kk_17 ll_17 c30 ?_
        obtain ⟨r85, hr85, h⟩ := bn_i h
        refine a_ret (v := (some (.int r85))) (M1 := M) (φ1 := φ) (st1 := [.int r85, .int ((M 19 (ix l6)) * l3), .int l5]) (j1 := 0) (j2 := 0) (ar_S (As := [.int (M 17 (ix l6))]) (rest := [.int ((M 19 (ix l6)) * l3), .int l5]) hB (c_C_cosine (bf_G hB) hF hr85) ml_C_236 md_C_cosine rfl rfl (Nat.le_of_ble_eq_true rfl) rm_C_misclosureWithPace_C_cosine e_C_misclosureWithPace_85) rfl rfl rfl ?_
        obtain ⟨r88, hr88, h⟩ := bn_i h
        refine a_ret (v := (some (.int r88))) (M1 := M) (φ1 := φ) (st1 := [.int r88, .int l5]) (j1 := 0) (j2 := 0) (ar_S (As := [.int ((M 19 (ix l6)) * l3), .int r85]) (rest := [.int l5]) hB (c_C_stepOf (bf_G hB) hF hr88) ml_C_233 md_C_stepOf rfl rfl (Nat.le_of_ble_eq_true rfl) rm_C_misclosureWithPace_C_stepOf e_C_misclosureWithPace_88) rfl rfl rfl ?_
        refine a_iadd hB e_C_misclosureWithPace_91 ?_
        refine a_istore (ls' := [(5, .int (l5 + r88)), (4, .int (l4 + r65)), (7, .int ((M 19 (ix l6)) * l3)), (0, .ref 0), (3, .int l3), (6, .int l6)]) hB e_C_misclosureWithPace_92 (Nat.le_of_ble_eq_true rfl) rfl ?_
        refine a_ls [3, 4, 1, 0, 5] (ls' := [(0, .ref 0), (3, .int l3), (4, .int (l4 + r65)), (5, .int (l5 + r88)), (6, .int l6)]) rfl ?_
        exact t_C_misclosureWithPace_94 hB hF hr9 h
set_option maxRecDepth 100000 in
theorem t_C_misclosureWithPace {G : Gt} {φ : Ph} {B : Bag} (hB : BF G I_C_misclosureWithPace B) (hF : SF 134 φ)   {M : Mm} {o : Int32} {l1 : Int32} {l2 : Int32} {l3 : Int32}  (h : f_C_misclosureWithPace M l1 l2 l3 = some o) : AW G I_C_misclosureWithPace B (QM G I_C_misclosureWithPace B (.inl (some (.int o))) M φ) 0 0 0 [(0, .ref 0), (1, .int l1), (2, .int l2), (3, .int l3)] [] M φ := by
  unfold f_C_misclosureWithPace at h
  refine a_iload_n (j := 1) hB e_C_misclosureWithPace_0 rfl rfl ?_
  refine a_istore (ls' := [(4, .int l1), (0, .ref 0), (1, .int l1), (2, .int l2), (3, .int l3)]) hB e_C_misclosureWithPace_1 (Nat.le_of_ble_eq_true rfl) rfl ?_
  refine a_iload_n (j := 3) hB e_C_misclosureWithPace_3 rfl rfl ?_
  refine a_istore (ls' := [(5, .int l2), (4, .int l1), (0, .ref 0), (1, .int l1), (2, .int l2), (3, .int l3)]) hB e_C_misclosureWithPace_4 (Nat.le_of_ble_eq_true rfl) rfl ?_
  refine a_iconst (v := 0) hB e_C_misclosureWithPace_6 ic_0 ?_
  refine a_istore (ls' := [(6, .int (0 : Int32)), (5, .int l2), (4, .int l1), (0, .ref 0), (1, .int l1), (2, .int l2), (3, .int l3)]) hB e_C_misclosureWithPace_7 (Nat.le_of_ble_eq_true rfl) rfl ?_
  refine a_ls [3, 6, 2, 1, 0] (ls' := [(0, .ref 0), (3, .int l3), (4, .int l1), (5, .int l2), (6, .int (0 : Int32))]) rfl ?_
  exact t_C_misclosureWithPace_9 hB hF _ _ _ _ _ h
set_option maxRecDepth 100000 in
theorem c_C_misclosureWithPace {G : Gt} (hG : GOK G) {φ : Ph} (hF : SF 134 φ)   {M : Mm} {l1 : Int32} {l2 : Int32} {l3 : Int32} {o : Int32} (h : f_C_misclosureWithPace M l1 l2 l3 = some o) : CT G I_C_misclosureWithPace [.ref 0, .int l1, .int l2, .int l3] M φ (.inl (some (.int o))) M φ :=
  ct_of hG (by decide) (Nat.le_of_ble_eq_true rfl) (fun B hB => t_C_misclosureWithPace hB hF  h)
set_option maxRecDepth 100000 in
theorem t_C_bestPace_146 {G : Gt} {φ : Ph} {B : Bag} (hB : BF G I_C_bestPace B) (hF : SF 134 φ)   {M : Mm} {o : Int32} {r114 : Int32 → Int32 → Int32 → Int32 → Int32 → Option Int32} (hr114 : ∀ (l1 : Int32) (l2 : Int32) (l3 : Int32) (l4 : Int32) (l5 : Int32), r114 l1 l2 l3 l4 l5 = some o → AW G I_C_bestPace B (QM G I_C_bestPace B (.inl (some (.int o))) M φ) 0 0 114 [(0, .ref 0), (1, .int l1), (2, .int l2), (3, .int l3), (4, .int l4), (5, .int l5)] [] M φ) {l1 : Int32} {l2 : Int32} {l3 : Int32} {l4 : Int32} {l5 : Int32}  (h : f_C_bestPace_146 M r114 l1 l2 l3 l4 l5 = some o) : AW G I_C_bestPace B (QM G I_C_bestPace B (.inl (some (.int o))) M φ) 0 0 146 [(0, .ref 0), (1, .int l1), (2, .int l2), (3, .int l3), (4, .int l4), (5, .int l5)] [] M φ := by
  unfold f_C_bestPace_146 at h
  refine a_iinc (j := 5) (v := l5 + 1) (ls' := [(5, .int (l5 + 1)), (0, .ref 0), (1, .int l1), (2, .int l2), (3, .int l3), (4, .int l4)]) hB e_C_bestPace_146 rfl (inc_1 _) (Nat.le_of_ble_eq_true rfl) rfl ?_
  refine a_goto (tgt := 114) hB e_C_bestPace_149 (by decide) ?_
  refine a_ls [1, 2, 3, 4, 5, 0] (ls' := [(0, .ref 0), (1, .int l1), (2, .int l2), (3, .int l3), (4, .int l4), (5, .int (l5 + 1))]) rfl ?_
  exact hr114 _ _ _ _ _ h
set_option maxRecDepth 100000 in
theorem t_C_bestPace_114 {G : Gt} {φ : Ph} {B : Bag} (hB : BF G I_C_bestPace B) (hF : SF 134 φ)   {M : Mm} {o : Int32} : ∀ (n : Nat) (l1 : Int32) (l2 : Int32) (l3 : Int32) (l4 : Int32) (l5 : Int32), f_C_bestPace_114 M n l1 l2 l3 l4 l5 = some o → AW G I_C_bestPace B (QM G I_C_bestPace B (.inl (some (.int o))) M φ) 0 0 114 [(0, .ref 0), (1, .int l1), (2, .int l2), (3, .int l3), (4, .int l4), (5, .int l5)] [] M φ := by
  intro n
  induction n with
  | zero => intro l1 l2 l3 l4 l5 h; cases h
  | succ n hr114 =>
    intro l1 l2 l3 l4 l5 h
    rw [f_C_bestPace_114] at h
    refine a_iload (j := 5) hB e_C_bestPace_114 rfl ?_
    refine a_sipush (v := 999) hB e_C_bestPace_116 sp_999 ?_
    refine a_icmp_gt (tgt := 152) hB e_C_bestPace_119 (by decide) (fun c => ?_) (fun c => ?_)
    · have h := ip c h
      refine a_iload_n (j := 3) hB e_C_bestPace_152 rfl rfl ?_
      cases h
      exact a_iret hB rfl e_C_bestPace_153 (by decide) (by decide)
    · have h := iq c h
      refine a_aload_n (j := 0) hB e_C_bestPace_122 rfl rfl ?_
      refine a_iload_n (j := 1) hB e_C_bestPace_123 rfl rfl ?_
      refine a_iload_n (j := 2) hB e_C_bestPace_124 rfl rfl ?_
      refine a_iload (j := 5) hB e_C_bestPace_125 rfl ?_
      obtain ⟨r127, hr127, h⟩ := bn_i h
      refine a_ret (v := (some (.int r127))) (M1 := M) (φ1 := φ) (st1 := [.int r127]) (j1 := 0) (j2 := 0) (ar_V (As := [.int l1, .int l2, .int l5]) (rest := []) hB (c_C_misclosureWithPace (bf_G hB) hF hr127) ml_C_307 md_C_misclosureWithPace rc_C_misclosureWithPace (sf_lt hF (by decide)) kk_0 rfl rfl (Nat.le_of_ble_eq_true rfl) rm_C_bestPace_C_misclosureWithPace e_C_bestPace_127) rfl rfl rfl ?_
      refine a_istore (ls' := [(6, .int r127), (0, .ref 0), (1, .int l1), (2, .int l2), (3, .int l3), (4, .int l4), (5, .int l5)]) hB e_C_bestPace_130 (Nat.le_of_ble_eq_true rfl) rfl ?_
      refine a_iload (j := 0) hB e_C_bestPace_132 rfl ?_
      refine a_iload (j := 5) hB e_C_bestPace_134 rfl ?_
      refine a_icmp_ge (tgt := 146) hB e_C_bestPace_136 (by decide) (fun c => ?_) (fun c => ?_)
      · have h := ip c h
        refine a_ls [1, 2, 3, 4, 5, 6] (ls' := [(0, .ref 0), (1, .int l1), (2, .int l2), (3, .int l3), (4, .int l4), (5, .int l5)]) rfl ?_
        exact t_C_bestPace_146 hB hF hr114 h
      · have h := iq c h
        refine a_iload (j := 6) hB e_C_bestPace_139 rfl ?_
        refine a_istore_n (ls' := [(3, .int l5), (6, .int r127), (0, .ref 0), (1, .int l1), (2, .int l2), (4, .int l4), (5, .int l5)]) hB e_C_bestPace_141 rfl (Nat.le_of_ble_eq_true rfl) rfl ?_
        refine a_iload (j := 1) hB e_C_bestPace_142 rfl ?_
        refine a_istore (ls' := [(4, .int r127), (3, .int l5), (6, .int r127), (0, .ref 0), (1, .int l1), (2, .int l2), (5, .int l5)]) hB e_C_bestPace_144 (Nat.le_of_ble_eq_true rfl) rfl ?_
        refine a_ls [3, 4, 5, 1, 0, 6] (ls' := [(0, .ref 0), (1, .int l1), (2, .int l2), (3, .int l5), (4, .int r127), (5, .int l5)]) rfl ?_
        exact t_C_bestPace_146 hB hF hr114 h
set_option maxRecDepth 100000 in
theorem t_C_bestPace_91 {G : Gt} {φ : Ph} {B : Bag} (hB : BF G I_C_bestPace B) (hF : SF 134 φ)   {M : Mm} {o : Int32} {r18 : Int32 → Int32 → Int32 → Option Int32} (hr18 : ∀ (l1 : Int32) (l2 : Int32) (l3 : Int32), r18 l1 l2 l3 = some o → AW G I_C_bestPace B (QM G I_C_bestPace B (.inl (some (.int o))) M φ) 0 0 18 [(0, .ref 0), (1, .int l1), (2, .int l2), (3, .int l3)] [] M φ) {l1 : Int32} {l2 : Int32} {l3 : Int32}  (h : f_C_bestPace_91 M r18 l1 l2 l3 = some o) : AW G I_C_bestPace B (QM G I_C_bestPace B (.inl (some (.int o))) M φ) 0 0 91 [(0, .ref 0), (1, .int l1), (2, .int l2), (3, .int l3)] [] M φ := by
  unfold f_C_bestPace_91 at h
  refine a_iinc (j := 3) (v := l3 + 1) (ls' := [(3, .int (l3 + 1)), (0, .ref 0), (1, .int l1), (2, .int l2)]) hB e_C_bestPace_91 rfl (inc_1 _) (Nat.le_of_ble_eq_true rfl) rfl ?_
  refine a_goto (tgt := 18) hB e_C_bestPace_94 (by decide) ?_
  refine a_ls [1, 2, 3, 0] (ls' := [(0, .ref 0), (1, .int l1), (2, .int l2), (3, .int (l3 + 1))]) rfl ?_
  exact hr18 _ _ _ h
set_option maxRecDepth 100000 in
theorem t_C_bestPace_18 {G : Gt} {φ : Ph} {B : Bag} (hB : BF G I_C_bestPace B) (hF : SF 134 φ)   {M : Mm} {o : Int32} : ∀ (n : Nat) (l1 : Int32) (l2 : Int32) (l3 : Int32), f_C_bestPace_18 M n l1 l2 l3 = some o → AW G I_C_bestPace B (QM G I_C_bestPace B (.inl (some (.int o))) M φ) 0 0 18 [(0, .ref 0), (1, .int l1), (2, .int l2), (3, .int l3)] [] M φ := by
  intro n
  induction n with
  | zero => intro l1 l2 l3 h; cases h
  | succ n hr18 =>
    intro l1 l2 l3 h
    rw [f_C_bestPace_18] at h
    refine a_iload_n (j := 3) hB e_C_bestPace_18 rfl rfl ?_
    refine a_aload_n (j := 0) hB e_C_bestPace_19 rfl rfl ?_
    refine a_getR (r := 15) (k := 7) hB e_C_bestPace_20 fl_C_39 (sf_lt hF (by decide)) kk_0 tt_0_7 (hF.1 _ _) ?_
    refine a_getI (k := 9) hB e_C_bestPace_23 fl_C_115 (sf_lt hF (by decide)) kk_15 tt_15_9 ?_
    refine a_icmp_ge (tgt := 97) hB e_C_bestPace_26 (by decide) (fun c => ?_) (fun c => ?_)
    · have h := ip c h
      refine a_bipush (v := 100) hB e_C_bestPace_97 bp_100 ?_
      refine a_istore_n (ls' := [(3, .int (100 : Int32)), (0, .ref 0), (1, .int l1), (2, .int l2)]) hB e_C_bestPace_99 rfl (Nat.le_of_ble_eq_true rfl) rfl ?_
      refine a_aload_n (j := 1) hB e_C_bestPace_100 rfl rfl ?_
      refine a_iload_n (j := 2) hB e_C_bestPace_101 rfl rfl ?_
      refine a_iload_n (j := 3) hB e_C_bestPace_102 rfl rfl ?_
      refine a_bipush (v := 100) hB e_C_bestPace_103 bp_100 ?_
      obtain ⟨r105, hr105, h⟩ := bn_i h
      refine a_ret (v := (some (.int r105))) (M1 := M) (φ1 := φ) (st1 := [.int r105]) (j1 := 0) (j2 := 0) (ar_V (As := [.int l1, .int l2, .int (100 : Int32)]) (rest := []) hB (c_C_misclosureWithPace (bf_G hB) hF hr105) ml_C_307 md_C_misclosureWithPace rc_C_misclosureWithPace (sf_lt hF (by decide)) kk_0 rfl rfl (Nat.le_of_ble_eq_true rfl) rm_C_bestPace_C_misclosureWithPace e_C_bestPace_105) rfl rfl rfl ?_
      refine a_istore (ls' := [(4, .int r105), (3, .int (100 : Int32)), (0, .ref 0), (1, .int l1), (2, .int l2)]) hB e_C_bestPace_108 (Nat.le_of_ble_eq_true rfl) rfl ?_
      refine a_bipush (v := 101) hB e_C_bestPace_110 bp_101 ?_
      refine a_istore (ls' := [(5, .int (101 : Int32)), (4, .int r105), (3, .int (100 : Int32)), (0, .ref 0), (1, .int l1), (2, .int l2)]) hB e_C_bestPace_112 (Nat.le_of_ble_eq_true rfl) rfl ?_
      refine a_ls [3, 4, 5, 2, 1, 0] (ls' := [(0, .ref 0), (1, .int l1), (2, .int l2), (3, .int (100 : Int32)), (4, .int r105), (5, .int (101 : Int32))]) rfl ?_
      exact t_C_bestPace_114 hB hF _ _ _ _ _ _ h
    · have h := iq c h
      refine a_aload_n (j := 0) hB e_C_bestPace_29 rfl rfl ?_
      refine a_getR (r := 15) (k := 7) hB e_C_bestPace_30 fl_C_39 (sf_lt hF (by decide)) kk_0 tt_0_7 (hF.1 _ _) ?_
      refine a_getR (r := 18) (k := 2) hB e_C_bestPace_33 fl_C_239 (sf_lt hF (by decide)) kk_15 tt_15_2 (hF.1 _ _) ?_
      refine a_iload_n (j := 3) hB e_C_bestPace_36 rfl rfl ?_
      obtain ⟨c37, h⟩ := chk_i h
      refine a_zald' hB e_C_bestPace_37 (sf_lt hF (by decide)) kk_18 ll_18 c37 ?_
      refine a_if_ne (tgt := 91) hB e_C_bestPace_38 (by decide) (fun c => ?_) (fun c => ?_)
      · have h := iq c h
        exact t_C_bestPace_91 hB hF hr18 h
      · have h := ip c h
        refine a_aload_n (j := 0) hB e_C_bestPace_41 rfl rfl ?_
        refine a_getR (r := 15) (k := 7) hB e_C_bestPace_42 fl_C_39 (sf_lt hF (by decide)) kk_0 tt_0_7 (hF.1 _ _) ?_
        refine a_iload_n (j := 3) hB e_C_bestPace_45 rfl rfl ?_
        obtain ⟨r46, hr46, h⟩ := bn_i h
        refine a_ret (v := (some (.int r46))) (M1 := M) (φ1 := φ) (st1 := [.int r46]) (j1 := 0) (j2 := 0) (ar_V (As := [.int l3]) (rest := []) hB (c_S_horizontalUnits (bf_G hB) hF sv_15 hr46) ml_C_227 md_S_horizontalUnits rc_S_horizontalUnits (sf_lt hF (by decide)) kk_15 rfl rfl (Nat.le_of_ble_eq_true rfl) rm_C_bestPace_S_horizontalUnits e_C_bestPace_46) rfl rfl rfl ?_
        refine a_istore (ls' := [(4, .int r46), (0, .ref 0), (1, .int l1), (2, .int l2), (3, .int l3)]) hB e_C_bestPace_49 (Nat.le_of_ble_eq_true rfl) rfl ?_
        refine a_iload_n (j := 2) hB e_C_bestPace_51 rfl rfl ?_
        refine a_iload (j := 0) hB e_C_bestPace_52 rfl ?_
        refine a_aload_n (j := 1) hB e_C_bestPace_54 rfl rfl ?_
        refine a_getR (r := 15) (k := 7) hB e_C_bestPace_55 fl_C_39 (sf_lt hF (by decide)) kk_0 tt_0_7 (hF.1 _ _) ?_
        refine a_getR (r := 17) (k := 1) hB e_C_bestPace_58 fl_C_215 (sf_lt hF (by decide)) kk_15 tt_15_1 (hF.1 _ _) ?_
        refine a_iload_n (j := 4) hB e_C_bestPace_61 rfl rfl ?_
        refine a_iald' hB e_C_bestPace_62 (sf_lt hF (by decide)) kk_17 ll_17 c37 ?_
        obtain ⟨r63, hr63, h⟩ := bn_i h
        refine a_ret (v := (some (.int r63))) (M1 := M) (φ1 := φ) (st1 := [.int r63, .int r46, .int l1]) (j1 := 0) (j2 := 0) (ar_S (As := [.int (M 17 (ix l3))]) (rest := [.int r46, .int l1]) hB (c_C_sine (bf_G hB) hF hr63) ml_C_230 md_C_sine rfl rfl (Nat.le_of_ble_eq_true rfl) rm_C_bestPace_C_sine e_C_bestPace_63) rfl rfl rfl ?_
        obtain ⟨r66, hr66, h⟩ := bn_i h
        refine a_ret (v := (some (.int r66))) (M1 := M) (φ1 := φ) (st1 := [.int r66, .int l1]) (j1 := 0) (j2 := 0) (ar_S (As := [.int r46, .int r63]) (rest := [.int l1]) hB (c_C_stepOf (bf_G hB) hF hr66) ml_C_233 md_C_stepOf rfl rfl (Nat.le_of_ble_eq_true rfl) rm_C_bestPace_C_stepOf e_C_bestPace_66) rfl rfl rfl ?_
        refine a_iadd hB e_C_bestPace_69 ?_
        refine a_istore_n (ls' := [(1, .int (l1 + r66)), (4, .int r46), (0, .ref 0), (2, .int l2), (3, .int l3)]) hB e_C_bestPace_70 rfl (Nat.le_of_ble_eq_true rfl) rfl ?_
        refine a_iload_n (j := 3) hB e_C_bestPace_71 rfl rfl ?_
        refine a_iload (j := 1) hB e_C_bestPace_72 rfl ?_
        refine a_aload_n (j := 2) hB e_C_bestPace_74 rfl rfl ?_
        refine a_getR (r := 15) (k := 7) hB e_C_bestPace_75 fl_C_39 (sf_lt hF (by decide)) kk_0 tt_0_7 (hF.1 _ _) ?_
        refine a_getR (r := 17) (k := 1) hB e_C_bestPace_78 fl_C_215 (sf_lt hF (by decide)) kk_15 tt_15_1 (hF.1 _ _) ?_
        refine a_iload_n (j := 4) hB e_C_bestPace_81 rfl rfl ?_
        refine a_iald' hB e_C_bestPace_82 (sf_lt hF (by decide)) kk_17 ll_17 c37 ?_
        obtain ⟨r83, hr83, h⟩ := bn_i h
        refine a_ret (v := (some (.int r83))) (M1 := M) (φ1 := φ) (st1 := [.int r83, .int r46, .int l2]) (j1 := 0) (j2 := 0) (ar_S (As := [.int (M 17 (ix l3))]) (rest := [.int r46, .int l2]) hB (c_C_cosine (bf_G hB) hF hr83) ml_C_236 md_C_cosine rfl rfl (Nat.le_of_ble_eq_true rfl) rm_C_bestPace_C_cosine e_C_bestPace_83) rfl rfl rfl ?_
        obtain ⟨r86, hr86, h⟩ := bn_i h
        refine a_ret (v := (some (.int r86))) (M1 := M) (φ1 := φ) (st1 := [.int r86, .int l2]) (j1 := 0) (j2 := 0) (ar_S (As := [.int r46, .int r83]) (rest := [.int l2]) hB (c_C_stepOf (bf_G hB) hF hr86) ml_C_233 md_C_stepOf rfl rfl (Nat.le_of_ble_eq_true rfl) rm_C_bestPace_C_stepOf e_C_bestPace_86) rfl rfl rfl ?_
        refine a_iadd hB e_C_bestPace_89 ?_
        refine a_istore_n (ls' := [(2, .int (l2 + r86)), (1, .int (l1 + r66)), (4, .int r46), (0, .ref 0), (3, .int l3)]) hB e_C_bestPace_90 rfl (Nat.le_of_ble_eq_true rfl) rfl ?_
        refine a_ls [3, 1, 0, 4] (ls' := [(0, .ref 0), (1, .int (l1 + r66)), (2, .int (l2 + r86)), (3, .int l3)]) rfl ?_
        exact t_C_bestPace_91 hB hF hr18 h
set_option maxRecDepth 100000 in
theorem t_C_bestPace {G : Gt} {φ : Ph} {B : Bag} (hB : BF G I_C_bestPace B) (hF : SF 134 φ)   {M : Mm} {o : Int32}   (h : f_C_bestPace M = some o) : AW G I_C_bestPace B (QM G I_C_bestPace B (.inl (some (.int o))) M φ) 0 0 0 [(0, .ref 0)] [] M φ := by
  unfold f_C_bestPace at h
  refine a_aload_n (j := 0) hB e_C_bestPace_0 rfl rfl ?_
  refine a_getR (r := 15) (k := 7) hB e_C_bestPace_1 fl_C_39 (sf_lt hF (by decide)) kk_0 tt_0_7 (hF.1 _ _) ?_
  obtain ⟨r4, hr4, h⟩ := bn_i h
  refine a_ret (v := (some (.int r4))) (M1 := M) (φ1 := φ) (st1 := [.int r4]) (j1 := 0) (j2 := 0) (ar_V (As := []) (rest := []) hB (c_S_hasBog (bf_G hB) hF sv_15 hr4) ml_C_304 md_S_hasBog rc_S_hasBog (sf_lt hF (by decide)) kk_15 rfl rfl (Nat.le_of_ble_eq_true rfl) rm_C_bestPace_S_hasBog e_C_bestPace_4) rfl rfl rfl ?_
  refine a_if_ne (tgt := 12) hB e_C_bestPace_7 (by decide) (fun c => ?_) (fun c => ?_)
  · have h := iq c h
    refine a_iconst (v := 0) hB e_C_bestPace_12 ic_0 ?_
    refine a_istore_n (ls' := [(1, .int (0 : Int32)), (0, .ref 0)]) hB e_C_bestPace_13 rfl (Nat.le_of_ble_eq_true rfl) rfl ?_
    refine a_iconst (v := 0) hB e_C_bestPace_14 ic_0 ?_
    refine a_istore_n (ls' := [(2, .int (0 : Int32)), (1, .int (0 : Int32)), (0, .ref 0)]) hB e_C_bestPace_15 rfl (Nat.le_of_ble_eq_true rfl) rfl ?_
    refine a_iconst (v := 0) hB e_C_bestPace_16 ic_0 ?_
    refine a_istore_n (ls' := [(3, .int (0 : Int32)), (2, .int (0 : Int32)), (1, .int (0 : Int32)), (0, .ref 0)]) hB e_C_bestPace_17 rfl (Nat.le_of_ble_eq_true rfl) rfl ?_
    refine a_ls [3, 2, 1, 0] (ls' := [(0, .ref 0), (1, .int (0 : Int32)), (2, .int (0 : Int32)), (3, .int (0 : Int32))]) rfl ?_
    exact t_C_bestPace_18 hB hF _ _ _ _ h
  · have h := ip c h
    refine a_iconst (v := -1) hB e_C_bestPace_10 ic_m1 ?_
    cases h
    exact a_iret hB rfl e_C_bestPace_11 (by decide) (by decide)
set_option maxRecDepth 100000 in
theorem c_C_bestPace {G : Gt} (hG : GOK G) {φ : Ph} (hF : SF 134 φ)   {M : Mm}  {o : Int32} (h : f_C_bestPace M = some o) : CT G I_C_bestPace [.ref 0] M φ (.inl (some (.int o))) M φ :=
  ct_of hG (by decide) (Nat.le_of_ble_eq_true rfl) (fun B hB => t_C_bestPace hB hF  h)
