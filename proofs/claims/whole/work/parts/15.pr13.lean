/-! the functions are what the machine does -/
set_option maxRecDepth 100000 in
theorem t_M_horizontalLength_17 {G : Gt} {φ : Ph} {B : Bag} (hB : BF G I_M_horizontalLength B) (hF : SF 148 φ)    {o : Int32} {M9 : Mm} {t0 : Int32} {M : Mm} (h : f_M_horizontalLength_17 t0 M = some (o, M9)) : AW G I_M_horizontalLength B (QM G I_M_horizontalLength B (.inl (some (.int o))) M9 φ) 0 0 17 [] [.int t0] M φ := by
  unfold f_M_horizontalLength_17 at h
  cases h
  exact a_iret hB rfl e_M_horizontalLength_17 (by decide) (by decide)
set_option maxRecDepth 100000 in
theorem t_M_horizontalLength {G : Gt} {φ : Ph} {B : Bag} (hB : BF G I_M_horizontalLength B) (hF : SF 148 φ)    {o : Int32} {M9 : Mm} {l1 : Int32} {M : Mm} (h : f_M_horizontalLength l1 M = some (o, M9)) : AW G I_M_horizontalLength B (QM G I_M_horizontalLength B (.inl (some (.int o))) M9 φ) 0 0 0 [(0, .ref 134), (1, .int l1)] [] M φ := by
  unfold f_M_horizontalLength at h
  refine a_aload_n (j := 0) hB e_M_horizontalLength_0 rfl rfl ?_
  refine a_iload_n (j := 1) hB e_M_horizontalLength_1 rfl rfl ?_
  obtain ⟨r2, M2, hr2, h⟩ := bn2_i h
  refine a_ret (v := (some (.int r2))) (M1 := M2) (φ1 := φ) (st1 := [.int r2]) (j1 := 0) (j2 := 0) (ar_V (As := [.int l1]) (rest := []) hB (c_M_isBad (bf_G hB) hF hr2) ml_M_309 md_M_isBad rc_M_isBad (sf_lt hF (by decide)) kk_134 rfl rfl (Nat.le_of_ble_eq_true rfl) rm_M_horizontalLength_M_isBad e_M_horizontalLength_2) rfl rfl rfl ?_
  refine a_if_eq (tgt := 12) hB e_M_horizontalLength_5 (by decide) (fun c => ?_) (fun c => ?_)
  · have h := ip c h
    refine a_aload_n (j := 0) hB e_M_horizontalLength_12 rfl rfl ?_
    refine a_iload_n (j := 1) hB e_M_horizontalLength_13 rfl rfl ?_
    obtain ⟨r14, hr14, h⟩ := bn_i h
    refine a_ret (v := (some (.int r14))) (M1 := M2) (φ1 := φ) (st1 := [.int r14]) (j1 := 0) (j2 := 0) (ar_V (As := [.int l1]) (rest := []) hB (c_M_flat (bf_G hB) hF hr14) ml_M_125 md_M_flat rc_M_flat (sf_lt hF (by decide)) kk_134 rfl rfl (Nat.le_of_ble_eq_true rfl) rm_M_horizontalLength_M_flat e_M_horizontalLength_14) rfl rfl rfl ?_
    refine a_ls [] (ls' := []) rfl ?_
    exact t_M_horizontalLength_17 hB hF h
  · have h := iq c h
    refine a_iconst (v := 0) hB e_M_horizontalLength_8 ic_0 ?_
    refine a_goto (tgt := 17) hB e_M_horizontalLength_9 (by decide) ?_
    refine a_ls [] (ls' := []) rfl ?_
    exact t_M_horizontalLength_17 hB hF h
set_option maxRecDepth 100000 in
theorem c_M_horizontalLength {G : Gt} (hG : GOK G) {φ : Ph} (hF : SF 148 φ)   {M : Mm} {l1 : Int32} {o : Int32} {M9 : Mm} (h : f_M_horizontalLength l1 M = some (o, M9)) : CT G I_M_horizontalLength [.ref 134, .int l1] M φ (.inl (some (.int o))) M9 φ :=
  ct_of hG (by decide) (Nat.le_of_ble_eq_true rfl) (fun B hB => t_M_horizontalLength hB hF  h)
set_option maxRecDepth 100000 in
theorem t_M_eastStep_18 {G : Gt} {φ : Ph} {B : Bag} (hB : BF G I_M_eastStep B) (hF : SF 148 φ)    {o : Int32} {M9 : Mm} {t0 : Int32} {M : Mm} (h : f_M_eastStep_18 t0 M = some (o, M9)) : AW G I_M_eastStep B (QM G I_M_eastStep B (.inl (some (.int o))) M9 φ) 0 0 18 [] [.int t0] M φ := by
  unfold f_M_eastStep_18 at h
  cases h
  exact a_iret hB rfl e_M_eastStep_18 (by decide) (by decide)
set_option maxRecDepth 100000 in
theorem t_M_eastStep {G : Gt} {φ : Ph} {B : Bag} (hB : BF G I_M_eastStep B) (hF : SF 148 φ)    {o : Int32} {M9 : Mm} {l1 : Int32} {M : Mm} (h : f_M_eastStep l1 M = some (o, M9)) : AW G I_M_eastStep B (QM G I_M_eastStep B (.inl (some (.int o))) M9 φ) 0 0 0 [(0, .ref 134), (1, .int l1)] [] M φ := by
  unfold f_M_eastStep at h
  refine a_aload_n (j := 0) hB e_M_eastStep_0 rfl rfl ?_
  refine a_iload_n (j := 1) hB e_M_eastStep_1 rfl rfl ?_
  obtain ⟨r2, M2, hr2, h⟩ := bn2_i h
  refine a_ret (v := (some (.int r2))) (M1 := M2) (φ1 := φ) (st1 := [.int r2]) (j1 := 0) (j2 := 0) (ar_V (As := [.int l1]) (rest := []) hB (c_M_isBad (bf_G hB) hF hr2) ml_M_309 md_M_isBad rc_M_isBad (sf_lt hF (by decide)) kk_134 rfl rfl (Nat.le_of_ble_eq_true rfl) rm_M_eastStep_M_isBad e_M_eastStep_2) rfl rfl rfl ?_
  refine a_if_eq (tgt := 12) hB e_M_eastStep_5 (by decide) (fun c => ?_) (fun c => ?_)
  · have h := ip c h
    refine a_aload_n (j := 0) hB e_M_eastStep_12 rfl rfl ?_
    refine a_iload_n (j := 1) hB e_M_eastStep_13 rfl rfl ?_
    refine a_iconst (v := 1) hB e_M_eastStep_14 ic_1 ?_
    obtain ⟨r15, hr15, h⟩ := bn_i h
    refine a_ret (v := (some (.int r15))) (M1 := M2) (φ1 := φ) (st1 := [.int r15]) (j1 := 0) (j2 := 0) (ar_V (As := [.int l1, .int (1 : Int32)]) (rest := []) hB (c_M_step (bf_G hB) hF hr15) ml_M_131 md_M_step rc_M_step (sf_lt hF (by decide)) kk_134 rfl rfl (Nat.le_of_ble_eq_true rfl) rm_M_eastStep_M_step e_M_eastStep_15) rfl rfl rfl ?_
    refine a_ls [] (ls' := []) rfl ?_
    exact t_M_eastStep_18 hB hF h
  · have h := iq c h
    refine a_iconst (v := 0) hB e_M_eastStep_8 ic_0 ?_
    refine a_goto (tgt := 18) hB e_M_eastStep_9 (by decide) ?_
    refine a_ls [] (ls' := []) rfl ?_
    exact t_M_eastStep_18 hB hF h
set_option maxRecDepth 100000 in
theorem c_M_eastStep {G : Gt} (hG : GOK G) {φ : Ph} (hF : SF 148 φ)   {M : Mm} {l1 : Int32} {o : Int32} {M9 : Mm} (h : f_M_eastStep l1 M = some (o, M9)) : CT G I_M_eastStep [.ref 134, .int l1] M φ (.inl (some (.int o))) M9 φ :=
  ct_of hG (by decide) (Nat.le_of_ble_eq_true rfl) (fun B hB => t_M_eastStep hB hF  h)
set_option maxRecDepth 100000 in
theorem t_M_northStep_18 {G : Gt} {φ : Ph} {B : Bag} (hB : BF G I_M_northStep B) (hF : SF 148 φ)    {o : Int32} {M9 : Mm} {t0 : Int32} {M : Mm} (h : f_M_northStep_18 t0 M = some (o, M9)) : AW G I_M_northStep B (QM G I_M_northStep B (.inl (some (.int o))) M9 φ) 0 0 18 [] [.int t0] M φ := by
  unfold f_M_northStep_18 at h
  cases h
  exact a_iret hB rfl e_M_northStep_18 (by decide) (by decide)
set_option maxRecDepth 100000 in
theorem t_M_northStep {G : Gt} {φ : Ph} {B : Bag} (hB : BF G I_M_northStep B) (hF : SF 148 φ)    {o : Int32} {M9 : Mm} {l1 : Int32} {M : Mm} (h : f_M_northStep l1 M = some (o, M9)) : AW G I_M_northStep B (QM G I_M_northStep B (.inl (some (.int o))) M9 φ) 0 0 0 [(0, .ref 134), (1, .int l1)] [] M φ := by
  unfold f_M_northStep at h
  refine a_aload_n (j := 0) hB e_M_northStep_0 rfl rfl ?_
  refine a_iload_n (j := 1) hB e_M_northStep_1 rfl rfl ?_
  obtain ⟨r2, M2, hr2, h⟩ := bn2_i h
  refine a_ret (v := (some (.int r2))) (M1 := M2) (φ1 := φ) (st1 := [.int r2]) (j1 := 0) (j2 := 0) (ar_V (As := [.int l1]) (rest := []) hB (c_M_isBad (bf_G hB) hF hr2) ml_M_309 md_M_isBad rc_M_isBad (sf_lt hF (by decide)) kk_134 rfl rfl (Nat.le_of_ble_eq_true rfl) rm_M_northStep_M_isBad e_M_northStep_2) rfl rfl rfl ?_
  refine a_if_eq (tgt := 12) hB e_M_northStep_5 (by decide) (fun c => ?_) (fun c => ?_)
  · have h := ip c h
    refine a_aload_n (j := 0) hB e_M_northStep_12 rfl rfl ?_
    refine a_iload_n (j := 1) hB e_M_northStep_13 rfl rfl ?_
    refine a_iconst (v := 0) hB e_M_northStep_14 ic_0 ?_
    obtain ⟨r15, hr15, h⟩ := bn_i h
    refine a_ret (v := (some (.int r15))) (M1 := M2) (φ1 := φ) (st1 := [.int r15]) (j1 := 0) (j2 := 0) (ar_V (As := [.int l1, .int (0 : Int32)]) (rest := []) hB (c_M_step (bf_G hB) hF hr15) ml_M_131 md_M_step rc_M_step (sf_lt hF (by decide)) kk_134 rfl rfl (Nat.le_of_ble_eq_true rfl) rm_M_northStep_M_step e_M_northStep_15) rfl rfl rfl ?_
    refine a_ls [] (ls' := []) rfl ?_
    exact t_M_northStep_18 hB hF h
  · have h := iq c h
    refine a_iconst (v := 0) hB e_M_northStep_8 ic_0 ?_
    refine a_goto (tgt := 18) hB e_M_northStep_9 (by decide) ?_
    refine a_ls [] (ls' := []) rfl ?_
    exact t_M_northStep_18 hB hF h
set_option maxRecDepth 100000 in
theorem c_M_northStep {G : Gt} (hG : GOK G) {φ : Ph} (hF : SF 148 φ)   {M : Mm} {l1 : Int32} {o : Int32} {M9 : Mm} (h : f_M_northStep l1 M = some (o, M9)) : CT G I_M_northStep [.ref 134, .int l1] M φ (.inl (some (.int o))) M9 φ :=
  ct_of hG (by decide) (Nat.le_of_ble_eq_true rfl) (fun B hB => t_M_northStep hB hF  h)
set_option maxRecDepth 100000 in
theorem t_M_tallies_28 {G : Gt} {φ : Ph} {B : Bag} (hB : BF G I_M_tallies B) (hF : SF 148 φ)    {o : Int32} {M9 : Mm} {t0 : Int32} {M : Mm} (h : f_M_tallies_28 t0 M = some (o, M9)) : AW G I_M_tallies B (QM G I_M_tallies B (.inl (some (.int o))) M9 φ) 0 0 28 [] [.int t0] M φ := by
  unfold f_M_tallies_28 at h
  cases h
  exact a_iret hB rfl e_M_tallies_28 (by decide) (by decide)
set_option maxRecDepth 100000 in
theorem t_M_tallies {G : Gt} {φ : Ph} {B : Bag} (hB : BF G I_M_tallies B) (hF : SF 148 φ)    {o : Int32} {M9 : Mm} {l1 : Int32} {M : Mm} (h : f_M_tallies l1 M = some (o, M9)) : AW G I_M_tallies B (QM G I_M_tallies B (.inl (some (.int o))) M9 φ) 0 0 0 [(0, .ref 134), (1, .int l1)] [] M φ := by
  unfold f_M_tallies at h
  refine a_aload_n (j := 0) hB e_M_tallies_0 rfl rfl ?_
  refine a_iload_n (j := 1) hB e_M_tallies_1 rfl rfl ?_
  obtain ⟨r2, M2, hr2, h⟩ := bn2_i h
  refine a_ret (v := (some (.int r2))) (M1 := M2) (φ1 := φ) (st1 := [.int r2]) (j1 := 0) (j2 := 0) (ar_V (As := [.int l1]) (rest := []) hB (c_M_isBad (bf_G hB) hF hr2) ml_M_309 md_M_isBad rc_M_isBad (sf_lt hF (by decide)) kk_134 rfl rfl (Nat.le_of_ble_eq_true rfl) rm_M_tallies_M_isBad e_M_tallies_2) rfl rfl rfl ?_
  refine a_if_eq (tgt := 12) hB e_M_tallies_5 (by decide) (fun c => ?_) (fun c => ?_)
  · have h := ip c h
    refine a_aload_n (j := 0) hB e_M_tallies_12 rfl rfl ?_
    refine a_iload_n (j := 1) hB e_M_tallies_13 rfl rfl ?_
    refine a_iconst (v := 1) hB e_M_tallies_14 ic_1 ?_
    obtain ⟨r15, hr15, h⟩ := bn_i h
    refine a_ret (v := (some (.int r15))) (M1 := M2) (φ1 := φ) (st1 := [.int r15]) (j1 := 0) (j2 := 0) (ar_V (As := [.int l1, .int (1 : Int32)]) (rest := []) hB (c_M_of (bf_G hB) hF hr15) ml_M_96 md_M_of rc_M_of (sf_lt hF (by decide)) kk_134 rfl rfl (Nat.le_of_ble_eq_true rfl) rm_M_tallies_M_of e_M_tallies_15) rfl rfl rfl ?_
    refine a_aload_n (j := 0) hB e_M_tallies_18 rfl rfl ?_
    refine a_iload_n (j := 1) hB e_M_tallies_19 rfl rfl ?_
    refine a_iconst (v := 3) hB e_M_tallies_20 ic_3 ?_
    obtain ⟨r21, hr21, h⟩ := bn_i h
    refine a_ret (v := (some (.int r21))) (M1 := M2) (φ1 := φ) (st1 := [.int r21, .int r15]) (j1 := 0) (j2 := 0) (ar_V (As := [.int l1, .int (3 : Int32)]) (rest := [.int r15]) hB (c_M_of (bf_G hB) hF hr21) ml_M_96 md_M_of rc_M_of (sf_lt hF (by decide)) kk_134 rfl rfl (Nat.le_of_ble_eq_true rfl) rm_M_tallies_M_of e_M_tallies_21) rfl rfl rfl ?_
    refine a_iadd hB e_M_tallies_24 ?_
    refine a_bipush (v := 10) hB e_M_tallies_25 bp_10 ?_
    refine a_idiv hB e_M_tallies_27 (by decide) ?_
    refine a_ls [] (ls' := []) rfl ?_
    exact t_M_tallies_28 hB hF h
  · have h := iq c h
    refine a_iconst (v := 0) hB e_M_tallies_8 ic_0 ?_
    refine a_goto (tgt := 28) hB e_M_tallies_9 (by decide) ?_
    refine a_ls [] (ls' := []) rfl ?_
    exact t_M_tallies_28 hB hF h
set_option maxRecDepth 100000 in
theorem c_M_tallies {G : Gt} (hG : GOK G) {φ : Ph} (hF : SF 148 φ)   {M : Mm} {l1 : Int32} {o : Int32} {M9 : Mm} (h : f_M_tallies l1 M = some (o, M9)) : CT G I_M_tallies [.ref 134, .int l1] M φ (.inl (some (.int o))) M9 φ :=
  ct_of hG (by decide) (Nat.le_of_ble_eq_true rfl) (fun B hB => t_M_tallies hB hF  h)
set_option maxRecDepth 100000 in
theorem t_M_isBog_21 {G : Gt} {φ : Ph} {B : Bag} (hB : BF G I_M_isBog B) (hF : SF 148 φ)    {o : Int32} {M9 : Mm} {t0 : Int32} {M : Mm} (h : f_M_isBog_21 t0 M = some (o, M9)) : AW G I_M_isBog B (QM G I_M_isBog B (.inl (some (.int o))) M9 φ) 0 0 21 [] [.int t0] M φ := by
  unfold f_M_isBog_21 at h
  obtain ⟨z21, h⟩ := chk_i h
  cases h
  exact a_zret hB rfl z21 e_M_isBog_21 (by decide) (by decide)
set_option maxRecDepth 100000 in
theorem t_M_isBog_20 {G : Gt} {φ : Ph} {B : Bag} (hB : BF G I_M_isBog B) (hF : SF 148 φ)    {o : Int32} {M9 : Mm}  {M : Mm} (h : f_M_isBog_20 M = some (o, M9)) : AW G I_M_isBog B (QM G I_M_isBog B (.inl (some (.int o))) M9 φ) 0 0 20 [] [] M φ := by
  unfold f_M_isBog_20 at h
  refine a_iconst (v := 0) hB e_M_isBog_20 ic_0 ?_
  exact t_M_isBog_21 hB hF h
set_option maxRecDepth 100000 in
theorem t_M_isBog {G : Gt} {φ : Ph} {B : Bag} (hB : BF G I_M_isBog B) (hF : SF 148 φ)    {o : Int32} {M9 : Mm} {l1 : Int32} {M : Mm} (h : f_M_isBog l1 M = some (o, M9)) : AW G I_M_isBog B (QM G I_M_isBog B (.inl (some (.int o))) M9 φ) 0 0 0 [(0, .ref 134), (1, .int l1)] [] M φ := by
  unfold f_M_isBog at h
  refine a_aload_n (j := 0) hB e_M_isBog_0 rfl rfl ?_
  refine a_iload_n (j := 1) hB e_M_isBog_1 rfl rfl ?_
  obtain ⟨r2, M2, hr2, h⟩ := bn2_i h
  refine a_ret (v := (some (.int r2))) (M1 := M2) (φ1 := φ) (st1 := [.int r2]) (j1 := 0) (j2 := 0) (ar_V (As := [.int l1]) (rest := []) hB (c_M_isBad (bf_G hB) hF hr2) ml_M_309 md_M_isBad rc_M_isBad (sf_lt hF (by decide)) kk_134 rfl rfl (Nat.le_of_ble_eq_true rfl) rm_M_isBog_M_isBad e_M_isBog_2) rfl rfl rfl ?_
  refine a_if_ne (tgt := 20) hB e_M_isBog_5 (by decide) (fun c => ?_) (fun c => ?_)
  · have h := iq c h
    refine a_ls [] (ls' := []) rfl ?_
    exact t_M_isBog_20 hB hF h
  · have h := ip c h
    refine a_aload_n (j := 0) hB e_M_isBog_8 rfl rfl ?_
    refine a_iload_n (j := 1) hB e_M_isBog_9 rfl rfl ?_
    obtain ⟨r10, hr10, h⟩ := bn_i h
    refine a_ret (v := (some (.int r10))) (M1 := M2) (φ1 := φ) (st1 := [.int r10]) (j1 := 0) (j2 := 0) (ar_V (As := [.int l1]) (rest := []) hB (c_M_bog (bf_G hB) hF hr10) ml_M_102 md_M_bog rc_M_bog (sf_lt hF (by decide)) kk_134 rfl rfl (Nat.le_of_ble_eq_true rfl) rm_M_isBog_M_bog e_M_isBog_10) rfl rfl rfl ?_
    refine a_if_eq (tgt := 20) hB e_M_isBog_13 (by decide) (fun c => ?_) (fun c => ?_)
    · have h := ip c h
      refine a_ls [] (ls' := []) rfl ?_
      exact t_M_isBog_20 hB hF h
    · have h := iq c h
      refine a_iconst (v := 1) hB e_M_isBog_16 ic_1 ?_
      refine a_goto (tgt := 21) hB e_M_isBog_17 (by decide) ?_
      refine a_ls [] (ls' := []) rfl ?_
      exact t_M_isBog_21 hB hF h
set_option maxRecDepth 100000 in
theorem c_M_isBog {G : Gt} (hG : GOK G) {φ : Ph} (hF : SF 148 φ)   {M : Mm} {l1 : Int32} {o : Int32} {M9 : Mm} (h : f_M_isBog l1 M = some (o, M9)) : CT G I_M_isBog [.ref 134, .int l1] M φ (.inl (some (.int o))) M9 φ :=
  ct_of hG (by decide) (Nat.le_of_ble_eq_true rfl) (fun B hB => t_M_isBog hB hF  h)
set_option maxRecDepth 100000 in
theorem t_M_nameByte_40 {G : Gt} {φ : Ph} {B : Bag} (hB : BF G I_M_nameByte B) (hF : SF 148 φ)    {o : Int32} {M9 : Mm} {t0 : Int32} {M : Mm} (h : f_M_nameByte_40 t0 M = some (o, M9)) : AW G I_M_nameByte B (QM G I_M_nameByte B (.inl (some (.int o))) M9 φ) 0 0 40 [] [.int t0] M φ := by
  unfold f_M_nameByte_40 at h
  cases h
  exact a_iret hB rfl e_M_nameByte_40 (by decide) (by decide)
set_option maxRecDepth 100000 in
theorem t_M_nameByte {G : Gt} {φ : Ph} {B : Bag} (hB : BF G I_M_nameByte B) (hF : SF 148 φ)    {o : Int32} {M9 : Mm} {l1 : Int32} {l2 : Int32} {M : Mm} (h : f_M_nameByte l1 l2 M = some (o, M9)) : AW G I_M_nameByte B (QM G I_M_nameByte B (.inl (some (.int o))) M9 φ) 0 0 0 [(0, .ref 134), (1, .int l1), (2, .int l2)] [] M φ := by
  unfold f_M_nameByte at h
  refine a_aload_n (j := 0) hB e_M_nameByte_0 rfl rfl ?_
  refine a_iload_n (j := 1) hB e_M_nameByte_1 rfl rfl ?_
  obtain ⟨r2, M2, hr2, h⟩ := bn2_i h
  refine a_ret (v := (some (.int r2))) (M1 := M2) (φ1 := φ) (st1 := [.int r2]) (j1 := 0) (j2 := 0) (ar_V (As := [.int l1]) (rest := []) hB (c_M_isBad (bf_G hB) hF hr2) ml_M_309 md_M_isBad rc_M_isBad (sf_lt hF (by decide)) kk_134 rfl rfl (Nat.le_of_ble_eq_true rfl) rm_M_nameByte_M_isBad e_M_nameByte_2) rfl rfl rfl ?_
  refine a_if_eq (tgt := 10) hB e_M_nameByte_5 (by decide) (fun c => ?_) (fun c => ?_)
  · have h := ip c h
    refine a_iload_n (j := 2) hB e_M_nameByte_10 rfl rfl ?_
    refine a_iconst (v := 0) hB e_M_nameByte_11 ic_0 ?_
    refine a_aload_n (j := 0) hB e_M_nameByte_12 rfl rfl ?_
    refine a_iload_n (j := 1) hB e_M_nameByte_13 rfl rfl ?_
    refine a_bipush (v := 7) hB e_M_nameByte_14 bp_7 ?_
    obtain ⟨r16, hr16, h⟩ := bn_i h
    refine a_ret (v := (some (.int r16))) (M1 := M2) (φ1 := φ) (st1 := [.int r16, .int (0 : Int32), .int l2]) (j1 := 0) (j2 := 0) (ar_V (As := [.int l1, .int (7 : Int32)]) (rest := [.int (0 : Int32), .int l2]) hB (c_M_of (bf_G hB) hF hr16) ml_M_96 md_M_of rc_M_of (sf_lt hF (by decide)) kk_134 rfl rfl (Nat.le_of_ble_eq_true rfl) rm_M_nameByte_M_of e_M_nameByte_16) rfl rfl rfl ?_
    refine a_iconst (v := 1) hB e_M_nameByte_19 ic_1 ?_
    refine a_isub hB e_M_nameByte_20 ?_
    obtain ⟨r21, hr21, h⟩ := bn_i h
    refine a_ret (v := (some (.int r21))) (M1 := M2) (φ1 := φ) (st1 := [.int r21]) (j1 := 0) (j2 := 0) (ar_S (As := [.int l2, .int (0 : Int32), .int (r16 - (1 : Int32))]) (rest := []) hB (c_M_isIn (bf_G hB) hF hr21) ml_M_92 md_M_isIn rfl rfl (Nat.le_of_ble_eq_true rfl) rm_M_nameByte_M_isIn e_M_nameByte_21) rfl rfl rfl ?_
    refine a_if_eq (tgt := 39) hB e_M_nameByte_24 (by decide) (fun c => ?_) (fun c => ?_)
    · have h := ip c h
      refine a_iconst (v := -1) hB e_M_nameByte_39 ic_m1 ?_
      refine a_ls [] (ls' := []) rfl ?_
      exact t_M_nameByte_40 hB hF h
    · have h := iq c h
      refine a_aload_n (j := 0) hB e_M_nameByte_27 rfl rfl ?_
      refine a_iload_n (j := 1) hB e_M_nameByte_28 rfl rfl ?_
      refine a_bipush (v := 8) hB e_M_nameByte_29 bp_8 ?_
      refine a_iload_n (j := 2) hB e_M_nameByte_31 rfl rfl ?_
      refine a_iadd hB e_M_nameByte_32 ?_
      obtain ⟨r33, hr33, h⟩ := bn_i h
      refine a_ret (v := (some (.int r33))) (M1 := M2) (φ1 := φ) (st1 := [.int r33]) (j1 := 0) (j2 := 0) (ar_V (As := [.int l1, .int ((8 : Int32) + l2)]) (rest := []) hB (c_M_of (bf_G hB) hF hr33) ml_M_96 md_M_of rc_M_of (sf_lt hF (by decide)) kk_134 rfl rfl (Nat.le_of_ble_eq_true rfl) rm_M_nameByte_M_of e_M_nameByte_33) rfl rfl rfl ?_
      refine a_goto (tgt := 40) hB e_M_nameByte_36 (by decide) ?_
      refine a_ls [] (ls' := []) rfl ?_
      exact t_M_nameByte_40 hB hF h
  · have h := iq c h
    refine a_iconst (v := 0) hB e_M_nameByte_8 ic_0 ?_
    cases h
    exact a_iret hB rfl e_M_nameByte_9 (by decide) (by decide)
set_option maxRecDepth 100000 in
theorem c_M_nameByte {G : Gt} (hG : GOK G) {φ : Ph} (hF : SF 148 φ)   {M : Mm} {l1 : Int32} {l2 : Int32} {o : Int32} {M9 : Mm} (h : f_M_nameByte l1 l2 M = some (o, M9)) : CT G I_M_nameByte [.ref 134, .int l1, .int l2] M φ (.inl (some (.int o))) M9 φ :=
  ct_of hG (by decide) (Nat.le_of_ble_eq_true rfl) (fun B hB => t_M_nameByte hB hF  h)
set_option maxRecDepth 100000 in
theorem t_M_findLeg_30 {G : Gt} {φ : Ph} {B : Bag} (hB : BF G I_M_findLeg B) (hF : SF 148 φ)    {o : Int32} {M9 : Mm} : ∀ (n : Nat) (l1 : Int32) (M : Mm), f_M_findLeg_30 n l1 M = some (o, M9) → AW G I_M_findLeg B (QM G I_M_findLeg B (.inl (some (.int o))) M9 φ) 0 0 30 [(0, .ref 134), (1, .int l1)] [] M φ := by
  intro n
  induction n with
  | zero => intro l1 M h; cases h
  | succ n hr30 =>
    intro l1 M h
    rw [f_M_findLeg_30] at h
    refine a_iload_n (j := 1) hB e_M_findLeg_30 rfl rfl ?_
    refine a_aload_n (j := 0) hB e_M_findLeg_31 rfl rfl ?_
    refine a_getI (k := 19) hB e_M_findLeg_32 fl_M_153 (sf_lt hF (by decide)) kk_134 tt_134_19 ?_
    refine a_icmp_ge (tgt := 56) hB e_M_findLeg_35 (by decide) (fun c => ?_) (fun c => ?_)
    · have h := ip c h
      refine a_aload_n (j := 0) hB e_M_findLeg_56 rfl rfl ?_
      obtain ⟨r57, hr57, h⟩ := bn_i h
      refine a_ret (v := (some (.int r57))) (M1 := M) (φ1 := φ) (st1 := [.int r57]) (j1 := 0) (j2 := 0) (ar_V (As := []) (rest := []) hB (c_M_named (bf_G hB) hF hr57) ml_M_211 md_M_named rc_M_named (sf_lt hF (by decide)) kk_134 rfl rfl (Nat.le_of_ble_eq_true rfl) rm_M_findLeg_M_named e_M_findLeg_57) rfl rfl rfl ?_
      cases h
      exact a_iret hB rfl e_M_findLeg_60 (by decide) (by decide)
    · have h := iq c h
      refine a_aload_n (j := 0) hB e_M_findLeg_38 rfl rfl ?_
      refine a_getR (r := 147) (k := 18) hB e_M_findLeg_39 fl_M_51 (sf_lt hF (by decide)) kk_134 tt_134_18 (hF.1 _ _) ?_
      refine a_iload_n (j := 1) hB e_M_findLeg_42 rfl rfl ?_
      refine a_aload_n (j := 0) hB e_M_findLeg_43 rfl rfl ?_
      refine a_getR (r := 141) (k := 8) hB e_M_findLeg_44 fl_M_29 (sf_lt hF (by decide)) kk_134 tt_134_8 (hF.1 _ _) ?_
      refine a_iload_n (j := 1) hB e_M_findLeg_47 rfl rfl ?_
      obtain ⟨c48, h⟩ := chk_i h
      refine a_iald' hB e_M_findLeg_48 (sf_lt hF (by decide)) kk_141 ll_141 c48 ?_
      obtain ⟨c49, h⟩ := chk_i h
      obtain ⟨M49, hM49, h⟩ := bm_i h
      refine a_iast' hB e_M_findLeg_49 (sf_lt hF (by decide)) kk_147 ll_147 c49 ?_
      refine a_mem hM49 ?_
      refine a_iinc (j := 1) (v := l1 + 1) (ls' := [(1, .int (l1 + 1)), (0, .ref 134)]) hB e_M_findLeg_50 rfl (inc_1 _) (Nat.le_of_ble_eq_true rfl) rfl ?_
      refine a_goto (tgt := 30) hB e_M_findLeg_53 (by decide) ?_
      refine a_ls [1, 0] (ls' := [(0, .ref 134), (1, .int (l1 + 1))]) rfl ?_
      exact hr30 _ _ h
set_option maxRecDepth 100000 in
theorem t_M_findLeg {G : Gt} {φ : Ph} {B : Bag} (hB : BF G I_M_findLeg B) (hF : SF 148 φ)    {o : Int32} {M9 : Mm}  {M : Mm} (h : f_M_findLeg M = some (o, M9)) : AW G I_M_findLeg B (QM G I_M_findLeg B (.inl (some (.int o))) M9 φ) 0 0 0 [(0, .ref 134)] [] M φ := by
  unfold f_M_findLeg at h
  refine a_aload_n (j := 0) hB e_M_findLeg_0 rfl rfl ?_
  refine a_iconst (v := 0) hB e_M_findLeg_1 ic_0 ?_
  obtain ⟨M2, hM2, h⟩ := bm_i h
  refine a_putI (k := 7) hB e_M_findLeg_2 fw_M_79 (sf_lt hF (by decide)) kk_134 tt_134_7 ?_
  refine a_mem hM2 ?_
  refine a_aload_n (j := 0) hB e_M_findLeg_5 rfl rfl ?_
  refine a_getI (k := 14) hB e_M_findLeg_6 fl_M_66 (sf_lt hF (by decide)) kk_134 tt_134_14 ?_
  refine a_iconst (v := 1) hB e_M_findLeg_9 ic_1 ?_
  refine a_bipush (v := 6) hB e_M_findLeg_10 bp_6 ?_
  obtain ⟨r12, hr12, h⟩ := bn_i h
  refine a_ret (v := (some (.int r12))) (M1 := M2) (φ1 := φ) (st1 := [.int r12]) (j1 := 0) (j2 := 0) (ar_S (As := [.int (M2 134 14), .int (1 : Int32), .int (6 : Int32)]) (rest := []) hB (c_M_isIn (bf_G hB) hF hr12) ml_M_92 md_M_isIn rfl rfl (Nat.le_of_ble_eq_true rfl) rm_M_findLeg_M_isIn e_M_findLeg_12) rfl rfl rfl ?_
  refine a_if_ne (tgt := 20) hB e_M_findLeg_15 (by decide) (fun c => ?_) (fun c => ?_)
  · have h := iq c h
    refine a_aload_n (j := 0) hB e_M_findLeg_20 rfl rfl ?_
    refine a_aload_n (j := 0) hB e_M_findLeg_21 rfl rfl ?_
    refine a_getI (k := 14) hB e_M_findLeg_22 fl_M_66 (sf_lt hF (by decide)) kk_134 tt_134_14 ?_
    obtain ⟨M25, hM25, h⟩ := bm_i h
    refine a_putI (k := 19) hB e_M_findLeg_25 fw_M_153 (sf_lt hF (by decide)) kk_134 tt_134_19 ?_
    refine a_mem hM25 ?_
    refine a_iconst (v := 0) hB e_M_findLeg_28 ic_0 ?_
    refine a_istore_n (ls' := [(1, .int (0 : Int32)), (0, .ref 134)]) hB e_M_findLeg_29 rfl (Nat.le_of_ble_eq_true rfl) rfl ?_
    refine a_ls [1, 0] (ls' := [(0, .ref 134), (1, .int (0 : Int32))]) rfl ?_
    exact t_M_findLeg_30 hB hF _ _ _ h
  · have h := ip c h
    refine a_iconst (v := -1) hB e_M_findLeg_18 ic_m1 ?_
    cases h
    exact a_iret hB rfl e_M_findLeg_19 (by decide) (by decide)
set_option maxRecDepth 100000 in
theorem c_M_findLeg {G : Gt} (hG : GOK G) {φ : Ph} (hF : SF 148 φ)   {M : Mm}  {o : Int32} {M9 : Mm} (h : f_M_findLeg M = some (o, M9)) : CT G I_M_findLeg [.ref 134] M φ (.inl (some (.int o))) M9 φ :=
  ct_of hG (by decide) (Nat.le_of_ble_eq_true rfl) (fun B hB => t_M_findLeg hB hF  h)
set_option maxRecDepth 100000 in
theorem t_M_noStation_20 {G : Gt} {φ : Ph} {B : Bag} (hB : BF G I_M_noStation B) (hF : SF 148 φ)    {o : Int32} {M9 : Mm} {t1 : Int32} {M : Mm} (h : f_M_noStation_20 t1 M = some (o, M9)) : AW G I_M_noStation B (QM G I_M_noStation B (.inl (some (.int o))) M9 φ) 0 0 20 [] [.int t1, .ref 134] M φ := by
  unfold f_M_noStation_20 at h
  refine a_iconst (v := 0) hB e_M_noStation_20 ic_0 ?_
  refine a_iconst (v := 0) hB e_M_noStation_21 ic_0 ?_
  obtain ⟨r22, M22, hr22, h⟩ := bn2_i h
  refine a_ret (v := (some (.int r22))) (M1 := M22) (φ1 := φ) (st1 := [.int r22]) (j1 := 0) (j2 := 0) (ar_V (As := [.int t1, .int (0 : Int32), .int (0 : Int32)]) (rest := []) hB (c_M_fails (bf_G hB) hF hr22) ml_M_160 md_M_fails rc_M_fails (sf_lt hF (by decide)) kk_134 rfl rfl (Nat.le_of_ble_eq_true rfl) rm_M_noStation_M_fails e_M_noStation_22) rfl rfl rfl ?_
  obtain ⟨z25, h⟩ := chk_i h
  cases h
  exact a_zret hB rfl z25 e_M_noStation_25 (by decide) (by decide)
set_option maxRecDepth 100000 in
theorem t_M_noStation {G : Gt} {φ : Ph} {B : Bag} (hB : BF G I_M_noStation B) (hF : SF 148 φ)    {o : Int32} {M9 : Mm} {l1 : Int32} {M : Mm} (h : f_M_noStation l1 M = some (o, M9)) : AW G I_M_noStation B (QM G I_M_noStation B (.inl (some (.int o))) M9 φ) 0 0 0 [(0, .ref 134), (1, .int l1)] [] M φ := by
  unfold f_M_noStation at h
  refine a_aload_n (j := 0) hB e_M_noStation_0 rfl rfl ?_
  refine a_iload_n (j := 1) hB e_M_noStation_1 rfl rfl ?_
  refine a_iconst (v := 0) hB e_M_noStation_2 ic_0 ?_
  refine a_aload_n (j := 0) hB e_M_noStation_3 rfl rfl ?_
  refine a_getR (r := 135) (k := 0) hB e_M_noStation_4 fl_M_9 (sf_lt hF (by decide)) kk_134 tt_134_0 (hF.1 _ _) ?_
  refine a_iconst (v := 0) hB e_M_noStation_7 ic_0 ?_
  refine a_iald' hB e_M_noStation_8 (sf_lt hF (by decide)) kk_135 ll_135 (by decide) ?_
  obtain ⟨r9, hr9, h⟩ := bn_i h
  refine a_ret (v := (some (.int r9))) (M1 := M) (φ1 := φ) (st1 := [.int r9, .ref 134]) (j1 := 0) (j2 := 0) (ar_S (As := [.int l1, .int (0 : Int32), .int (M 135 (ix (0 : Int32)))]) (rest := [.ref 134]) hB (c_M_isIn (bf_G hB) hF hr9) ml_M_92 md_M_isIn rfl rfl (Nat.le_of_ble_eq_true rfl) rm_M_noStation_M_isIn e_M_noStation_9) rfl rfl rfl ?_
  refine a_if_ne (tgt := 19) hB e_M_noStation_12 (by decide) (fun c => ?_) (fun c => ?_)
  · have h := iq c h
    refine a_iconst (v := 0) hB e_M_noStation_19 ic_0 ?_
    refine a_ls [] (ls' := []) rfl ?_
    exact t_M_noStation_20 hB hF h
  · have h := ip c h
    refine a_iconst (v := 1) hB e_M_noStation_15 ic_1 ?_
    refine a_goto (tgt := 20) hB e_M_noStation_16 (by decide) ?_
    refine a_ls [] (ls' := []) rfl ?_
    exact t_M_noStation_20 hB hF h
set_option maxRecDepth 100000 in
theorem c_M_noStation {G : Gt} (hG : GOK G) {φ : Ph} (hF : SF 148 φ)   {M : Mm} {l1 : Int32} {o : Int32} {M9 : Mm} (h : f_M_noStation l1 M = some (o, M9)) : CT G I_M_noStation [.ref 134, .int l1] M φ (.inl (some (.int o))) M9 φ :=
  ct_of hG (by decide) (Nat.le_of_ble_eq_true rfl) (fun B hB => t_M_noStation hB hF  h)
set_option maxRecDepth 100000 in
theorem t_M_rawEast {G : Gt} {φ : Ph} {B : Bag} (hB : BF G I_M_rawEast B) (hF : SF 148 φ)    {o : Int32} {M9 : Mm} {l1 : Int32} {M : Mm} (h : f_M_rawEast l1 M = some (o, M9)) : AW G I_M_rawEast B (QM G I_M_rawEast B (.inl (some (.int o))) M9 φ) 0 0 0 [(0, .ref 134), (1, .int l1)] [] M φ := by
  unfold f_M_rawEast at h
  refine a_aload_n (j := 0) hB e_M_rawEast_0 rfl rfl ?_
  refine a_iload_n (j := 1) hB e_M_rawEast_1 rfl rfl ?_
  obtain ⟨r2, M2, hr2, h⟩ := bn2_i h
  refine a_ret (v := (some (.int r2))) (M1 := M2) (φ1 := φ) (st1 := [.int r2]) (j1 := 0) (j2 := 0) (ar_V (As := [.int l1]) (rest := []) hB (c_M_noStation (bf_G hB) hF hr2) ml_M_312 md_M_noStation rc_M_noStation (sf_lt hF (by decide)) kk_134 rfl rfl (Nat.le_of_ble_eq_true rfl) rm_M_rawEast_M_noStation e_M_rawEast_2) rfl rfl rfl ?_
  refine a_if_eq (tgt := 10) hB e_M_rawEast_5 (by decide) (fun c => ?_) (fun c => ?_)
  · have h := ip c h
    refine a_aload_n (j := 0) hB e_M_rawEast_10 rfl rfl ?_
    obtain ⟨M11, hr11, h⟩ := bn_i h
    refine a_ret (v := none) (M1 := M11) (φ1 := φ) (st1 := []) (j1 := 0) (j2 := 0) (ar_V (As := []) (rest := []) hB (c_M_findRaw (bf_G hB) hF hr11) ml_M_135 md_M_findRaw rc_M_findRaw (sf_lt hF (by decide)) kk_134 rfl rfl (Nat.le_of_ble_eq_true rfl) rm_M_rawEast_M_findRaw e_M_rawEast_11) rfl rfl rfl ?_
    refine a_aload_n (j := 0) hB e_M_rawEast_14 rfl rfl ?_
    refine a_getR (r := 143) (k := 10) hB e_M_rawEast_15 fl_M_35 (sf_lt hF (by decide)) kk_134 tt_134_10 (hF.1 _ _) ?_
    refine a_iload_n (j := 1) hB e_M_rawEast_18 rfl rfl ?_
    obtain ⟨c19, h⟩ := chk_i h
    refine a_iald' hB e_M_rawEast_19 (sf_lt hF (by decide)) kk_143 ll_143 c19 ?_
    cases h
    exact a_iret hB rfl e_M_rawEast_20 (by decide) (by decide)
  · have h := iq c h
    refine a_iconst (v := 0) hB e_M_rawEast_8 ic_0 ?_
    cases h
    exact a_iret hB rfl e_M_rawEast_9 (by decide) (by decide)
set_option maxRecDepth 100000 in
theorem c_M_rawEast {G : Gt} (hG : GOK G) {φ : Ph} (hF : SF 148 φ)   {M : Mm} {l1 : Int32} {o : Int32} {M9 : Mm} (h : f_M_rawEast l1 M = some (o, M9)) : CT G I_M_rawEast [.ref 134, .int l1] M φ (.inl (some (.int o))) M9 φ :=
  ct_of hG (by decide) (Nat.le_of_ble_eq_true rfl) (fun B hB => t_M_rawEast hB hF  h)
set_option maxRecDepth 100000 in
theorem t_M_rawNorth {G : Gt} {φ : Ph} {B : Bag} (hB : BF G I_M_rawNorth B) (hF : SF 148 φ)    {o : Int32} {M9 : Mm} {l1 : Int32} {M : Mm} (h : f_M_rawNorth l1 M = some (o, M9)) : AW G I_M_rawNorth B (QM G I_M_rawNorth B (.inl (some (.int o))) M9 φ) 0 0 0 [(0, .ref 134), (1, .int l1)] [] M φ := by
  unfold f_M_rawNorth at h
  refine a_aload_n (j := 0) hB e_M_rawNorth_0 rfl rfl ?_
  refine a_iload_n (j := 1) hB e_M_rawNorth_1 rfl rfl ?_
  obtain ⟨r2, M2, hr2, h⟩ := bn2_i h
  refine a_ret (v := (some (.int r2))) (M1 := M2) (φ1 := φ) (st1 := [.int r2]) (j1 := 0) (j2 := 0) (ar_V (As := [.int l1]) (rest := []) hB (c_M_noStation (bf_G hB) hF hr2) ml_M_312 md_M_noStation rc_M_noStation (sf_lt hF (by decide)) kk_134 rfl rfl (Nat.le_of_ble_eq_true rfl) rm_M_rawNorth_M_noStation e_M_rawNorth_2) rfl rfl rfl ?_
  refine a_if_eq (tgt := 10) hB e_M_rawNorth_5 (by decide) (fun c => ?_) (fun c => ?_)
  · have h := ip c h
    refine a_aload_n (j := 0) hB e_M_rawNorth_10 rfl rfl ?_
    obtain ⟨M11, hr11, h⟩ := bn_i h
    refine a_ret (v := none) (M1 := M11) (φ1 := φ) (st1 := []) (j1 := 0) (j2 := 0) (ar_V (As := []) (rest := []) hB (c_M_findRaw (bf_G hB) hF hr11) ml_M_135 md_M_findRaw rc_M_findRaw (sf_lt hF (by decide)) kk_134 rfl rfl (Nat.le_of_ble_eq_true rfl) rm_M_rawNorth_M_findRaw e_M_rawNorth_11) rfl rfl rfl ?_
    refine a_aload_n (j := 0) hB e_M_rawNorth_14 rfl rfl ?_
    refine a_getR (r := 144) (k := 11) hB e_M_rawNorth_15 fl_M_38 (sf_lt hF (by decide)) kk_134 tt_134_11 (hF.1 _ _) ?_
    refine a_iload_n (j := 1) hB e_M_rawNorth_18 rfl rfl ?_
    obtain ⟨c19, h⟩ := chk_i h
    refine a_iald' hB e_M_rawNorth_19 (sf_lt hF (by decide)) kk_144 ll_144 c19 ?_
    cases h
    exact a_iret hB rfl e_M_rawNorth_20 (by decide) (by decide)
  · have h := iq c h
    refine a_iconst (v := 0) hB e_M_rawNorth_8 ic_0 ?_
    cases h
    exact a_iret hB rfl e_M_rawNorth_9 (by decide) (by decide)
set_option maxRecDepth 100000 in
theorem c_M_rawNorth {G : Gt} (hG : GOK G) {φ : Ph} (hF : SF 148 φ)   {M : Mm} {l1 : Int32} {o : Int32} {M9 : Mm} (h : f_M_rawNorth l1 M = some (o, M9)) : CT G I_M_rawNorth [.ref 134, .int l1] M φ (.inl (some (.int o))) M9 φ :=
  ct_of hG (by decide) (Nat.le_of_ble_eq_true rfl) (fun B hB => t_M_rawNorth hB hF  h)
set_option maxRecDepth 100000 in
theorem t_M_east {G : Gt} {φ : Ph} {B : Bag} (hB : BF G I_M_east B) (hF : SF 148 φ)    {o : Int32} {M9 : Mm} {l1 : Int32} {M : Mm} (h : f_M_east l1 M = some (o, M9)) : AW G I_M_east B (QM G I_M_east B (.inl (some (.int o))) M9 φ) 0 0 0 [(0, .ref 134), (1, .int l1)] [] M φ := by
  unfold f_M_east at h
  refine a_aload_n (j := 0) hB e_M_east_0 rfl rfl ?_
  refine a_iload_n (j := 1) hB e_M_east_1 rfl rfl ?_
  obtain ⟨r2, M2, hr2, h⟩ := bn2_i h
  refine a_ret (v := (some (.int r2))) (M1 := M2) (φ1 := φ) (st1 := [.int r2]) (j1 := 0) (j2 := 0) (ar_V (As := [.int l1]) (rest := []) hB (c_M_noStation (bf_G hB) hF hr2) ml_M_312 md_M_noStation rc_M_noStation (sf_lt hF (by decide)) kk_134 rfl rfl (Nat.le_of_ble_eq_true rfl) rm_M_east_M_noStation e_M_east_2) rfl rfl rfl ?_
  refine a_if_eq (tgt := 10) hB e_M_east_5 (by decide) (fun c => ?_) (fun c => ?_)
  · have h := ip c h
    refine a_aload_n (j := 0) hB e_M_east_10 rfl rfl ?_
    obtain ⟨M11, hr11, h⟩ := bn_i h
    refine a_ret (v := none) (M1 := M11) (φ1 := φ) (st1 := []) (j1 := 0) (j2 := 0) (ar_V (As := []) (rest := []) hB (c_M_findStations (bf_G hB) hF hr11) ml_M_315 md_M_findStations rc_M_findStations (sf_lt hF (by decide)) kk_134 rfl rfl (Nat.le_of_ble_eq_true rfl) rm_M_east_M_findStations e_M_east_11) rfl rfl rfl ?_
    refine a_aload_n (j := 0) hB e_M_east_14 rfl rfl ?_
    refine a_getR (r := 143) (k := 10) hB e_M_east_15 fl_M_35 (sf_lt hF (by decide)) kk_134 tt_134_10 (hF.1 _ _) ?_
    refine a_iload_n (j := 1) hB e_M_east_18 rfl rfl ?_
    obtain ⟨c19, h⟩ := chk_i h
    refine a_iald' hB e_M_east_19 (sf_lt hF (by decide)) kk_143 ll_143 c19 ?_
    cases h
    exact a_iret hB rfl e_M_east_20 (by decide) (by decide)
  · have h := iq c h
    refine a_iconst (v := 0) hB e_M_east_8 ic_0 ?_
    cases h
    exact a_iret hB rfl e_M_east_9 (by decide) (by decide)
set_option maxRecDepth 100000 in
theorem c_M_east {G : Gt} (hG : GOK G) {φ : Ph} (hF : SF 148 φ)   {M : Mm} {l1 : Int32} {o : Int32} {M9 : Mm} (h : f_M_east l1 M = some (o, M9)) : CT G I_M_east [.ref 134, .int l1] M φ (.inl (some (.int o))) M9 φ :=
  ct_of hG (by decide) (Nat.le_of_ble_eq_true rfl) (fun B hB => t_M_east hB hF  h)
set_option maxRecDepth 100000 in
theorem t_M_north {G : Gt} {φ : Ph} {B : Bag} (hB : BF G I_M_north B) (hF : SF 148 φ)    {o : Int32} {M9 : Mm} {l1 : Int32} {M : Mm} (h : f_M_north l1 M = some (o, M9)) : AW G I_M_north B (QM G I_M_north B (.inl (some (.int o))) M9 φ) 0 0 0 [(0, .ref 134), (1, .int l1)] [] M φ := by
  unfold f_M_north at h
  refine a_aload_n (j := 0) hB e_M_north_0 rfl rfl ?_
  refine a_iload_n (j := 1) hB e_M_north_1 rfl rfl ?_
  obtain ⟨r2, M2, hr2, h⟩ := bn2_i h
  refine a_ret (v := (some (.int r2))) (M1 := M2) (φ1 := φ) (st1 := [.int r2]) (j1 := 0) (j2 := 0) (ar_V (As := [.int l1]) (rest := []) hB (c_M_noStation (bf_G hB) hF hr2) ml_M_312 md_M_noStation rc_M_noStation (sf_lt hF (by decide)) kk_134 rfl rfl (Nat.le_of_ble_eq_true rfl) rm_M_north_M_noStation e_M_north_2) rfl rfl rfl ?_
  refine a_if_eq (tgt := 10) hB e_M_north_5 (by decide) (fun c => ?_) (fun c => ?_)
  · have h := ip c h
    refine a_aload_n (j := 0) hB e_M_north_10 rfl rfl ?_
    obtain ⟨M11, hr11, h⟩ := bn_i h
    refine a_ret (v := none) (M1 := M11) (φ1 := φ) (st1 := []) (j1 := 0) (j2 := 0) (ar_V (As := []) (rest := []) hB (c_M_findStations (bf_G hB) hF hr11) ml_M_315 md_M_findStations rc_M_findStations (sf_lt hF (by decide)) kk_134 rfl rfl (Nat.le_of_ble_eq_true rfl) rm_M_north_M_findStations e_M_north_11) rfl rfl rfl ?_
    refine a_aload_n (j := 0) hB e_M_north_14 rfl rfl ?_
    refine a_getR (r := 144) (k := 11) hB e_M_north_15 fl_M_38 (sf_lt hF (by decide)) kk_134 tt_134_11 (hF.1 _ _) ?_
    refine a_iload_n (j := 1) hB e_M_north_18 rfl rfl ?_
    obtain ⟨c19, h⟩ := chk_i h
    refine a_iald' hB e_M_north_19 (sf_lt hF (by decide)) kk_144 ll_144 c19 ?_
    cases h
    exact a_iret hB rfl e_M_north_20 (by decide) (by decide)
  · have h := iq c h
    refine a_iconst (v := 0) hB e_M_north_8 ic_0 ?_
    cases h
    exact a_iret hB rfl e_M_north_9 (by decide) (by decide)
set_option maxRecDepth 100000 in
theorem c_M_north {G : Gt} (hG : GOK G) {φ : Ph} (hF : SF 148 φ)   {M : Mm} {l1 : Int32} {o : Int32} {M9 : Mm} (h : f_M_north l1 M = some (o, M9)) : CT G I_M_north [.ref 134, .int l1] M φ (.inl (some (.int o))) M9 φ :=
  ct_of hG (by decide) (Nat.le_of_ble_eq_true rfl) (fun B hB => t_M_north hB hF  h)
set_option maxRecDepth 100000 in
theorem t_M_run {G : Gt} {φ : Ph} {B : Bag} (hB : BF G I_M_run B) (hF : SF 148 φ)    {o : Int32} {M9 : Mm} {l1 : Int32} {M : Mm} (h : f_M_run l1 M = some (o, M9)) : AW G I_M_run B (QM G I_M_run B (.inl (some (.int o))) M9 φ) 0 0 0 [(0, .ref 134), (1, .int l1)] [] M φ := by
  unfold f_M_run at h
  refine a_aload_n (j := 0) hB e_M_run_0 rfl rfl ?_
  refine a_iload_n (j := 1) hB e_M_run_1 rfl rfl ?_
  obtain ⟨r2, M2, hr2, h⟩ := bn2_i h
  refine a_ret (v := (some (.int r2))) (M1 := M2) (φ1 := φ) (st1 := [.int r2]) (j1 := 0) (j2 := 0) (ar_V (As := [.int l1]) (rest := []) hB (c_M_noStation (bf_G hB) hF hr2) ml_M_312 md_M_noStation rc_M_noStation (sf_lt hF (by decide)) kk_134 rfl rfl (Nat.le_of_ble_eq_true rfl) rm_M_run_M_noStation e_M_run_2) rfl rfl rfl ?_
  refine a_if_eq (tgt := 10) hB e_M_run_5 (by decide) (fun c => ?_) (fun c => ?_)
  · have h := ip c h
    refine a_aload_n (j := 0) hB e_M_run_10 rfl rfl ?_
    obtain ⟨M11, hr11, h⟩ := bn_i h
    refine a_ret (v := none) (M1 := M11) (φ1 := φ) (st1 := []) (j1 := 0) (j2 := 0) (ar_V (As := []) (rest := []) hB (c_M_findRaw (bf_G hB) hF hr11) ml_M_135 md_M_findRaw rc_M_findRaw (sf_lt hF (by decide)) kk_134 rfl rfl (Nat.le_of_ble_eq_true rfl) rm_M_run_M_findRaw e_M_run_11) rfl rfl rfl ?_
    refine a_aload_n (j := 0) hB e_M_run_14 rfl rfl ?_
    refine a_getR (r := 145) (k := 12) hB e_M_run_15 fl_M_41 (sf_lt hF (by decide)) kk_134 tt_134_12 (hF.1 _ _) ?_
    refine a_iload_n (j := 1) hB e_M_run_18 rfl rfl ?_
    obtain ⟨c19, h⟩ := chk_i h
    refine a_iald' hB e_M_run_19 (sf_lt hF (by decide)) kk_145 ll_145 c19 ?_
    cases h
    exact a_iret hB rfl e_M_run_20 (by decide) (by decide)
  · have h := iq c h
    refine a_iconst (v := 0) hB e_M_run_8 ic_0 ?_
    cases h
    exact a_iret hB rfl e_M_run_9 (by decide) (by decide)
set_option maxRecDepth 100000 in
theorem c_M_run {G : Gt} (hG : GOK G) {φ : Ph} (hF : SF 148 φ)   {M : Mm} {l1 : Int32} {o : Int32} {M9 : Mm} (h : f_M_run l1 M = some (o, M9)) : CT G I_M_run [.ref 134, .int l1] M φ (.inl (some (.int o))) M9 φ :=
  ct_of hG (by decide) (Nat.le_of_ble_eq_true rfl) (fun B hB => t_M_run hB hF  h)
set_option maxRecDepth 100000 in
theorem t_M_distanceFromStart {G : Gt} {φ : Ph} {B : Bag} (hB : BF G I_M_distanceFromStart B) (hF : SF 148 φ)    {o : Int32} {M9 : Mm} {l1 : Int32} {M : Mm} (h : f_M_distanceFromStart l1 M = some (o, M9)) : AW G I_M_distanceFromStart B (QM G I_M_distanceFromStart B (.inl (some (.int o))) M9 φ) 0 0 0 [(0, .ref 134), (1, .int l1)] [] M φ := by
  unfold f_M_distanceFromStart at h
  refine a_aload_n (j := 0) hB e_M_distanceFromStart_0 rfl rfl ?_
  refine a_iload_n (j := 1) hB e_M_distanceFromStart_1 rfl rfl ?_
  obtain ⟨r2, M2, hr2, h⟩ := bn2_i h
  refine a_ret (v := (some (.int r2))) (M1 := M2) (φ1 := φ) (st1 := [.int r2]) (j1 := 0) (j2 := 0) (ar_V (As := [.int l1]) (rest := []) hB (c_M_noStation (bf_G hB) hF hr2) ml_M_312 md_M_noStation rc_M_noStation (sf_lt hF (by decide)) kk_134 rfl rfl (Nat.le_of_ble_eq_true rfl) rm_M_distanceFromStart_M_noStation e_M_distanceFromStart_2) rfl rfl rfl ?_
  refine a_if_eq (tgt := 10) hB e_M_distanceFromStart_5 (by decide) (fun c => ?_) (fun c => ?_)
  · have h := ip c h
    refine a_aload_n (j := 0) hB e_M_distanceFromStart_10 rfl rfl ?_
    obtain ⟨M11, hr11, h⟩ := bn_i h
    refine a_ret (v := none) (M1 := M11) (φ1 := φ) (st1 := []) (j1 := 0) (j2 := 0) (ar_V (As := []) (rest := []) hB (c_M_findStations (bf_G hB) hF hr11) ml_M_315 md_M_findStations rc_M_findStations (sf_lt hF (by decide)) kk_134 rfl rfl (Nat.le_of_ble_eq_true rfl) rm_M_distanceFromStart_M_findStations e_M_distanceFromStart_11) rfl rfl rfl ?_
    refine a_aload_n (j := 0) hB e_M_distanceFromStart_14 rfl rfl ?_
    refine a_getR (r := 143) (k := 10) hB e_M_distanceFromStart_15 fl_M_35 (sf_lt hF (by decide)) kk_134 tt_134_10 (hF.1 _ _) ?_
    refine a_iload_n (j := 1) hB e_M_distanceFromStart_18 rfl rfl ?_
    obtain ⟨c19, h⟩ := chk_i h
    refine a_iald' hB e_M_distanceFromStart_19 (sf_lt hF (by decide)) kk_143 ll_143 c19 ?_
    refine a_i2l hB e_M_distanceFromStart_20 ?_
    refine a_aload_n (j := 0) hB e_M_distanceFromStart_21 rfl rfl ?_
    refine a_getR (r := 144) (k := 11) hB e_M_distanceFromStart_22 fl_M_38 (sf_lt hF (by decide)) kk_134 tt_134_11 (hF.1 _ _) ?_
    refine a_iload_n (j := 1) hB e_M_distanceFromStart_25 rfl rfl ?_
    refine a_iald' hB e_M_distanceFromStart_26 (sf_lt hF (by decide)) kk_144 ll_144 c19 ?_
    refine a_i2l hB e_M_distanceFromStart_27 ?_
    obtain ⟨r28, hr28, h⟩ := bn_i h
    refine a_ret (v := (some (.int r28))) (M1 := M11) (φ1 := φ) (st1 := [.int r28]) (j1 := 0) (j2 := 0) (ar_S (As := [.long ((M11 143 (ix l1)).toInt64), .long ((M11 144 (ix l1)).toInt64)]) (rest := []) hB (c_M_far (bf_G hB) hF hr28) ml_M_145 md_M_far rfl rfl (Nat.le_of_ble_eq_true rfl) rm_M_distanceFromStart_M_far e_M_distanceFromStart_28) rfl rfl rfl ?_
    cases h
    exact a_iret hB rfl e_M_distanceFromStart_31 (by decide) (by decide)
  · have h := iq c h
    refine a_iconst (v := 0) hB e_M_distanceFromStart_8 ic_0 ?_
    cases h
    exact a_iret hB rfl e_M_distanceFromStart_9 (by decide) (by decide)
set_option maxRecDepth 100000 in
theorem c_M_distanceFromStart {G : Gt} (hG : GOK G) {φ : Ph} (hF : SF 148 φ)   {M : Mm} {l1 : Int32} {o : Int32} {M9 : Mm} (h : f_M_distanceFromStart l1 M = some (o, M9)) : CT G I_M_distanceFromStart [.ref 134, .int l1] M φ (.inl (some (.int o))) M9 φ :=
  ct_of hG (by decide) (Nat.le_of_ble_eq_true rfl) (fun B hB => t_M_distanceFromStart hB hF  h)
set_option maxRecDepth 100000 in
theorem t_M_perimeterNow {G : Gt} {φ : Ph} {B : Bag} (hB : BF G I_M_perimeterNow B) (hF : SF 148 φ)    {o : Int32} {M9 : Mm}  {M : Mm} (h : f_M_perimeterNow M = some (o, M9)) : AW G I_M_perimeterNow B (QM G I_M_perimeterNow B (.inl (some (.int o))) M9 φ) 0 0 0 [(0, .ref 134)] [] M φ := by
  unfold f_M_perimeterNow at h
  refine a_aload_n (j := 0) hB e_M_perimeterNow_0 rfl rfl ?_
  obtain ⟨M1, hr1, h⟩ := bn_i h
  refine a_ret (v := none) (M1 := M1) (φ1 := φ) (st1 := []) (j1 := 0) (j2 := 0) (ar_V (As := []) (rest := []) hB (c_M_findRaw (bf_G hB) hF hr1) ml_M_135 md_M_findRaw rc_M_findRaw (sf_lt hF (by decide)) kk_134 rfl rfl (Nat.le_of_ble_eq_true rfl) rm_M_perimeterNow_M_findRaw e_M_perimeterNow_1) rfl rfl rfl ?_
  refine a_aload_n (j := 0) hB e_M_perimeterNow_4 rfl rfl ?_
  obtain ⟨r5, hr5, h⟩ := bn_i h
  refine a_ret (v := (some (.int r5))) (M1 := M1) (φ1 := φ) (st1 := [.int r5]) (j1 := 0) (j2 := 0) (ar_V (As := []) (rest := []) hB (c_M_around (bf_G hB) hF hr5) ml_M_138 md_M_around rc_M_around (sf_lt hF (by decide)) kk_134 rfl rfl (Nat.le_of_ble_eq_true rfl) rm_M_perimeterNow_M_around e_M_perimeterNow_5) rfl rfl rfl ?_
  cases h
  exact a_iret hB rfl e_M_perimeterNow_8 (by decide) (by decide)
set_option maxRecDepth 100000 in
theorem c_M_perimeterNow {G : Gt} (hG : GOK G) {φ : Ph} (hF : SF 148 φ)   {M : Mm}  {o : Int32} {M9 : Mm} (h : f_M_perimeterNow M = some (o, M9)) : CT G I_M_perimeterNow [.ref 134] M φ (.inl (some (.int o))) M9 φ :=
  ct_of hG (by decide) (Nat.le_of_ble_eq_true rfl) (fun B hB => t_M_perimeterNow hB hF  h)
set_option maxRecDepth 100000 in
theorem t_M_perimeter {G : Gt} {φ : Ph} {B : Bag} (hB : BF G I_M_perimeter B) (hF : SF 148 φ)    {o : Int32} {M9 : Mm}  {M : Mm} (h : f_M_perimeter M = some (o, M9)) : AW G I_M_perimeter B (QM G I_M_perimeter B (.inl (some (.int o))) M9 φ) 0 0 0 [(0, .ref 134)] [] M φ := by
  unfold f_M_perimeter at h
  refine a_aload_n (j := 0) hB e_M_perimeter_0 rfl rfl ?_
  refine a_aload_n (j := 0) hB e_M_perimeter_1 rfl rfl ?_
  obtain ⟨r2, M2, hr2, h⟩ := bn2_i h
  refine a_ret (v := (some (.int r2))) (M1 := M2) (φ1 := φ) (st1 := [.int r2, .ref 134]) (j1 := 0) (j2 := 0) (ar_V (As := []) (rest := [.ref 134]) hB (c_M_perimeterNow (bf_G hB) hF hr2) ml_M_318 md_M_perimeterNow rc_M_perimeterNow (sf_lt hF (by decide)) kk_134 rfl rfl (Nat.le_of_ble_eq_true rfl) rm_M_perimeter_M_perimeterNow e_M_perimeter_2) rfl rfl rfl ?_
  obtain ⟨r5, M5, hr5, h⟩ := bn2_i h
  refine a_ret (v := (some (.int r5))) (M1 := M5) (φ1 := φ) (st1 := [.int r5]) (j1 := 0) (j2 := 0) (ar_V (As := [.int r2]) (rest := []) hB (c_M_told (bf_G hB) hF hr5) ml_M_292 md_M_told rc_M_told (sf_lt hF (by decide)) kk_134 rfl rfl (Nat.le_of_ble_eq_true rfl) rm_M_perimeter_M_told e_M_perimeter_5) rfl rfl rfl ?_
  cases h
  exact a_iret hB rfl e_M_perimeter_8 (by decide) (by decide)
set_option maxRecDepth 100000 in
theorem c_M_perimeter {G : Gt} (hG : GOK G) {φ : Ph} (hF : SF 148 φ)   {M : Mm}  {o : Int32} {M9 : Mm} (h : f_M_perimeter M = some (o, M9)) : CT G I_M_perimeter [.ref 134] M φ (.inl (some (.int o))) M9 φ :=
  ct_of hG (by decide) (Nat.le_of_ble_eq_true rfl) (fun B hB => t_M_perimeter hB hF  h)
set_option maxRecDepth 100000 in
theorem t_M_closingEast {G : Gt} {φ : Ph} {B : Bag} (hB : BF G I_M_closingEast B) (hF : SF 148 φ)    {o : Int32} {M9 : Mm}  {M : Mm} (h : f_M_closingEast M = some (o, M9)) : AW G I_M_closingEast B (QM G I_M_closingEast B (.inl (some (.int o))) M9 φ) 0 0 0 [(0, .ref 134)] [] M φ := by
  unfold f_M_closingEast at h
  refine a_aload_n (j := 0) hB e_M_closingEast_0 rfl rfl ?_
  refine a_iconst (v := 0) hB e_M_closingEast_1 ic_0 ?_
  obtain ⟨M2, hM2, h⟩ := bm_i h
  refine a_putI (k := 7) hB e_M_closingEast_2 fw_M_79 (sf_lt hF (by decide)) kk_134 tt_134_7 ?_
  refine a_mem hM2 ?_
  refine a_aload_n (j := 0) hB e_M_closingEast_5 rfl rfl ?_
  obtain ⟨M6, hr6, h⟩ := bn_i h
  refine a_ret (v := none) (M1 := M6) (φ1 := φ) (st1 := []) (j1 := 0) (j2 := 0) (ar_V (As := []) (rest := []) hB (c_M_findRaw (bf_G hB) hF hr6) ml_M_135 md_M_findRaw rc_M_findRaw (sf_lt hF (by decide)) kk_134 rfl rfl (Nat.le_of_ble_eq_true rfl) rm_M_closingEast_M_findRaw e_M_closingEast_6) rfl rfl rfl ?_
  refine a_aload_n (j := 0) hB e_M_closingEast_9 rfl rfl ?_
  refine a_getR (r := 143) (k := 10) hB e_M_closingEast_10 fl_M_35 (sf_lt hF (by decide)) kk_134 tt_134_10 (hF.1 _ _) ?_
  refine a_aload_n (j := 0) hB e_M_closingEast_13 rfl rfl ?_
  refine a_getR (r := 135) (k := 0) hB e_M_closingEast_14 fl_M_9 (sf_lt hF (by decide)) kk_134 tt_134_0 (hF.1 _ _) ?_
  refine a_iconst (v := 0) hB e_M_closingEast_17 ic_0 ?_
  refine a_iald' hB e_M_closingEast_18 (sf_lt hF (by decide)) kk_135 ll_135 (by decide) ?_
  obtain ⟨c19, h⟩ := chk_i h
  refine a_iald' hB e_M_closingEast_19 (sf_lt hF (by decide)) kk_143 ll_143 c19 ?_
  cases h
  exact a_iret hB rfl e_M_closingEast_20 (by decide) (by decide)
set_option maxRecDepth 100000 in
theorem c_M_closingEast {G : Gt} (hG : GOK G) {φ : Ph} (hF : SF 148 φ)   {M : Mm}  {o : Int32} {M9 : Mm} (h : f_M_closingEast M = some (o, M9)) : CT G I_M_closingEast [.ref 134] M φ (.inl (some (.int o))) M9 φ :=
  ct_of hG (by decide) (Nat.le_of_ble_eq_true rfl) (fun B hB => t_M_closingEast hB hF  h)
set_option maxRecDepth 100000 in
theorem t_M_closingNorth {G : Gt} {φ : Ph} {B : Bag} (hB : BF G I_M_closingNorth B) (hF : SF 148 φ)    {o : Int32} {M9 : Mm}  {M : Mm} (h : f_M_closingNorth M = some (o, M9)) : AW G I_M_closingNorth B (QM G I_M_closingNorth B (.inl (some (.int o))) M9 φ) 0 0 0 [(0, .ref 134)] [] M φ := by
  unfold f_M_closingNorth at h
  refine a_aload_n (j := 0) hB e_M_closingNorth_0 rfl rfl ?_
  refine a_iconst (v := 0) hB e_M_closingNorth_1 ic_0 ?_
  obtain ⟨M2, hM2, h⟩ := bm_i h
  refine a_putI (k := 7) hB e_M_closingNorth_2 fw_M_79 (sf_lt hF (by decide)) kk_134 tt_134_7 ?_
  refine a_mem hM2 ?_
  refine a_aload_n (j := 0) hB e_M_closingNorth_5 rfl rfl ?_
  obtain ⟨M6, hr6, h⟩ := bn_i h
  refine a_ret (v := none) (M1 := M6) (φ1 := φ) (st1 := []) (j1 := 0) (j2 := 0) (ar_V (As := []) (rest := []) hB (c_M_findRaw (bf_G hB) hF hr6) ml_M_135 md_M_findRaw rc_M_findRaw (sf_lt hF (by decide)) kk_134 rfl rfl (Nat.le_of_ble_eq_true rfl) rm_M_closingNorth_M_findRaw e_M_closingNorth_6) rfl rfl rfl ?_
  refine a_aload_n (j := 0) hB e_M_closingNorth_9 rfl rfl ?_
  refine a_getR (r := 144) (k := 11) hB e_M_closingNorth_10 fl_M_38 (sf_lt hF (by decide)) kk_134 tt_134_11 (hF.1 _ _) ?_
  refine a_aload_n (j := 0) hB e_M_closingNorth_13 rfl rfl ?_
  refine a_getR (r := 135) (k := 0) hB e_M_closingNorth_14 fl_M_9 (sf_lt hF (by decide)) kk_134 tt_134_0 (hF.1 _ _) ?_
  refine a_iconst (v := 0) hB e_M_closingNorth_17 ic_0 ?_
  refine a_iald' hB e_M_closingNorth_18 (sf_lt hF (by decide)) kk_135 ll_135 (by decide) ?_
  obtain ⟨c19, h⟩ := chk_i h
  refine a_iald' hB e_M_closingNorth_19 (sf_lt hF (by decide)) kk_144 ll_144 c19 ?_
  cases h
  exact a_iret hB rfl e_M_closingNorth_20 (by decide) (by decide)
set_option maxRecDepth 100000 in
theorem c_M_closingNorth {G : Gt} (hG : GOK G) {φ : Ph} (hF : SF 148 φ)   {M : Mm}  {o : Int32} {M9 : Mm} (h : f_M_closingNorth M = some (o, M9)) : CT G I_M_closingNorth [.ref 134] M φ (.inl (some (.int o))) M9 φ :=
  ct_of hG (by decide) (Nat.le_of_ble_eq_true rfl) (fun B hB => t_M_closingNorth hB hF  h)
set_option maxRecDepth 100000 in
theorem t_M_misclosure {G : Gt} {φ : Ph} {B : Bag} (hB : BF G I_M_misclosure B) (hF : SF 148 φ)    {o : Int32} {M9 : Mm}  {M : Mm} (h : f_M_misclosure M = some (o, M9)) : AW G I_M_misclosure B (QM G I_M_misclosure B (.inl (some (.int o))) M9 φ) 0 0 0 [(0, .ref 134)] [] M φ := by
  unfold f_M_misclosure at h
  refine a_aload_n (j := 0) hB e_M_misclosure_0 rfl rfl ?_
  refine a_aload_n (j := 0) hB e_M_misclosure_1 rfl rfl ?_
  obtain ⟨r2, M2, hr2, h⟩ := bn2_i h
  refine a_ret (v := (some (.int r2))) (M1 := M2) (φ1 := φ) (st1 := [.int r2, .ref 134]) (j1 := 0) (j2 := 0) (ar_V (As := []) (rest := [.ref 134]) hB (c_M_miss (bf_G hB) hF hr2) ml_M_321 md_M_miss rc_M_miss (sf_lt hF (by decide)) kk_134 rfl rfl (Nat.le_of_ble_eq_true rfl) rm_M_misclosure_M_miss e_M_misclosure_2) rfl rfl rfl ?_
  obtain ⟨r5, M5, hr5, h⟩ := bn2_i h
  refine a_ret (v := (some (.int r5))) (M1 := M5) (φ1 := φ) (st1 := [.int r5]) (j1 := 0) (j2 := 0) (ar_V (As := [.int r2]) (rest := []) hB (c_M_told (bf_G hB) hF hr5) ml_M_292 md_M_told rc_M_told (sf_lt hF (by decide)) kk_134 rfl rfl (Nat.le_of_ble_eq_true rfl) rm_M_misclosure_M_told e_M_misclosure_5) rfl rfl rfl ?_
  cases h
  exact a_iret hB rfl e_M_misclosure_8 (by decide) (by decide)
set_option maxRecDepth 100000 in
theorem c_M_misclosure {G : Gt} (hG : GOK G) {φ : Ph} (hF : SF 148 φ)   {M : Mm}  {o : Int32} {M9 : Mm} (h : f_M_misclosure M = some (o, M9)) : CT G I_M_misclosure [.ref 134] M φ (.inl (some (.int o))) M9 φ :=
  ct_of hG (by decide) (Nat.le_of_ble_eq_true rfl) (fun B hB => t_M_misclosure hB hF  h)
set_option maxRecDepth 100000 in
theorem t_M_precision_24 {G : Gt} {φ : Ph} {B : Bag} (hB : BF G I_M_precision B) (hF : SF 148 φ)    {o : Int32} {M9 : Mm} {t0 : Int32} {M : Mm} (h : f_M_precision_24 t0 M = some (o, M9)) : AW G I_M_precision B (QM G I_M_precision B (.inl (some (.int o))) M9 φ) 0 0 24 [] [.int t0] M φ := by
  unfold f_M_precision_24 at h
  cases h
  exact a_iret hB rfl e_M_precision_24 (by decide) (by decide)
set_option maxRecDepth 100000 in
theorem t_M_precision {G : Gt} {φ : Ph} {B : Bag} (hB : BF G I_M_precision B) (hF : SF 148 φ)    {o : Int32} {M9 : Mm}  {M : Mm} (h : f_M_precision M = some (o, M9)) : AW G I_M_precision B (QM G I_M_precision B (.inl (some (.int o))) M9 φ) 0 0 0 [(0, .ref 134)] [] M φ := by
  unfold f_M_precision at h
  refine a_aload_n (j := 0) hB e_M_precision_0 rfl rfl ?_
  refine a_iconst (v := 0) hB e_M_precision_1 ic_0 ?_
  obtain ⟨M2, hM2, h⟩ := bm_i h
  refine a_putI (k := 7) hB e_M_precision_2 fw_M_79 (sf_lt hF (by decide)) kk_134 tt_134_7 ?_
  refine a_mem hM2 ?_
  refine a_aload_n (j := 0) hB e_M_precision_5 rfl rfl ?_
  obtain ⟨r6, M6, hr6, h⟩ := bn2_i h
  refine a_ret (v := (some (.int r6))) (M1 := M6) (φ1 := φ) (st1 := [.int r6]) (j1 := 0) (j2 := 0) (ar_V (As := []) (rest := []) hB (c_M_miss (bf_G hB) hF hr6) ml_M_321 md_M_miss rc_M_miss (sf_lt hF (by decide)) kk_134 rfl rfl (Nat.le_of_ble_eq_true rfl) rm_M_precision_M_miss e_M_precision_6) rfl rfl rfl ?_
  refine a_istore_n (ls' := [(1, .int r6), (0, .ref 134)]) hB e_M_precision_9 rfl (Nat.le_of_ble_eq_true rfl) rfl ?_
  refine a_iload_n (j := 0) hB e_M_precision_10 rfl rfl ?_
  refine a_if_ne (tgt := 18) hB e_M_precision_11 (by decide) (fun c => ?_) (fun c => ?_)
  · have h := iq c h
    refine a_aload_n (j := 1) hB e_M_precision_18 rfl rfl ?_
    obtain ⟨r19, hr19, h⟩ := bn_i h
    refine a_ret (v := (some (.int r19))) (M1 := M6) (φ1 := φ) (st1 := [.int r19]) (j1 := 0) (j2 := 0) (ar_V (As := []) (rest := []) hB (c_M_around (bf_G hB) hF hr19) ml_M_138 md_M_around rc_M_around (sf_lt hF (by decide)) kk_134 rfl rfl (Nat.le_of_ble_eq_true rfl) rm_M_precision_M_around e_M_precision_19) rfl rfl rfl ?_
    refine a_iload_n (j := 0) hB e_M_precision_22 rfl rfl ?_
    obtain ⟨c23, h⟩ := chk_i h
    refine a_idiv hB e_M_precision_23 c23 ?_
    refine a_ls [] (ls' := []) rfl ?_
    exact t_M_precision_24 hB hF h
  · have h := ip c h
    refine a_iconst (v := -1) hB e_M_precision_14 ic_m1 ?_
    refine a_goto (tgt := 24) hB e_M_precision_15 (by decide) ?_
    refine a_ls [] (ls' := []) rfl ?_
    exact t_M_precision_24 hB hF h
set_option maxRecDepth 100000 in
theorem c_M_precision {G : Gt} (hG : GOK G) {φ : Ph} (hF : SF 148 φ)   {M : Mm}  {o : Int32} {M9 : Mm} (h : f_M_precision M = some (o, M9)) : CT G I_M_precision [.ref 134] M φ (.inl (some (.int o))) M9 φ :=
  ct_of hG (by decide) (Nat.le_of_ble_eq_true rfl) (fun B hB => t_M_precision hB hF  h)
set_option maxRecDepth 100000 in
theorem t_M_spread_11 {G : Gt} {φ : Ph} {B : Bag} (hB : BF G I_M_spread B) (hF : SF 148 φ) {a : Nat} (hk_a : kd a = 10) (ha_a : a < 148) (hn_a : ln a = 21) {M : Mm} {o : Int32} : ∀ (n : Nat) (l2 : Int32) (l3 : Int32) (l4 : Int32), f_M_spread_11 a M n l2 l3 l4 = some o → AW G I_M_spread B (QM G I_M_spread B (.inl (some (.int o))) M φ) 0 0 11 [(0, .ref 134), (1, .ref a), (2, .int l2), (3, .int l3), (4, .int l4)] [] M φ := by
  intro n
  induction n with
  | zero => intro l2 l3 l4 h; cases h
  | succ n hr11 =>
    intro l2 l3 l4 h
    rw [f_M_spread_11] at h
    refine a_iload (j := 4) hB e_M_spread_11 rfl ?_
    refine a_aload_n (j := 0) hB e_M_spread_13 rfl rfl ?_
    refine a_getR (r := 135) (k := 0) hB e_M_spread_14 fl_M_9 (sf_lt hF (by decide)) kk_134 tt_134_0 (hF.1 _ _) ?_
    refine a_iconst (v := 0) hB e_M_spread_17 ic_0 ?_
    refine a_iald' hB e_M_spread_18 (sf_lt hF (by decide)) kk_135 ll_135 (by decide) ?_
    refine a_icmp_gt (tgt := 46) hB e_M_spread_19 (by decide) (fun c => ?_) (fun c => ?_)
    · have h := ip c h
      refine a_iload_n (j := 3) hB e_M_spread_46 rfl rfl ?_
      refine a_iload_n (j := 2) hB e_M_spread_47 rfl rfl ?_
      refine a_isub hB e_M_spread_48 ?_
      cases h
      exact a_iret hB rfl e_M_spread_49 (by decide) (by decide)
    · have h := iq c h
      refine a_iload_n (j := 2) hB e_M_spread_22 rfl rfl ?_
      refine a_aload_n (j := 1) hB e_M_spread_23 rfl rfl ?_
      refine a_iload (j := 4) hB e_M_spread_24 rfl ?_
      obtain ⟨c26, h⟩ := chk_i h
      refine a_iald' hB e_M_spread_26 (sf_lt2 hF ha_a (by decide)) hk_a hn_a c26 ?_
      refine a_min hB ml_M_183 ms_min ini_math mc_min (by decide) (Nat.le_of_ble_eq_true rfl) (by decide) (by decide) e_M_spread_27 ?_
      refine a_istore_n (ls' := [(2, .int (if (M a (ix l4)) < l2 then (M a (ix l4)) else l2)), (0, .ref 134), (1, .ref a), (3, .int l3), (4, .int l4)]) hB e_M_spread_30 rfl (Nat.le_of_ble_eq_true rfl) rfl ?_
      refine a_iload_n (j := 3) hB e_M_spread_31 rfl rfl ?_
      refine a_aload_n (j := 2) hB e_M_spread_32 rfl rfl ?_
      refine a_iload (j := 4) hB e_M_spread_33 rfl ?_
      refine a_iald' hB e_M_spread_35 (sf_lt2 hF ha_a (by decide)) hk_a hn_a c26 ?_
      refine a_max hB ml_M_324 ms_max ini_math mc_max (by decide) (Nat.le_of_ble_eq_true rfl) (by decide) (by decide) e_M_spread_36 ?_
      refine a_istore_n (ls' := [(3, .int (if l3 < (M a (ix l4)) then (M a (ix l4)) else l3)), (2, .int (if (M a (ix l4)) < l2 then (M a (ix l4)) else l2)), (0, .ref 134), (1, .ref a), (4, .int l4)]) hB e_M_spread_39 rfl (Nat.le_of_ble_eq_true rfl) rfl ?_
      refine a_iinc (j := 4) (v := l4 + 1) (ls' := [(4, .int (l4 + 1)), (3, .int (if l3 < (M a (ix l4)) then (M a (ix l4)) else l3)), (2, .int (if (M a (ix l4)) < l2 then (M a (ix l4)) else l2)), (0, .ref 134), (1, .ref a)]) hB e_M_spread_40 rfl (inc_1 _) (Nat.le_of_ble_eq_true rfl) rfl ?_
      refine a_goto (tgt := 11) hB e_M_spread_43 (by decide) ?_
      refine a_ls [3, 4, 2, 1, 0] (ls' := [(0, .ref 134), (1, .ref a), (2, .int (if (M a (ix l4)) < l2 then (M a (ix l4)) else l2)), (3, .int (if l3 < (M a (ix l4)) then (M a (ix l4)) else l3)), (4, .int (l4 + 1))]) rfl ?_
      exact hr11 _ _ _ h
set_option maxRecDepth 100000 in
theorem t_M_spread {G : Gt} {φ : Ph} {B : Bag} (hB : BF G I_M_spread B) (hF : SF 148 φ) {a : Nat} (hk_a : kd a = 10) (ha_a : a < 148) (hn_a : ln a = 21) {M : Mm} {o : Int32}   (h : f_M_spread a M = some o) : AW G I_M_spread B (QM G I_M_spread B (.inl (some (.int o))) M φ) 0 0 0 [(0, .ref 134), (1, .ref a)] [] M φ := by
  unfold f_M_spread at h
  refine a_aload_n (j := 1) hB e_M_spread_0 rfl rfl ?_
  refine a_iconst (v := 0) hB e_M_spread_1 ic_0 ?_
  refine a_iald' hB e_M_spread_2 (sf_lt2 hF ha_a (by decide)) hk_a hn_a (by decide) ?_
  refine a_istore_n (ls' := [(2, .int (M a (ix (0 : Int32)))), (0, .ref 134), (1, .ref a)]) hB e_M_spread_3 rfl (Nat.le_of_ble_eq_true rfl) rfl ?_
  refine a_aload_n (j := 2) hB e_M_spread_4 rfl rfl ?_
  refine a_iconst (v := 0) hB e_M_spread_5 ic_0 ?_
  refine a_iald' hB e_M_spread_6 (sf_lt2 hF ha_a (by decide)) hk_a hn_a (by decide) ?_
  refine a_istore_n (ls' := [(3, .int (M a (ix (0 : Int32)))), (2, .int (M a (ix (0 : Int32)))), (0, .ref 134), (1, .ref a)]) hB e_M_spread_7 rfl (Nat.le_of_ble_eq_true rfl) rfl ?_
  refine a_iconst (v := 1) hB e_M_spread_8 ic_1 ?_
  refine a_istore (ls' := [(4, .int (1 : Int32)), (3, .int (M a (ix (0 : Int32)))), (2, .int (M a (ix (0 : Int32)))), (0, .ref 134), (1, .ref a)]) hB e_M_spread_9 (Nat.le_of_ble_eq_true rfl) rfl ?_
  refine a_ls [3, 4, 2, 1, 0] (ls' := [(0, .ref 134), (1, .ref a), (2, .int (M a (ix (0 : Int32)))), (3, .int (M a (ix (0 : Int32)))), (4, .int (1 : Int32))]) rfl ?_
  exact t_M_spread_11 hB hF hk_a ha_a hn_a _ _ _ _ h
set_option maxRecDepth 100000 in
theorem c_M_spread {G : Gt} (hG : GOK G) {φ : Ph} (hF : SF 148 φ) {a : Nat} (hk_a : kd a = 10) (ha_a : a < 148) (hn_a : ln a = 21) {M : Mm}  {o : Int32} (h : f_M_spread a M = some o) : CT G I_M_spread [.ref 134, .ref a] M φ (.inl (some (.int o))) M φ :=
  ct_of hG (by decide) (Nat.le_of_ble_eq_true rfl) (fun B hB => t_M_spread hB hF hk_a ha_a hn_a h)
set_option maxRecDepth 100000 in
theorem t_M_width {G : Gt} {φ : Ph} {B : Bag} (hB : BF G I_M_width B) (hF : SF 148 φ)    {o : Int32} {M9 : Mm}  {M : Mm} (h : f_M_width M = some (o, M9)) : AW G I_M_width B (QM G I_M_width B (.inl (some (.int o))) M9 φ) 0 0 0 [(0, .ref 134)] [] M φ := by
  unfold f_M_width at h
  refine a_aload_n (j := 0) hB e_M_width_0 rfl rfl ?_
  refine a_iconst (v := 0) hB e_M_width_1 ic_0 ?_
  obtain ⟨M2, hM2, h⟩ := bm_i h
  refine a_putI (k := 7) hB e_M_width_2 fw_M_79 (sf_lt hF (by decide)) kk_134 tt_134_7 ?_
  refine a_mem hM2 ?_
  refine a_aload_n (j := 0) hB e_M_width_5 rfl rfl ?_
  obtain ⟨M6, hr6, h⟩ := bn_i h
  refine a_ret (v := none) (M1 := M6) (φ1 := φ) (st1 := []) (j1 := 0) (j2 := 0) (ar_V (As := []) (rest := []) hB (c_M_findStations (bf_G hB) hF hr6) ml_M_315 md_M_findStations rc_M_findStations (sf_lt hF (by decide)) kk_134 rfl rfl (Nat.le_of_ble_eq_true rfl) rm_M_width_M_findStations e_M_width_6) rfl rfl rfl ?_
  refine a_aload_n (j := 0) hB e_M_width_9 rfl rfl ?_
  refine a_aload_n (j := 0) hB e_M_width_10 rfl rfl ?_
  refine a_getR (r := 143) (k := 10) hB e_M_width_11 fl_M_35 (sf_lt hF (by decide)) kk_134 tt_134_10 (hF.1 _ _) ?_
  obtain ⟨r14, hr14, h⟩ := bn_i h
  refine a_ret (v := (some (.int r14))) (M1 := M6) (φ1 := φ) (st1 := [.int r14]) (j1 := 0) (j2 := 0) (ar_V (As := [.ref 143]) (rest := []) hB (c_M_spread (bf_G hB) hF kk_143 (by decide) ll_143 hr14) ml_M_327 md_M_spread rc_M_spread (sf_lt hF (by decide)) kk_134 rfl rfl (Nat.le_of_ble_eq_true rfl) rm_M_width_M_spread e_M_width_14) rfl rfl rfl ?_
  cases h
  exact a_iret hB rfl e_M_width_17 (by decide) (by decide)
set_option maxRecDepth 100000 in
theorem c_M_width {G : Gt} (hG : GOK G) {φ : Ph} (hF : SF 148 φ)   {M : Mm}  {o : Int32} {M9 : Mm} (h : f_M_width M = some (o, M9)) : CT G I_M_width [.ref 134] M φ (.inl (some (.int o))) M9 φ :=
  ct_of hG (by decide) (Nat.le_of_ble_eq_true rfl) (fun B hB => t_M_width hB hF  h)
set_option maxRecDepth 100000 in
theorem t_M_height {G : Gt} {φ : Ph} {B : Bag} (hB : BF G I_M_height B) (hF : SF 148 φ)    {o : Int32} {M9 : Mm}  {M : Mm} (h : f_M_height M = some (o, M9)) : AW G I_M_height B (QM G I_M_height B (.inl (some (.int o))) M9 φ) 0 0 0 [(0, .ref 134)] [] M φ := by
  unfold f_M_height at h
  refine a_aload_n (j := 0) hB e_M_height_0 rfl rfl ?_
  refine a_iconst (v := 0) hB e_M_height_1 ic_0 ?_
  obtain ⟨M2, hM2, h⟩ := bm_i h
  refine a_putI (k := 7) hB e_M_height_2 fw_M_79 (sf_lt hF (by decide)) kk_134 tt_134_7 ?_
  refine a_mem hM2 ?_
  refine a_aload_n (j := 0) hB e_M_height_5 rfl rfl ?_
  obtain ⟨M6, hr6, h⟩ := bn_i h
  refine a_ret (v := none) (M1 := M6) (φ1 := φ) (st1 := []) (j1 := 0) (j2 := 0) (ar_V (As := []) (rest := []) hB (c_M_findStations (bf_G hB) hF hr6) ml_M_315 md_M_findStations rc_M_findStations (sf_lt hF (by decide)) kk_134 rfl rfl (Nat.le_of_ble_eq_true rfl) rm_M_height_M_findStations e_M_height_6) rfl rfl rfl ?_
  refine a_aload_n (j := 0) hB e_M_height_9 rfl rfl ?_
  refine a_aload_n (j := 0) hB e_M_height_10 rfl rfl ?_
  refine a_getR (r := 144) (k := 11) hB e_M_height_11 fl_M_38 (sf_lt hF (by decide)) kk_134 tt_134_11 (hF.1 _ _) ?_
  obtain ⟨r14, hr14, h⟩ := bn_i h
  refine a_ret (v := (some (.int r14))) (M1 := M6) (φ1 := φ) (st1 := [.int r14]) (j1 := 0) (j2 := 0) (ar_V (As := [.ref 144]) (rest := []) hB (c_M_spread (bf_G hB) hF kk_144 (by decide) ll_144 hr14) ml_M_327 md_M_spread rc_M_spread (sf_lt hF (by decide)) kk_134 rfl rfl (Nat.le_of_ble_eq_true rfl) rm_M_height_M_spread e_M_height_14) rfl rfl rfl ?_
  cases h
  exact a_iret hB rfl e_M_height_17 (by decide) (by decide)
set_option maxRecDepth 100000 in
theorem c_M_height {G : Gt} (hG : GOK G) {φ : Ph} (hF : SF 148 φ)   {M : Mm}  {o : Int32} {M9 : Mm} (h : f_M_height M = some (o, M9)) : CT G I_M_height [.ref 134] M φ (.inl (some (.int o))) M9 φ :=
  ct_of hG (by decide) (Nat.le_of_ble_eq_true rfl) (fun B hB => t_M_height hB hF  h)
