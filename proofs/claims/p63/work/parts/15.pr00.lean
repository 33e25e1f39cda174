/-! the functions are what the machine does -/
set_option maxRecDepth 100000 in
theorem t_C_isLetter_17 {G : Gt} {φ : Ph} {B : Bag} (hB : BF G I_C_isLetter B) (hF : SF 134 φ)   {M : Mm} {o : Int32} {t0 : Int32}  (h : f_C_isLetter_17 t0 = some o) : AW G I_C_isLetter B (QM G I_C_isLetter B (.inl (some (.int o))) M φ) 0 0 17 [] [.int t0] M φ := by
  unfold f_C_isLetter_17 at h
  obtain ⟨z17, h⟩ := chk_i h
  cases h
  exact a_zret hB rfl z17 e_C_isLetter_17 (by decide) (by decide)
set_option maxRecDepth 100000 in
theorem t_C_isLetter_16 {G : Gt} {φ : Ph} {B : Bag} (hB : BF G I_C_isLetter B) (hF : SF 134 φ)   {M : Mm} {o : Int32}   (h : f_C_isLetter_16 = some o) : AW G I_C_isLetter B (QM G I_C_isLetter B (.inl (some (.int o))) M φ) 0 0 16 [] [] M φ := by
  unfold f_C_isLetter_16 at h
  refine a_iconst (v := 0) hB e_C_isLetter_16 ic_0 ?_
  exact t_C_isLetter_17 hB hF h
set_option maxRecDepth 100000 in
theorem t_C_isLetter {G : Gt} {φ : Ph} {B : Bag} (hB : BF G I_C_isLetter B) (hF : SF 134 φ)   {M : Mm} {o : Int32} {l0 : Int32}  (h : f_C_isLetter l0 = some o) : AW G I_C_isLetter B (QM G I_C_isLetter B (.inl (some (.int o))) M φ) 0 0 0 [(0, .int l0)] [] M φ := by
  unfold f_C_isLetter at h
  refine a_iload_n (j := 0) hB e_C_isLetter_0 rfl rfl ?_
  refine a_bipush (v := 97) hB e_C_isLetter_1 bp_97 ?_
  refine a_icmp_lt (tgt := 16) hB e_C_isLetter_3 (by decide) (fun c => ?_) (fun c => ?_)
  · have h := ip c h
    refine a_ls [] (ls' := []) rfl ?_
    exact t_C_isLetter_16 hB hF h
  · have h := iq c h
    refine a_iload_n (j := 0) hB e_C_isLetter_6 rfl rfl ?_
    refine a_bipush (v := 122) hB e_C_isLetter_7 bp_122 ?_
    refine a_icmp_gt (tgt := 16) hB e_C_isLetter_9 (by decide) (fun c => ?_) (fun c => ?_)
    · have h := ip c h
      refine a_ls [] (ls' := []) rfl ?_
      exact t_C_isLetter_16 hB hF h
    · have h := iq c h
      refine a_iconst (v := 1) hB e_C_isLetter_12 ic_1 ?_
      refine a_goto (tgt := 17) hB e_C_isLetter_13 (by decide) ?_
      refine a_ls [] (ls' := []) rfl ?_
      exact t_C_isLetter_17 hB hF h
set_option maxRecDepth 100000 in
theorem c_C_isLetter {G : Gt} (hG : GOK G) {φ : Ph} (hF : SF 134 φ)   {M : Mm} {l0 : Int32} {o : Int32} (h : f_C_isLetter l0 = some o) : CT G I_C_isLetter [.int l0] M φ (.inl (some (.int o))) M φ :=
  ct_of hG (by decide) (Nat.le_of_ble_eq_true rfl) (fun B hB => t_C_isLetter hB hF  h)
set_option maxRecDepth 100000 in
theorem t_C_isDigit_17 {G : Gt} {φ : Ph} {B : Bag} (hB : BF G I_C_isDigit B) (hF : SF 134 φ)   {M : Mm} {o : Int32} {t0 : Int32}  (h : f_C_isDigit_17 t0 = some o) : AW G I_C_isDigit B (QM G I_C_isDigit B (.inl (some (.int o))) M φ) 0 0 17 [] [.int t0] M φ := by
  unfold f_C_isDigit_17 at h
  obtain ⟨z17, h⟩ := chk_i h
  cases h
  exact a_zret hB rfl z17 e_C_isDigit_17 (by decide) (by decide)
set_option maxRecDepth 100000 in
theorem t_C_isDigit_16 {G : Gt} {φ : Ph} {B : Bag} (hB : BF G I_C_isDigit B) (hF : SF 134 φ)   {M : Mm} {o : Int32}   (h : f_C_isDigit_16 = some o) : AW G I_C_isDigit B (QM G I_C_isDigit B (.inl (some (.int o))) M φ) 0 0 16 [] [] M φ := by
  unfold f_C_isDigit_16 at h
  refine a_iconst (v := 0) hB e_C_isDigit_16 ic_0 ?_
  exact t_C_isDigit_17 hB hF h
set_option maxRecDepth 100000 in
theorem t_C_isDigit {G : Gt} {φ : Ph} {B : Bag} (hB : BF G I_C_isDigit B) (hF : SF 134 φ)   {M : Mm} {o : Int32} {l0 : Int32}  (h : f_C_isDigit l0 = some o) : AW G I_C_isDigit B (QM G I_C_isDigit B (.inl (some (.int o))) M φ) 0 0 0 [(0, .int l0)] [] M φ := by
  unfold f_C_isDigit at h
  refine a_iload_n (j := 0) hB e_C_isDigit_0 rfl rfl ?_
  refine a_bipush (v := 48) hB e_C_isDigit_1 bp_48 ?_
  refine a_icmp_lt (tgt := 16) hB e_C_isDigit_3 (by decide) (fun c => ?_) (fun c => ?_)
  · have h := ip c h
    refine a_ls [] (ls' := []) rfl ?_
    exact t_C_isDigit_16 hB hF h
  · have h := iq c h
    refine a_iload_n (j := 0) hB e_C_isDigit_6 rfl rfl ?_
    refine a_bipush (v := 57) hB e_C_isDigit_7 bp_57 ?_
    refine a_icmp_gt (tgt := 16) hB e_C_isDigit_9 (by decide) (fun c => ?_) (fun c => ?_)
    · have h := ip c h
      refine a_ls [] (ls' := []) rfl ?_
      exact t_C_isDigit_16 hB hF h
    · have h := iq c h
      refine a_iconst (v := 1) hB e_C_isDigit_12 ic_1 ?_
      refine a_goto (tgt := 17) hB e_C_isDigit_13 (by decide) ?_
      refine a_ls [] (ls' := []) rfl ?_
      exact t_C_isDigit_17 hB hF h
set_option maxRecDepth 100000 in
theorem c_C_isDigit {G : Gt} (hG : GOK G) {φ : Ph} (hF : SF 134 φ)   {M : Mm} {l0 : Int32} {o : Int32} (h : f_C_isDigit l0 = some o) : CT G I_C_isDigit [.int l0] M φ (.inl (some (.int o))) M φ :=
  ct_of hG (by decide) (Nat.le_of_ble_eq_true rfl) (fun B hB => t_C_isDigit hB hF  h)
set_option maxRecDepth 100000 in
theorem t_L_advance_258 {G : Gt} {φ : Ph} {B : Bag} (hB : BF G I_L_advance B) (hF : SF 134 φ)    {M9 : Mm}  {M : Mm} (h : f_L_advance_258 M = some M9) : AW G I_L_advance B (QM G I_L_advance B (.inl none) M9 φ) 0 0 258 [] [] M φ := by
  unfold f_L_advance_258 at h
  cases h
  exact a_vret hB rfl e_L_advance_258 (by decide) (by decide)
set_option maxRecDepth 100000 in
theorem t_L_advance_157 {G : Gt} {φ : Ph} {B : Bag} (hB : BF G I_L_advance B) (hF : SF 134 φ)    {M9 : Mm} : ∀ (n : Nat)  (M : Mm), f_L_advance_157 n M = some M9 → AW G I_L_advance B (QM G I_L_advance B (.inl none) M9 φ) 0 0 157 [(0, .ref 2)] [] M φ := by
  intro n
  induction n with
  | zero => intro M h; cases h
  | succ n hr157 =>
    intro M h
    rw [f_L_advance_157] at h
    refine a_aload_n (j := 0) hB e_L_advance_157 rfl rfl ?_
    refine a_getI (k := 4) hB e_L_advance_158 fl_L_25 (sf_lt hF (by decide)) kk_2 tt_2_4 ?_
    refine a_aload_n (j := 0) hB e_L_advance_161 rfl rfl ?_
    refine a_getI (k := 1) hB e_L_advance_162 fl_L_21 (sf_lt hF (by decide)) kk_2 tt_2_1 ?_
    refine a_icmp_ge (tgt := 258) hB e_L_advance_165 (by decide) (fun c => ?_) (fun c => ?_)
    · have h := ip c h
      refine a_ls [] (ls' := []) rfl ?_
      exact t_L_advance_258 hB hF h
    · have h := iq c h
      refine a_aload_n (j := 0) hB e_L_advance_168 rfl rfl ?_
      refine a_getR (r := 3) (k := 0) hB e_L_advance_169 fl_L_9 (sf_lt hF (by decide)) kk_2 tt_2_0 (hF.1 _ _) ?_
      refine a_aload_n (j := 0) hB e_L_advance_172 rfl rfl ?_
      refine a_getI (k := 4) hB e_L_advance_173 fl_L_25 (sf_lt hF (by decide)) kk_2 tt_2_4 ?_
      obtain ⟨c176, h⟩ := chk_i h
      refine a_bald' hB e_L_advance_176 (sf_lt hF (by decide)) kk_3 ll_3 c176 ?_
      obtain ⟨r177, hr177, h⟩ := bn_i h
      refine a_ret (v := (some (.int r177))) (M1 := M) (φ1 := φ) (st1 := [.int r177]) (j1 := 0) (j2 := 0) (ar_SN (As := [.int (M 3 (ix (M 2 4)))]) (rest := []) hB (c_C_isDigit (bf_G hB) hF hr177) mn_L_41 md_C_isDigit rfl rfl (Nat.le_of_ble_eq_true rfl) rm_L_advance_C_isDigit e_L_advance_177) rfl rfl rfl ?_
      refine a_if_eq (tgt := 258) hB e_L_advance_180 (by decide) (fun c => ?_) (fun c => ?_)
      · have h := ip c h
        refine a_ls [] (ls' := []) rfl ?_
        exact t_L_advance_258 hB hF h
      · have h := iq c h
        refine a_aload_n (j := 0) hB e_L_advance_183 rfl rfl ?_
        refine a_aload_n (j := 0) hB e_L_advance_184 rfl rfl ?_
        refine a_getI (k := 5) hB e_L_advance_185 fl_L_44 (sf_lt hF (by decide)) kk_2 tt_2_5 ?_
        refine a_bipush (v := 10) hB e_L_advance_188 bp_10 ?_
        refine a_imul hB e_L_advance_190 ?_
        refine a_aload_n (j := 0) hB e_L_advance_191 rfl rfl ?_
        refine a_getR (r := 3) (k := 0) hB e_L_advance_192 fl_L_9 (sf_lt hF (by decide)) kk_2 tt_2_0 (hF.1 _ _) ?_
        refine a_aload_n (j := 0) hB e_L_advance_195 rfl rfl ?_
        refine a_getI (k := 4) hB e_L_advance_196 fl_L_25 (sf_lt hF (by decide)) kk_2 tt_2_4 ?_
        refine a_bald' hB e_L_advance_199 (sf_lt hF (by decide)) kk_3 ll_3 c176 ?_
        refine a_iadd hB e_L_advance_200 ?_
        refine a_bipush (v := 48) hB e_L_advance_201 bp_48 ?_
        refine a_isub hB e_L_advance_203 ?_
        refine a_ldc (v := 1000000) hB cn_L_47 e_L_advance_204 ?_
        refine a_min hB ml_L_15 ms_min ini_math mc_min (by decide) (Nat.le_of_ble_eq_true rfl) (by decide) (by decide) e_L_advance_206 ?_
        obtain ⟨M209, hM209, h⟩ := bm_i h
        refine a_putI (k := 5) hB e_L_advance_209 fw_L_44 (sf_lt hF (by decide)) kk_2 tt_2_5 ?_
        refine a_mem hM209 ?_
        refine a_aload_n (j := 0) hB e_L_advance_212 rfl rfl ?_
        refine a_dup hB e_L_advance_213 rfl ?_
        refine a_getI (k := 4) hB e_L_advance_214 fl_L_25 (sf_lt hF (by decide)) kk_2 tt_2_4 ?_
        refine a_iconst (v := 1) hB e_L_advance_217 ic_1 ?_
        refine a_iadd hB e_L_advance_218 ?_
        obtain ⟨M219, hM219, h⟩ := bm_i h
        refine a_putI (k := 4) hB e_L_advance_219 fw_L_25 (sf_lt hF (by decide)) kk_2 tt_2_4 ?_
        refine a_mem hM219 ?_
        refine a_goto (tgt := 157) hB e_L_advance_222 (by decide) ?_
        exact hr157 _ h
set_option maxRecDepth 100000 in
theorem t_L_advance_245 {G : Gt} {φ : Ph} {B : Bag} (hB : BF G I_L_advance B) (hF : SF 134 φ)    {M9 : Mm} {t1 : Int32} {M : Mm} (h : f_L_advance_245 t1 M = some M9) : AW G I_L_advance B (QM G I_L_advance B (.inl none) M9 φ) 0 0 245 [(0, .ref 2)] [.int t1, .ref 2] M φ := by
  unfold f_L_advance_245 at h
  obtain ⟨M245, hM245, h⟩ := bm_i h
  refine a_putI (k := 2) hB e_L_advance_245 fw_L_34 (sf_lt hF (by decide)) kk_2 tt_2_2 ?_
  refine a_mem hM245 ?_
  refine a_aload_n (j := 0) hB e_L_advance_248 rfl rfl ?_
  refine a_dup hB e_L_advance_249 rfl ?_
  refine a_getI (k := 4) hB e_L_advance_250 fl_L_25 (sf_lt hF (by decide)) kk_2 tt_2_4 ?_
  refine a_iconst (v := 1) hB e_L_advance_253 ic_1 ?_
  refine a_iadd hB e_L_advance_254 ?_
  obtain ⟨M255, hM255, h⟩ := bm_i h
  refine a_putI (k := 4) hB e_L_advance_255 fw_L_25 (sf_lt hF (by decide)) kk_2 tt_2_4 ?_
  refine a_mem hM255 ?_
  refine a_ls [] (ls' := []) rfl ?_
  exact t_L_advance_258 hB hF h
set_option maxRecDepth 100000 in
theorem t_L_advance_93 {G : Gt} {φ : Ph} {B : Bag} (hB : BF G I_L_advance B) (hF : SF 134 φ)    {M9 : Mm} : ∀ (n : Nat)  (M : Mm), f_L_advance_93 n M = some M9 → AW G I_L_advance B (QM G I_L_advance B (.inl none) M9 φ) 0 0 93 [(0, .ref 2)] [] M φ := by
  intro n
  induction n with
  | zero => intro M h; cases h
  | succ n hr93 =>
    intro M h
    rw [f_L_advance_93] at h
    refine a_aload_n (j := 0) hB e_L_advance_93 rfl rfl ?_
    refine a_getI (k := 4) hB e_L_advance_94 fl_L_25 (sf_lt hF (by decide)) kk_2 tt_2_4 ?_
    refine a_aload_n (j := 0) hB e_L_advance_97 rfl rfl ?_
    refine a_getI (k := 1) hB e_L_advance_98 fl_L_21 (sf_lt hF (by decide)) kk_2 tt_2_1 ?_
    refine a_icmp_ge (tgt := 258) hB e_L_advance_101 (by decide) (fun c => ?_) (fun c => ?_)
    · have h := ip c h
      refine a_ls [] (ls' := []) rfl ?_
      exact t_L_advance_258 hB hF h
    · have h := iq c h
      refine a_aload_n (j := 0) hB e_L_advance_104 rfl rfl ?_
      refine a_getR (r := 3) (k := 0) hB e_L_advance_105 fl_L_9 (sf_lt hF (by decide)) kk_2 tt_2_0 (hF.1 _ _) ?_
      refine a_aload_n (j := 0) hB e_L_advance_108 rfl rfl ?_
      refine a_getI (k := 4) hB e_L_advance_109 fl_L_25 (sf_lt hF (by decide)) kk_2 tt_2_4 ?_
      obtain ⟨c112, h⟩ := chk_i h
      refine a_bald' hB e_L_advance_112 (sf_lt hF (by decide)) kk_3 ll_3 c112 ?_
      obtain ⟨r113, hr113, h⟩ := bn_i h
      refine a_ret (v := (some (.int r113))) (M1 := M) (φ1 := φ) (st1 := [.int r113]) (j1 := 0) (j2 := 0) (ar_SN (As := [.int (M 3 (ix (M 2 4)))]) (rest := []) hB (c_C_isLetter (bf_G hB) hF hr113) mn_L_37 md_C_isLetter rfl rfl (Nat.le_of_ble_eq_true rfl) rm_L_advance_C_isLetter e_L_advance_113) rfl rfl rfl ?_
      refine a_if_eq (tgt := 258) hB e_L_advance_116 (by decide) (fun c => ?_) (fun c => ?_)
      · have h := ip c h
        refine a_ls [] (ls' := []) rfl ?_
        exact t_L_advance_258 hB hF h
      · have h := iq c h
        refine a_aload_n (j := 0) hB e_L_advance_119 rfl rfl ?_
        refine a_dup hB e_L_advance_120 rfl ?_
        refine a_getI (k := 4) hB e_L_advance_121 fl_L_25 (sf_lt hF (by decide)) kk_2 tt_2_4 ?_
        refine a_iconst (v := 1) hB e_L_advance_124 ic_1 ?_
        refine a_iadd hB e_L_advance_125 ?_
        obtain ⟨M126, hM126, h⟩ := bm_i h
        refine a_putI (k := 4) hB e_L_advance_126 fw_L_25 (sf_lt hF (by decide)) kk_2 tt_2_4 ?_
        refine a_mem hM126 ?_
        refine a_goto (tgt := 93) hB e_L_advance_129 (by decide) ?_
        exact hr93 _ h
set_option maxRecDepth 100000 in
theorem t_L_advance_46 {G : Gt} {φ : Ph} {B : Bag} (hB : BF G I_L_advance B) (hF : SF 134 φ)    {M9 : Mm}  {M : Mm} (h : f_L_advance_46 M = some M9) : AW G I_L_advance B (QM G I_L_advance B (.inl none) M9 φ) 0 0 46 [(0, .ref 2)] [] M φ := by
  unfold f_L_advance_46 at h
  refine a_aload_n (j := 0) hB e_L_advance_46 rfl rfl ?_
  refine a_aload_n (j := 0) hB e_L_advance_47 rfl rfl ?_
  refine a_getI (k := 3) hB e_L_advance_48 fl_L_31 (sf_lt hF (by decide)) kk_2 tt_2_3 ?_
  obtain ⟨M51, hM51, h⟩ := bm_i h
  refine a_putI (k := 4) hB e_L_advance_51 fw_L_25 (sf_lt hF (by decide)) kk_2 tt_2_4 ?_
  refine a_mem hM51 ?_
  refine a_aload_n (j := 0) hB e_L_advance_54 rfl rfl ?_
  refine a_getI (k := 3) hB e_L_advance_55 fl_L_31 (sf_lt hF (by decide)) kk_2 tt_2_3 ?_
  refine a_aload_n (j := 0) hB e_L_advance_58 rfl rfl ?_
  refine a_getI (k := 1) hB e_L_advance_59 fl_L_21 (sf_lt hF (by decide)) kk_2 tt_2_1 ?_
  refine a_icmp_lt (tgt := 73) hB e_L_advance_62 (by decide) (fun c => ?_) (fun c => ?_)
  · have h := ip c h
    refine a_aload_n (j := 0) hB e_L_advance_73 rfl rfl ?_
    refine a_getR (r := 3) (k := 0) hB e_L_advance_74 fl_L_9 (sf_lt hF (by decide)) kk_2 tt_2_0 (hF.1 _ _) ?_
    refine a_aload_n (j := 0) hB e_L_advance_77 rfl rfl ?_
    refine a_getI (k := 3) hB e_L_advance_78 fl_L_31 (sf_lt hF (by decide)) kk_2 tt_2_3 ?_
    obtain ⟨c81, h⟩ := chk_i h
    refine a_bald' hB e_L_advance_81 (sf_lt hF (by decide)) kk_3 ll_3 c81 ?_
    obtain ⟨r82, hr82, h⟩ := bn_i h
    refine a_ret (v := (some (.int r82))) (M1 := M51) (φ1 := φ) (st1 := [.int r82]) (j1 := 0) (j2 := 0) (ar_SN (As := [.int (M51 3 (ix (M51 2 3)))]) (rest := []) hB (c_C_isLetter (bf_G hB) hF hr82) mn_L_37 md_C_isLetter rfl rfl (Nat.le_of_ble_eq_true rfl) rm_L_advance_C_isLetter e_L_advance_82) rfl rfl rfl ?_
    refine a_if_eq (tgt := 132) hB e_L_advance_85 (by decide) (fun c => ?_) (fun c => ?_)
    · have h := ip c h
      refine a_aload_n (j := 0) hB e_L_advance_132 rfl rfl ?_
      refine a_getR (r := 3) (k := 0) hB e_L_advance_133 fl_L_9 (sf_lt hF (by decide)) kk_2 tt_2_0 (hF.1 _ _) ?_
      refine a_aload_n (j := 0) hB e_L_advance_136 rfl rfl ?_
      refine a_getI (k := 3) hB e_L_advance_137 fl_L_31 (sf_lt hF (by decide)) kk_2 tt_2_3 ?_
      refine a_bald' hB e_L_advance_140 (sf_lt hF (by decide)) kk_3 ll_3 c81 ?_
      obtain ⟨r141, hr141, h⟩ := bn_i h
      refine a_ret (v := (some (.int r141))) (M1 := M51) (φ1 := φ) (st1 := [.int r141]) (j1 := 0) (j2 := 0) (ar_SN (As := [.int (M51 3 (ix (M51 2 3)))]) (rest := []) hB (c_C_isDigit (bf_G hB) hF hr141) mn_L_41 md_C_isDigit rfl rfl (Nat.le_of_ble_eq_true rfl) rm_L_advance_C_isDigit e_L_advance_141) rfl rfl rfl ?_
      refine a_if_eq (tgt := 225) hB e_L_advance_144 (by decide) (fun c => ?_) (fun c => ?_)
      · have h := ip c h
        refine a_aload_n (j := 0) hB e_L_advance_225 rfl rfl ?_
        refine a_aload_n (j := 0) hB e_L_advance_226 rfl rfl ?_
        refine a_getR (r := 3) (k := 0) hB e_L_advance_227 fl_L_9 (sf_lt hF (by decide)) kk_2 tt_2_0 (hF.1 _ _) ?_
        refine a_aload_n (j := 0) hB e_L_advance_230 rfl rfl ?_
        refine a_getI (k := 3) hB e_L_advance_231 fl_L_31 (sf_lt hF (by decide)) kk_2 tt_2_3 ?_
        refine a_bald' hB e_L_advance_234 (sf_lt hF (by decide)) kk_3 ll_3 c81 ?_
        refine a_bipush (v := 59) hB e_L_advance_235 bp_59 ?_
        refine a_icmp_ne (tgt := 244) hB e_L_advance_237 (by decide) (fun c => ?_) (fun c => ?_)
        · have h := iq c h
          refine a_iconst (v := 4) hB e_L_advance_244 ic_4 ?_
          exact t_L_advance_245 hB hF h
        · have h := ip c h
          refine a_iconst (v := 3) hB e_L_advance_240 ic_3 ?_
          refine a_goto (tgt := 245) hB e_L_advance_241 (by decide) ?_
          exact t_L_advance_245 hB hF h
      · have h := iq c h
        refine a_aload_n (j := 0) hB e_L_advance_147 rfl rfl ?_
        refine a_iconst (v := 2) hB e_L_advance_148 ic_2 ?_
        obtain ⟨M149, hM149, h⟩ := bm_i h
        refine a_putI (k := 2) hB e_L_advance_149 fw_L_34 (sf_lt hF (by decide)) kk_2 tt_2_2 ?_
        refine a_mem hM149 ?_
        refine a_aload_n (j := 0) hB e_L_advance_152 rfl rfl ?_
        refine a_iconst (v := 0) hB e_L_advance_153 ic_0 ?_
        obtain ⟨M154, hM154, h⟩ := bm_i h
        refine a_putI (k := 5) hB e_L_advance_154 fw_L_44 (sf_lt hF (by decide)) kk_2 tt_2_5 ?_
        refine a_mem hM154 ?_
        exact t_L_advance_157 hB hF _ _ h
    · have h := iq c h
      refine a_aload_n (j := 0) hB e_L_advance_88 rfl rfl ?_
      refine a_iconst (v := 1) hB e_L_advance_89 ic_1 ?_
      obtain ⟨M90, hM90, h⟩ := bm_i h
      refine a_putI (k := 2) hB e_L_advance_90 fw_L_34 (sf_lt hF (by decide)) kk_2 tt_2_2 ?_
      refine a_mem hM90 ?_
      exact t_L_advance_93 hB hF _ _ h
  · have h := iq c h
    refine a_aload_n (j := 0) hB e_L_advance_65 rfl rfl ?_
    refine a_iconst (v := 0) hB e_L_advance_66 ic_0 ?_
    obtain ⟨M67, hM67, h⟩ := bm_i h
    refine a_putI (k := 2) hB e_L_advance_67 fw_L_34 (sf_lt hF (by decide)) kk_2 tt_2_2 ?_
    refine a_mem hM67 ?_
    refine a_goto (tgt := 258) hB e_L_advance_70 (by decide) ?_
    refine a_ls [] (ls' := []) rfl ?_
    exact t_L_advance_258 hB hF h
set_option maxRecDepth 100000 in
theorem t_L_advance_8 {G : Gt} {φ : Ph} {B : Bag} (hB : BF G I_L_advance B) (hF : SF 134 φ)    {M9 : Mm} : ∀ (n : Nat)  (M : Mm), f_L_advance_8 n M = some M9 → AW G I_L_advance B (QM G I_L_advance B (.inl none) M9 φ) 0 0 8 [(0, .ref 2)] [] M φ := by
  intro n
  induction n with
  | zero => intro M h; cases h
  | succ n hr8 =>
    intro M h
    rw [f_L_advance_8] at h
    refine a_aload_n (j := 0) hB e_L_advance_8 rfl rfl ?_
    refine a_getI (k := 3) hB e_L_advance_9 fl_L_31 (sf_lt hF (by decide)) kk_2 tt_2_3 ?_
    refine a_aload_n (j := 0) hB e_L_advance_12 rfl rfl ?_
    refine a_getI (k := 1) hB e_L_advance_13 fl_L_21 (sf_lt hF (by decide)) kk_2 tt_2_1 ?_
    refine a_icmp_ge (tgt := 46) hB e_L_advance_16 (by decide) (fun c => ?_) (fun c => ?_)
    · have h := ip c h
      exact t_L_advance_46 hB hF h
    · have h := iq c h
      refine a_aload_n (j := 0) hB e_L_advance_19 rfl rfl ?_
      refine a_getR (r := 3) (k := 0) hB e_L_advance_20 fl_L_9 (sf_lt hF (by decide)) kk_2 tt_2_0 (hF.1 _ _) ?_
      refine a_aload_n (j := 0) hB e_L_advance_23 rfl rfl ?_
      refine a_getI (k := 3) hB e_L_advance_24 fl_L_31 (sf_lt hF (by decide)) kk_2 tt_2_3 ?_
      obtain ⟨c27, h⟩ := chk_i h
      refine a_bald' hB e_L_advance_27 (sf_lt hF (by decide)) kk_3 ll_3 c27 ?_
      refine a_bipush (v := 32) hB e_L_advance_28 bp_32 ?_
      refine a_icmp_ne (tgt := 46) hB e_L_advance_30 (by decide) (fun c => ?_) (fun c => ?_)
      · have h := iq c h
        exact t_L_advance_46 hB hF h
      · have h := ip c h
        refine a_aload_n (j := 0) hB e_L_advance_33 rfl rfl ?_
        refine a_dup hB e_L_advance_34 rfl ?_
        refine a_getI (k := 3) hB e_L_advance_35 fl_L_31 (sf_lt hF (by decide)) kk_2 tt_2_3 ?_
        refine a_iconst (v := 1) hB e_L_advance_38 ic_1 ?_
        refine a_iadd hB e_L_advance_39 ?_
        obtain ⟨M40, hM40, h⟩ := bm_i h
        refine a_putI (k := 3) hB e_L_advance_40 fw_L_31 (sf_lt hF (by decide)) kk_2 tt_2_3 ?_
        refine a_mem hM40 ?_
        refine a_goto (tgt := 8) hB e_L_advance_43 (by decide) ?_
        exact hr8 _ h
set_option maxRecDepth 100000 in
theorem t_L_advance {G : Gt} {φ : Ph} {B : Bag} (hB : BF G I_L_advance B) (hF : SF 134 φ)    {M9 : Mm}  {M : Mm} (h : f_L_advance M = some M9) : AW G I_L_advance B (QM G I_L_advance B (.inl none) M9 φ) 0 0 0 [(0, .ref 2)] [] M φ := by
  unfold f_L_advance at h
  refine a_aload_n (j := 0) hB e_L_advance_0 rfl rfl ?_
  refine a_aload_n (j := 0) hB e_L_advance_1 rfl rfl ?_
  refine a_getI (k := 4) hB e_L_advance_2 fl_L_25 (sf_lt hF (by decide)) kk_2 tt_2_4 ?_
  obtain ⟨M5, hM5, h⟩ := bm_i h
  refine a_putI (k := 3) hB e_L_advance_5 fw_L_31 (sf_lt hF (by decide)) kk_2 tt_2_3 ?_
  refine a_mem hM5 ?_
  exact t_L_advance_8 hB hF _ _ h
set_option maxRecDepth 100000 in
theorem c_L_advance {G : Gt} (hG : GOK G) {φ : Ph} (hF : SF 134 φ)   {M : Mm}  {M9 : Mm} (h : f_L_advance M = some M9) : CT G I_L_advance [.ref 2] M φ (.inl none) M9 φ :=
  ct_of hG (by decide) (Nat.le_of_ble_eq_true rfl) (fun B hB => t_L_advance hB hF  h)
set_option maxRecDepth 100000 in
theorem t_L_begin {G : Gt} {φ : Ph} {B : Bag} (hB : BF G I_L_begin B) (hF : SF 134 φ)    {M9 : Mm} {l1 : Int32} {M : Mm} (h : f_L_begin l1 M = some M9) : AW G I_L_begin B (QM G I_L_begin B (.inl none) M9 φ) 0 0 0 [(0, .ref 2), (1, .int l1)] [] M φ := by
  unfold f_L_begin at h
  refine a_aload_n (j := 0) hB e_L_begin_0 rfl rfl ?_
  refine a_iload_n (j := 1) hB e_L_begin_1 rfl rfl ?_
  refine a_aload_n (j := 0) hB e_L_begin_2 rfl rfl ?_
  refine a_getR (r := 3) (k := 0) hB e_L_begin_3 fl_L_9 (sf_lt hF (by decide)) kk_2 tt_2_0 (hF.1 _ _) ?_
  refine a_alen (v := 900) (t := 11) hB e_L_begin_6 (sf_lt hF (by decide)) kk_3 (by decide) ll_3 rfl ?_
  refine a_min hB ml_L_15 ms_min ini_math mc_min (by decide) (Nat.le_of_ble_eq_true rfl) (by decide) (by decide) e_L_begin_7 ?_
  obtain ⟨M10, hM10, h⟩ := bm_i h
  refine a_putI (k := 1) hB e_L_begin_10 fw_L_21 (sf_lt hF (by decide)) kk_2 tt_2_1 ?_
  refine a_mem hM10 ?_
  refine a_aload_n (j := 0) hB e_L_begin_13 rfl rfl ?_
  refine a_iconst (v := 0) hB e_L_begin_14 ic_0 ?_
  obtain ⟨M15, hM15, h⟩ := bm_i h
  refine a_putI (k := 4) hB e_L_begin_15 fw_L_25 (sf_lt hF (by decide)) kk_2 tt_2_4 ?_
  refine a_mem hM15 ?_
  refine a_aload_n (j := 0) hB e_L_begin_18 rfl rfl ?_
  obtain ⟨M19, hr19, h⟩ := bn_i h
  refine a_ret (v := none) (M1 := M19) (φ1 := φ) (st1 := []) (j1 := 0) (j2 := 0) (ar_V (As := []) (rest := []) hB (c_L_advance (bf_G hB) hF hr19) ml_L_28 md_L_advance rc_L_advance (sf_lt hF (by decide)) kk_2 rfl rfl (Nat.le_of_ble_eq_true rfl) rm_L_begin_L_advance e_L_begin_19) rfl rfl rfl ?_
  cases h
  exact a_vret hB rfl e_L_begin_22 (by decide) (by decide)
set_option maxRecDepth 100000 in
theorem c_L_begin {G : Gt} (hG : GOK G) {φ : Ph} (hF : SF 134 φ)   {M : Mm} {l1 : Int32} {M9 : Mm} (h : f_L_begin l1 M = some M9) : CT G I_L_begin [.ref 2, .int l1] M φ (.inl none) M9 φ :=
  ct_of hG (by decide) (Nat.le_of_ble_eq_true rfl) (fun B hB => t_L_begin hB hF  h)
set_option maxRecDepth 100000 in
theorem t_I_begin {G : Gt} {φ : Ph} {B : Bag} (hB : BF G I_I_begin B) (hF : SF 134 φ)    {M9 : Mm} {l1 : Int32} {M : Mm} (h : f_I_begin l1 M = some M9) : AW G I_I_begin B (QM G I_I_begin B (.inl none) M9 φ) 0 0 0 [(0, .ref 1), (1, .int l1)] [] M φ := by
  unfold f_I_begin at h
  refine a_aload_n (j := 0) hB e_I_begin_0 rfl rfl ?_
  refine a_iconst (v := 0) hB e_I_begin_1 ic_0 ?_
  obtain ⟨M2, hM2, h⟩ := bm_i h
  refine a_putI (k := 3) hB e_I_begin_2 fw_I_29 (sf_lt hF (by decide)) kk_1 tt_1_3 ?_
  refine a_mem hM2 ?_
  refine a_aload_n (j := 0) hB e_I_begin_5 rfl rfl ?_
  refine a_iconst (v := -1) hB e_I_begin_6 ic_m1 ?_
  obtain ⟨M7, hM7, h⟩ := bm_i h
  refine a_putI (k := 4) hB e_I_begin_7 fw_I_25 (sf_lt hF (by decide)) kk_1 tt_1_4 ?_
  refine a_mem hM7 ?_
  refine a_aload_n (j := 0) hB e_I_begin_10 rfl rfl ?_
  refine a_getR (r := 2) (k := 0) hB e_I_begin_11 fl_I_12 (sf_lt hF (by decide)) kk_1 tt_1_0 (hF.1 _ _) ?_
  refine a_iload_n (j := 1) hB e_I_begin_14 rfl rfl ?_
  obtain ⟨M15, hr15, h⟩ := bn_i h
  refine a_ret (v := none) (M1 := M15) (φ1 := φ) (st1 := []) (j1 := 0) (j2 := 0) (ar_V (As := [.int l1]) (rest := []) hB (c_L_begin (bf_G hB) hF hr15) ml_I_32 md_L_begin rc_L_begin (sf_lt hF (by decide)) kk_2 rfl rfl (Nat.le_of_ble_eq_true rfl) rm_I_begin_L_begin e_I_begin_15) rfl rfl rfl ?_
  cases h
  exact a_vret hB rfl e_I_begin_18 (by decide) (by decide)
set_option maxRecDepth 100000 in
theorem c_I_begin {G : Gt} (hG : GOK G) {φ : Ph} (hF : SF 134 φ)   {M : Mm} {l1 : Int32} {M9 : Mm} (h : f_I_begin l1 M = some M9) : CT G I_I_begin [.ref 1, .int l1] M φ (.inl none) M9 φ :=
  ct_of hG (by decide) (Nat.le_of_ble_eq_true rfl) (fun B hB => t_I_begin hB hF  h)
set_option maxRecDepth 100000 in
theorem t_I_fail {G : Gt} {φ : Ph} {B : Bag} (hB : BF G I_I_fail B) (hF : SF 134 φ)    {o : Int32} {M9 : Mm} {l1 : Int32} {M : Mm} (h : f_I_fail l1 M = some (o, M9)) : AW G I_I_fail B (QM G I_I_fail B (.inl (some (.int o))) M9 φ) 0 0 0 [(0, .ref 1), (1, .int l1)] [] M φ := by
  unfold f_I_fail at h
  refine a_aload_n (j := 0) hB e_I_fail_0 rfl rfl ?_
  refine a_iload_n (j := 1) hB e_I_fail_1 rfl rfl ?_
  obtain ⟨M2, hM2, h⟩ := bm_i h
  refine a_putI (k := 3) hB e_I_fail_2 fw_I_29 (sf_lt hF (by decide)) kk_1 tt_1_3 ?_
  refine a_mem hM2 ?_
  refine a_aload_n (j := 0) hB e_I_fail_5 rfl rfl ?_
  refine a_aload_n (j := 0) hB e_I_fail_6 rfl rfl ?_
  refine a_getR (r := 2) (k := 0) hB e_I_fail_7 fl_I_12 (sf_lt hF (by decide)) kk_1 tt_1_0 (hF.1 _ _) ?_
  refine a_getI (k := 3) hB e_I_fail_10 fl_I_36 (sf_lt hF (by decide)) kk_2 tt_2_3 ?_
  obtain ⟨M13, hM13, h⟩ := bm_i h
  refine a_putI (k := 4) hB e_I_fail_13 fw_I_25 (sf_lt hF (by decide)) kk_1 tt_1_4 ?_
  refine a_mem hM13 ?_
  refine a_iconst (v := 0) hB e_I_fail_16 ic_0 ?_
  cases h
  exact a_zret hB rfl (Or.inl rfl) e_I_fail_17 (by decide) (by decide)
set_option maxRecDepth 100000 in
theorem c_I_fail {G : Gt} (hG : GOK G) {φ : Ph} (hF : SF 134 φ)   {M : Mm} {l1 : Int32} {o : Int32} {M9 : Mm} (h : f_I_fail l1 M = some (o, M9)) : CT G I_I_fail [.ref 1, .int l1] M φ (.inl (some (.int o))) M9 φ :=
  ct_of hG (by decide) (Nat.le_of_ble_eq_true rfl) (fun B hB => t_I_fail hB hF  h)
set_option maxRecDepth 100000 in
theorem t_S_clear {G : Gt} {φ : Ph} {B : Bag} (hB : BF G I_S_clear B) (hF : SF 134 φ) {a : Nat} (hs_a : isSv a)  {M9 : Mm}  {M : Mm} (h : f_S_clear a M = some M9) : AW G I_S_clear B (QM G I_S_clear B (.inl none) M9 φ) 0 0 0 [(0, .ref a)] [] M φ := by
  unfold f_S_clear at h
  refine a_aload_n (j := 0) hB e_S_clear_0 rfl rfl ?_
  refine a_iconst (v := 0) hB e_S_clear_1 ic_0 ?_
  obtain ⟨M2, hM2, h⟩ := bm_i h
  refine a_putI (k := 9) hB e_S_clear_2 fw_S_44 (sv_lt hs_a hF (by decide)) (sv_kd hs_a) (sv_t0 hs_a 0 (by decide)) ?_
  refine a_mem hM2 ?_
  refine a_aload_n (j := 0) hB e_S_clear_5 rfl rfl ?_
  refine a_iconst (v := 0) hB e_S_clear_6 ic_0 ?_
  obtain ⟨M7, hM7, h⟩ := bm_i h
  refine a_putZ (k := 12) hB e_S_clear_7 fw_S_47 (sv_lt hs_a hF (by decide)) (sv_kd hs_a) (sv_t0 hs_a 3 (by decide)) (Or.inl rfl) ?_
  refine a_mem hM7 ?_
  cases h
  exact a_vret hB rfl e_S_clear_10 (by decide) (by decide)
set_option maxRecDepth 100000 in
theorem c_S_clear {G : Gt} (hG : GOK G) {φ : Ph} (hF : SF 134 φ) {a : Nat} (hs_a : isSv a) {M : Mm}  {M9 : Mm} (h : f_S_clear a M = some M9) : CT G I_S_clear [.ref a] M φ (.inl none) M9 φ :=
  ct_of hG (by decide) (Nat.le_of_ble_eq_true rfl) (fun B hB => t_S_clear hB hF hs_a h)
set_option maxRecDepth 100000 in
theorem t_L_isAt_24 {G : Gt} {φ : Ph} {B : Bag} (hB : BF G I_L_isAt B) (hF : SF 134 φ) {w : Nat} (hw_w : w < 47) {M : Mm} {o : Int32}   (h : f_L_isAt_24 w M = some o) : AW G I_L_isAt B (QM G I_L_isAt B (.inl (some (.int o))) M φ) 0 0 24 [] [] M φ := by
  unfold f_L_isAt_24 at h
  refine a_iconst (v := 0) hB e_L_isAt_24 ic_0 ?_
  cases h
  exact a_zret hB rfl (Or.inl rfl) e_L_isAt_25 (by decide) (by decide)
set_option maxRecDepth 100000 in
theorem t_L_isAt_28 {G : Gt} {φ : Ph} {B : Bag} (hB : BF G I_L_isAt B) (hF : SF 134 φ) {w : Nat} (hw_w : w < 47) {M : Mm} {o : Int32} : ∀ (n : Nat) (l2 : Int32), f_L_isAt_28 w M n l2 = some o → AW G I_L_isAt B (QM G I_L_isAt B (.inl (some (.int o))) M φ) 0 0 28 [(0, .ref 2), (1, .ref (1000 + w)), (2, .int l2)] [] M φ := by
  intro n
  induction n with
  | zero => intro l2 h; cases h
  | succ n hr28 =>
    intro l2 h
    rw [f_L_isAt_28] at h
    refine a_iload_n (j := 2) hB e_L_isAt_28 rfl rfl ?_
    refine a_aload_n (j := 1) hB e_L_isAt_29 rfl rfl ?_
    obtain ⟨r30, hr30, h⟩ := bn_i h
    refine a_ret (v := (some (.int r30))) (M1 := M) (φ1 := φ) (st1 := [.int r30, .int l2]) (j1 := 0) (j2 := 0) (ar_VS (As := []) (rest := [.int l2]) hB hw_w rfl (c_U_length (bf_G hB) hw_w hr30) ml_L_48 md_U_length rfl rfl (Nat.le_of_ble_eq_true rfl) rm_L_isAt_U_length e_L_isAt_30) rfl rfl rfl ?_
    refine a_icmp_ge (tgt := 63) hB e_L_isAt_33 (by decide) (fun c => ?_) (fun c => ?_)
    · have h := ip c h
      refine a_iconst (v := 1) hB e_L_isAt_63 ic_1 ?_
      cases h
      exact a_zret hB rfl (Or.inr rfl) e_L_isAt_64 (by decide) (by decide)
    · have h := iq c h
      refine a_aload_n (j := 0) hB e_L_isAt_36 rfl rfl ?_
      refine a_getR (r := 3) (k := 0) hB e_L_isAt_37 fl_L_9 (sf_lt hF (by decide)) kk_2 tt_2_0 (hF.1 _ _) ?_
      refine a_aload_n (j := 0) hB e_L_isAt_40 rfl rfl ?_
      refine a_getI (k := 3) hB e_L_isAt_41 fl_L_31 (sf_lt hF (by decide)) kk_2 tt_2_3 ?_
      refine a_iload_n (j := 2) hB e_L_isAt_44 rfl rfl ?_
      refine a_iadd hB e_L_isAt_45 ?_
      obtain ⟨c46, h⟩ := chk_i h
      refine a_bald' hB e_L_isAt_46 (sf_lt hF (by decide)) kk_3 ll_3 c46 ?_
      refine a_aload_n (j := 1) hB e_L_isAt_47 rfl rfl ?_
      refine a_iload_n (j := 2) hB e_L_isAt_48 rfl rfl ?_
      obtain ⟨r49, hr49, h⟩ := bn_i h
      refine a_ret (v := (some (.int r49))) (M1 := M) (φ1 := φ) (st1 := [.int r49, .int (M 3 (ix ((M 2 3) + l2)))]) (j1 := 0) (j2 := 0) (ar_VS (As := [.int l2]) (rest := [.int (M 3 (ix ((M 2 3) + l2)))]) hB hw_w rfl (c_U_charAt (bf_G hB) hw_w hr49) ml_L_53 md_U_charAt rfl rfl (Nat.le_of_ble_eq_true rfl) rm_L_isAt_U_charAt e_L_isAt_49) rfl rfl rfl ?_
      refine a_icmp_eq (tgt := 57) hB e_L_isAt_52 (by decide) (fun c => ?_) (fun c => ?_)
      · have h := ip c h
        refine a_iinc (j := 2) (v := l2 + 1) (ls' := [(2, .int (l2 + 1)), (0, .ref 2), (1, .ref (1000 + w))]) hB e_L_isAt_57 rfl (inc_1 _) (Nat.le_of_ble_eq_true rfl) rfl ?_
        refine a_goto (tgt := 28) hB e_L_isAt_60 (by decide) ?_
        refine a_ls [1, 2, 0] (ls' := [(0, .ref 2), (1, .ref (1000 + w)), (2, .int (l2 + 1))]) rfl ?_
        exact hr28 _ h
      · have h := iq c h
        refine a_iconst (v := 0) hB e_L_isAt_55 ic_0 ?_
        cases h
        exact a_zret hB rfl (Or.inl rfl) e_L_isAt_56 (by decide) (by decide)
set_option maxRecDepth 100000 in
theorem t_L_isAt {G : Gt} {φ : Ph} {B : Bag} (hB : BF G I_L_isAt B) (hF : SF 134 φ) {w : Nat} (hw_w : w < 47) {M : Mm} {o : Int32}   (h : f_L_isAt w M = some o) : AW G I_L_isAt B (QM G I_L_isAt B (.inl (some (.int o))) M φ) 0 0 0 [(0, .ref 2), (1, .ref (1000 + w))] [] M φ := by
  unfold f_L_isAt at h
  refine a_aload_n (j := 0) hB e_L_isAt_0 rfl rfl ?_
  refine a_getI (k := 2) hB e_L_isAt_1 fl_L_34 (sf_lt hF (by decide)) kk_2 tt_2_2 ?_
  refine a_iconst (v := 1) hB e_L_isAt_4 ic_1 ?_
  refine a_icmp_ne (tgt := 24) hB e_L_isAt_5 (by decide) (fun c => ?_) (fun c => ?_)
  · have h := iq c h
    refine a_ls [] (ls' := []) rfl ?_
    exact t_L_isAt_24 hB hF hw_w h
  · have h := ip c h
    refine a_aload_n (j := 0) hB e_L_isAt_8 rfl rfl ?_
    refine a_getI (k := 4) hB e_L_isAt_9 fl_L_25 (sf_lt hF (by decide)) kk_2 tt_2_4 ?_
    refine a_aload_n (j := 0) hB e_L_isAt_12 rfl rfl ?_
    refine a_getI (k := 3) hB e_L_isAt_13 fl_L_31 (sf_lt hF (by decide)) kk_2 tt_2_3 ?_
    refine a_isub hB e_L_isAt_16 ?_
    refine a_aload_n (j := 1) hB e_L_isAt_17 rfl rfl ?_
    obtain ⟨r18, hr18, h⟩ := bn_i h
    refine a_ret (v := (some (.int r18))) (M1 := M) (φ1 := φ) (st1 := [.int r18, .int ((M 2 4) - (M 2 3))]) (j1 := 0) (j2 := 0) (ar_VS (As := []) (rest := [.int ((M 2 4) - (M 2 3))]) hB hw_w rfl (c_U_length (bf_G hB) hw_w hr18) ml_L_48 md_U_length rfl rfl (Nat.le_of_ble_eq_true rfl) rm_L_isAt_U_length e_L_isAt_18) rfl rfl rfl ?_
    refine a_icmp_eq (tgt := 26) hB e_L_isAt_21 (by decide) (fun c => ?_) (fun c => ?_)
    · have h := ip c h
      refine a_iconst (v := 0) hB e_L_isAt_26 ic_0 ?_
      refine a_istore_n (ls' := [(2, .int (0 : Int32)), (0, .ref 2), (1, .ref (1000 + w))]) hB e_L_isAt_27 rfl (Nat.le_of_ble_eq_true rfl) rfl ?_
      refine a_ls [1, 2, 0] (ls' := [(0, .ref 2), (1, .ref (1000 + w)), (2, .int (0 : Int32))]) rfl ?_
      exact t_L_isAt_28 hB hF hw_w _ _ h
    · have h := iq c h
      refine a_ls [] (ls' := []) rfl ?_
      exact t_L_isAt_24 hB hF hw_w h
set_option maxRecDepth 100000 in
theorem c_L_isAt {G : Gt} (hG : GOK G) {φ : Ph} (hF : SF 134 φ) {w : Nat} (hw_w : w < 47) {M : Mm}  {o : Int32} (h : f_L_isAt w M = some o) : CT G I_L_isAt [.ref 2, .ref (1000 + w)] M φ (.inl (some (.int o))) M φ :=
  ct_of hG (by decide) (Nat.le_of_ble_eq_true rfl) (fun B hB => t_L_isAt hB hF hw_w h)
set_option maxRecDepth 100000 in
theorem t_C_isBetween_15 {G : Gt} {φ : Ph} {B : Bag} (hB : BF G I_C_isBetween B) (hF : SF 134 φ)   {M : Mm} {o : Int32} {t0 : Int32}  (h : f_C_isBetween_15 t0 = some o) : AW G I_C_isBetween B (QM G I_C_isBetween B (.inl (some (.int o))) M φ) 0 0 15 [] [.int t0] M φ := by
  unfold f_C_isBetween_15 at h
  obtain ⟨z15, h⟩ := chk_i h
  cases h
  exact a_zret hB rfl z15 e_C_isBetween_15 (by decide) (by decide)
set_option maxRecDepth 100000 in
theorem t_C_isBetween_14 {G : Gt} {φ : Ph} {B : Bag} (hB : BF G I_C_isBetween B) (hF : SF 134 φ)   {M : Mm} {o : Int32}   (h : f_C_isBetween_14 = some o) : AW G I_C_isBetween B (QM G I_C_isBetween B (.inl (some (.int o))) M φ) 0 0 14 [] [] M φ := by
  unfold f_C_isBetween_14 at h
  refine a_iconst (v := 0) hB e_C_isBetween_14 ic_0 ?_
  exact t_C_isBetween_15 hB hF h
set_option maxRecDepth 100000 in
theorem t_C_isBetween {G : Gt} {φ : Ph} {B : Bag} (hB : BF G I_C_isBetween B) (hF : SF 134 φ)   {M : Mm} {o : Int32} {l0 : Int32} {l1 : Int32} {l2 : Int32}  (h : f_C_isBetween l0 l1 l2 = some o) : AW G I_C_isBetween B (QM G I_C_isBetween B (.inl (some (.int o))) M φ) 0 0 0 [(0, .int l0), (1, .int l1), (2, .int l2)] [] M φ := by
  unfold f_C_isBetween at h
  refine a_iload_n (j := 0) hB e_C_isBetween_0 rfl rfl ?_
  refine a_iload_n (j := 1) hB e_C_isBetween_1 rfl rfl ?_
  refine a_icmp_lt (tgt := 14) hB e_C_isBetween_2 (by decide) (fun c => ?_) (fun c => ?_)
  · have h := ip c h
    refine a_ls [] (ls' := []) rfl ?_
    exact t_C_isBetween_14 hB hF h
  · have h := iq c h
    refine a_iload_n (j := 0) hB e_C_isBetween_5 rfl rfl ?_
    refine a_iload_n (j := 2) hB e_C_isBetween_6 rfl rfl ?_
    refine a_icmp_gt (tgt := 14) hB e_C_isBetween_7 (by decide) (fun c => ?_) (fun c => ?_)
    · have h := ip c h
      refine a_ls [] (ls' := []) rfl ?_
      exact t_C_isBetween_14 hB hF h
    · have h := iq c h
      refine a_iconst (v := 1) hB e_C_isBetween_10 ic_1 ?_
      refine a_goto (tgt := 15) hB e_C_isBetween_11 (by decide) ?_
      refine a_ls [] (ls' := []) rfl ?_
      exact t_C_isBetween_15 hB hF h
set_option maxRecDepth 100000 in
theorem c_C_isBetween {G : Gt} (hG : GOK G) {φ : Ph} (hF : SF 134 φ)   {M : Mm} {l0 : Int32} {l1 : Int32} {l2 : Int32} {o : Int32} (h : f_C_isBetween l0 l1 l2 = some o) : CT G I_C_isBetween [.int l0, .int l1, .int l2] M φ (.inl (some (.int o))) M φ :=
  ct_of hG (by decide) (Nat.le_of_ble_eq_true rfl) (fun B hB => t_C_isBetween hB hF  h)
set_option maxRecDepth 100000 in
theorem t_I_numberHere {G : Gt} {φ : Ph} {B : Bag} (hB : BF G I_I_numberHere B) (hF : SF 134 φ)    {o : Int32} {M9 : Mm} {l1 : Int32} {l2 : Int32} {M : Mm} (h : f_I_numberHere l1 l2 M = some (o, M9)) : AW G I_I_numberHere B (QM G I_I_numberHere B (.inl (some (.int o))) M9 φ) 0 0 0 [(0, .ref 1), (1, .int l1), (2, .int l2)] [] M φ := by
  unfold f_I_numberHere at h
  refine a_aload_n (j := 0) hB e_I_numberHere_0 rfl rfl ?_
  refine a_getR (r := 2) (k := 0) hB e_I_numberHere_1 fl_I_12 (sf_lt hF (by decide)) kk_1 tt_1_0 (hF.1 _ _) ?_
  refine a_getI (k := 2) hB e_I_numberHere_4 fl_I_67 (sf_lt hF (by decide)) kk_2 tt_2_2 ?_
  refine a_iconst (v := 2) hB e_I_numberHere_7 ic_2 ?_
  refine a_icmp_eq (tgt := 19) hB e_I_numberHere_8 (by decide) (fun c => ?_) (fun c => ?_)
  · have h := ip c h
    refine a_aload_n (j := 0) hB e_I_numberHere_19 rfl rfl ?_
    refine a_getR (r := 2) (k := 0) hB e_I_numberHere_20 fl_I_12 (sf_lt hF (by decide)) kk_1 tt_1_0 (hF.1 _ _) ?_
    refine a_getI (k := 5) hB e_I_numberHere_23 fl_I_176 (sf_lt hF (by decide)) kk_2 tt_2_5 ?_
    refine a_istore_n (ls' := [(3, .int (M 2 5)), (0, .ref 1), (1, .int l1), (2, .int l2)]) hB e_I_numberHere_26 rfl (Nat.le_of_ble_eq_true rfl) rfl ?_
    refine a_iload_n (j := 0) hB e_I_numberHere_27 rfl rfl ?_
    refine a_iload_n (j := 2) hB e_I_numberHere_28 rfl rfl ?_
    refine a_iload_n (j := 3) hB e_I_numberHere_29 rfl rfl ?_
    obtain ⟨r30, hr30, h⟩ := bn_i h
    refine a_ret (v := (some (.int r30))) (M1 := M) (φ1 := φ) (st1 := [.int r30]) (j1 := 0) (j2 := 0) (ar_SN (As := [.int (M 2 5), .int l1, .int l2]) (rest := []) hB (c_C_isBetween (bf_G hB) hF hr30) mn_I_182 md_C_isBetween rfl rfl (Nat.le_of_ble_eq_true rfl) rm_I_numberHere_C_isBetween e_I_numberHere_30) rfl rfl rfl ?_
    refine a_if_ne (tgt := 44) hB e_I_numberHere_33 (by decide) (fun c => ?_) (fun c => ?_)
    · have h := iq c h
      refine a_aload_n (j := 1) hB e_I_numberHere_44 rfl rfl ?_
      refine a_getR (r := 2) (k := 0) hB e_I_numberHere_45 fl_I_12 (sf_lt hF (by decide)) kk_1 tt_1_0 (hF.1 _ _) ?_
      obtain ⟨M48, hr48, h⟩ := bn_i h
      refine a_ret (v := none) (M1 := M48) (φ1 := φ) (st1 := []) (j1 := 0) (j2 := 0) (ar_V (As := []) (rest := []) hB (c_L_advance (bf_G hB) hF hr48) ml_I_51 md_L_advance rc_L_advance (sf_lt hF (by decide)) kk_2 rfl rfl (Nat.le_of_ble_eq_true rfl) rm_I_numberHere_L_advance e_I_numberHere_48) rfl rfl rfl ?_
      refine a_iload_n (j := 0) hB e_I_numberHere_51 rfl rfl ?_
      cases h
      exact a_iret hB rfl e_I_numberHere_52 (by decide) (by decide)
    · have h := ip c h
      refine a_aload_n (j := 1) hB e_I_numberHere_36 rfl rfl ?_
      refine a_iconst (v := 2) hB e_I_numberHere_37 ic_2 ?_
      obtain ⟨r38, M38, hr38, h⟩ := bn2_i h
      refine a_ret (v := (some (.int r38))) (M1 := M38) (φ1 := φ) (st1 := [.int r38]) (j1 := 0) (j2 := 0) (ar_V (As := [.int (2 : Int32)]) (rest := []) hB (c_I_fail (bf_G hB) hF hr38) ml_I_47 md_I_fail rc_I_fail (sf_lt hF (by decide)) kk_1 rfl rfl (Nat.le_of_ble_eq_true rfl) rm_I_numberHere_I_fail e_I_numberHere_38) rfl rfl rfl ?_
      refine a_pop hB e_I_numberHere_41 rfl ?_
      refine a_iconst (v := -1) hB e_I_numberHere_42 ic_m1 ?_
      cases h
      exact a_iret hB rfl e_I_numberHere_43 (by decide) (by decide)
  · have h := iq c h
    refine a_aload_n (j := 0) hB e_I_numberHere_11 rfl rfl ?_
    refine a_iconst (v := 1) hB e_I_numberHere_12 ic_1 ?_
    obtain ⟨r13, M13, hr13, h⟩ := bn2_i h
    refine a_ret (v := (some (.int r13))) (M1 := M13) (φ1 := φ) (st1 := [.int r13]) (j1 := 0) (j2 := 0) (ar_V (As := [.int (1 : Int32)]) (rest := []) hB (c_I_fail (bf_G hB) hF hr13) ml_I_47 md_I_fail rc_I_fail (sf_lt hF (by decide)) kk_1 rfl rfl (Nat.le_of_ble_eq_true rfl) rm_I_numberHere_I_fail e_I_numberHere_13) rfl rfl rfl ?_
    refine a_pop hB e_I_numberHere_16 rfl ?_
    refine a_iconst (v := -1) hB e_I_numberHere_17 ic_m1 ?_
    cases h
    exact a_iret hB rfl e_I_numberHere_18 (by decide) (by decide)
set_option maxRecDepth 100000 in
theorem c_I_numberHere {G : Gt} (hG : GOK G) {φ : Ph} (hF : SF 134 φ)   {M : Mm} {l1 : Int32} {l2 : Int32} {o : Int32} {M9 : Mm} (h : f_I_numberHere l1 l2 M = some (o, M9)) : CT G I_I_numberHere [.ref 1, .int l1, .int l2] M φ (.inl (some (.int o))) M9 φ :=
  ct_of hG (by decide) (Nat.le_of_ble_eq_true rfl) (fun B hB => t_I_numberHere hB hF  h)
set_option maxRecDepth 100000 in
theorem t_I_readsWear {G : Gt} {φ : Ph} {B : Bag} (hB : BF G I_I_readsWear B) (hF : SF 134 φ)    {o : Int32} {M9 : Mm}  {M : Mm} (h : f_I_readsWear M = some (o, M9)) : AW G I_I_readsWear B (QM G I_I_readsWear B (.inl (some (.int o))) M9 φ) 0 0 0 [(0, .ref 1)] [] M φ := by
  unfold f_I_readsWear at h
  refine a_aload_n (j := 0) hB e_I_readsWear_0 rfl rfl ?_
  refine a_iconst (v := 0) hB e_I_readsWear_1 ic_0 ?_
  refine a_sipush (v := 999) hB e_I_readsWear_2 sp_999 ?_
  obtain ⟨r5, M5, hr5, h⟩ := bn2_i h
  refine a_ret (v := (some (.int r5))) (M1 := M5) (φ1 := φ) (st1 := [.int r5]) (j1 := 0) (j2 := 0) (ar_V (As := [.int (0 : Int32), .int (999 : Int32)]) (rest := []) hB (c_I_numberHere (bf_G hB) hF hr5) ml_I_114 md_I_numberHere rc_I_numberHere (sf_lt hF (by decide)) kk_1 rfl rfl (Nat.le_of_ble_eq_true rfl) rm_I_readsWear_I_numberHere e_I_readsWear_5) rfl rfl rfl ?_
  refine a_istore_n (ls' := [(1, .int r5), (0, .ref 1)]) hB e_I_readsWear_8 rfl (Nat.le_of_ble_eq_true rfl) rfl ?_
  refine a_iload_n (j := 0) hB e_I_readsWear_9 rfl rfl ?_
  refine a_iconst (v := -1) hB e_I_readsWear_10 ic_m1 ?_
  refine a_icmp_ne (tgt := 16) hB e_I_readsWear_11 (by decide) (fun c => ?_) (fun c => ?_)
  · have h := iq c h
    refine a_aload_n (j := 1) hB e_I_readsWear_16 rfl rfl ?_
    refine a_getR (r := 4) (k := 1) hB e_I_readsWear_17 fl_I_21 (sf_lt hF (by decide)) kk_1 tt_1_1 (hF.1 _ _) ?_
    refine a_iload_n (j := 0) hB e_I_readsWear_20 rfl rfl ?_
    obtain ⟨M21, hM21, h⟩ := bm_i h
    refine a_putI (k := 10) hB e_I_readsWear_21 fw_I_147 (sf_lt hF (by decide)) kk_4 tt_4_10 ?_
    refine a_mem hM21 ?_
    refine a_iconst (v := 1) hB e_I_readsWear_24 ic_1 ?_
    cases h
    exact a_zret hB rfl (Or.inr rfl) e_I_readsWear_25 (by decide) (by decide)
  · have h := ip c h
    refine a_iconst (v := 0) hB e_I_readsWear_14 ic_0 ?_
    cases h
    exact a_zret hB rfl (Or.inl rfl) e_I_readsWear_15 (by decide) (by decide)
set_option maxRecDepth 100000 in
theorem c_I_readsWear {G : Gt} (hG : GOK G) {φ : Ph} (hF : SF 134 φ)   {M : Mm}  {o : Int32} {M9 : Mm} (h : f_I_readsWear M = some (o, M9)) : CT G I_I_readsWear [.ref 1] M φ (.inl (some (.int o))) M9 φ :=
  ct_of hG (by decide) (Nat.le_of_ble_eq_true rfl) (fun B hB => t_I_readsWear hB hF  h)
set_option maxRecDepth 100000 in
theorem t_I_readsPace {G : Gt} {φ : Ph} {B : Bag} (hB : BF G I_I_readsPace B) (hF : SF 134 φ)    {o : Int32} {M9 : Mm}  {M : Mm} (h : f_I_readsPace M = some (o, M9)) : AW G I_I_readsPace B (QM G I_I_readsPace B (.inl (some (.int o))) M9 φ) 0 0 0 [(0, .ref 1)] [] M φ := by
  unfold f_I_readsPace at h
  refine a_aload_n (j := 0) hB e_I_readsPace_0 rfl rfl ?_
  refine a_bipush (v := 100) hB e_I_readsPace_1 bp_100 ?_
  refine a_sipush (v := 999) hB e_I_readsPace_3 sp_999 ?_
  obtain ⟨r6, M6, hr6, h⟩ := bn2_i h
  refine a_ret (v := (some (.int r6))) (M1 := M6) (φ1 := φ) (st1 := [.int r6]) (j1 := 0) (j2 := 0) (ar_V (As := [.int (100 : Int32), .int (999 : Int32)]) (rest := []) hB (c_I_numberHere (bf_G hB) hF hr6) ml_I_114 md_I_numberHere rc_I_numberHere (sf_lt hF (by decide)) kk_1 rfl rfl (Nat.le_of_ble_eq_true rfl) rm_I_readsPace_I_numberHere e_I_readsPace_6) rfl rfl rfl ?_
  refine a_istore_n (ls' := [(1, .int r6), (0, .ref 1)]) hB e_I_readsPace_9 rfl (Nat.le_of_ble_eq_true rfl) rfl ?_
  refine a_iload_n (j := 0) hB e_I_readsPace_10 rfl rfl ?_
  refine a_iconst (v := -1) hB e_I_readsPace_11 ic_m1 ?_
  refine a_icmp_ne (tgt := 17) hB e_I_readsPace_12 (by decide) (fun c => ?_) (fun c => ?_)
  · have h := iq c h
    refine a_aload_n (j := 1) hB e_I_readsPace_17 rfl rfl ?_
    refine a_getR (r := 4) (k := 1) hB e_I_readsPace_18 fl_I_21 (sf_lt hF (by decide)) kk_1 tt_1_1 (hF.1 _ _) ?_
    refine a_iload_n (j := 0) hB e_I_readsPace_21 rfl rfl ?_
    obtain ⟨M22, hM22, h⟩ := bm_i h
    refine a_putI (k := 11) hB e_I_readsPace_22 fw_I_149 (sf_lt hF (by decide)) kk_4 tt_4_11 ?_
    refine a_mem hM22 ?_
    refine a_iconst (v := 1) hB e_I_readsPace_25 ic_1 ?_
    cases h
    exact a_zret hB rfl (Or.inr rfl) e_I_readsPace_26 (by decide) (by decide)
  · have h := ip c h
    refine a_iconst (v := 0) hB e_I_readsPace_15 ic_0 ?_
    cases h
    exact a_zret hB rfl (Or.inl rfl) e_I_readsPace_16 (by decide) (by decide)
set_option maxRecDepth 100000 in
theorem c_I_readsPace {G : Gt} (hG : GOK G) {φ : Ph} (hF : SF 134 φ)   {M : Mm}  {o : Int32} {M9 : Mm} (h : f_I_readsPace M = some (o, M9)) : CT G I_I_readsPace [.ref 1] M φ (.inl (some (.int o))) M9 φ :=
  ct_of hG (by decide) (Nat.le_of_ble_eq_true rfl) (fun B hB => t_I_readsPace hB hF  h)
set_option maxRecDepth 100000 in
theorem t_I_readsSemicolon {G : Gt} {φ : Ph} {B : Bag} (hB : BF G I_I_readsSemicolon B) (hF : SF 134 φ)    {o : Int32} {M9 : Mm}  {M : Mm} (h : f_I_readsSemicolon M = some (o, M9)) : AW G I_I_readsSemicolon B (QM G I_I_readsSemicolon B (.inl (some (.int o))) M9 φ) 0 0 0 [(0, .ref 1)] [] M φ := by
  unfold f_I_readsSemicolon at h
  refine a_aload_n (j := 0) hB e_I_readsSemicolon_0 rfl rfl ?_
  refine a_getR (r := 2) (k := 0) hB e_I_readsSemicolon_1 fl_I_12 (sf_lt hF (by decide)) kk_1 tt_1_0 (hF.1 _ _) ?_
  refine a_getI (k := 2) hB e_I_readsSemicolon_4 fl_I_67 (sf_lt hF (by decide)) kk_2 tt_2_2 ?_
  refine a_iconst (v := 3) hB e_I_readsSemicolon_7 ic_3 ?_
  refine a_icmp_eq (tgt := 17) hB e_I_readsSemicolon_8 (by decide) (fun c => ?_) (fun c => ?_)
  · have h := ip c h
    refine a_aload_n (j := 0) hB e_I_readsSemicolon_17 rfl rfl ?_
    refine a_getR (r := 2) (k := 0) hB e_I_readsSemicolon_18 fl_I_12 (sf_lt hF (by decide)) kk_1 tt_1_0 (hF.1 _ _) ?_
    obtain ⟨M21, hr21, h⟩ := bn_i h
    refine a_ret (v := none) (M1 := M21) (φ1 := φ) (st1 := []) (j1 := 0) (j2 := 0) (ar_V (As := []) (rest := []) hB (c_L_advance (bf_G hB) hF hr21) ml_I_51 md_L_advance rc_L_advance (sf_lt hF (by decide)) kk_2 rfl rfl (Nat.le_of_ble_eq_true rfl) rm_I_readsSemicolon_L_advance e_I_readsSemicolon_21) rfl rfl rfl ?_
    refine a_iconst (v := 1) hB e_I_readsSemicolon_24 ic_1 ?_
    cases h
    exact a_zret hB rfl (Or.inr rfl) e_I_readsSemicolon_25 (by decide) (by decide)
  · have h := iq c h
    refine a_aload_n (j := 0) hB e_I_readsSemicolon_11 rfl rfl ?_
    refine a_iconst (v := 1) hB e_I_readsSemicolon_12 ic_1 ?_
    obtain ⟨r13, M13, hr13, h⟩ := bn2_i h
    refine a_ret (v := (some (.int r13))) (M1 := M13) (φ1 := φ) (st1 := [.int r13]) (j1 := 0) (j2 := 0) (ar_V (As := [.int (1 : Int32)]) (rest := []) hB (c_I_fail (bf_G hB) hF hr13) ml_I_47 md_I_fail rc_I_fail (sf_lt hF (by decide)) kk_1 rfl rfl (Nat.le_of_ble_eq_true rfl) rm_I_readsSemicolon_I_fail e_I_readsSemicolon_13) rfl rfl rfl ?_
    obtain ⟨z16, h⟩ := chk_i h
    cases h
    exact a_zret hB rfl z16 e_I_readsSemicolon_16 (by decide) (by decide)
set_option maxRecDepth 100000 in
theorem c_I_readsSemicolon {G : Gt} (hG : GOK G) {φ : Ph} (hF : SF 134 φ)   {M : Mm}  {o : Int32} {M9 : Mm} (h : f_I_readsSemicolon M = some (o, M9)) : CT G I_I_readsSemicolon [.ref 1] M φ (.inl (some (.int o))) M9 φ :=
  ct_of hG (by decide) (Nat.le_of_ble_eq_true rfl) (fun B hB => t_I_readsSemicolon hB hF  h)
set_option maxRecDepth 100000 in
theorem t_I_readsHead_58 {G : Gt} {φ : Ph} {B : Bag} (hB : BF G I_I_readsHead B) (hF : SF 134 φ)    {o : Int32} {M9 : Mm} {t0 : Int32} {M : Mm} (h : f_I_readsHead_58 t0 M = some (o, M9)) : AW G I_I_readsHead B (QM G I_I_readsHead B (.inl (some (.int o))) M9 φ) 0 0 58 [] [.int t0] M φ := by
  unfold f_I_readsHead_58 at h
  obtain ⟨z58, h⟩ := chk_i h
  cases h
  exact a_zret hB rfl z58 e_I_readsHead_58 (by decide) (by decide)
set_option maxRecDepth 100000 in
theorem t_I_readsHead_57 {G : Gt} {φ : Ph} {B : Bag} (hB : BF G I_I_readsHead B) (hF : SF 134 φ)    {o : Int32} {M9 : Mm}  {M : Mm} (h : f_I_readsHead_57 M = some (o, M9)) : AW G I_I_readsHead B (QM G I_I_readsHead B (.inl (some (.int o))) M9 φ) 0 0 57 [] [] M φ := by
  unfold f_I_readsHead_57 at h
  refine a_iconst (v := 0) hB e_I_readsHead_57 ic_0 ?_
  exact t_I_readsHead_58 hB hF h
