/-! the law -/
set_option maxRecDepth 100000 in
theorem t_W_isSound_64 {G : Gt} {B : Bag} {o : Int32} {M9 : Mm} (hB : BF G I_W_isSound B)  {φ : Ph} (hF : SF 138 φ) (hd : dirt φ = φ)   {k1 k2 : Nat}  (hk1 : k1 + (0) ≤ 756) (hk2 : k2 + 6 * (0) ≤ 4536)  {M : Mm} (h : f_W_isSound_64 M = some (o, M9)) : AW G I_W_isSound B (QM G I_W_isSound B (.inl (some (.int o))) M9 φ) k1 k2 64 [] [] M φ := by
  unfold f_W_isSound_64 at h
  refine a_iconst (v := 0) hB e_W_isSound_64 ic_0 ?_
  cases h
  exact a_zret hB rfl (Or.inl rfl) e_W_isSound_65 (le_K (K := 756) (by omega) rfl) (le_K (K := 4536) (by omega) rfl)
set_option maxRecDepth 100000 in
theorem t_W_isSound_148 {G : Gt} {B : Bag} {o : Int32} {M9 : Mm} (hB : BF G I_W_isSound B)  {φ : Ph} (hF : SF 138 φ) (hd : dirt φ = φ)   {k1 k2 : Nat}  (hk1 : k1 + (0) ≤ 756) (hk2 : k2 + 6 * (0) ≤ 4536)  {M : Mm} (h : f_W_isSound_148 M = some (o, M9)) : AW G I_W_isSound B (QM G I_W_isSound B (.inl (some (.int o))) M9 φ) k1 k2 148 [] [] M φ := by
  unfold f_W_isSound_148 at h
  refine a_iconst (v := 0) hB e_W_isSound_148 ic_0 ?_
  cases h
  exact a_zret hB rfl (Or.inl rfl) e_W_isSound_149 (le_K (K := 756) (by omega) rfl) (le_K (K := 4536) (by omega) rfl)
set_option maxRecDepth 100000 in
theorem t_W_isSound_234 {G : Gt} {B : Bag} {o : Int32} {M9 : Mm} (hB : BF G I_W_isSound B)  {φ : Ph} (hF : SF 138 φ) (hd : dirt φ = φ)   {k1 k2 : Nat}  (hk1 : k1 + (0) ≤ 756) (hk2 : k2 + 6 * (0) ≤ 4536)  {M : Mm} (h : f_W_isSound_234 M = some (o, M9)) : AW G I_W_isSound B (QM G I_W_isSound B (.inl (some (.int o))) M9 φ) k1 k2 234 [] [] M φ := by
  unfold f_W_isSound_234 at h
  refine a_iconst (v := 0) hB e_W_isSound_234 ic_0 ?_
  cases h
  exact a_zret hB rfl (Or.inl rfl) e_W_isSound_235 (le_K (K := 756) (by omega) rfl) (le_K (K := 4536) (by omega) rfl)
set_option maxRecDepth 100000 in
theorem t_W_isSound_363 {G : Gt} {B : Bag} {o : Int32} {M9 : Mm} (hB : BF G I_W_isSound B)  {φ : Ph} (hF : SF 138 φ) (hd : dirt φ = φ)   {k1 k2 : Nat}  (hk1 : k1 + (0) ≤ 756) (hk2 : k2 + 6 * (0) ≤ 4536)  {M : Mm} (h : f_W_isSound_363 M = some (o, M9)) : AW G I_W_isSound B (QM G I_W_isSound B (.inl (some (.int o))) M9 φ) k1 k2 363 [] [] M φ := by
  unfold f_W_isSound_363 at h
  refine a_iconst (v := 0) hB e_W_isSound_363 ic_0 ?_
  cases h
  exact a_zret hB rfl (Or.inl rfl) e_W_isSound_364 (le_K (K := 756) (by omega) rfl) (le_K (K := 4536) (by omega) rfl)
set_option maxRecDepth 100000 in
theorem t_W_isSound_396 {G : Gt} {B : Bag} {o : Int32} {M9 : Mm} (hB : BF G I_W_isSound B)  {φ : Ph} (hF : SF 138 φ) (hd : dirt φ = φ)   {k1 k2 : Nat}  (hk1 : k1 + (0) ≤ 756) (hk2 : k2 + 6 * (0) ≤ 4536)  {M : Mm} (h : f_W_isSound_396 M = some (o, M9)) : AW G I_W_isSound B (QM G I_W_isSound B (.inl (some (.int o))) M9 φ) k1 k2 396 [] [] M φ := by
  unfold f_W_isSound_396 at h
  refine a_iconst (v := 0) hB e_W_isSound_396 ic_0 ?_
  cases h
  exact a_zret hB rfl (Or.inl rfl) e_W_isSound_397 (le_K (K := 756) (by omega) rfl) (le_K (K := 4536) (by omega) rfl)
set_option maxRecDepth 100000 in
theorem t_W_isSound_398 {G : Gt} {B : Bag} {o : Int32} {M9 : Mm} (hB : BF G I_W_isSound B)  {φ : Ph} (hF : SF 138 φ) (hd : dirt φ = φ)   {k1 k2 : Nat} {c : Nat} {r69 : Int32 → Int32 → Int32 → Int32 → Int32 → Int32 → Int32 → Mm → Option (Int32 × Mm)} (hr69 : ∀ (k1 k2 : Nat) (l1 : Int32) (l2 : Int32) (l3 : Int32) (l4 : Int32) (l5 : Int32) (l6 : Int32) (l7 : Int32) (M : Mm), k1 + c ≤ 756 → k2 + 6 * c ≤ 4536 → r69 l1 l2 l3 l4 l5 l6 l7 M = some (o, M9) → AW G I_W_isSound B (QM G I_W_isSound B (.inl (some (.int o))) M9 φ) k1 k2 69 [(0, .ref 0), (1, .int l1), (2, .int l2), (3, .int l3), (4, .int l4), (5, .int l5), (6, .int l6), (7, .int l7)] [] M φ) (hc69 : 92 ≤ c) (hk1 : k1 + (7 + c) ≤ 756) (hk2 : k2 + 6 * (7 + c) ≤ 4536) {l1 : Int32} {l2 : Int32} {l3 : Int32} {l4 : Int32} {l5 : Int32} {l6 : Int32} {l7 : Int32} {M : Mm} (h : f_W_isSound_398 r69 l1 l2 l3 l4 l5 l6 l7 M = some (o, M9)) : AW G I_W_isSound B (QM G I_W_isSound B (.inl (some (.int o))) M9 φ) k1 k2 398 [(0, .ref 0), (1, .int l1), (2, .int l2), (3, .int l3), (4, .int l4), (5, .int l5), (6, .int l6), (7, .int l7)] [] M φ := by
  unfold f_W_isSound_398 at h
  refine a_aload_n (j := 0) hB e_W_isSound_398 rfl rfl ?_
  refine a_iload (j := 7) hB e_W_isSound_399 rfl ?_
  refine a_iconst (v := 1) hB e_W_isSound_401 ic_1 ?_
  refine a_iadd hB e_W_isSound_402 ?_
  obtain ⟨r403, M403, hr403, h⟩ := bn2_i h
  refine a_ret (v := (some (.int r403))) (M1 := M403) (φ1 := φ) (st1 := [.int r403]) (j1 := k1 + 1) (j2 := k2 + 6) (ar_SX (As := [.ref 0, .int (l7 + (1 : Int32))]) (rest := []) hB (c_W_distanceFromStart (bf_G hB) hF hd hr403) ml_W_166 md_W_distanceFromStart rfl rfl (Nat.le_of_ble_eq_true rfl) (rmL (c := 1) (s := 6) (K1 := 756) (K2 := 4536) (Nat.le_of_ble_eq_true rfl) (Nat.le_of_ble_eq_true rfl) (by omega) (by omega) rfl rfl rfl rfl) e_W_isSound_403) rfl rfl rfl ?_
  refine a_i2l hB e_W_isSound_406 ?_
  refine a_aload_n (j := 0) hB e_W_isSound_407 rfl rfl ?_
  refine a_iload (j := 7) hB e_W_isSound_408 rfl ?_
  refine a_iconst (v := 1) hB e_W_isSound_410 ic_1 ?_
  refine a_iadd hB e_W_isSound_411 ?_
  obtain ⟨r412, M412, hr412, h⟩ := bn2_i h
  refine a_ret (v := (some (.int r412))) (M1 := M412) (φ1 := φ) (st1 := [.int r412, .long r403.toInt64]) (j1 := k1 + 2) (j2 := k2 + 12) (ar_SX (As := [.ref 0, .int (l7 + (1 : Int32))]) (rest := [.long r403.toInt64]) hB (c_W_east (bf_G hB) hF hd hr412) ml_W_134 md_W_east rfl rfl (Nat.le_of_ble_eq_true rfl) (rmL (c := 1) (s := 6) (K1 := 756) (K2 := 4536) (Nat.le_of_ble_eq_true rfl) (Nat.le_of_ble_eq_true rfl) (by omega) (by omega) rfl rfl rfl rfl) e_W_isSound_412) rfl rfl rfl ?_
  refine a_i2l hB e_W_isSound_415 ?_
  refine a_aload_n (j := 0) hB e_W_isSound_416 rfl rfl ?_
  refine a_iload (j := 7) hB e_W_isSound_417 rfl ?_
  refine a_iconst (v := 1) hB e_W_isSound_419 ic_1 ?_
  refine a_iadd hB e_W_isSound_420 ?_
  obtain ⟨r421, M421, hr421, h⟩ := bn2_i h
  refine a_ret (v := (some (.int r421))) (M1 := M421) (φ1 := φ) (st1 := [.int r421, .long r412.toInt64, .long r403.toInt64]) (j1 := k1 + 3) (j2 := k2 + 18) (ar_SX (As := [.ref 0, .int (l7 + (1 : Int32))]) (rest := [.long r412.toInt64, .long r403.toInt64]) hB (c_W_east (bf_G hB) hF hd hr421) ml_W_134 md_W_east rfl rfl (Nat.le_of_ble_eq_true rfl) (rmL (c := 1) (s := 6) (K1 := 756) (K2 := 4536) (Nat.le_of_ble_eq_true rfl) (Nat.le_of_ble_eq_true rfl) (by omega) (by omega) rfl rfl rfl rfl) e_W_isSound_421) rfl rfl rfl ?_
  refine a_i2l hB e_W_isSound_424 ?_
  refine a_lmul hB e_W_isSound_425 ?_
  refine a_aload_n (j := 0) hB e_W_isSound_426 rfl rfl ?_
  refine a_iload (j := 7) hB e_W_isSound_427 rfl ?_
  refine a_iconst (v := 1) hB e_W_isSound_429 ic_1 ?_
  refine a_iadd hB e_W_isSound_430 ?_
  obtain ⟨r431, M431, hr431, h⟩ := bn2_i h
  refine a_ret (v := (some (.int r431))) (M1 := M431) (φ1 := φ) (st1 := [.int r431, .long (r412.toInt64 * r421.toInt64), .long r403.toInt64]) (j1 := k1 + 4) (j2 := k2 + 24) (ar_SX (As := [.ref 0, .int (l7 + (1 : Int32))]) (rest := [.long (r412.toInt64 * r421.toInt64), .long r403.toInt64]) hB (c_W_north (bf_G hB) hF hd hr431) ml_W_164 md_W_north rfl rfl (Nat.le_of_ble_eq_true rfl) (rmL (c := 1) (s := 6) (K1 := 756) (K2 := 4536) (Nat.le_of_ble_eq_true rfl) (Nat.le_of_ble_eq_true rfl) (by omega) (by omega) rfl rfl rfl rfl) e_W_isSound_431) rfl rfl rfl ?_
  refine a_i2l hB e_W_isSound_434 ?_
  refine a_aload_n (j := 0) hB e_W_isSound_435 rfl rfl ?_
  refine a_iload (j := 7) hB e_W_isSound_436 rfl ?_
  refine a_iconst (v := 1) hB e_W_isSound_438 ic_1 ?_
  refine a_iadd hB e_W_isSound_439 ?_
  obtain ⟨r440, M440, hr440, h⟩ := bn2_i h
  refine a_ret (v := (some (.int r440))) (M1 := M440) (φ1 := φ) (st1 := [.int r440, .long r431.toInt64, .long (r412.toInt64 * r421.toInt64), .long r403.toInt64]) (j1 := k1 + 5) (j2 := k2 + 30) (ar_SX (As := [.ref 0, .int (l7 + (1 : Int32))]) (rest := [.long r431.toInt64, .long (r412.toInt64 * r421.toInt64), .long r403.toInt64]) hB (c_W_north (bf_G hB) hF hd hr440) ml_W_164 md_W_north rfl rfl (Nat.le_of_ble_eq_true rfl) (rmL (c := 1) (s := 6) (K1 := 756) (K2 := 4536) (Nat.le_of_ble_eq_true rfl) (Nat.le_of_ble_eq_true rfl) (by omega) (by omega) rfl rfl rfl rfl) e_W_isSound_440) rfl rfl rfl ?_
  refine a_i2l hB e_W_isSound_443 ?_
  refine a_lmul hB e_W_isSound_444 ?_
  refine a_ladd hB e_W_isSound_445 ?_
  obtain ⟨r446, hr446, h⟩ := bn_i h
  refine a_ret (v := (some (.int r446))) (M1 := M440) (φ1 := φ) (st1 := [.int r446]) (j1 := k1 + 5) (j2 := k2 + 30) (ar_S (As := [.long r403.toInt64, .long ((r412.toInt64 * r421.toInt64) + (r431.toInt64 * r440.toInt64))]) (rest := []) hB (c_W_isRoot (bf_G hB) (sf_m hF (by decide)) hr446) ml_W_168 md_W_isRoot rfl rfl (Nat.le_of_ble_eq_true rfl) (rmL (c := 0) (s := 0) (K1 := 756) (K2 := 4536) (Nat.le_of_ble_eq_true rfl) (Nat.le_of_ble_eq_true rfl) (by omega) (by omega) rfl rfl rfl rfl) e_W_isSound_446) rfl rfl rfl ?_
  refine a_if_ne (tgt := 454) hB e_W_isSound_449 (by decide) (fun c => ?_) (fun c => ?_)
  · have h := iq c h
    refine a_aload_n (j := 0) hB e_W_isSound_454 rfl rfl ?_
    refine a_iload (j := 7) hB e_W_isSound_455 rfl ?_
    refine a_iconst (v := 1) hB e_W_isSound_457 ic_1 ?_
    refine a_iadd hB e_W_isSound_458 ?_
    obtain ⟨r459, M459, hr459, h⟩ := bn2_i h
    refine a_ret (v := (some (.int r459))) (M1 := M459) (φ1 := φ) (st1 := [.int r459]) (j1 := k1 + 6) (j2 := k2 + 36) (ar_SX (As := [.ref 0, .int (l7 + (1 : Int32))]) (rest := []) hB (c_W_distanceFromStart (bf_G hB) hF hd hr459) ml_W_166 md_W_distanceFromStart rfl rfl (Nat.le_of_ble_eq_true rfl) (rmL (c := 1) (s := 6) (K1 := 756) (K2 := 4536) (Nat.le_of_ble_eq_true rfl) (Nat.le_of_ble_eq_true rfl) (by omega) (by omega) rfl rfl rfl rfl) e_W_isSound_459) rfl rfl rfl ?_
    refine a_aload_n (j := 0) hB e_W_isSound_462 rfl rfl ?_
    refine a_aload_n (j := 0) hB e_W_isSound_463 rfl rfl ?_
    obtain ⟨r464, M464, hr464, h⟩ := bn2_i h
    refine a_ret (v := (some (.int r464))) (M1 := M464) (φ1 := φ) (st1 := [.int r464, .ref 0, .int r459]) (j1 := k1 + 6) (j2 := k2 + 36) (ar_V (As := []) (rest := [.ref 0, .int r459]) hB (c_C_farthestStation (bf_G hB) (sf_m hF (by decide)) hr464) ml_W_172 md_C_farthestStation rc_C_farthestStation (sf_lt hF (by decide)) kk_0 rfl rfl (Nat.le_of_ble_eq_true rfl) (rmL (c := 0) (s := 0) (K1 := 756) (K2 := 4536) (Nat.le_of_ble_eq_true rfl) (Nat.le_of_ble_eq_true rfl) (by omega) (by omega) rfl rfl rfl rfl) e_W_isSound_464) rfl rfl rfl ?_
    obtain ⟨r467, M467, hr467, h⟩ := bn2_i h
    refine a_ret (v := (some (.int r467))) (M1 := M467) (φ1 := φ) (st1 := [.int r467, .int r459]) (j1 := k1 + 7) (j2 := k2 + 42) (ar_SX (As := [.ref 0, .int r464]) (rest := [.int r459]) hB (c_W_distanceFromStart (bf_G hB) hF hd hr467) ml_W_166 md_W_distanceFromStart rfl rfl (Nat.le_of_ble_eq_true rfl) (rmL (c := 1) (s := 6) (K1 := 756) (K2 := 4536) (Nat.le_of_ble_eq_true rfl) (Nat.le_of_ble_eq_true rfl) (by omega) (by omega) rfl rfl rfl rfl) e_W_isSound_467) rfl rfl rfl ?_
    refine a_icmp_le (tgt := 475) hB e_W_isSound_470 (by decide) (fun c => ?_) (fun c => ?_)
    · have h := ip c h
      refine a_iinc (j := 7) (v := l7 + 1) (ls' := [(7, .int (l7 + 1)), (0, .ref 0), (1, .int l1), (2, .int l2), (3, .int l3), (4, .int l4), (5, .int l5), (6, .int l6)]) hB e_W_isSound_475 rfl (inc_1 _) (Nat.le_of_ble_eq_true rfl) rfl ?_
      refine a_goto (tgt := 69) hB e_W_isSound_478 (by decide) ?_
      refine a_ls [1, 2, 3, 4, 5, 6, 7, 0] (ls' := [(0, .ref 0), (1, .int l1), (2, .int l2), (3, .int l3), (4, .int l4), (5, .int l5), (6, .int l6), (7, .int (l7 + 1))]) rfl ?_
      exact hr69 _ _ _ _ _ _ _ _ _ _ (by omega) (by omega) h
    · have h := iq c h
      refine a_iconst (v := 0) hB e_W_isSound_473 ic_0 ?_
      cases h
      exact a_zret hB rfl (Or.inl rfl) e_W_isSound_474 (le_K (K := 756) (by omega) rfl) (le_K (K := 4536) (by omega) rfl)
  · have h := ip c h
    refine a_iconst (v := 0) hB e_W_isSound_452 ic_0 ?_
    cases h
    exact a_zret hB rfl (Or.inl rfl) e_W_isSound_453 (le_K (K := 756) (by omega) rfl) (le_K (K := 4536) (by omega) rfl)
set_option maxRecDepth 100000 in
theorem t_W_isSound_326 {G : Gt} {B : Bag} {o : Int32} {M9 : Mm} (hB : BF G I_W_isSound B)  {φ : Ph} (hF : SF 138 φ) (hd : dirt φ = φ)   {k1 k2 : Nat} {c : Nat} {r69 : Int32 → Int32 → Int32 → Int32 → Int32 → Int32 → Int32 → Mm → Option (Int32 × Mm)} (hr69 : ∀ (k1 k2 : Nat) (l1 : Int32) (l2 : Int32) (l3 : Int32) (l4 : Int32) (l5 : Int32) (l6 : Int32) (l7 : Int32) (M : Mm), k1 + c ≤ 756 → k2 + 6 * c ≤ 4536 → r69 l1 l2 l3 l4 l5 l6 l7 M = some (o, M9) → AW G I_W_isSound B (QM G I_W_isSound B (.inl (some (.int o))) M9 φ) k1 k2 69 [(0, .ref 0), (1, .int l1), (2, .int l2), (3, .int l3), (4, .int l4), (5, .int l5), (6, .int l6), (7, .int l7)] [] M φ) (hc69 : 92 ≤ c) (hk1 : k1 + (12 + c) ≤ 756) (hk2 : k2 + 6 * (12 + c) ≤ 4536) {l1 : Int32} {l2 : Int32} {l3 : Int32} {l4 : Int32} {l5 : Int32} {l6 : Int32} {l7 : Int32} {M : Mm} (h : f_W_isSound_326 r69 l1 l2 l3 l4 l5 l6 l7 M = some (o, M9)) : AW G I_W_isSound B (QM G I_W_isSound B (.inl (some (.int o))) M9 φ) k1 k2 326 [(0, .ref 0), (1, .int l1), (2, .int l2), (3, .int l3), (4, .int l4), (5, .int l5), (6, .int l6), (7, .int l7)] [] M φ := by
  unfold f_W_isSound_326 at h
  refine a_aload_n (j := 0) hB e_W_isSound_326 rfl rfl ?_
  refine a_iload (j := 7) hB e_W_isSound_327 rfl ?_
  refine a_iconst (v := 1) hB e_W_isSound_329 ic_1 ?_
  refine a_iadd hB e_W_isSound_330 ?_
  obtain ⟨r331, M331, hr331, h⟩ := bn2_i h
  refine a_ret (v := (some (.int r331))) (M1 := M331) (φ1 := φ) (st1 := [.int r331]) (j1 := k1 + 1) (j2 := k2 + 6) (ar_SX (As := [.ref 0, .int (l7 + (1 : Int32))]) (rest := []) hB (c_W_rawEast (bf_G hB) hF hd hr331) ml_W_132 md_W_rawEast rfl rfl (Nat.le_of_ble_eq_true rfl) (rmL (c := 1) (s := 6) (K1 := 756) (K2 := 4536) (Nat.le_of_ble_eq_true rfl) (Nat.le_of_ble_eq_true rfl) (by omega) (by omega) rfl rfl rfl rfl) e_W_isSound_331) rfl rfl rfl ?_
  refine a_iload_n (j := 2) hB e_W_isSound_334 rfl rfl ?_
  refine a_icmp_ne (tgt := 363) hB e_W_isSound_335 (by decide) (fun c => ?_) (fun c => ?_)
  · have h := iq c h
    refine a_ls [] (ls' := []) rfl ?_
    exact t_W_isSound_363 hB hF hd (by omega) (by omega) h
  · have h := ip c h
    refine a_aload_n (j := 0) hB e_W_isSound_338 rfl rfl ?_
    refine a_iload (j := 7) hB e_W_isSound_339 rfl ?_
    refine a_iconst (v := 1) hB e_W_isSound_341 ic_1 ?_
    refine a_iadd hB e_W_isSound_342 ?_
    obtain ⟨r343, M343, hr343, h⟩ := bn2_i h
    refine a_ret (v := (some (.int r343))) (M1 := M343) (φ1 := φ) (st1 := [.int r343]) (j1 := k1 + 2) (j2 := k2 + 12) (ar_SX (As := [.ref 0, .int (l7 + (1 : Int32))]) (rest := []) hB (c_W_rawNorth (bf_G hB) hF hd hr343) ml_W_158 md_W_rawNorth rfl rfl (Nat.le_of_ble_eq_true rfl) (rmL (c := 1) (s := 6) (K1 := 756) (K2 := 4536) (Nat.le_of_ble_eq_true rfl) (Nat.le_of_ble_eq_true rfl) (by omega) (by omega) rfl rfl rfl rfl) e_W_isSound_343) rfl rfl rfl ?_
    refine a_iload_n (j := 3) hB e_W_isSound_346 rfl rfl ?_
    refine a_icmp_ne (tgt := 363) hB e_W_isSound_347 (by decide) (fun c => ?_) (fun c => ?_)
    · have h := iq c h
      refine a_ls [] (ls' := []) rfl ?_
      exact t_W_isSound_363 hB hF hd (by omega) (by omega) h
    · have h := ip c h
      refine a_aload_n (j := 0) hB e_W_isSound_350 rfl rfl ?_
      refine a_iload (j := 7) hB e_W_isSound_351 rfl ?_
      refine a_iconst (v := 1) hB e_W_isSound_353 ic_1 ?_
      refine a_iadd hB e_W_isSound_354 ?_
      obtain ⟨r355, M355, hr355, h⟩ := bn2_i h
      refine a_ret (v := (some (.int r355))) (M1 := M355) (φ1 := φ) (st1 := [.int r355]) (j1 := k1 + 3) (j2 := k2 + 18) (ar_SX (As := [.ref 0, .int (l7 + (1 : Int32))]) (rest := []) hB (c_W_run (bf_G hB) hF hd hr355) ml_W_136 md_W_run rfl rfl (Nat.le_of_ble_eq_true rfl) (rmL (c := 1) (s := 6) (K1 := 756) (K2 := 4536) (Nat.le_of_ble_eq_true rfl) (Nat.le_of_ble_eq_true rfl) (by omega) (by omega) rfl rfl rfl rfl) e_W_isSound_355) rfl rfl rfl ?_
      refine a_iload (j := 4) hB e_W_isSound_358 rfl ?_
      refine a_icmp_eq (tgt := 365) hB e_W_isSound_360 (by decide) (fun c => ?_) (fun c => ?_)
      · have h := ip c h
        refine a_aload_n (j := 0) hB e_W_isSound_365 rfl rfl ?_
        obtain ⟨r366, hr366, h⟩ := bn_i h
        refine a_ret (v := (some (.int r366))) (M1 := M355) (φ1 := φ) (st1 := [.int r366]) (j1 := k1 + 3) (j2 := k2 + 18) (ar_V (As := []) (rest := []) hB (c_C_isAdjusted (bf_G hB) (sf_m hF (by decide)) hr366) ml_W_160 md_C_isAdjusted rc_C_isAdjusted (sf_lt hF (by decide)) kk_0 rfl rfl (Nat.le_of_ble_eq_true rfl) (rmL (c := 0) (s := 0) (K1 := 756) (K2 := 4536) (Nat.le_of_ble_eq_true rfl) (Nat.le_of_ble_eq_true rfl) (by omega) (by omega) rfl rfl rfl rfl) e_W_isSound_366) rfl rfl rfl ?_
        refine a_if_ne (tgt := 398) hB e_W_isSound_369 (by decide) (fun c => ?_) (fun c => ?_)
        · have h := iq c h
          exact t_W_isSound_398 hB hF hd hr69 hc69 (by omega) (by omega) h
        · have h := ip c h
          refine a_aload_n (j := 0) hB e_W_isSound_372 rfl rfl ?_
          refine a_iload (j := 7) hB e_W_isSound_373 rfl ?_
          refine a_iconst (v := 1) hB e_W_isSound_375 ic_1 ?_
          refine a_iadd hB e_W_isSound_376 ?_
          obtain ⟨r377, M377, hr377, h⟩ := bn2_i h
          refine a_ret (v := (some (.int r377))) (M1 := M377) (φ1 := φ) (st1 := [.int r377]) (j1 := k1 + 4) (j2 := k2 + 24) (ar_SX (As := [.ref 0, .int (l7 + (1 : Int32))]) (rest := []) hB (c_W_east (bf_G hB) hF hd hr377) ml_W_134 md_W_east rfl rfl (Nat.le_of_ble_eq_true rfl) (rmL (c := 1) (s := 6) (K1 := 756) (K2 := 4536) (Nat.le_of_ble_eq_true rfl) (Nat.le_of_ble_eq_true rfl) (by omega) (by omega) rfl rfl rfl rfl) e_W_isSound_377) rfl rfl rfl ?_
          refine a_iload_n (j := 2) hB e_W_isSound_380 rfl rfl ?_
          refine a_icmp_ne (tgt := 396) hB e_W_isSound_381 (by decide) (fun c => ?_) (fun c => ?_)
          · have h := iq c h
            refine a_ls [] (ls' := []) rfl ?_
            exact t_W_isSound_396 hB hF hd (by omega) (by omega) h
          · have h := ip c h
            refine a_aload_n (j := 0) hB e_W_isSound_384 rfl rfl ?_
            refine a_iload (j := 7) hB e_W_isSound_385 rfl ?_
            refine a_iconst (v := 1) hB e_W_isSound_387 ic_1 ?_
            refine a_iadd hB e_W_isSound_388 ?_
            obtain ⟨r389, M389, hr389, h⟩ := bn2_i h
            refine a_ret (v := (some (.int r389))) (M1 := M389) (φ1 := φ) (st1 := [.int r389]) (j1 := k1 + 5) (j2 := k2 + 30) (ar_SX (As := [.ref 0, .int (l7 + (1 : Int32))]) (rest := []) hB (c_W_north (bf_G hB) hF hd hr389) ml_W_164 md_W_north rfl rfl (Nat.le_of_ble_eq_true rfl) (rmL (c := 1) (s := 6) (K1 := 756) (K2 := 4536) (Nat.le_of_ble_eq_true rfl) (Nat.le_of_ble_eq_true rfl) (by omega) (by omega) rfl rfl rfl rfl) e_W_isSound_389) rfl rfl rfl ?_
            refine a_iload_n (j := 3) hB e_W_isSound_392 rfl rfl ?_
            refine a_icmp_eq (tgt := 398) hB e_W_isSound_393 (by decide) (fun c => ?_) (fun c => ?_)
            · have h := ip c h
              exact t_W_isSound_398 hB hF hd hr69 hc69 (by omega) (by omega) h
            · have h := iq c h
              refine a_ls [] (ls' := []) rfl ?_
              exact t_W_isSound_396 hB hF hd (by omega) (by omega) h
      · have h := iq c h
        refine a_ls [] (ls' := []) rfl ?_
        exact t_W_isSound_363 hB hF hd (by omega) (by omega) h
set_option maxRecDepth 100000 in
theorem t_W_isSound_322 {G : Gt} {B : Bag} {o : Int32} {M9 : Mm} (hB : BF G I_W_isSound B)  {φ : Ph} (hF : SF 138 φ) (hd : dirt φ = φ)   {k1 k2 : Nat} {c : Nat} {r69 : Int32 → Int32 → Int32 → Int32 → Int32 → Int32 → Int32 → Mm → Option (Int32 × Mm)} (hr69 : ∀ (k1 k2 : Nat) (l1 : Int32) (l2 : Int32) (l3 : Int32) (l4 : Int32) (l5 : Int32) (l6 : Int32) (l7 : Int32) (M : Mm), k1 + c ≤ 756 → k2 + 6 * c ≤ 4536 → r69 l1 l2 l3 l4 l5 l6 l7 M = some (o, M9) → AW G I_W_isSound B (QM G I_W_isSound B (.inl (some (.int o))) M9 φ) k1 k2 69 [(0, .ref 0), (1, .int l1), (2, .int l2), (3, .int l3), (4, .int l4), (5, .int l5), (6, .int l6), (7, .int l7)] [] M φ) (hc69 : 92 ≤ c) (hk1 : k1 + (12 + c) ≤ 756) (hk2 : k2 + 6 * (12 + c) ≤ 4536) {l1 : Int32} {l2 : Int32} {l3 : Int32} {l4 : Int32} {l5 : Int32} {l7 : Int32} {M : Mm} (h : f_W_isSound_322 r69 l1 l2 l3 l4 l5 l7 M = some (o, M9)) : AW G I_W_isSound B (QM G I_W_isSound B (.inl (some (.int o))) M9 φ) k1 k2 322 [(0, .ref 0), (1, .int l1), (2, .int l2), (3, .int l3), (4, .int l4), (5, .int l5), (7, .int l7)] [] M φ := by
  unfold f_W_isSound_322 at h
  refine a_iload (j := 6) hB e_W_isSound_322 rfl ?_
  refine a_istore (ls' := [(6, .int l7), (0, .ref 0), (1, .int l1), (2, .int l2), (3, .int l3), (4, .int l4), (5, .int l5), (7, .int l7)]) hB e_W_isSound_324 (Nat.le_of_ble_eq_true rfl) rfl ?_
  refine a_ls [1, 2, 3, 4, 5, 6, 0, 7] (ls' := [(0, .ref 0), (1, .int l1), (2, .int l2), (3, .int l3), (4, .int l4), (5, .int l5), (6, .int l7), (7, .int l7)]) rfl ?_
  exact t_W_isSound_326 hB hF hd hr69 hc69 (by omega) (by omega) h
set_option maxRecDepth 100000 in
theorem t_W_isSound_305 {G : Gt} {B : Bag} {o : Int32} {M9 : Mm} (hB : BF G I_W_isSound B)  {φ : Ph} (hF : SF 138 φ) (hd : dirt φ = φ)   {k1 k2 : Nat} {c : Nat} {r69 : Int32 → Int32 → Int32 → Int32 → Int32 → Int32 → Int32 → Mm → Option (Int32 × Mm)} (hr69 : ∀ (k1 k2 : Nat) (l1 : Int32) (l2 : Int32) (l3 : Int32) (l4 : Int32) (l5 : Int32) (l6 : Int32) (l7 : Int32) (M : Mm), k1 + c ≤ 756 → k2 + 6 * c ≤ 4536 → r69 l1 l2 l3 l4 l5 l6 l7 M = some (o, M9) → AW G I_W_isSound B (QM G I_W_isSound B (.inl (some (.int o))) M9 φ) k1 k2 69 [(0, .ref 0), (1, .int l1), (2, .int l2), (3, .int l3), (4, .int l4), (5, .int l5), (6, .int l6), (7, .int l7)] [] M φ) (hc69 : 92 ≤ c) (hk1 : k1 + (13 + c) ≤ 756) (hk2 : k2 + 6 * (13 + c) ≤ 4536) {l1 : Int32} {l2 : Int32} {l3 : Int32} {l4 : Int32} {l5 : Int32} {l6 : Int32} {l7 : Int32} {l8 : Int32} {M : Mm} (h : f_W_isSound_305 r69 l1 l2 l3 l4 l5 l6 l7 l8 M = some (o, M9)) : AW G I_W_isSound B (QM G I_W_isSound B (.inl (some (.int o))) M9 φ) k1 k2 305 [(0, .ref 0), (1, .int l1), (2, .int l2), (3, .int l3), (4, .int l4), (5, .int l5), (6, .int l6), (7, .int l7), (8, .int l8)] [] M φ := by
  unfold f_W_isSound_305 at h
  refine a_iload (j := 6) hB e_W_isSound_305 rfl ?_
  refine a_iconst (v := -1) hB e_W_isSound_307 ic_m1 ?_
  refine a_icmp_eq (tgt := 322) hB e_W_isSound_308 (by decide) (fun c => ?_) (fun c => ?_)
  · have h := ip c h
    refine a_ls [0, 1, 2, 3, 4, 5, 7] (ls' := [(0, .ref 0), (1, .int l1), (2, .int l2), (3, .int l3), (4, .int l4), (5, .int l5), (7, .int l7)]) rfl ?_
    exact t_W_isSound_322 hB hF hd hr69 hc69 (by omega) (by omega) h
  · have h := iq c h
    refine a_iload (j := 8) hB e_W_isSound_311 rfl ?_
    refine a_aload_n (j := 0) hB e_W_isSound_313 rfl rfl ?_
    refine a_iload (j := 6) hB e_W_isSound_314 rfl ?_
    obtain ⟨r316, hr316, h⟩ := bn_i h
    refine a_ret (v := (some (.int r316))) (M1 := M) (φ1 := φ) (st1 := [.int r316, .int l8]) (j1 := k1 + 1) (j2 := k2 + 6) (ar_SX (As := [.ref 0, .int l6]) (rest := [.int l8]) hB (c_W_horizontalLength (bf_G hB) hF hd hr316) ml_W_138 md_W_horizontalLength rfl rfl (Nat.le_of_ble_eq_true rfl) (rmL (c := 1) (s := 6) (K1 := 756) (K2 := 4536) (Nat.le_of_ble_eq_true rfl) (Nat.le_of_ble_eq_true rfl) (by omega) (by omega) rfl rfl rfl rfl) e_W_isSound_316) rfl rfl rfl ?_
    refine a_icmp_le (tgt := 326) hB e_W_isSound_319 (by decide) (fun c => ?_) (fun c => ?_)
    · have h := ip c h
      refine a_ls [0, 1, 2, 3, 4, 5, 6, 7] (ls' := [(0, .ref 0), (1, .int l1), (2, .int l2), (3, .int l3), (4, .int l4), (5, .int l5), (6, .int l6), (7, .int l7)]) rfl ?_
      exact t_W_isSound_326 hB hF hd hr69 hc69 (by omega) (by omega) h
    · have h := iq c h
      refine a_ls [0, 1, 2, 3, 4, 5, 7] (ls' := [(0, .ref 0), (1, .int l1), (2, .int l2), (3, .int l3), (4, .int l4), (5, .int l5), (7, .int l7)]) rfl ?_
      exact t_W_isSound_322 hB hF hd hr69 hc69 (by omega) (by omega) h
set_option maxRecDepth 100000 in
theorem t_W_isSound_236 {G : Gt} {B : Bag} {o : Int32} {M9 : Mm} (hB : BF G I_W_isSound B)  {φ : Ph} (hF : SF 138 φ) (hd : dirt φ = φ)   {k1 k2 : Nat} {c : Nat} {r69 : Int32 → Int32 → Int32 → Int32 → Int32 → Int32 → Int32 → Mm → Option (Int32 × Mm)} (hr69 : ∀ (k1 k2 : Nat) (l1 : Int32) (l2 : Int32) (l3 : Int32) (l4 : Int32) (l5 : Int32) (l6 : Int32) (l7 : Int32) (M : Mm), k1 + c ≤ 756 → k2 + 6 * c ≤ 4536 → r69 l1 l2 l3 l4 l5 l6 l7 M = some (o, M9) → AW G I_W_isSound B (QM G I_W_isSound B (.inl (some (.int o))) M9 φ) k1 k2 69 [(0, .ref 0), (1, .int l1), (2, .int l2), (3, .int l3), (4, .int l4), (5, .int l5), (6, .int l6), (7, .int l7)] [] M φ) (hc69 : 92 ≤ c) (hk1 : k1 + (19 + c) ≤ 756) (hk2 : k2 + 6 * (19 + c) ≤ 4536) {l1 : Int32} {l2 : Int32} {l3 : Int32} {l4 : Int32} {l5 : Int32} {l6 : Int32} {l7 : Int32} {l8 : Int32} {M : Mm} (h : f_W_isSound_236 r69 l1 l2 l3 l4 l5 l6 l7 l8 M = some (o, M9)) : AW G I_W_isSound B (QM G I_W_isSound B (.inl (some (.int o))) M9 φ) k1 k2 236 [(0, .ref 0), (1, .int l1), (2, .int l2), (3, .int l3), (4, .int l4), (5, .int l5), (6, .int l6), (7, .int l7), (8, .int l8)] [] M φ := by
  unfold f_W_isSound_236 at h
  refine a_aload_n (j := 0) hB e_W_isSound_236 rfl rfl ?_
  refine a_iload (j := 7) hB e_W_isSound_237 rfl ?_
  obtain ⟨r239, hr239, h⟩ := bn_i h
  refine a_ret (v := (some (.int r239))) (M1 := M) (φ1 := φ) (st1 := [.int r239]) (j1 := k1 + 1) (j2 := k2 + 6) (ar_SX (As := [.ref 0, .int l7]) (rest := []) hB (c_W_tallies (bf_G hB) hF hd hr239) ml_W_154 md_W_tallies rfl rfl (Nat.le_of_ble_eq_true rfl) (rmL (c := 1) (s := 6) (K1 := 756) (K2 := 4536) (Nat.le_of_ble_eq_true rfl) (Nat.le_of_ble_eq_true rfl) (by omega) (by omega) rfl rfl rfl rfl) e_W_isSound_239) rfl rfl rfl ?_
  refine a_aload_n (j := 0) hB e_W_isSound_242 rfl rfl ?_
  refine a_iload (j := 7) hB e_W_isSound_243 rfl ?_
  obtain ⟨r245, hr245, h⟩ := bn_i h
  refine a_ret (v := (some (.int r245))) (M1 := M) (φ1 := φ) (st1 := [.int r245, .int r239]) (j1 := k1 + 2) (j2 := k2 + 12) (ar_SX (As := [.ref 0, .int l7]) (rest := [.int r239]) hB (c_W_pins (bf_G hB) hF hd hr245) ml_W_148 md_W_pins rfl rfl (Nat.le_of_ble_eq_true rfl) (rmL (c := 1) (s := 6) (K1 := 756) (K2 := 4536) (Nat.le_of_ble_eq_true rfl) (Nat.le_of_ble_eq_true rfl) (by omega) (by omega) rfl rfl rfl rfl) e_W_isSound_245) rfl rfl rfl ?_
  refine a_aload_n (j := 0) hB e_W_isSound_248 rfl rfl ?_
  refine a_iload (j := 7) hB e_W_isSound_249 rfl ?_
  obtain ⟨r251, hr251, h⟩ := bn_i h
  refine a_ret (v := (some (.int r251))) (M1 := M) (φ1 := φ) (st1 := [.int r251, .int r245, .int r239]) (j1 := k1 + 3) (j2 := k2 + 18) (ar_SX (As := [.ref 0, .int l7]) (rest := [.int r245, .int r239]) hB (c_W_droppedPins (bf_G hB) hF hd hr251) ml_W_156 md_W_droppedPins rfl rfl (Nat.le_of_ble_eq_true rfl) (rmL (c := 1) (s := 6) (K1 := 756) (K2 := 4536) (Nat.le_of_ble_eq_true rfl) (Nat.le_of_ble_eq_true rfl) (by omega) (by omega) rfl rfl rfl rfl) e_W_isSound_251) rfl rfl rfl ?_
  refine a_iadd hB e_W_isSound_254 ?_
  refine a_bipush (v := 10) hB e_W_isSound_255 bp_10 ?_
  refine a_idiv hB e_W_isSound_257 (by decide) ?_
  refine a_icmp_eq (tgt := 263) hB e_W_isSound_258 (by decide) (fun c => ?_) (fun c => ?_)
  · have h := ip c h
    refine a_iload_n (j := 2) hB e_W_isSound_263 rfl rfl ?_
    refine a_aload_n (j := 0) hB e_W_isSound_264 rfl rfl ?_
    refine a_iload (j := 7) hB e_W_isSound_265 rfl ?_
    obtain ⟨r267, hr267, h⟩ := bn_i h
    refine a_ret (v := (some (.int r267))) (M1 := M) (φ1 := φ) (st1 := [.int r267, .int l2]) (j1 := k1 + 4) (j2 := k2 + 24) (ar_SX (As := [.ref 0, .int l7]) (rest := [.int l2]) hB (c_W_eastStep (bf_G hB) hF hd hr267) ml_W_150 md_W_eastStep rfl rfl (Nat.le_of_ble_eq_true rfl) (rmL (c := 1) (s := 6) (K1 := 756) (K2 := 4536) (Nat.le_of_ble_eq_true rfl) (Nat.le_of_ble_eq_true rfl) (by omega) (by omega) rfl rfl rfl rfl) e_W_isSound_267) rfl rfl rfl ?_
    refine a_iadd hB e_W_isSound_270 ?_
    refine a_istore_n (ls' := [(2, .int (l2 + r267)), (0, .ref 0), (1, .int l1), (3, .int l3), (4, .int l4), (5, .int l5), (6, .int l6), (7, .int l7), (8, .int l8)]) hB e_W_isSound_271 rfl (Nat.le_of_ble_eq_true rfl) rfl ?_
    refine a_iload_n (j := 3) hB e_W_isSound_272 rfl rfl ?_
    refine a_aload_n (j := 1) hB e_W_isSound_273 rfl rfl ?_
    refine a_iload (j := 7) hB e_W_isSound_274 rfl ?_
    obtain ⟨r276, hr276, h⟩ := bn_i h
    refine a_ret (v := (some (.int r276))) (M1 := M) (φ1 := φ) (st1 := [.int r276, .int l3]) (j1 := k1 + 5) (j2 := k2 + 30) (ar_SX (As := [.ref 0, .int l7]) (rest := [.int l3]) hB (c_W_northStep (bf_G hB) hF hd hr276) ml_W_152 md_W_northStep rfl rfl (Nat.le_of_ble_eq_true rfl) (rmL (c := 1) (s := 6) (K1 := 756) (K2 := 4536) (Nat.le_of_ble_eq_true rfl) (Nat.le_of_ble_eq_true rfl) (by omega) (by omega) rfl rfl rfl rfl) e_W_isSound_276) rfl rfl rfl ?_
    refine a_iadd hB e_W_isSound_279 ?_
    refine a_istore_n (ls' := [(3, .int (l3 + r276)), (2, .int (l2 + r267)), (0, .ref 0), (1, .int l1), (4, .int l4), (5, .int l5), (6, .int l6), (7, .int l7), (8, .int l8)]) hB e_W_isSound_280 rfl (Nat.le_of_ble_eq_true rfl) rfl ?_
    refine a_iload (j := 4) hB e_W_isSound_281 rfl ?_
    refine a_iload (j := 8) hB e_W_isSound_283 rfl ?_
    refine a_iadd hB e_W_isSound_285 ?_
    refine a_istore (ls' := [(4, .int (l4 + l8)), (3, .int (l3 + r276)), (2, .int (l2 + r267)), (0, .ref 0), (1, .int l1), (5, .int l5), (6, .int l6), (7, .int l7), (8, .int l8)]) hB e_W_isSound_286 (Nat.le_of_ble_eq_true rfl) rfl ?_
    refine a_aload_n (j := 3) hB e_W_isSound_288 rfl rfl ?_
    refine a_iload (j := 7) hB e_W_isSound_289 rfl ?_
    obtain ⟨r291, hr291, h⟩ := bn_i h
    refine a_ret (v := (some (.int r291))) (M1 := M) (φ1 := φ) (st1 := [.int r291]) (j1 := k1 + 6) (j2 := k2 + 36) (ar_SX (As := [.ref 0, .int l7]) (rest := []) hB (c_W_isBog (bf_G hB) hF hd hr291) ml_W_144 md_W_isBog rfl rfl (Nat.le_of_ble_eq_true rfl) (rmL (c := 1) (s := 6) (K1 := 756) (K2 := 4536) (Nat.le_of_ble_eq_true rfl) (Nat.le_of_ble_eq_true rfl) (by omega) (by omega) rfl rfl rfl rfl) e_W_isSound_291) rfl rfl rfl ?_
    refine a_iconst (v := 1) hB e_W_isSound_294 ic_1 ?_
    refine a_icmp_ne (tgt := 305) hB e_W_isSound_295 (by decide) (fun c => ?_) (fun c => ?_)
    · have h := iq c h
      refine a_ls [3, 4, 2, 1, 0, 5, 6, 7, 8] (ls' := [(0, .ref 0), (1, .int l1), (2, .int (l2 + r267)), (3, .int (l3 + r276)), (4, .int (l4 + l8)), (5, .int l5), (6, .int l6), (7, .int l7), (8, .int l8)]) rfl ?_
      exact t_W_isSound_305 hB hF hd hr69 hc69 (by omega) (by omega) h
    · have h := ip c h
      refine a_iload (j := 5) hB e_W_isSound_298 rfl ?_
      refine a_iload (j := 8) hB e_W_isSound_300 rfl ?_
      refine a_iadd hB e_W_isSound_302 ?_
      refine a_istore (ls' := [(5, .int (l5 + l8)), (4, .int (l4 + l8)), (3, .int (l3 + r276)), (2, .int (l2 + r267)), (0, .ref 0), (1, .int l1), (6, .int l6), (7, .int l7), (8, .int l8)]) hB e_W_isSound_303 (Nat.le_of_ble_eq_true rfl) rfl ?_
      refine a_ls [4, 5, 3, 2, 1, 0, 6, 7, 8] (ls' := [(0, .ref 0), (1, .int l1), (2, .int (l2 + r267)), (3, .int (l3 + r276)), (4, .int (l4 + l8)), (5, .int (l5 + l8)), (6, .int l6), (7, .int l7), (8, .int l8)]) rfl ?_
      exact t_W_isSound_305 hB hF hd hr69 hc69 (by omega) (by omega) h
  · have h := iq c h
    refine a_iconst (v := 0) hB e_W_isSound_261 ic_0 ?_
    cases h
    exact a_zret hB rfl (Or.inl rfl) e_W_isSound_262 (le_K (K := 756) (by omega) rfl) (le_K (K := 4536) (by omega) rfl)
set_option maxRecDepth 100000 in
theorem t_W_isSound_231 {G : Gt} {B : Bag} {o : Int32} {M9 : Mm} (hB : BF G I_W_isSound B)  {φ : Ph} (hF : SF 138 φ) (hd : dirt φ = φ)   {k1 k2 : Nat} {c : Nat} {r69 : Int32 → Int32 → Int32 → Int32 → Int32 → Int32 → Int32 → Mm → Option (Int32 × Mm)} (hr69 : ∀ (k1 k2 : Nat) (l1 : Int32) (l2 : Int32) (l3 : Int32) (l4 : Int32) (l5 : Int32) (l6 : Int32) (l7 : Int32) (M : Mm), k1 + c ≤ 756 → k2 + 6 * c ≤ 4536 → r69 l1 l2 l3 l4 l5 l6 l7 M = some (o, M9) → AW G I_W_isSound B (QM G I_W_isSound B (.inl (some (.int o))) M9 φ) k1 k2 69 [(0, .ref 0), (1, .int l1), (2, .int l2), (3, .int l3), (4, .int l4), (5, .int l5), (6, .int l6), (7, .int l7)] [] M φ) (hc69 : 92 ≤ c) (hk1 : k1 + (19 + c) ≤ 756) (hk2 : k2 + 6 * (19 + c) ≤ 4536) {l1 : Int32} {l2 : Int32} {l3 : Int32} {l4 : Int32} {l5 : Int32} {l6 : Int32} {l7 : Int32} {l8 : Int32} {t0 : Int32} {t1 : Int32} {M : Mm} (h : f_W_isSound_231 r69 l1 l2 l3 l4 l5 l6 l7 l8 t0 t1 M = some (o, M9)) : AW G I_W_isSound B (QM G I_W_isSound B (.inl (some (.int o))) M9 φ) k1 k2 231 [(0, .ref 0), (1, .int l1), (2, .int l2), (3, .int l3), (4, .int l4), (5, .int l5), (6, .int l6), (7, .int l7), (8, .int l8)] [.int t1, .int t0] M φ := by
  unfold f_W_isSound_231 at h
  refine a_icmp_eq (tgt := 236) hB e_W_isSound_231 (by decide) (fun c => ?_) (fun c => ?_)
  · have h := ip c h
    exact t_W_isSound_236 hB hF hd hr69 hc69 (by omega) (by omega) h
  · have h := iq c h
    refine a_ls [] (ls' := []) rfl ?_
    exact t_W_isSound_234 hB hF hd (by omega) (by omega) h
set_option maxRecDepth 100000 in
theorem t_W_isSound_190 {G : Gt} {B : Bag} {o : Int32} {M9 : Mm} (hB : BF G I_W_isSound B)  {φ : Ph} (hF : SF 138 φ) (hd : dirt φ = φ)   {k1 k2 : Nat} {c : Nat} {r69 : Int32 → Int32 → Int32 → Int32 → Int32 → Int32 → Int32 → Mm → Option (Int32 × Mm)} (hr69 : ∀ (k1 k2 : Nat) (l1 : Int32) (l2 : Int32) (l3 : Int32) (l4 : Int32) (l5 : Int32) (l6 : Int32) (l7 : Int32) (M : Mm), k1 + c ≤ 756 → k2 + 6 * c ≤ 4536 → r69 l1 l2 l3 l4 l5 l6 l7 M = some (o, M9) → AW G I_W_isSound B (QM G I_W_isSound B (.inl (some (.int o))) M9 φ) k1 k2 69 [(0, .ref 0), (1, .int l1), (2, .int l2), (3, .int l3), (4, .int l4), (5, .int l5), (6, .int l6), (7, .int l7)] [] M φ) (hc69 : 92 ≤ c) (hk1 : k1 + (21 + c) ≤ 756) (hk2 : k2 + 6 * (21 + c) ≤ 4536) {l1 : Int32} {l2 : Int32} {l3 : Int32} {l4 : Int32} {l5 : Int32} {l6 : Int32} {l7 : Int32} {l8 : Int32} {l9 : Int32} {M : Mm} (h : f_W_isSound_190 r69 l1 l2 l3 l4 l5 l6 l7 l8 l9 M = some (o, M9)) : AW G I_W_isSound B (QM G I_W_isSound B (.inl (some (.int o))) M9 φ) k1 k2 190 [(0, .ref 0), (1, .int l1), (2, .int l2), (3, .int l3), (4, .int l4), (5, .int l5), (6, .int l6), (7, .int l7), (8, .int l8), (9, .int l9)] [] M φ := by
  unfold f_W_isSound_190 at h
  refine a_iload (j := 9) hB e_W_isSound_190 rfl ?_
  refine a_sipush (v := 180) hB e_W_isSound_192 sp_180 ?_
  refine a_irem hB e_W_isSound_195 (by decide) ?_
  refine a_bipush (v := 90) hB e_W_isSound_196 bp_90 ?_
  refine a_icmp_ne (tgt := 236) hB e_W_isSound_198 (by decide) (fun c => ?_) (fun c => ?_)
  · have h := iq c h
    refine a_ls [0, 1, 2, 3, 4, 5, 6, 7, 8] (ls' := [(0, .ref 0), (1, .int l1), (2, .int l2), (3, .int l3), (4, .int l4), (5, .int l5), (6, .int l6), (7, .int l7), (8, .int l8)]) rfl ?_
    exact t_W_isSound_236 hB hF hd hr69 hc69 (by omega) (by omega) h
  · have h := ip c h
    refine a_aload_n (j := 0) hB e_W_isSound_201 rfl rfl ?_
    refine a_iload (j := 7) hB e_W_isSound_202 rfl ?_
    obtain ⟨r204, hr204, h⟩ := bn_i h
    refine a_ret (v := (some (.int r204))) (M1 := M) (φ1 := φ) (st1 := [.int r204]) (j1 := k1 + 1) (j2 := k2 + 6) (ar_SX (As := [.ref 0, .int l7]) (rest := []) hB (c_W_northStep (bf_G hB) hF hd hr204) ml_W_152 md_W_northStep rfl rfl (Nat.le_of_ble_eq_true rfl) (rmL (c := 1) (s := 6) (K1 := 756) (K2 := 4536) (Nat.le_of_ble_eq_true rfl) (Nat.le_of_ble_eq_true rfl) (by omega) (by omega) rfl rfl rfl rfl) e_W_isSound_204) rfl rfl rfl ?_
    refine a_if_ne (tgt := 234) hB e_W_isSound_207 (by decide) (fun c => ?_) (fun c => ?_)
    · have h := iq c h
      refine a_ls [] (ls' := []) rfl ?_
      exact t_W_isSound_234 hB hF hd (by omega) (by omega) h
    · have h := ip c h
      refine a_aload_n (j := 0) hB e_W_isSound_210 rfl rfl ?_
      refine a_iload (j := 7) hB e_W_isSound_211 rfl ?_
      obtain ⟨r213, hr213, h⟩ := bn_i h
      refine a_ret (v := (some (.int r213))) (M1 := M) (φ1 := φ) (st1 := [.int r213]) (j1 := k1 + 2) (j2 := k2 + 12) (ar_SX (As := [.ref 0, .int l7]) (rest := []) hB (c_W_eastStep (bf_G hB) hF hd hr213) ml_W_150 md_W_eastStep rfl rfl (Nat.le_of_ble_eq_true rfl) (rmL (c := 1) (s := 6) (K1 := 756) (K2 := 4536) (Nat.le_of_ble_eq_true rfl) (Nat.le_of_ble_eq_true rfl) (by omega) (by omega) rfl rfl rfl rfl) e_W_isSound_213) rfl rfl rfl ?_
      refine a_iload (j := 9) hB e_W_isSound_216 rfl ?_
      refine a_bipush (v := 90) hB e_W_isSound_218 bp_90 ?_
      refine a_icmp_ne (tgt := 228) hB e_W_isSound_220 (by decide) (fun c => ?_) (fun c => ?_)
      · have h := iq c h
        refine a_iload (j := 8) hB e_W_isSound_228 rfl ?_
        refine a_ineg hB e_W_isSound_230 ?_
        refine a_ls [0, 1, 2, 3, 4, 5, 6, 7, 8] (ls' := [(0, .ref 0), (1, .int l1), (2, .int l2), (3, .int l3), (4, .int l4), (5, .int l5), (6, .int l6), (7, .int l7), (8, .int l8)]) rfl ?_
        exact t_W_isSound_231 hB hF hd hr69 hc69 (by omega) (by omega) h
      · have h := ip c h
        refine a_iload (j := 8) hB e_W_isSound_223 rfl ?_
        refine a_goto (tgt := 231) hB e_W_isSound_225 (by decide) ?_
        refine a_ls [0, 1, 2, 3, 4, 5, 6, 7, 8] (ls' := [(0, .ref 0), (1, .int l1), (2, .int l2), (3, .int l3), (4, .int l4), (5, .int l5), (6, .int l6), (7, .int l7), (8, .int l8)]) rfl ?_
        exact t_W_isSound_231 hB hF hd hr69 hc69 (by omega) (by omega) h
set_option maxRecDepth 100000 in
theorem t_W_isSound_187 {G : Gt} {B : Bag} {o : Int32} {M9 : Mm} (hB : BF G I_W_isSound B)  {φ : Ph} (hF : SF 138 φ) (hd : dirt φ = φ)   {k1 k2 : Nat} {c : Nat} {r69 : Int32 → Int32 → Int32 → Int32 → Int32 → Int32 → Int32 → Mm → Option (Int32 × Mm)} (hr69 : ∀ (k1 k2 : Nat) (l1 : Int32) (l2 : Int32) (l3 : Int32) (l4 : Int32) (l5 : Int32) (l6 : Int32) (l7 : Int32) (M : Mm), k1 + c ≤ 756 → k2 + 6 * c ≤ 4536 → r69 l1 l2 l3 l4 l5 l6 l7 M = some (o, M9) → AW G I_W_isSound B (QM G I_W_isSound B (.inl (some (.int o))) M9 φ) k1 k2 69 [(0, .ref 0), (1, .int l1), (2, .int l2), (3, .int l3), (4, .int l4), (5, .int l5), (6, .int l6), (7, .int l7)] [] M φ) (hc69 : 92 ≤ c) (hk1 : k1 + (21 + c) ≤ 756) (hk2 : k2 + 6 * (21 + c) ≤ 4536) {l1 : Int32} {l2 : Int32} {l3 : Int32} {l4 : Int32} {l5 : Int32} {l6 : Int32} {l7 : Int32} {l8 : Int32} {l9 : Int32} {t0 : Int32} {t1 : Int32} {M : Mm} (h : f_W_isSound_187 r69 l1 l2 l3 l4 l5 l6 l7 l8 l9 t0 t1 M = some (o, M9)) : AW G I_W_isSound B (QM G I_W_isSound B (.inl (some (.int o))) M9 φ) k1 k2 187 [(0, .ref 0), (1, .int l1), (2, .int l2), (3, .int l3), (4, .int l4), (5, .int l5), (6, .int l6), (7, .int l7), (8, .int l8), (9, .int l9)] [.int t1, .int t0] M φ := by
  unfold f_W_isSound_187 at h
  refine a_icmp_ne (tgt := 234) hB e_W_isSound_187 (by decide) (fun c => ?_) (fun c => ?_)
  · have h := iq c h
    refine a_ls [] (ls' := []) rfl ?_
    exact t_W_isSound_234 hB hF hd (by omega) (by omega) h
  · have h := ip c h
    exact t_W_isSound_190 hB hF hd hr69 hc69 (by omega) (by omega) h
set_option maxRecDepth 100000 in
theorem t_W_isSound_150 {G : Gt} {B : Bag} {o : Int32} {M9 : Mm} (hB : BF G I_W_isSound B)  {φ : Ph} (hF : SF 138 φ) (hd : dirt φ = φ)   {k1 k2 : Nat} {c : Nat} {r69 : Int32 → Int32 → Int32 → Int32 → Int32 → Int32 → Int32 → Mm → Option (Int32 × Mm)} (hr69 : ∀ (k1 k2 : Nat) (l1 : Int32) (l2 : Int32) (l3 : Int32) (l4 : Int32) (l5 : Int32) (l6 : Int32) (l7 : Int32) (M : Mm), k1 + c ≤ 756 → k2 + 6 * c ≤ 4536 → r69 l1 l2 l3 l4 l5 l6 l7 M = some (o, M9) → AW G I_W_isSound B (QM G I_W_isSound B (.inl (some (.int o))) M9 φ) k1 k2 69 [(0, .ref 0), (1, .int l1), (2, .int l2), (3, .int l3), (4, .int l4), (5, .int l5), (6, .int l6), (7, .int l7)] [] M φ) (hc69 : 92 ≤ c) (hk1 : k1 + (23 + c) ≤ 756) (hk2 : k2 + 6 * (23 + c) ≤ 4536) {l1 : Int32} {l2 : Int32} {l3 : Int32} {l4 : Int32} {l5 : Int32} {l6 : Int32} {l7 : Int32} {l8 : Int32} {l9 : Int32} {M : Mm} (h : f_W_isSound_150 r69 l1 l2 l3 l4 l5 l6 l7 l8 l9 M = some (o, M9)) : AW G I_W_isSound B (QM G I_W_isSound B (.inl (some (.int o))) M9 φ) k1 k2 150 [(0, .ref 0), (1, .int l1), (2, .int l2), (3, .int l3), (4, .int l4), (5, .int l5), (6, .int l6), (7, .int l7), (8, .int l8), (9, .int l9)] [] M φ := by
  unfold f_W_isSound_150 at h
  refine a_iload (j := 9) hB e_W_isSound_150 rfl ?_
  refine a_sipush (v := 180) hB e_W_isSound_152 sp_180 ?_
  refine a_irem hB e_W_isSound_155 (by decide) ?_
  refine a_if_ne (tgt := 190) hB e_W_isSound_156 (by decide) (fun c => ?_) (fun c => ?_)
  · have h := iq c h
    exact t_W_isSound_190 hB hF hd hr69 hc69 (by omega) (by omega) h
  · have h := ip c h
    refine a_aload_n (j := 0) hB e_W_isSound_159 rfl rfl ?_
    refine a_iload (j := 7) hB e_W_isSound_160 rfl ?_
    obtain ⟨r162, hr162, h⟩ := bn_i h
    refine a_ret (v := (some (.int r162))) (M1 := M) (φ1 := φ) (st1 := [.int r162]) (j1 := k1 + 1) (j2 := k2 + 6) (ar_SX (As := [.ref 0, .int l7]) (rest := []) hB (c_W_eastStep (bf_G hB) hF hd hr162) ml_W_150 md_W_eastStep rfl rfl (Nat.le_of_ble_eq_true rfl) (rmL (c := 1) (s := 6) (K1 := 756) (K2 := 4536) (Nat.le_of_ble_eq_true rfl) (Nat.le_of_ble_eq_true rfl) (by omega) (by omega) rfl rfl rfl rfl) e_W_isSound_162) rfl rfl rfl ?_
    refine a_if_ne (tgt := 234) hB e_W_isSound_165 (by decide) (fun c => ?_) (fun c => ?_)
    · have h := iq c h
      refine a_ls [] (ls' := []) rfl ?_
      exact t_W_isSound_234 hB hF hd (by omega) (by omega) h
    · have h := ip c h
      refine a_aload_n (j := 0) hB e_W_isSound_168 rfl rfl ?_
      refine a_iload (j := 7) hB e_W_isSound_169 rfl ?_
      obtain ⟨r171, hr171, h⟩ := bn_i h
      refine a_ret (v := (some (.int r171))) (M1 := M) (φ1 := φ) (st1 := [.int r171]) (j1 := k1 + 2) (j2 := k2 + 12) (ar_SX (As := [.ref 0, .int l7]) (rest := []) hB (c_W_northStep (bf_G hB) hF hd hr171) ml_W_152 md_W_northStep rfl rfl (Nat.le_of_ble_eq_true rfl) (rmL (c := 1) (s := 6) (K1 := 756) (K2 := 4536) (Nat.le_of_ble_eq_true rfl) (Nat.le_of_ble_eq_true rfl) (by omega) (by omega) rfl rfl rfl rfl) e_W_isSound_171) rfl rfl rfl ?_
      refine a_iload (j := 9) hB e_W_isSound_174 rfl ?_
      refine a_if_ne (tgt := 184) hB e_W_isSound_176 (by decide) (fun c => ?_) (fun c => ?_)
      · have h := iq c h
        refine a_iload (j := 8) hB e_W_isSound_184 rfl ?_
        refine a_ineg hB e_W_isSound_186 ?_
        exact t_W_isSound_187 hB hF hd hr69 hc69 (by omega) (by omega) h
      · have h := ip c h
        refine a_iload (j := 8) hB e_W_isSound_179 rfl ?_
        refine a_goto (tgt := 187) hB e_W_isSound_181 (by decide) ?_
        exact t_W_isSound_187 hB hF hd hr69 hc69 (by omega) (by omega) h
set_option maxRecDepth 100000 in
theorem t_W_isSound_507 {G : Gt} {B : Bag} {o : Int32} {M9 : Mm} (hB : BF G I_W_isSound B)  {φ : Ph} (hF : SF 138 φ) (hd : dirt φ = φ)   {k1 k2 : Nat} {c : Nat} {r487 : Int32 → Int32 → Int32 → Int32 → Int32 → Int32 → Int64 → Int32 → Mm → Option (Int32 × Mm)} (hr487 : ∀ (k1 k2 : Nat) (l1 : Int32) (l2 : Int32) (l3 : Int32) (l4 : Int32) (l5 : Int32) (l6 : Int32) (l7 : Int64) (l9 : Int32) (M : Mm), k1 + c ≤ 756 → k2 + 6 * c ≤ 4536 → r487 l1 l2 l3 l4 l5 l6 l7 l9 M = some (o, M9) → AW G I_W_isSound B (QM G I_W_isSound B (.inl (some (.int o))) M9 φ) k1 k2 487 [(0, .ref 0), (1, .int l1), (2, .int l2), (3, .int l3), (4, .int l4), (5, .int l5), (6, .int l6), (7, .long l7), (9, .int l9)] [] M φ) (hc487 : 4 ≤ c) (hk1 : k1 + (4 + c) ≤ 756) (hk2 : k2 + 6 * (4 + c) ≤ 4536) {l1 : Int32} {l2 : Int32} {l3 : Int32} {l4 : Int32} {l5 : Int32} {l6 : Int32} {l7 : Int64} {l9 : Int32} {t0 : Int32} {M : Mm} (h : f_W_isSound_507 r487 l1 l2 l3 l4 l5 l6 l7 l9 t0 M = some (o, M9)) : AW G I_W_isSound B (QM G I_W_isSound B (.inl (some (.int o))) M9 φ) k1 k2 507 [(0, .ref 0), (1, .int l1), (2, .int l2), (3, .int l3), (4, .int l4), (5, .int l5), (6, .int l6), (7, .long l7), (9, .int l9)] [.int t0] M φ := by
  unfold f_W_isSound_507 at h
  refine a_istore (ls' := [(10, .int t0), (0, .ref 0), (1, .int l1), (2, .int l2), (3, .int l3), (4, .int l4), (5, .int l5), (6, .int l6), (7, .long l7), (9, .int l9)]) hB e_W_isSound_507 (Nat.le_of_ble_eq_true rfl) rfl ?_
  refine a_lload (j := 8) hB e_W_isSound_509 rfl ?_
  refine a_aload_n (j := 1) hB e_W_isSound_511 rfl rfl ?_
  refine a_iload (j := 9) hB e_W_isSound_512 rfl ?_
  obtain ⟨r514, M514, hr514, h⟩ := bn2_i h
  refine a_ret (v := (some (.int r514))) (M1 := M514) (φ1 := φ) (st1 := [.int r514, .long l7]) (j1 := k1 + 1) (j2 := k2 + 6) (ar_SX (As := [.ref 0, .int l9]) (rest := [.long l7]) hB (c_W_east (bf_G hB) hF hd hr514) ml_W_134 md_W_east rfl rfl (Nat.le_of_ble_eq_true rfl) (rmL (c := 1) (s := 6) (K1 := 756) (K2 := 4536) (Nat.le_of_ble_eq_true rfl) (Nat.le_of_ble_eq_true rfl) (by omega) (by omega) rfl rfl rfl rfl) e_W_isSound_514) rfl rfl rfl ?_
  refine a_i2l hB e_W_isSound_517 ?_
  refine a_aload_n (j := 1) hB e_W_isSound_518 rfl rfl ?_
  refine a_iload (j := 0) hB e_W_isSound_519 rfl ?_
  obtain ⟨r521, M521, hr521, h⟩ := bn2_i h
  refine a_ret (v := (some (.int r521))) (M1 := M521) (φ1 := φ) (st1 := [.int r521, .long r514.toInt64, .long l7]) (j1 := k1 + 2) (j2 := k2 + 12) (ar_SX (As := [.ref 0, .int t0]) (rest := [.long r514.toInt64, .long l7]) hB (c_W_north (bf_G hB) hF hd hr521) ml_W_164 md_W_north rfl rfl (Nat.le_of_ble_eq_true rfl) (rmL (c := 1) (s := 6) (K1 := 756) (K2 := 4536) (Nat.le_of_ble_eq_true rfl) (Nat.le_of_ble_eq_true rfl) (by omega) (by omega) rfl rfl rfl rfl) e_W_isSound_521) rfl rfl rfl ?_
  refine a_i2l hB e_W_isSound_524 ?_
  refine a_lmul hB e_W_isSound_525 ?_
  refine a_aload_n (j := 1) hB e_W_isSound_526 rfl rfl ?_
  refine a_iload (j := 0) hB e_W_isSound_527 rfl ?_
  obtain ⟨r529, M529, hr529, h⟩ := bn2_i h
  refine a_ret (v := (some (.int r529))) (M1 := M529) (φ1 := φ) (st1 := [.int r529, .long (r514.toInt64 * r521.toInt64), .long l7]) (j1 := k1 + 3) (j2 := k2 + 18) (ar_SX (As := [.ref 0, .int t0]) (rest := [.long (r514.toInt64 * r521.toInt64), .long l7]) hB (c_W_east (bf_G hB) hF hd hr529) ml_W_134 md_W_east rfl rfl (Nat.le_of_ble_eq_true rfl) (rmL (c := 1) (s := 6) (K1 := 756) (K2 := 4536) (Nat.le_of_ble_eq_true rfl) (Nat.le_of_ble_eq_true rfl) (by omega) (by omega) rfl rfl rfl rfl) e_W_isSound_529) rfl rfl rfl ?_
  refine a_i2l hB e_W_isSound_532 ?_
  refine a_aload_n (j := 1) hB e_W_isSound_533 rfl rfl ?_
  refine a_iload (j := 9) hB e_W_isSound_534 rfl ?_
  obtain ⟨r536, M536, hr536, h⟩ := bn2_i h
  refine a_ret (v := (some (.int r536))) (M1 := M536) (φ1 := φ) (st1 := [.int r536, .long r529.toInt64, .long (r514.toInt64 * r521.toInt64), .long l7]) (j1 := k1 + 4) (j2 := k2 + 24) (ar_SX (As := [.ref 0, .int l9]) (rest := [.long r529.toInt64, .long (r514.toInt64 * r521.toInt64), .long l7]) hB (c_W_north (bf_G hB) hF hd hr536) ml_W_164 md_W_north rfl rfl (Nat.le_of_ble_eq_true rfl) (rmL (c := 1) (s := 6) (K1 := 756) (K2 := 4536) (Nat.le_of_ble_eq_true rfl) (Nat.le_of_ble_eq_true rfl) (by omega) (by omega) rfl rfl rfl rfl) e_W_isSound_536) rfl rfl rfl ?_
  refine a_i2l hB e_W_isSound_539 ?_
  refine a_lmul hB e_W_isSound_540 ?_
  refine a_lsub hB e_W_isSound_541 ?_
  refine a_ladd hB e_W_isSound_542 ?_
  refine a_lstore (ls' := [(7, .long (l7 + ((r514.toInt64 * r521.toInt64) - (r529.toInt64 * r536.toInt64)))), (10, .int t0), (0, .ref 0), (1, .int l1), (2, .int l2), (3, .int l3), (4, .int l4), (5, .int l5), (6, .int l6), (9, .int l9)]) hB e_W_isSound_543 (Nat.le_of_ble_eq_true rfl) rfl ?_
  refine a_iinc (j := 9) (v := l9 + 1) (ls' := [(9, .int (l9 + 1)), (7, .long (l7 + ((r514.toInt64 * r521.toInt64) - (r529.toInt64 * r536.toInt64)))), (10, .int t0), (0, .ref 0), (1, .int l1), (2, .int l2), (3, .int l3), (4, .int l4), (5, .int l5), (6, .int l6)]) hB e_W_isSound_545 rfl (inc_1 _) (Nat.le_of_ble_eq_true rfl) rfl ?_
  refine a_goto (tgt := 487) hB e_W_isSound_548 (by decide) ?_
  refine a_ls [3, 4, 5, 6, 7, 8, 9, 1, 0] (ls' := [(0, .ref 0), (1, .int l1), (2, .int l2), (3, .int l3), (4, .int l4), (5, .int l5), (6, .int l6), (7, .long (l7 + ((r514.toInt64 * r521.toInt64) - (r529.toInt64 * r536.toInt64)))), (9, .int (l9 + 1))]) rfl ?_
  exact hr487 _ _ _ _ _ _ _ _ _ _ _ (by omega) (by omega) h
set_option maxRecDepth 100000 in
theorem t_W_isSound_579 {G : Gt} {B : Bag} {o : Int32} {M9 : Mm} (hB : BF G I_W_isSound B)  {φ : Ph} (hF : SF 138 φ) (hd : dirt φ = φ)   {k1 k2 : Nat}  (hk1 : k1 + (0) ≤ 756) (hk2 : k2 + 6 * (0) ≤ 4536)  {M : Mm} (h : f_W_isSound_579 M = some (o, M9)) : AW G I_W_isSound B (QM G I_W_isSound B (.inl (some (.int o))) M9 φ) k1 k2 579 [] [] M φ := by
  unfold f_W_isSound_579 at h
  refine a_iconst (v := 0) hB e_W_isSound_579 ic_0 ?_
  cases h
  exact a_zret hB rfl (Or.inl rfl) e_W_isSound_580 (le_K (K := 756) (by omega) rfl) (le_K (K := 4536) (by omega) rfl)
set_option maxRecDepth 100000 in
theorem t_W_isSound_714 {G : Gt} {B : Bag} {o : Int32} {M9 : Mm} (hB : BF G I_W_isSound B)  {φ : Ph} (hF : SF 138 φ) (hd : dirt φ = φ)   {k1 k2 : Nat}  (hk1 : k1 + (0) ≤ 756) (hk2 : k2 + 6 * (0) ≤ 4536) {t0 : Int32} {M : Mm} (h : f_W_isSound_714 t0 M = some (o, M9)) : AW G I_W_isSound B (QM G I_W_isSound B (.inl (some (.int o))) M9 φ) k1 k2 714 [] [.int t0] M φ := by
  unfold f_W_isSound_714 at h
  obtain ⟨z714, h⟩ := chk_i h
  cases h
  exact a_zret hB rfl z714 e_W_isSound_714 (le_K (K := 756) (by omega) rfl) (le_K (K := 4536) (by omega) rfl)
set_option maxRecDepth 100000 in
theorem t_W_isSound_713 {G : Gt} {B : Bag} {o : Int32} {M9 : Mm} (hB : BF G I_W_isSound B)  {φ : Ph} (hF : SF 138 φ) (hd : dirt φ = φ)   {k1 k2 : Nat}  (hk1 : k1 + (0) ≤ 756) (hk2 : k2 + 6 * (0) ≤ 4536)  {M : Mm} (h : f_W_isSound_713 M = some (o, M9)) : AW G I_W_isSound B (QM G I_W_isSound B (.inl (some (.int o))) M9 φ) k1 k2 713 [] [] M φ := by
  unfold f_W_isSound_713 at h
  refine a_iconst (v := 0) hB e_W_isSound_713 ic_0 ?_
  exact t_W_isSound_714 hB hF hd (by omega) (by omega) h
set_option maxRecDepth 100000 in
theorem t_W_isSound_650 {G : Gt} {B : Bag} {o : Int32} {M9 : Mm} (hB : BF G I_W_isSound B)  {φ : Ph} (hF : SF 138 φ) (hd : dirt φ = φ)   {k1 k2 : Nat}  (hk1 : k1 + (0) ≤ 756) (hk2 : k2 + 6 * (0) ≤ 4536) {l5 : Int32} {l6 : Int32} {l7 : Int64} {t0 : Int32} {t1 : Int32} {M : Mm} (h : f_W_isSound_650 l5 l6 l7 t0 t1 M = some (o, M9)) : AW G I_W_isSound B (QM G I_W_isSound B (.inl (some (.int o))) M9 φ) k1 k2 650 [(0, .ref 0), (5, .int l5), (6, .int l6), (7, .long l7)] [.int t1, .int t0] M φ := by
  unfold f_W_isSound_650 at h
  refine a_icmp_ne (tgt := 713) hB e_W_isSound_650 (by decide) (fun c => ?_) (fun c => ?_)
  · have h := iq c h
    refine a_ls [] (ls' := []) rfl ?_
    exact t_W_isSound_713 hB hF hd (by omega) (by omega) h
  · have h := ip c h
    refine a_aload_n (j := 0) hB e_W_isSound_653 rfl rfl ?_
    obtain ⟨r654, hr654, h⟩ := bn_i h
    refine a_ret (v := (some (.int r654))) (M1 := M) (φ1 := φ) (st1 := [.int r654]) (j1 := k1) (j2 := k2) (ar_V (As := []) (rest := []) hB (c_C_bogLength (bf_G hB) (sf_m hF (by decide)) hr654) ml_W_190 md_C_bogLength rc_C_bogLength (sf_lt hF (by decide)) kk_0 rfl rfl (Nat.le_of_ble_eq_true rfl) (rmL (c := 0) (s := 0) (K1 := 756) (K2 := 4536) (Nat.le_of_ble_eq_true rfl) (Nat.le_of_ble_eq_true rfl) (by omega) (by omega) rfl rfl rfl rfl) e_W_isSound_654) rfl rfl rfl ?_
    refine a_iload (j := 1) hB e_W_isSound_657 rfl ?_
    refine a_icmp_ne (tgt := 713) hB e_W_isSound_659 (by decide) (fun c => ?_) (fun c => ?_)
    · have h := iq c h
      refine a_ls [] (ls' := []) rfl ?_
      exact t_W_isSound_713 hB hF hd (by omega) (by omega) h
    · have h := ip c h
      refine a_aload_n (j := 0) hB e_W_isSound_662 rfl rfl ?_
      obtain ⟨r663, hr663, h⟩ := bn_i h
      refine a_ret (v := (some (.int r663))) (M1 := M) (φ1 := φ) (st1 := [.int r663]) (j1 := k1) (j2 := k2) (ar_V (As := []) (rest := []) hB (c_C_longestLeg (bf_G hB) (sf_m hF (by decide)) hr663) ml_W_193 md_C_longestLeg rc_C_longestLeg (sf_lt hF (by decide)) kk_0 rfl rfl (Nat.le_of_ble_eq_true rfl) (rmL (c := 0) (s := 0) (K1 := 756) (K2 := 4536) (Nat.le_of_ble_eq_true rfl) (Nat.le_of_ble_eq_true rfl) (by omega) (by omega) rfl rfl rfl rfl) e_W_isSound_663) rfl rfl rfl ?_
      refine a_iload (j := 2) hB e_W_isSound_666 rfl ?_
      refine a_icmp_ne (tgt := 713) hB e_W_isSound_668 (by decide) (fun c => ?_) (fun c => ?_)
      · have h := iq c h
        refine a_ls [] (ls' := []) rfl ?_
        exact t_W_isSound_713 hB hF hd (by omega) (by omega) h
      · have h := ip c h
        refine a_aload_n (j := 0) hB e_W_isSound_671 rfl rfl ?_
        obtain ⟨r672, M672, hr672, h⟩ := bn2_i h
        refine a_ret (v := (some (.long r672))) (M1 := M672) (φ1 := φ) (st1 := [.long r672]) (j1 := k1) (j2 := k2) (ar_V (As := []) (rest := []) hB (c_C_area (bf_G hB) (sf_m hF (by decide)) hr672) ml_W_196 md_C_area rc_C_area (sf_lt hF (by decide)) kk_0 rfl rfl (Nat.le_of_ble_eq_true rfl) (rmL (c := 0) (s := 0) (K1 := 756) (K2 := 4536) (Nat.le_of_ble_eq_true rfl) (Nat.le_of_ble_eq_true rfl) (by omega) (by omega) rfl rfl rfl rfl) e_W_isSound_672) rfl rfl rfl ?_
        refine a_lload (j := 3) hB e_W_isSound_675 rfl ?_
        refine a_absJ hB ml_W_200 ms_absJ ini_math mc_absJ (by decide) (Nat.le_of_ble_eq_true rfl) (le_K (K := 756) (by omega) rfl) (le_K (K := 4536) (by omega) rfl) e_W_isSound_677 ?_
        refine a_ldc2 (v := 2) hB cj_W_206 e_W_isSound_680 ?_
        refine a_ldiv hB e_W_isSound_683 (by decide) ?_
        refine a_lcmp hB e_W_isSound_684 ?_
        refine a_if_ne (tgt := 713) hB e_W_isSound_685 (by decide) (fun c => ?_) (fun c => ?_)
        · have h := iq c h
          refine a_ls [] (ls' := []) rfl ?_
          exact t_W_isSound_713 hB hF hd (by omega) (by omega) h
        · have h := ip c h
          refine a_aload_n (j := 0) hB e_W_isSound_688 rfl rfl ?_
          obtain ⟨r689, M689, hr689, h⟩ := bn2_i h
          refine a_ret (v := (some (.int r689))) (M1 := M689) (φ1 := φ) (st1 := [.int r689]) (j1 := k1) (j2 := k2) (ar_V (As := []) (rest := []) hB (c_C_width (bf_G hB) (sf_m hF (by decide)) hr689) ml_W_208 md_C_width rc_C_width (sf_lt hF (by decide)) kk_0 rfl rfl (Nat.le_of_ble_eq_true rfl) (rmL (c := 0) (s := 0) (K1 := 756) (K2 := 4536) (Nat.le_of_ble_eq_true rfl) (Nat.le_of_ble_eq_true rfl) (by omega) (by omega) rfl rfl rfl rfl) e_W_isSound_689) rfl rfl rfl ?_
          refine a_if_lt (tgt := 713) hB e_W_isSound_692 (by decide) (fun c => ?_) (fun c => ?_)
          · have h := ip c h
            refine a_ls [] (ls' := []) rfl ?_
            exact t_W_isSound_713 hB hF hd (by omega) (by omega) h
          · have h := iq c h
            refine a_aload_n (j := 0) hB e_W_isSound_695 rfl rfl ?_
            obtain ⟨r696, M696, hr696, h⟩ := bn2_i h
            refine a_ret (v := (some (.int r696))) (M1 := M696) (φ1 := φ) (st1 := [.int r696]) (j1 := k1) (j2 := k2) (ar_V (As := []) (rest := []) hB (c_C_height (bf_G hB) (sf_m hF (by decide)) hr696) ml_W_211 md_C_height rc_C_height (sf_lt hF (by decide)) kk_0 rfl rfl (Nat.le_of_ble_eq_true rfl) (rmL (c := 0) (s := 0) (K1 := 756) (K2 := 4536) (Nat.le_of_ble_eq_true rfl) (Nat.le_of_ble_eq_true rfl) (by omega) (by omega) rfl rfl rfl rfl) e_W_isSound_696) rfl rfl rfl ?_
            refine a_if_lt (tgt := 713) hB e_W_isSound_699 (by decide) (fun c => ?_) (fun c => ?_)
            · have h := ip c h
              refine a_ls [] (ls' := []) rfl ?_
              exact t_W_isSound_713 hB hF hd (by omega) (by omega) h
            · have h := iq c h
              refine a_aload_n (j := 0) hB e_W_isSound_702 rfl rfl ?_
              obtain ⟨r703, M703, hr703, h⟩ := bn2_i h
              refine a_ret (v := (some (.int r703))) (M1 := M703) (φ1 := φ) (st1 := [.int r703]) (j1 := k1) (j2 := k2) (ar_V (As := []) (rest := []) hB (c_C_inconsistencies (bf_G hB) (sf_m hF (by decide)) hr703) ml_W_214 md_C_inconsistencies rc_C_inconsistencies (sf_lt hF (by decide)) kk_0 rfl rfl (Nat.le_of_ble_eq_true rfl) (rmL (c := 0) (s := 0) (K1 := 756) (K2 := 4536) (Nat.le_of_ble_eq_true rfl) (Nat.le_of_ble_eq_true rfl) (by omega) (by omega) rfl rfl rfl rfl) e_W_isSound_703) rfl rfl rfl ?_
              refine a_if_ne (tgt := 713) hB e_W_isSound_706 (by decide) (fun c => ?_) (fun c => ?_)
              · have h := iq c h
                refine a_ls [] (ls' := []) rfl ?_
                exact t_W_isSound_713 hB hF hd (by omega) (by omega) h
              · have h := ip c h
                refine a_iconst (v := 1) hB e_W_isSound_709 ic_1 ?_
                refine a_goto (tgt := 714) hB e_W_isSound_710 (by decide) ?_
                refine a_ls [] (ls' := []) rfl ?_
                exact t_W_isSound_714 hB hF hd (by omega) (by omega) h
set_option maxRecDepth 100000 in
theorem t_W_isSound_581 {G : Gt} {B : Bag} {o : Int32} {M9 : Mm} (hB : BF G I_W_isSound B)  {φ : Ph} (hF : SF 138 φ) (hd : dirt φ = φ)   {k1 k2 : Nat}  (hk1 : k1 + (0) ≤ 756) (hk2 : k2 + 6 * (0) ≤ 4536) {l2 : Int32} {l3 : Int32} {l4 : Int32} {l5 : Int32} {l6 : Int32} {l7 : Int64} {M : Mm} (h : f_W_isSound_581 l2 l3 l4 l5 l6 l7 M = some (o, M9)) : AW G I_W_isSound B (QM G I_W_isSound B (.inl (some (.int o))) M9 φ) k1 k2 581 [(0, .ref 0), (2, .int l2), (3, .int l3), (4, .int l4), (5, .int l5), (6, .int l6), (7, .long l7)] [] M φ := by
  unfold f_W_isSound_581 at h
  refine a_aload_n (j := 0) hB e_W_isSound_581 rfl rfl ?_
  obtain ⟨r582, M582, hr582, h⟩ := bn2_i h
  refine a_ret (v := (some (.int r582))) (M1 := M582) (φ1 := φ) (st1 := [.int r582]) (j1 := k1) (j2 := k2) (ar_V (As := []) (rest := []) hB (c_C_misclosure (bf_G hB) (sf_m hF (by decide)) hr582) ml_W_175 md_C_misclosure rc_C_misclosure (sf_lt hF (by decide)) kk_0 rfl rfl (Nat.le_of_ble_eq_true rfl) (rmL (c := 0) (s := 0) (K1 := 756) (K2 := 4536) (Nat.le_of_ble_eq_true rfl) (Nat.le_of_ble_eq_true rfl) (by omega) (by omega) rfl rfl rfl rfl) e_W_isSound_582) rfl rfl rfl ?_
  refine a_istore (ls' := [(9, .int r582), (0, .ref 0), (2, .int l2), (3, .int l3), (4, .int l4), (5, .int l5), (6, .int l6), (7, .long l7)]) hB e_W_isSound_585 (Nat.le_of_ble_eq_true rfl) rfl ?_
  refine a_aload_n (j := 1) hB e_W_isSound_587 rfl rfl ?_
  obtain ⟨r588, M588, hr588, h⟩ := bn2_i h
  refine a_ret (v := (some (.int r588))) (M1 := M588) (φ1 := φ) (st1 := [.int r588]) (j1 := k1) (j2 := k2) (ar_V (As := []) (rest := []) hB (c_C_perimeter (bf_G hB) (sf_m hF (by decide)) hr588) ml_W_178 md_C_perimeter rc_C_perimeter (sf_lt hF (by decide)) kk_0 rfl rfl (Nat.le_of_ble_eq_true rfl) (rmL (c := 0) (s := 0) (K1 := 756) (K2 := 4536) (Nat.le_of_ble_eq_true rfl) (Nat.le_of_ble_eq_true rfl) (by omega) (by omega) rfl rfl rfl rfl) e_W_isSound_588) rfl rfl rfl ?_
  refine a_iload (j := 4) hB e_W_isSound_591 rfl ?_
  refine a_icmp_ne (tgt := 713) hB e_W_isSound_593 (by decide) (fun c => ?_) (fun c => ?_)
  · have h := iq c h
    refine a_ls [] (ls' := []) rfl ?_
    exact t_W_isSound_713 hB hF hd (by omega) (by omega) h
  · have h := ip c h
    refine a_aload_n (j := 1) hB e_W_isSound_596 rfl rfl ?_
    obtain ⟨r597, M597, hr597, h⟩ := bn2_i h
    refine a_ret (v := (some (.int r597))) (M1 := M597) (φ1 := φ) (st1 := [.int r597]) (j1 := k1) (j2 := k2) (ar_V (As := []) (rest := []) hB (c_C_closingEast (bf_G hB) (sf_m hF (by decide)) hr597) ml_W_181 md_C_closingEast rc_C_closingEast (sf_lt hF (by decide)) kk_0 rfl rfl (Nat.le_of_ble_eq_true rfl) (rmL (c := 0) (s := 0) (K1 := 756) (K2 := 4536) (Nat.le_of_ble_eq_true rfl) (Nat.le_of_ble_eq_true rfl) (by omega) (by omega) rfl rfl rfl rfl) e_W_isSound_597) rfl rfl rfl ?_
    refine a_iload_n (j := 2) hB e_W_isSound_600 rfl rfl ?_
    refine a_icmp_ne (tgt := 713) hB e_W_isSound_601 (by decide) (fun c => ?_) (fun c => ?_)
    · have h := iq c h
      refine a_ls [] (ls' := []) rfl ?_
      exact t_W_isSound_713 hB hF hd (by omega) (by omega) h
    · have h := ip c h
      refine a_aload_n (j := 1) hB e_W_isSound_604 rfl rfl ?_
      obtain ⟨r605, M605, hr605, h⟩ := bn2_i h
      refine a_ret (v := (some (.int r605))) (M1 := M605) (φ1 := φ) (st1 := [.int r605]) (j1 := k1) (j2 := k2) (ar_V (As := []) (rest := []) hB (c_C_closingNorth (bf_G hB) (sf_m hF (by decide)) hr605) ml_W_184 md_C_closingNorth rc_C_closingNorth (sf_lt hF (by decide)) kk_0 rfl rfl (Nat.le_of_ble_eq_true rfl) (rmL (c := 0) (s := 0) (K1 := 756) (K2 := 4536) (Nat.le_of_ble_eq_true rfl) (Nat.le_of_ble_eq_true rfl) (by omega) (by omega) rfl rfl rfl rfl) e_W_isSound_605) rfl rfl rfl ?_
      refine a_iload_n (j := 3) hB e_W_isSound_608 rfl rfl ?_
      refine a_icmp_ne (tgt := 713) hB e_W_isSound_609 (by decide) (fun c => ?_) (fun c => ?_)
      · have h := iq c h
        refine a_ls [] (ls' := []) rfl ?_
        exact t_W_isSound_713 hB hF hd (by omega) (by omega) h
      · have h := ip c h
        refine a_iload (j := 0) hB e_W_isSound_612 rfl ?_
        refine a_i2l hB e_W_isSound_614 ?_
        refine a_iload_n (j := 2) hB e_W_isSound_615 rfl rfl ?_
        refine a_i2l hB e_W_isSound_616 ?_
        refine a_iload_n (j := 2) hB e_W_isSound_617 rfl rfl ?_
        refine a_i2l hB e_W_isSound_618 ?_
        refine a_lmul hB e_W_isSound_619 ?_
        refine a_iload_n (j := 3) hB e_W_isSound_620 rfl rfl ?_
        refine a_i2l hB e_W_isSound_621 ?_
        refine a_iload_n (j := 3) hB e_W_isSound_622 rfl rfl ?_
        refine a_i2l hB e_W_isSound_623 ?_
        refine a_lmul hB e_W_isSound_624 ?_
        refine a_ladd hB e_W_isSound_625 ?_
        obtain ⟨r626, hr626, h⟩ := bn_i h
        refine a_ret (v := (some (.int r626))) (M1 := M605) (φ1 := φ) (st1 := [.int r626]) (j1 := k1) (j2 := k2) (ar_S (As := [.long r582.toInt64, .long ((l2.toInt64 * l2.toInt64) + (l3.toInt64 * l3.toInt64))]) (rest := []) hB (c_W_isRoot (bf_G hB) (sf_m hF (by decide)) hr626) ml_W_168 md_W_isRoot rfl rfl (Nat.le_of_ble_eq_true rfl) (rmL (c := 0) (s := 0) (K1 := 756) (K2 := 4536) (Nat.le_of_ble_eq_true rfl) (Nat.le_of_ble_eq_true rfl) (by omega) (by omega) rfl rfl rfl rfl) e_W_isSound_626) rfl rfl rfl ?_
        refine a_if_eq (tgt := 713) hB e_W_isSound_629 (by decide) (fun c => ?_) (fun c => ?_)
        · have h := ip c h
          refine a_ls [] (ls' := []) rfl ?_
          exact t_W_isSound_713 hB hF hd (by omega) (by omega) h
        · have h := iq c h
          refine a_aload_n (j := 1) hB e_W_isSound_632 rfl rfl ?_
          obtain ⟨r633, M633, hr633, h⟩ := bn2_i h
          refine a_ret (v := (some (.int r633))) (M1 := M633) (φ1 := φ) (st1 := [.int r633]) (j1 := k1) (j2 := k2) (ar_V (As := []) (rest := []) hB (c_C_precision (bf_G hB) (sf_m hF (by decide)) hr633) ml_W_187 md_C_precision rc_C_precision (sf_lt hF (by decide)) kk_0 rfl rfl (Nat.le_of_ble_eq_true rfl) (rmL (c := 0) (s := 0) (K1 := 756) (K2 := 4536) (Nat.le_of_ble_eq_true rfl) (Nat.le_of_ble_eq_true rfl) (by omega) (by omega) rfl rfl rfl rfl) e_W_isSound_633) rfl rfl rfl ?_
          refine a_iload (j := 0) hB e_W_isSound_636 rfl ?_
          refine a_if_ne (tgt := 645) hB e_W_isSound_638 (by decide) (fun c => ?_) (fun c => ?_)
          · have h := iq c h
            refine a_iload (j := 4) hB e_W_isSound_645 rfl ?_
            refine a_iload (j := 0) hB e_W_isSound_647 rfl ?_
            obtain ⟨c649, h⟩ := chk_i h
            refine a_idiv hB e_W_isSound_649 c649 ?_
            refine a_ls [1, 5, 6, 7] (ls' := [(0, .ref 0), (5, .int l5), (6, .int l6), (7, .long l7)]) rfl ?_
            exact t_W_isSound_650 hB hF hd (by omega) (by omega) h
          · have h := ip c h
            refine a_iconst (v := -1) hB e_W_isSound_641 ic_m1 ?_
            refine a_goto (tgt := 650) hB e_W_isSound_642 (by decide) ?_
            refine a_ls [1, 5, 6, 7] (ls' := [(0, .ref 0), (5, .int l5), (6, .int l6), (7, .long l7)]) rfl ?_
            exact t_W_isSound_650 hB hF hd (by omega) (by omega) h
set_option maxRecDepth 100000 in
theorem t_W_isSound_487 {G : Gt} {B : Bag} {o : Int32} {M9 : Mm} (hB : BF G I_W_isSound B)  {φ : Ph} (hF : SF 138 φ) (hd : dirt φ = φ)   : ∀ (n k1 k2 : Nat) (l1 : Int32) (l2 : Int32) (l3 : Int32) (l4 : Int32) (l5 : Int32) (l6 : Int32) (l7 : Int64) (l9 : Int32) (M : Mm), k1 + (n * 4 + 4) ≤ 756 → k2 + 6 * (n * 4 + 4) ≤ 4536 → f_W_isSound_487 n l1 l2 l3 l4 l5 l6 l7 l9 M = some (o, M9) → AW G I_W_isSound B (QM G I_W_isSound B (.inl (some (.int o))) M9 φ) k1 k2 487 [(0, .ref 0), (1, .int l1), (2, .int l2), (3, .int l3), (4, .int l4), (5, .int l5), (6, .int l6), (7, .long l7), (9, .int l9)] [] M φ := by
  intro n
  induction n with
  | zero => intro k1 k2 l1 l2 l3 l4 l5 l6 l7 l9 M hk1 hk2 h; cases h
  | succ n hr487 =>
    intro k1 k2 l1 l2 l3 l4 l5 l6 l7 l9 M hk1 hk2 h
    have hr487 : ∀ (k1 k2 : Nat) (l1 : Int32) (l2 : Int32) (l3 : Int32) (l4 : Int32) (l5 : Int32) (l6 : Int32) (l7 : Int64) (l9 : Int32) (M : Mm), k1 + (n * 4 + 4) ≤ 756 → k2 + 6 * (n * 4 + 4) ≤ 4536 → f_W_isSound_487 n l1 l2 l3 l4 l5 l6 l7 l9 M = some (o, M9) → AW G I_W_isSound B (QM G I_W_isSound B (.inl (some (.int o))) M9 φ) k1 k2 487 [(0, .ref 0), (1, .int l1), (2, .int l2), (3, .int l3), (4, .int l4), (5, .int l5), (6, .int l6), (7, .long l7), (9, .int l9)] [] M φ := fun a b => hr487 a b
    have hc487 : 4 ≤ n * 4 + 4 := Nat.le_add_left _ _
    rw [f_W_isSound_487] at h
    refine a_iload (j := 8) hB e_W_isSound_487 rfl ?_
    refine a_iload_n (j := 1) hB e_W_isSound_489 rfl rfl ?_
    refine a_icmp_gt (tgt := 551) hB e_W_isSound_490 (by decide) (fun c => ?_) (fun c => ?_)
    · have h := ip c h
      refine a_aload_n (j := 0) hB e_W_isSound_551 rfl rfl ?_
      obtain ⟨r552, hr552, h⟩ := bn_i h
      refine a_ret (v := (some (.int r552))) (M1 := M) (φ1 := φ) (st1 := [.int r552]) (j1 := k1) (j2 := k2) (ar_V (As := []) (rest := []) hB (c_C_isAdjusted (bf_G hB) (sf_m hF (by decide)) hr552) ml_W_160 md_C_isAdjusted rc_C_isAdjusted (sf_lt hF (by decide)) kk_0 rfl rfl (Nat.le_of_ble_eq_true rfl) (rmL (c := 0) (s := 0) (K1 := 756) (K2 := 4536) (Nat.le_of_ble_eq_true rfl) (Nat.le_of_ble_eq_true rfl) (by omega) (by omega) rfl rfl rfl rfl) e_W_isSound_552) rfl rfl rfl ?_
      refine a_if_eq (tgt := 581) hB e_W_isSound_555 (by decide) (fun c => ?_) (fun c => ?_)
      · have h := ip c h
        refine a_ls [0, 2, 3, 4, 5, 6, 7] (ls' := [(0, .ref 0), (2, .int l2), (3, .int l3), (4, .int l4), (5, .int l5), (6, .int l6), (7, .long l7)]) rfl ?_
        exact t_W_isSound_581 hB hF hd (by omega) (by omega) h
      · have h := iq c h
        refine a_iload (j := 4) hB e_W_isSound_558 rfl ?_
        refine a_if_le (tgt := 581) hB e_W_isSound_560 (by decide) (fun c => ?_) (fun c => ?_)
        · have h := ip c h
          refine a_ls [0, 2, 3, 4, 5, 6, 7] (ls' := [(0, .ref 0), (2, .int l2), (3, .int l3), (4, .int l4), (5, .int l5), (6, .int l6), (7, .long l7)]) rfl ?_
          exact t_W_isSound_581 hB hF hd (by omega) (by omega) h
        · have h := iq c h
          refine a_aload_n (j := 0) hB e_W_isSound_563 rfl rfl ?_
          refine a_iload_n (j := 1) hB e_W_isSound_564 rfl rfl ?_
          obtain ⟨r565, M565, hr565, h⟩ := bn2_i h
          refine a_ret (v := (some (.int r565))) (M1 := M565) (φ1 := φ) (st1 := [.int r565]) (j1 := k1 + 1) (j2 := k2 + 6) (ar_SX (As := [.ref 0, .int l1]) (rest := []) hB (c_W_east (bf_G hB) hF hd hr565) ml_W_134 md_W_east rfl rfl (Nat.le_of_ble_eq_true rfl) (rmL (c := 1) (s := 6) (K1 := 756) (K2 := 4536) (Nat.le_of_ble_eq_true rfl) (Nat.le_of_ble_eq_true rfl) (by omega) (by omega) rfl rfl rfl rfl) e_W_isSound_565) rfl rfl rfl ?_
          refine a_if_ne (tgt := 579) hB e_W_isSound_568 (by decide) (fun c => ?_) (fun c => ?_)
          · have h := iq c h
            refine a_ls [] (ls' := []) rfl ?_
            exact t_W_isSound_579 hB hF hd (by omega) (by omega) h
          · have h := ip c h
            refine a_aload_n (j := 0) hB e_W_isSound_571 rfl rfl ?_
            refine a_iload_n (j := 1) hB e_W_isSound_572 rfl rfl ?_
            obtain ⟨r573, M573, hr573, h⟩ := bn2_i h
            refine a_ret (v := (some (.int r573))) (M1 := M573) (φ1 := φ) (st1 := [.int r573]) (j1 := k1 + 2) (j2 := k2 + 12) (ar_SX (As := [.ref 0, .int l1]) (rest := []) hB (c_W_north (bf_G hB) hF hd hr573) ml_W_164 md_W_north rfl rfl (Nat.le_of_ble_eq_true rfl) (rmL (c := 1) (s := 6) (K1 := 756) (K2 := 4536) (Nat.le_of_ble_eq_true rfl) (Nat.le_of_ble_eq_true rfl) (by omega) (by omega) rfl rfl rfl rfl) e_W_isSound_573) rfl rfl rfl ?_
            refine a_if_eq (tgt := 581) hB e_W_isSound_576 (by decide) (fun c => ?_) (fun c => ?_)
            · have h := ip c h
              refine a_ls [0, 2, 3, 4, 5, 6, 7] (ls' := [(0, .ref 0), (2, .int l2), (3, .int l3), (4, .int l4), (5, .int l5), (6, .int l6), (7, .long l7)]) rfl ?_
              exact t_W_isSound_581 hB hF hd (by omega) (by omega) h
            · have h := iq c h
              refine a_ls [] (ls' := []) rfl ?_
              exact t_W_isSound_579 hB hF hd (by omega) (by omega) h
    · have h := iq c h
      refine a_iload (j := 8) hB e_W_isSound_493 rfl ?_
      refine a_iload_n (j := 1) hB e_W_isSound_495 rfl rfl ?_
      refine a_icmp_ne (tgt := 503) hB e_W_isSound_496 (by decide) (fun c => ?_) (fun c => ?_)
      · have h := iq c h
        refine a_iload (j := 8) hB e_W_isSound_503 rfl ?_
        refine a_iconst (v := 1) hB e_W_isSound_505 ic_1 ?_
        refine a_iadd hB e_W_isSound_506 ?_
        exact t_W_isSound_507 hB hF hd hr487 hc487 (by omega) (by omega) h
      · have h := ip c h
        refine a_iconst (v := 0) hB e_W_isSound_499 ic_0 ?_
        refine a_goto (tgt := 507) hB e_W_isSound_500 (by decide) ?_
        exact t_W_isSound_507 hB hF hd hr487 hc487 (by omega) (by omega) h
