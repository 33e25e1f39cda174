/-! the law -/
set_option maxRecDepth 100000 in
theorem t_W_law_2280 {G : Gt} {nm : String} {hh : List (Nat × Nat × Nat × Nat)} {B : Bag} {L : Nat} {xs : Nat → Int32} {Qm : State → Prop} {M9 : Mm} (hB : BF G (I_W_law nm hh) B) (hend : ∀ (k1 k2 pc : Nat) (ls : List (Nat × Value)) (M : Mm) (φ : Ph), decode (mB (I_W_law nm hh)) pc = .ok (.ireturn, 1) → k1 ≤ 601024 → k2 ≤ 7293034 → AW G (I_W_law nm hh) B Qm k1 k2 pc ls [.int 1] M φ) (hn : gN G = L) (hx : gX G = xs) {φ : Ph} (hF : SF 149 φ) {k1 k2 : Nat} {n : Nat} {r23 : Int32 → Mm → Option (Int32 × Mm)}  (hk1 : k1 + 4 * (n + 1) ≤ 601024) (hk2 : k2 + 24 * (n + 1) ≤ 7293034) (hr23 : ∀ (k1 k2 : Nat) (φ : Ph), SF 149 φ → k1 + 4 * n ≤ 601024 → k2 + 24 * n ≤ 7293034 → ∀ (l4 : Int32) (M : Mm), r23 l4 M = some (1, M9) → AW G (I_W_law nm hh) B Qm k1 k2 23 [(0, .ref 2000), (1, .ref 0), (2, .ref 134), (3, .ref 148), (4, .int l4)] [] M φ) {l4 : Int32} {M : Mm} (h : f_W_law_2280 L xs r23 l4 M = some (1, M9)) : AW G (I_W_law nm hh) B Qm k1 k2 2280 [(0, .ref 2000), (1, .ref 0), (2, .ref 134), (3, .ref 148), (4, .int l4)] [] M φ := by
  unfold f_W_law_2280 at h
  refine a_aload_n (j := 1) hB e_W_law_2280 rfl rfl ?_
  obtain ⟨r2281, hr2281, h⟩ := bn_i h
  refine a_ret (v := (some (.int r2281))) (M1 := M) (φ1 := φ) (st1 := [.int r2281]) (j1 := k1) (j2 := k2) (ar_V (As := []) (rest := []) hB (c_C_longestLeg (bf_G hB) (sf_m hF (by decide)) hr2281) ml_W_290 md_C_longestLeg rc_C_longestLeg (sf_lt hF (by decide)) kk_0 rfl rfl (Nat.le_of_ble_eq_true rfl) (rmL (c := 0) (s := 0) (by decide) (by decide) (by omega) (by omega) rfl rfl) e_W_law_2281) rfl rfl rfl ?_
  refine a_aload_n (j := 2) hB e_W_law_2284 rfl rfl ?_
  obtain ⟨r2285, M2285, hr2285, h⟩ := bn2_i h
  refine a_ret (v := (some (.int r2285))) (M1 := M2285) (φ1 := φ) (st1 := [.int r2285, .int r2281]) (j1 := k1) (j2 := k2) (ar_V (As := []) (rest := [.int r2281]) hB (c_M_longestLeg (bf_G hB) (sf_m hF (by decide)) hr2285) ml_W_293 md_M_longestLeg rc_M_longestLeg (sf_lt hF (by decide)) kk_134 rfl rfl (Nat.le_of_ble_eq_true rfl) (rmL (c := 0) (s := 0) (by decide) (by decide) (by omega) (by omega) rfl rfl) e_W_law_2285) rfl rfl rfl ?_
  refine a_icmp_eq (tgt := 2537) hB e_W_law_2288 (by decide) (fun c => ?_) (fun c => ?_)
  · have h := ip c h
    exact t_W_law_2537 hB hend hn hx hF (by omega) (by omega) hr23 h
  · have h := iq c h
    refine a_iconst (v := 0) hB e_W_law_2291 ic_0 ?_
    exact (no01 h).elim
set_option maxRecDepth 100000 in
theorem t_W_law_2293 {G : Gt} {nm : String} {hh : List (Nat × Nat × Nat × Nat)} {B : Bag} {L : Nat} {xs : Nat → Int32} {Qm : State → Prop} {M9 : Mm} (hB : BF G (I_W_law nm hh) B) (hend : ∀ (k1 k2 pc : Nat) (ls : List (Nat × Value)) (M : Mm) (φ : Ph), decode (mB (I_W_law nm hh)) pc = .ok (.ireturn, 1) → k1 ≤ 601024 → k2 ≤ 7293034 → AW G (I_W_law nm hh) B Qm k1 k2 pc ls [.int 1] M φ) (hn : gN G = L) (hx : gX G = xs) {φ : Ph} (hF : SF 149 φ) {k1 k2 : Nat} {n : Nat} {r23 : Int32 → Mm → Option (Int32 × Mm)}  (hk1 : k1 + 4 * (n + 1) ≤ 601024) (hk2 : k2 + 24 * (n + 1) ≤ 7293034) (hr23 : ∀ (k1 k2 : Nat) (φ : Ph), SF 149 φ → k1 + 4 * n ≤ 601024 → k2 + 24 * n ≤ 7293034 → ∀ (l4 : Int32) (M : Mm), r23 l4 M = some (1, M9) → AW G (I_W_law nm hh) B Qm k1 k2 23 [(0, .ref 2000), (1, .ref 0), (2, .ref 134), (3, .ref 148), (4, .int l4)] [] M φ) {l4 : Int32} {M : Mm} (h : f_W_law_2293 L xs r23 l4 M = some (1, M9)) : AW G (I_W_law nm hh) B Qm k1 k2 2293 [(0, .ref 2000), (1, .ref 0), (2, .ref 134), (3, .ref 148), (4, .int l4)] [] M φ := by
  unfold f_W_law_2293 at h
  refine a_aload_n (j := 1) hB e_W_law_2293 rfl rfl ?_
  obtain ⟨r2294, hr2294, h⟩ := bn_i h
  refine a_ret (v := (some (.int r2294))) (M1 := M) (φ1 := φ) (st1 := [.int r2294]) (j1 := k1) (j2 := k2) (ar_V (As := []) (rest := []) hB (c_C_bogLength (bf_G hB) (sf_m hF (by decide)) hr2294) ml_W_294 md_C_bogLength rc_C_bogLength (sf_lt hF (by decide)) kk_0 rfl rfl (Nat.le_of_ble_eq_true rfl) (rmL (c := 0) (s := 0) (by decide) (by decide) (by omega) (by omega) rfl rfl) e_W_law_2294) rfl rfl rfl ?_
  refine a_aload_n (j := 2) hB e_W_law_2297 rfl rfl ?_
  obtain ⟨r2298, M2298, hr2298, h⟩ := bn2_i h
  refine a_ret (v := (some (.int r2298))) (M1 := M2298) (φ1 := φ) (st1 := [.int r2298, .int r2294]) (j1 := k1) (j2 := k2) (ar_V (As := []) (rest := [.int r2294]) hB (c_M_bogLength (bf_G hB) (sf_m hF (by decide)) hr2298) ml_W_297 md_M_bogLength rc_M_bogLength (sf_lt hF (by decide)) kk_134 rfl rfl (Nat.le_of_ble_eq_true rfl) (rmL (c := 0) (s := 0) (by decide) (by decide) (by omega) (by omega) rfl rfl) e_W_law_2298) rfl rfl rfl ?_
  refine a_icmp_eq (tgt := 2537) hB e_W_law_2301 (by decide) (fun c => ?_) (fun c => ?_)
  · have h := ip c h
    exact t_W_law_2537 hB hend hn hx hF (by omega) (by omega) hr23 h
  · have h := iq c h
    refine a_iconst (v := 0) hB e_W_law_2304 ic_0 ?_
    exact (no01 h).elim
set_option maxRecDepth 100000 in
theorem t_W_law_2306 {G : Gt} {nm : String} {hh : List (Nat × Nat × Nat × Nat)} {B : Bag} {L : Nat} {xs : Nat → Int32} {Qm : State → Prop} {M9 : Mm} (hB : BF G (I_W_law nm hh) B) (hend : ∀ (k1 k2 pc : Nat) (ls : List (Nat × Value)) (M : Mm) (φ : Ph), decode (mB (I_W_law nm hh)) pc = .ok (.ireturn, 1) → k1 ≤ 601024 → k2 ≤ 7293034 → AW G (I_W_law nm hh) B Qm k1 k2 pc ls [.int 1] M φ) (hn : gN G = L) (hx : gX G = xs) {φ : Ph} (hF : SF 149 φ) {k1 k2 : Nat} {n : Nat} {r23 : Int32 → Mm → Option (Int32 × Mm)}  (hk1 : k1 + 4 * (n + 1) ≤ 601024) (hk2 : k2 + 24 * (n + 1) ≤ 7293034) (hr23 : ∀ (k1 k2 : Nat) (φ : Ph), SF 149 φ → k1 + 4 * n ≤ 601024 → k2 + 24 * n ≤ 7293034 → ∀ (l4 : Int32) (M : Mm), r23 l4 M = some (1, M9) → AW G (I_W_law nm hh) B Qm k1 k2 23 [(0, .ref 2000), (1, .ref 0), (2, .ref 134), (3, .ref 148), (4, .int l4)] [] M φ) {l4 : Int32} {M : Mm} (h : f_W_law_2306 L xs r23 l4 M = some (1, M9)) : AW G (I_W_law nm hh) B Qm k1 k2 2306 [(0, .ref 2000), (1, .ref 0), (2, .ref 134), (3, .ref 148), (4, .int l4)] [] M φ := by
  unfold f_W_law_2306 at h
  refine a_aload_n (j := 1) hB e_W_law_2306 rfl rfl ?_
  obtain ⟨r2307, M2307, hr2307, h⟩ := bn2_i h
  refine a_ret (v := (some (.long r2307))) (M1 := M2307) (φ1 := φ) (st1 := [.long r2307]) (j1 := k1) (j2 := k2) (ar_V (As := []) (rest := []) hB (c_C_area (bf_G hB) (sf_m hF (by decide)) hr2307) ml_W_298 md_C_area rc_C_area (sf_lt hF (by decide)) kk_0 rfl rfl (Nat.le_of_ble_eq_true rfl) (rmL (c := 0) (s := 0) (by decide) (by decide) (by omega) (by omega) rfl rfl) e_W_law_2307) rfl rfl rfl ?_
  refine a_aload_n (j := 2) hB e_W_law_2310 rfl rfl ?_
  obtain ⟨r2311, M2311, hr2311, h⟩ := bn2_i h
  refine a_ret (v := (some (.long r2311))) (M1 := M2311) (φ1 := φ) (st1 := [.long r2311, .long r2307]) (j1 := k1) (j2 := k2) (ar_V (As := []) (rest := [.long r2307]) hB (c_M_area (bf_G hB) (sf_m hF (by decide)) hr2311) ml_W_302 md_M_area rc_M_area (sf_lt hF (by decide)) kk_134 rfl rfl (Nat.le_of_ble_eq_true rfl) (rmL (c := 0) (s := 0) (by decide) (by decide) (by omega) (by omega) rfl rfl) e_W_law_2311) rfl rfl rfl ?_
  refine a_lcmp hB e_W_law_2314 ?_
  refine a_if_eq (tgt := 2537) hB e_W_law_2315 (by decide) (fun c => ?_) (fun c => ?_)
  · have h := ip c h
    exact t_W_law_2537 hB hend hn hx hF (by omega) (by omega) hr23 h
  · have h := iq c h
    refine a_iconst (v := 0) hB e_W_law_2318 ic_0 ?_
    exact (no01 h).elim
set_option maxRecDepth 100000 in
theorem t_W_law_2373 {G : Gt} {nm : String} {hh : List (Nat × Nat × Nat × Nat)} {B : Bag} {L : Nat} {xs : Nat → Int32} {Qm : State → Prop} {M9 : Mm} (hB : BF G (I_W_law nm hh) B) (hend : ∀ (k1 k2 pc : Nat) (ls : List (Nat × Value)) (M : Mm) (φ : Ph), decode (mB (I_W_law nm hh)) pc = .ok (.ireturn, 1) → k1 ≤ 601024 → k2 ≤ 7293034 → AW G (I_W_law nm hh) B Qm k1 k2 pc ls [.int 1] M φ) (hn : gN G = L) (hx : gX G = xs) {φ : Ph} (hF : SF 149 φ) {k1 k2 : Nat} {n : Nat} {r23 : Int32 → Mm → Option (Int32 × Mm)}  (hk1 : k1 + 4 * (n) ≤ 601024) (hk2 : k2 + 24 * (n) ≤ 7293034) (hr23 : ∀ (k1 k2 : Nat) (φ : Ph), SF 149 φ → k1 + 4 * n ≤ 601024 → k2 + 24 * n ≤ 7293034 → ∀ (l4 : Int32) (M : Mm), r23 l4 M = some (1, M9) → AW G (I_W_law nm hh) B Qm k1 k2 23 [(0, .ref 2000), (1, .ref 0), (2, .ref 134), (3, .ref 148), (4, .int l4)] [] M φ) {l4 : Int32} {M : Mm} (h : f_W_law_2373 L xs r23 l4 M = some (1, M9)) : AW G (I_W_law nm hh) B Qm k1 k2 2373 [(0, .ref 2000), (1, .ref 0), (2, .ref 134), (3, .ref 148), (4, .int l4)] [] M φ := by
  unfold f_W_law_2373 at h
  refine a_goto (tgt := 2537) hB e_W_law_2373 (by decide) ?_
  exact t_W_law_2537 hB hend hn hx hF (by omega) (by omega) hr23 h
set_option maxRecDepth 100000 in
theorem t_W_law_2320 {G : Gt} {nm : String} {hh : List (Nat × Nat × Nat × Nat)} {B : Bag} {L : Nat} {xs : Nat → Int32} {Qm : State → Prop} {M9 : Mm} (hB : BF G (I_W_law nm hh) B) (hend : ∀ (k1 k2 pc : Nat) (ls : List (Nat × Value)) (M : Mm) (φ : Ph), decode (mB (I_W_law nm hh)) pc = .ok (.ireturn, 1) → k1 ≤ 601024 → k2 ≤ 7293034 → AW G (I_W_law nm hh) B Qm k1 k2 pc ls [.int 1] M φ) (hn : gN G = L) (hx : gX G = xs) {φ : Ph} (hF : SF 149 φ) {k1 k2 : Nat} {n : Nat} {r23 : Int32 → Mm → Option (Int32 × Mm)}  (hk1 : k1 + 4 * (n + 1) ≤ 601024) (hk2 : k2 + 24 * (n + 1) ≤ 7293034) (hr23 : ∀ (k1 k2 : Nat) (φ : Ph), SF 149 φ → k1 + 4 * n ≤ 601024 → k2 + 24 * n ≤ 7293034 → ∀ (l4 : Int32) (M : Mm), r23 l4 M = some (1, M9) → AW G (I_W_law nm hh) B Qm k1 k2 23 [(0, .ref 2000), (1, .ref 0), (2, .ref 134), (3, .ref 148), (4, .int l4)] [] M φ) {l4 : Int32} {M : Mm} (h : f_W_law_2320 L xs r23 l4 M = some (1, M9)) : AW G (I_W_law nm hh) B Qm k1 k2 2320 [(0, .ref 2000), (1, .ref 0), (2, .ref 134), (3, .ref 148), (4, .int l4)] [] M φ := by
  unfold f_W_law_2320 at h
  refine a_aload_n (j := 1) hB e_W_law_2320 rfl rfl ?_
  refine a_aload_n (j := 0) hB e_W_law_2321 rfl rfl ?_
  refine a_iload (j := 4) hB e_W_law_2322 rfl ?_
  refine a_iconst (v := 1) hB e_W_law_2324 ic_1 ?_
  refine a_iadd hB e_W_law_2325 ?_
  obtain ⟨c2326, h⟩ := chk_i h
  refine a_sld' hB hn hx c2326 e_W_law_2326 ?_
  refine a_aload_n (j := 3) hB e_W_law_2327 rfl rfl ?_
  obtain ⟨r2328, M2328, hr2328, h⟩ := bn2_i h
  obtain ⟨φ2328, hφ2328⟩ : ∃ q, pK r2328 φ = q := ⟨_, rfl⟩
  have hF0 := hF
  refine a_ret (v := (some (.int r2328))) (M1 := M2328) (φ1 := φ2328) (st1 := [.int r2328]) (j1 := k1 + 1) (j2 := k2 + 6) (ar_SX (As := [.ref 0, .int (xs (ix (l4 + (1 : Int32)))), .ref 148]) (rest := []) hB (c_W_misclosureIfDropped (bf_G hB) hF hφ2328 hr2328) ml_W_303 md_W_misclosureIfDropped rfl rfl (Nat.le_of_ble_eq_true rfl) (rmL (c := 1) (s := 6) (by decide) (by decide) (by omega) (by omega) rfl rfl) e_W_law_2328) rfl rfl rfl ?_
  have hF : SF 149 φ2328 := by rw [← hφ2328]; exact sf_K hF0 _
  refine a_istore (ls' := [(5, .int r2328), (0, .ref 2000), (1, .ref 0), (2, .ref 134), (3, .ref 148), (4, .int l4)]) hB e_W_law_2331 (Nat.le_of_ble_eq_true rfl) rfl ?_
  refine a_aload_n (j := 3) hB e_W_law_2333 rfl rfl ?_
  refine a_aload_n (j := 1) hB e_W_law_2334 rfl rfl ?_
  refine a_iload (j := 5) hB e_W_law_2335 rfl ?_
  refine a_iconst (v := 1) hB e_W_law_2337 ic_1 ?_
  refine a_iadd hB e_W_law_2338 ?_
  refine a_sld' hB hn hx c2326 e_W_law_2339 ?_
  obtain ⟨r2340, M2340, hr2340, h⟩ := bn2_i h
  refine a_ret (v := (some (.int r2340))) (M1 := M2340) (φ1 := φ2328) (st1 := [.int r2340]) (j1 := k1 + 1) (j2 := k2 + 6) (ar_V (As := [.int (xs (ix (l4 + (1 : Int32))))]) (rest := []) hB (c_M_misclosureIfDropped (bf_G hB) (sf_m hF (by decide)) hr2340) ml_W_305 md_M_misclosureIfDropped rc_M_misclosureIfDropped (sf_lt hF (by decide)) kk_134 rfl rfl (Nat.le_of_ble_eq_true rfl) (rmL (c := 0) (s := 0) (by decide) (by decide) (by omega) (by omega) rfl rfl) e_W_law_2340) rfl rfl rfl ?_
  refine a_istore (ls' := [(6, .int r2340), (5, .int r2328), (0, .ref 2000), (1, .ref 0), (2, .ref 134), (3, .ref 148), (4, .int l4)]) hB e_W_law_2343 (Nat.le_of_ble_eq_true rfl) rfl ?_
  refine a_aload_n (j := 4) hB e_W_law_2345 rfl rfl ?_
  obtain ⟨r2346, hr2346, h⟩ := bn_i h
  refine a_ret (v := (some (.int r2346))) (M1 := M2340) (φ1 := φ2328) (st1 := [.int r2346]) (j1 := k1 + 1) (j2 := k2 + 6) (ar_V (As := []) (rest := []) hB (c_M_thrown (bf_G hB) (sf_m hF (by decide)) hr2346) ml_W_121 md_M_thrown rc_M_thrown (sf_lt hF (by decide)) kk_134 rfl rfl (Nat.le_of_ble_eq_true rfl) (rmL (c := 0) (s := 0) (by decide) (by decide) (by omega) (by omega) rfl rfl) e_W_law_2346) rfl rfl rfl ?_
  refine a_iload (j := 1) hB e_W_law_2349 rfl ?_
  refine a_icmp_eq (tgt := 2356) hB e_W_law_2351 (by decide) (fun c => ?_) (fun c => ?_)
  · have h := ip c h
    refine a_iload (j := 1) hB e_W_law_2356 rfl ?_
    refine a_if_ne (tgt := 2373) hB e_W_law_2358 (by decide) (fun c => ?_) (fun c => ?_)
    · have h := iq c h
      refine a_ls [2, 3, 4, 5, 6] (ls' := [(0, .ref 2000), (1, .ref 0), (2, .ref 134), (3, .ref 148), (4, .int l4)]) rfl ?_
      exact t_W_law_2373 hB hend hn hx hF (by omega) (by omega) hr23 h
    · have h := ip c h
      refine a_aload_n (j := 5) hB e_W_law_2361 rfl rfl ?_
      refine a_iconst (v := 0) hB e_W_law_2362 ic_0 ?_
      refine a_lald hB e_W_law_2363 (sf_lt hF (by decide)) kk_148 (by decide) ?_
      refine a_iload (j := 0) hB e_W_law_2364 rfl ?_
      refine a_i2l hB e_W_law_2366 ?_
      refine a_lcmp hB e_W_law_2367 ?_
      refine a_if_eq (tgt := 2373) hB e_W_law_2368 (by decide) (fun c => ?_) (fun c => ?_)
      · have h := ip c h
        refine a_ls [2, 3, 4, 5, 6] (ls' := [(0, .ref 2000), (1, .ref 0), (2, .ref 134), (3, .ref 148), (4, .int l4)]) rfl ?_
        exact t_W_law_2373 hB hend hn hx hF (by omega) (by omega) hr23 h
      · have h := iq c h
        refine a_iconst (v := 0) hB e_W_law_2371 ic_0 ?_
        exact (no01 h).elim
  · have h := iq c h
    refine a_iconst (v := 0) hB e_W_law_2354 ic_0 ?_
    exact (no01 h).elim
set_option maxRecDepth 100000 in
theorem t_W_law_2376 {G : Gt} {nm : String} {hh : List (Nat × Nat × Nat × Nat)} {B : Bag} {L : Nat} {xs : Nat → Int32} {Qm : State → Prop} {M9 : Mm} (hB : BF G (I_W_law nm hh) B) (hend : ∀ (k1 k2 pc : Nat) (ls : List (Nat × Value)) (M : Mm) (φ : Ph), decode (mB (I_W_law nm hh)) pc = .ok (.ireturn, 1) → k1 ≤ 601024 → k2 ≤ 7293034 → AW G (I_W_law nm hh) B Qm k1 k2 pc ls [.int 1] M φ) (hn : gN G = L) (hx : gX G = xs) {φ : Ph} (hF : SF 149 φ) {k1 k2 : Nat} {n : Nat} {r23 : Int32 → Mm → Option (Int32 × Mm)}  (hk1 : k1 + 4 * (n + 1) ≤ 601024) (hk2 : k2 + 24 * (n + 1) ≤ 7293034) (hr23 : ∀ (k1 k2 : Nat) (φ : Ph), SF 149 φ → k1 + 4 * n ≤ 601024 → k2 + 24 * n ≤ 7293034 → ∀ (l4 : Int32) (M : Mm), r23 l4 M = some (1, M9) → AW G (I_W_law nm hh) B Qm k1 k2 23 [(0, .ref 2000), (1, .ref 0), (2, .ref 134), (3, .ref 148), (4, .int l4)] [] M φ) {l4 : Int32} {M : Mm} (h : f_W_law_2376 L xs r23 l4 M = some (1, M9)) : AW G (I_W_law nm hh) B Qm k1 k2 2376 [(0, .ref 2000), (1, .ref 0), (2, .ref 134), (3, .ref 148), (4, .int l4)] [] M φ := by
  unfold f_W_law_2376 at h
  refine a_aload_n (j := 1) hB e_W_law_2376 rfl rfl ?_
  obtain ⟨r2377, M2377, hr2377, h⟩ := bn2_i h
  refine a_ret (v := (some (.int r2377))) (M1 := M2377) (φ1 := φ) (st1 := [.int r2377]) (j1 := k1) (j2 := k2) (ar_V (As := []) (rest := []) hB (c_C_suspectLeg (bf_G hB) (sf_m hF (by decide)) hr2377) ml_W_306 md_C_suspectLeg rc_C_suspectLeg (sf_lt hF (by decide)) kk_0 rfl rfl (Nat.le_of_ble_eq_true rfl) (rmL (c := 0) (s := 0) (by decide) (by decide) (by omega) (by omega) rfl rfl) e_W_law_2377) rfl rfl rfl ?_
  refine a_aload_n (j := 2) hB e_W_law_2380 rfl rfl ?_
  obtain ⟨r2381, M2381, hr2381, h⟩ := bn2_i h
  refine a_ret (v := (some (.int r2381))) (M1 := M2381) (φ1 := φ) (st1 := [.int r2381, .int r2377]) (j1 := k1) (j2 := k2) (ar_V (As := []) (rest := [.int r2377]) hB (c_M_suspectLeg (bf_G hB) (sf_m hF (by decide)) hr2381) ml_W_309 md_M_suspectLeg rc_M_suspectLeg (sf_lt hF (by decide)) kk_134 rfl rfl (Nat.le_of_ble_eq_true rfl) (rmL (c := 0) (s := 0) (by decide) (by decide) (by omega) (by omega) rfl rfl) e_W_law_2381) rfl rfl rfl ?_
  refine a_icmp_eq (tgt := 2537) hB e_W_law_2384 (by decide) (fun c => ?_) (fun c => ?_)
  · have h := ip c h
    exact t_W_law_2537 hB hend hn hx hF (by omega) (by omega) hr23 h
  · have h := iq c h
    refine a_iconst (v := 0) hB e_W_law_2387 ic_0 ?_
    exact (no01 h).elim
set_option maxRecDepth 100000 in
theorem t_W_law_2389 {G : Gt} {nm : String} {hh : List (Nat × Nat × Nat × Nat)} {B : Bag} {L : Nat} {xs : Nat → Int32} {Qm : State → Prop} {M9 : Mm} (hB : BF G (I_W_law nm hh) B) (hend : ∀ (k1 k2 pc : Nat) (ls : List (Nat × Value)) (M : Mm) (φ : Ph), decode (mB (I_W_law nm hh)) pc = .ok (.ireturn, 1) → k1 ≤ 601024 → k2 ≤ 7293034 → AW G (I_W_law nm hh) B Qm k1 k2 pc ls [.int 1] M φ) (hn : gN G = L) (hx : gX G = xs) {φ : Ph} (hF : SF 149 φ) {k1 k2 : Nat} {n : Nat} {r23 : Int32 → Mm → Option (Int32 × Mm)}  (hk1 : k1 + 4 * (n + 1) ≤ 601024) (hk2 : k2 + 24 * (n + 1) ≤ 7293034) (hr23 : ∀ (k1 k2 : Nat) (φ : Ph), SF 149 φ → k1 + 4 * n ≤ 601024 → k2 + 24 * n ≤ 7293034 → ∀ (l4 : Int32) (M : Mm), r23 l4 M = some (1, M9) → AW G (I_W_law nm hh) B Qm k1 k2 23 [(0, .ref 2000), (1, .ref 0), (2, .ref 134), (3, .ref 148), (4, .int l4)] [] M φ) {l4 : Int32} {M : Mm} (h : f_W_law_2389 L xs r23 l4 M = some (1, M9)) : AW G (I_W_law nm hh) B Qm k1 k2 2389 [(0, .ref 2000), (1, .ref 0), (2, .ref 134), (3, .ref 148), (4, .int l4)] [] M φ := by
  unfold f_W_law_2389 at h
  refine a_aload_n (j := 1) hB e_W_law_2389 rfl rfl ?_
  obtain ⟨r2390, hr2390, h⟩ := bn_i h
  refine a_ret (v := (some (.int r2390))) (M1 := M) (φ1 := φ) (st1 := [.int r2390]) (j1 := k1) (j2 := k2) (ar_V (As := []) (rest := []) hB (c_C_bestPace (bf_G hB) (sf_m hF (by decide)) hr2390) ml_W_310 md_C_bestPace rc_C_bestPace (sf_lt hF (by decide)) kk_0 rfl rfl (Nat.le_of_ble_eq_true rfl) (rmL (c := 0) (s := 0) (by decide) (by decide) (by omega) (by omega) rfl rfl) e_W_law_2390) rfl rfl rfl ?_
  refine a_aload_n (j := 2) hB e_W_law_2393 rfl rfl ?_
  obtain ⟨r2394, M2394, hr2394, h⟩ := bn2_i h
  refine a_ret (v := (some (.int r2394))) (M1 := M2394) (φ1 := φ) (st1 := [.int r2394, .int r2390]) (j1 := k1) (j2 := k2) (ar_V (As := []) (rest := [.int r2390]) hB (c_M_bestPace (bf_G hB) (sf_m hF (by decide)) hr2394) ml_W_313 md_M_bestPace rc_M_bestPace (sf_lt hF (by decide)) kk_134 rfl rfl (Nat.le_of_ble_eq_true rfl) (rmL (c := 0) (s := 0) (by decide) (by decide) (by omega) (by omega) rfl rfl) e_W_law_2394) rfl rfl rfl ?_
  refine a_icmp_eq (tgt := 2537) hB e_W_law_2397 (by decide) (fun c => ?_) (fun c => ?_)
  · have h := ip c h
    exact t_W_law_2537 hB hend hn hx hF (by omega) (by omega) hr23 h
  · have h := iq c h
    refine a_iconst (v := 0) hB e_W_law_2400 ic_0 ?_
    exact (no01 h).elim
set_option maxRecDepth 100000 in
theorem t_W_law_2402 {G : Gt} {nm : String} {hh : List (Nat × Nat × Nat × Nat)} {B : Bag} {L : Nat} {xs : Nat → Int32} {Qm : State → Prop} {M9 : Mm} (hB : BF G (I_W_law nm hh) B) (hend : ∀ (k1 k2 pc : Nat) (ls : List (Nat × Value)) (M : Mm) (φ : Ph), decode (mB (I_W_law nm hh)) pc = .ok (.ireturn, 1) → k1 ≤ 601024 → k2 ≤ 7293034 → AW G (I_W_law nm hh) B Qm k1 k2 pc ls [.int 1] M φ) (hn : gN G = L) (hx : gX G = xs) {φ : Ph} (hF : SF 149 φ) {k1 k2 : Nat} {n : Nat} {r23 : Int32 → Mm → Option (Int32 × Mm)}  (hk1 : k1 + 4 * (n + 1) ≤ 601024) (hk2 : k2 + 24 * (n + 1) ≤ 7293034) (hr23 : ∀ (k1 k2 : Nat) (φ : Ph), SF 149 φ → k1 + 4 * n ≤ 601024 → k2 + 24 * n ≤ 7293034 → ∀ (l4 : Int32) (M : Mm), r23 l4 M = some (1, M9) → AW G (I_W_law nm hh) B Qm k1 k2 23 [(0, .ref 2000), (1, .ref 0), (2, .ref 134), (3, .ref 148), (4, .int l4)] [] M φ) {l4 : Int32} {M : Mm} (h : f_W_law_2402 L xs r23 l4 M = some (1, M9)) : AW G (I_W_law nm hh) B Qm k1 k2 2402 [(0, .ref 2000), (1, .ref 0), (2, .ref 134), (3, .ref 148), (4, .int l4)] [] M φ := by
  unfold f_W_law_2402 at h
  refine a_aload_n (j := 1) hB e_W_law_2402 rfl rfl ?_
  obtain ⟨r2403, M2403, hr2403, h⟩ := bn2_i h
  refine a_ret (v := (some (.int r2403))) (M1 := M2403) (φ1 := φ) (st1 := [.int r2403]) (j1 := k1) (j2 := k2) (ar_V (As := []) (rest := []) hB (c_C_inconsistencies (bf_G hB) (sf_m hF (by decide)) hr2403) ml_W_314 md_C_inconsistencies rc_C_inconsistencies (sf_lt hF (by decide)) kk_0 rfl rfl (Nat.le_of_ble_eq_true rfl) (rmL (c := 0) (s := 0) (by decide) (by decide) (by omega) (by omega) rfl rfl) e_W_law_2403) rfl rfl rfl ?_
  refine a_aload_n (j := 2) hB e_W_law_2406 rfl rfl ?_
  obtain ⟨r2407, M2407, hr2407, h⟩ := bn2_i h
  refine a_ret (v := (some (.int r2407))) (M1 := M2407) (φ1 := φ) (st1 := [.int r2407, .int r2403]) (j1 := k1) (j2 := k2) (ar_V (As := []) (rest := [.int r2403]) hB (c_M_inconsistencies (bf_G hB) (sf_m hF (by decide)) hr2407) ml_W_317 md_M_inconsistencies rc_M_inconsistencies (sf_lt hF (by decide)) kk_134 rfl rfl (Nat.le_of_ble_eq_true rfl) (rmL (c := 0) (s := 0) (by decide) (by decide) (by omega) (by omega) rfl rfl) e_W_law_2407) rfl rfl rfl ?_
  refine a_icmp_eq (tgt := 2537) hB e_W_law_2410 (by decide) (fun c => ?_) (fun c => ?_)
  · have h := ip c h
    exact t_W_law_2537 hB hend hn hx hF (by omega) (by omega) hr23 h
  · have h := iq c h
    refine a_iconst (v := 0) hB e_W_law_2413 ic_0 ?_
    exact (no01 h).elim
set_option maxRecDepth 100000 in
theorem t_W_law_2451 {G : Gt} {nm : String} {hh : List (Nat × Nat × Nat × Nat)} {B : Bag} {L : Nat} {xs : Nat → Int32} {Qm : State → Prop} {M9 : Mm} (hB : BF G (I_W_law nm hh) B) (hend : ∀ (k1 k2 pc : Nat) (ls : List (Nat × Value)) (M : Mm) (φ : Ph), decode (mB (I_W_law nm hh)) pc = .ok (.ireturn, 1) → k1 ≤ 601024 → k2 ≤ 7293034 → AW G (I_W_law nm hh) B Qm k1 k2 pc ls [.int 1] M φ) (hn : gN G = L) (hx : gX G = xs) {φ : Ph} (hF : SF 149 φ) {k1 k2 : Nat} {n : Nat} (hk1 : k1 + 4 * (n) ≤ 601024) (hk2 : k2 + 24 * (n) ≤ 7293034)   {M : Mm} (h : f_W_law_2451 L xs M = some (1, M9)) : AW G (I_W_law nm hh) B Qm k1 k2 2451 [] [] M φ := by
  unfold f_W_law_2451 at h
  refine a_iconst (v := 0) hB e_W_law_2451 ic_0 ?_
  exact (no01 h).elim
set_option maxRecDepth 100000 in
theorem t_W_law_2453 {G : Gt} {nm : String} {hh : List (Nat × Nat × Nat × Nat)} {B : Bag} {L : Nat} {xs : Nat → Int32} {Qm : State → Prop} {M9 : Mm} (hB : BF G (I_W_law nm hh) B) (hend : ∀ (k1 k2 pc : Nat) (ls : List (Nat × Value)) (M : Mm) (φ : Ph), decode (mB (I_W_law nm hh)) pc = .ok (.ireturn, 1) → k1 ≤ 601024 → k2 ≤ 7293034 → AW G (I_W_law nm hh) B Qm k1 k2 pc ls [.int 1] M φ) (hn : gN G = L) (hx : gX G = xs) {φ : Ph} (hF : SF 149 φ) {k1 k2 : Nat} {n : Nat} {r23 : Int32 → Mm → Option (Int32 × Mm)}  (hk1 : k1 + 4 * (n) ≤ 601024) (hk2 : k2 + 24 * (n) ≤ 7293034) (hr23 : ∀ (k1 k2 : Nat) (φ : Ph), SF 149 φ → k1 + 4 * n ≤ 601024 → k2 + 24 * n ≤ 7293034 → ∀ (l4 : Int32) (M : Mm), r23 l4 M = some (1, M9) → AW G (I_W_law nm hh) B Qm k1 k2 23 [(0, .ref 2000), (1, .ref 0), (2, .ref 134), (3, .ref 148), (4, .int l4)] [] M φ) {l4 : Int32} {M : Mm} (h : f_W_law_2453 L xs r23 l4 M = some (1, M9)) : AW G (I_W_law nm hh) B Qm k1 k2 2453 [(0, .ref 2000), (1, .ref 0), (2, .ref 134), (3, .ref 148), (4, .int l4)] [] M φ := by
  unfold f_W_law_2453 at h
  refine a_goto (tgt := 2537) hB e_W_law_2453 (by decide) ?_
  exact t_W_law_2537 hB hend hn hx hF (by omega) (by omega) hr23 h
set_option maxRecDepth 100000 in
theorem t_W_law_2415 {G : Gt} {nm : String} {hh : List (Nat × Nat × Nat × Nat)} {B : Bag} {L : Nat} {xs : Nat → Int32} {Qm : State → Prop} {M9 : Mm} (hB : BF G (I_W_law nm hh) B) (hend : ∀ (k1 k2 pc : Nat) (ls : List (Nat × Value)) (M : Mm) (φ : Ph), decode (mB (I_W_law nm hh)) pc = .ok (.ireturn, 1) → k1 ≤ 601024 → k2 ≤ 7293034 → AW G (I_W_law nm hh) B Qm k1 k2 pc ls [.int 1] M φ) (hn : gN G = L) (hx : gX G = xs) {φ : Ph} (hF : SF 149 φ) {k1 k2 : Nat} {n : Nat} {r23 : Int32 → Mm → Option (Int32 × Mm)}  (hk1 : k1 + 4 * (n + 1) ≤ 601024) (hk2 : k2 + 24 * (n + 1) ≤ 7293034) (hr23 : ∀ (k1 k2 : Nat) (φ : Ph), SF 149 φ → k1 + 4 * n ≤ 601024 → k2 + 24 * n ≤ 7293034 → ∀ (l4 : Int32) (M : Mm), r23 l4 M = some (1, M9) → AW G (I_W_law nm hh) B Qm k1 k2 23 [(0, .ref 2000), (1, .ref 0), (2, .ref 134), (3, .ref 148), (4, .int l4)] [] M φ) {l4 : Int32} {M : Mm} (h : f_W_law_2415 L xs r23 l4 M = some (1, M9)) : AW G (I_W_law nm hh) B Qm k1 k2 2415 [(0, .ref 2000), (1, .ref 0), (2, .ref 134), (3, .ref 148), (4, .int l4)] [] M φ := by
  unfold f_W_law_2415 at h
  refine a_aload_n (j := 1) hB e_W_law_2415 rfl rfl ?_
  obtain ⟨r2416, M2416, hr2416, h⟩ := bn2_i h
  refine a_ret (v := (some (.double r2416))) (M1 := M2416) (φ1 := φ) (st1 := [.double r2416]) (j1 := k1) (j2 := k2) (ar_V (As := []) (rest := []) hB (c_C_meanLeg (bf_G hB) (sf_m hF (by decide)) hr2416) ml_W_318 md_C_meanLeg rc_C_meanLeg (sf_lt hF (by decide)) kk_0 rfl rfl (Nat.le_of_ble_eq_true rfl) (rmL (c := 0) (s := 0) (by decide) (by decide) (by omega) (by omega) rfl rfl) e_W_law_2416) rfl rfl rfl ?_
  refine a_dstore (ls' := [(5, .double r2416), (0, .ref 2000), (1, .ref 0), (2, .ref 134), (3, .ref 148), (4, .int l4)]) hB e_W_law_2419 (Nat.le_of_ble_eq_true rfl) rfl ?_
  refine a_aload_n (j := 3) hB e_W_law_2421 rfl rfl ?_
  obtain ⟨r2422, M2422, hr2422, h⟩ := bn2_i h
  refine a_ret (v := (some (.double r2422))) (M1 := M2422) (φ1 := φ) (st1 := [.double r2422]) (j1 := k1) (j2 := k2) (ar_V (As := []) (rest := []) hB (c_M_meanLeg (bf_G hB) (sf_m hF (by decide)) hr2422) ml_W_322 md_M_meanLeg rc_M_meanLeg (sf_lt hF (by decide)) kk_134 rfl rfl (Nat.le_of_ble_eq_true rfl) (rmL (c := 0) (s := 0) (by decide) (by decide) (by omega) (by omega) rfl rfl) e_W_law_2422) rfl rfl rfl ?_
  refine a_dstore (ls' := [(7, .double r2422), (5, .double r2416), (0, .ref 2000), (1, .ref 0), (2, .ref 134), (3, .ref 148), (4, .int l4)]) hB e_W_law_2425 (Nat.le_of_ble_eq_true rfl) rfl ?_
  refine a_dload (j := 1) hB e_W_law_2427 rfl ?_
  refine a_dload (j := 0) hB e_W_law_2429 rfl ?_
  refine a_dcmp hB e_W_law_2431 ?_
  refine a_if_eq (tgt := 2453) hB e_W_law_2432 (by decide) (fun c => ?_) (fun c => ?_)
  · have h := ip c h
    refine a_ls [2, 3, 4, 5, 6] (ls' := [(0, .ref 2000), (1, .ref 0), (2, .ref 134), (3, .ref 148), (4, .int l4)]) rfl ?_
    exact t_W_law_2453 hB hend hn hx hF (by omega) (by omega) hr23 h
  · have h := iq c h
    refine a_dload (j := 1) hB e_W_law_2435 rfl ?_
    refine a_dload (j := 1) hB e_W_law_2437 rfl ?_
    refine a_dcmp hB e_W_law_2439 ?_
    refine a_if_eq (tgt := 2451) hB e_W_law_2440 (by decide) (fun c => ?_) (fun c => ?_)
    · have h := ip c h
      refine a_ls [] (ls' := []) rfl ?_
      exact t_W_law_2451 hB hend hn hx hF (by omega) (by omega) h
    · have h := iq c h
      refine a_dload (j := 0) hB e_W_law_2443 rfl ?_
      refine a_dload (j := 0) hB e_W_law_2445 rfl ?_
      refine a_dcmp hB e_W_law_2447 ?_
      refine a_if_ne (tgt := 2453) hB e_W_law_2448 (by decide) (fun c => ?_) (fun c => ?_)
      · have h := iq c h
        refine a_ls [2, 3, 4, 5, 6] (ls' := [(0, .ref 2000), (1, .ref 0), (2, .ref 134), (3, .ref 148), (4, .int l4)]) rfl ?_
        exact t_W_law_2453 hB hend hn hx hF (by omega) (by omega) hr23 h
      · have h := ip c h
        refine a_ls [] (ls' := []) rfl ?_
        exact t_W_law_2451 hB hend hn hx hF (by omega) (by omega) h
set_option maxRecDepth 100000 in
theorem t_W_law_2494 {G : Gt} {nm : String} {hh : List (Nat × Nat × Nat × Nat)} {B : Bag} {L : Nat} {xs : Nat → Int32} {Qm : State → Prop} {M9 : Mm} (hB : BF G (I_W_law nm hh) B) (hend : ∀ (k1 k2 pc : Nat) (ls : List (Nat × Value)) (M : Mm) (φ : Ph), decode (mB (I_W_law nm hh)) pc = .ok (.ireturn, 1) → k1 ≤ 601024 → k2 ≤ 7293034 → AW G (I_W_law nm hh) B Qm k1 k2 pc ls [.int 1] M φ) (hn : gN G = L) (hx : gX G = xs) {φ : Ph} (hF : SF 149 φ) {k1 k2 : Nat} {n : Nat} (hk1 : k1 + 4 * (n) ≤ 601024) (hk2 : k2 + 24 * (n) ≤ 7293034)   {M : Mm} (h : f_W_law_2494 L xs M = some (1, M9)) : AW G (I_W_law nm hh) B Qm k1 k2 2494 [] [] M φ := by
  unfold f_W_law_2494 at h
  refine a_iconst (v := 0) hB e_W_law_2494 ic_0 ?_
  exact (no01 h).elim
set_option maxRecDepth 100000 in
theorem t_W_law_2496 {G : Gt} {nm : String} {hh : List (Nat × Nat × Nat × Nat)} {B : Bag} {L : Nat} {xs : Nat → Int32} {Qm : State → Prop} {M9 : Mm} (hB : BF G (I_W_law nm hh) B) (hend : ∀ (k1 k2 pc : Nat) (ls : List (Nat × Value)) (M : Mm) (φ : Ph), decode (mB (I_W_law nm hh)) pc = .ok (.ireturn, 1) → k1 ≤ 601024 → k2 ≤ 7293034 → AW G (I_W_law nm hh) B Qm k1 k2 pc ls [.int 1] M φ) (hn : gN G = L) (hx : gX G = xs) {φ : Ph} (hF : SF 149 φ) {k1 k2 : Nat} {n : Nat} {r23 : Int32 → Mm → Option (Int32 × Mm)}  (hk1 : k1 + 4 * (n) ≤ 601024) (hk2 : k2 + 24 * (n) ≤ 7293034) (hr23 : ∀ (k1 k2 : Nat) (φ : Ph), SF 149 φ → k1 + 4 * n ≤ 601024 → k2 + 24 * n ≤ 7293034 → ∀ (l4 : Int32) (M : Mm), r23 l4 M = some (1, M9) → AW G (I_W_law nm hh) B Qm k1 k2 23 [(0, .ref 2000), (1, .ref 0), (2, .ref 134), (3, .ref 148), (4, .int l4)] [] M φ) {l4 : Int32} {M : Mm} (h : f_W_law_2496 L xs r23 l4 M = some (1, M9)) : AW G (I_W_law nm hh) B Qm k1 k2 2496 [(0, .ref 2000), (1, .ref 0), (2, .ref 134), (3, .ref 148), (4, .int l4)] [] M φ := by
  unfold f_W_law_2496 at h
  refine a_goto (tgt := 2537) hB e_W_law_2496 (by decide) ?_
  exact t_W_law_2537 hB hend hn hx hF (by omega) (by omega) hr23 h
set_option maxRecDepth 100000 in
theorem t_W_law_2456 {G : Gt} {nm : String} {hh : List (Nat × Nat × Nat × Nat)} {B : Bag} {L : Nat} {xs : Nat → Int32} {Qm : State → Prop} {M9 : Mm} (hB : BF G (I_W_law nm hh) B) (hend : ∀ (k1 k2 pc : Nat) (ls : List (Nat × Value)) (M : Mm) (φ : Ph), decode (mB (I_W_law nm hh)) pc = .ok (.ireturn, 1) → k1 ≤ 601024 → k2 ≤ 7293034 → AW G (I_W_law nm hh) B Qm k1 k2 pc ls [.int 1] M φ) (hn : gN G = L) (hx : gX G = xs) {φ : Ph} (hF : SF 149 φ) {k1 k2 : Nat} {n : Nat} {r23 : Int32 → Mm → Option (Int32 × Mm)}  (hk1 : k1 + 4 * (n + 1) ≤ 601024) (hk2 : k2 + 24 * (n + 1) ≤ 7293034) (hr23 : ∀ (k1 k2 : Nat) (φ : Ph), SF 149 φ → k1 + 4 * n ≤ 601024 → k2 + 24 * n ≤ 7293034 → ∀ (l4 : Int32) (M : Mm), r23 l4 M = some (1, M9) → AW G (I_W_law nm hh) B Qm k1 k2 23 [(0, .ref 2000), (1, .ref 0), (2, .ref 134), (3, .ref 148), (4, .int l4)] [] M φ) {l4 : Int32} {M : Mm} (h : f_W_law_2456 L xs r23 l4 M = some (1, M9)) : AW G (I_W_law nm hh) B Qm k1 k2 2456 [(0, .ref 2000), (1, .ref 0), (2, .ref 134), (3, .ref 148), (4, .int l4)] [] M φ := by
  unfold f_W_law_2456 at h
  refine a_aload_n (j := 1) hB e_W_law_2456 rfl rfl ?_
  obtain ⟨r2457, M2457, hr2457, h⟩ := bn2_i h
  refine a_ret (v := (some (.float r2457))) (M1 := M2457) (φ1 := φ) (st1 := [.float r2457]) (j1 := k1) (j2 := k2) (ar_V (As := []) (rest := []) hB (c_C_bogShare (bf_G hB) (sf_m hF (by decide)) hr2457) ml_W_323 md_C_bogShare rc_C_bogShare (sf_lt hF (by decide)) kk_0 rfl rfl (Nat.le_of_ble_eq_true rfl) (rmL (c := 0) (s := 0) (by decide) (by decide) (by omega) (by omega) rfl rfl) e_W_law_2457) rfl rfl rfl ?_
  obtain ⟨c2460, h⟩ := chkC_i h
  refine a_f2d hB e_W_law_2460 c2460 ?_
  refine a_dstore (ls' := [(5, .double (FP.f2d r2457)), (0, .ref 2000), (1, .ref 0), (2, .ref 134), (3, .ref 148), (4, .int l4)]) hB e_W_law_2461 (Nat.le_of_ble_eq_true rfl) rfl ?_
  refine a_aload_n (j := 3) hB e_W_law_2463 rfl rfl ?_
  obtain ⟨r2464, M2464, hr2464, h⟩ := bn2_i h
  refine a_ret (v := (some (.float r2464))) (M1 := M2464) (φ1 := φ) (st1 := [.float r2464]) (j1 := k1) (j2 := k2) (ar_V (As := []) (rest := []) hB (c_M_bogShare (bf_G hB) (sf_m hF (by decide)) hr2464) ml_W_327 md_M_bogShare rc_M_bogShare (sf_lt hF (by decide)) kk_134 rfl rfl (Nat.le_of_ble_eq_true rfl) (rmL (c := 0) (s := 0) (by decide) (by decide) (by omega) (by omega) rfl rfl) e_W_law_2464) rfl rfl rfl ?_
  obtain ⟨c2467, h⟩ := chkC_i h
  refine a_f2d hB e_W_law_2467 c2467 ?_
  refine a_dstore (ls' := [(7, .double (FP.f2d r2464)), (5, .double (FP.f2d r2457)), (0, .ref 2000), (1, .ref 0), (2, .ref 134), (3, .ref 148), (4, .int l4)]) hB e_W_law_2468 (Nat.le_of_ble_eq_true rfl) rfl ?_
  refine a_dload (j := 1) hB e_W_law_2470 rfl ?_
  refine a_dload (j := 0) hB e_W_law_2472 rfl ?_
  refine a_dcmp hB e_W_law_2474 ?_
  refine a_if_eq (tgt := 2496) hB e_W_law_2475 (by decide) (fun c => ?_) (fun c => ?_)
  · have h := ip c h
    refine a_ls [2, 3, 4, 5, 6] (ls' := [(0, .ref 2000), (1, .ref 0), (2, .ref 134), (3, .ref 148), (4, .int l4)]) rfl ?_
    exact t_W_law_2496 hB hend hn hx hF (by omega) (by omega) hr23 h
  · have h := iq c h
    refine a_dload (j := 1) hB e_W_law_2478 rfl ?_
    refine a_dload (j := 1) hB e_W_law_2480 rfl ?_
    refine a_dcmp hB e_W_law_2482 ?_
    refine a_if_eq (tgt := 2494) hB e_W_law_2483 (by decide) (fun c => ?_) (fun c => ?_)
    · have h := ip c h
      refine a_ls [] (ls' := []) rfl ?_
      exact t_W_law_2494 hB hend hn hx hF (by omega) (by omega) h
    · have h := iq c h
      refine a_dload (j := 0) hB e_W_law_2486 rfl ?_
      refine a_dload (j := 0) hB e_W_law_2488 rfl ?_
      refine a_dcmp hB e_W_law_2490 ?_
      refine a_if_ne (tgt := 2496) hB e_W_law_2491 (by decide) (fun c => ?_) (fun c => ?_)
      · have h := iq c h
        refine a_ls [2, 3, 4, 5, 6] (ls' := [(0, .ref 2000), (1, .ref 0), (2, .ref 134), (3, .ref 148), (4, .int l4)]) rfl ?_
        exact t_W_law_2496 hB hend hn hx hF (by omega) (by omega) hr23 h
      · have h := ip c h
        refine a_ls [] (ls' := []) rfl ?_
        exact t_W_law_2494 hB hend hn hx hF (by omega) (by omega) h
set_option maxRecDepth 100000 in
theorem t_W_law_2499 {G : Gt} {nm : String} {hh : List (Nat × Nat × Nat × Nat)} {B : Bag} {L : Nat} {xs : Nat → Int32} {Qm : State → Prop} {M9 : Mm} (hB : BF G (I_W_law nm hh) B) (hend : ∀ (k1 k2 pc : Nat) (ls : List (Nat × Value)) (M : Mm) (φ : Ph), decode (mB (I_W_law nm hh)) pc = .ok (.ireturn, 1) → k1 ≤ 601024 → k2 ≤ 7293034 → AW G (I_W_law nm hh) B Qm k1 k2 pc ls [.int 1] M φ) (hn : gN G = L) (hx : gX G = xs) {φ : Ph} (hF : SF 149 φ) {k1 k2 : Nat} {n : Nat} {r23 : Int32 → Mm → Option (Int32 × Mm)}  (hk1 : k1 + 4 * (n + 1) ≤ 601024) (hk2 : k2 + 24 * (n + 1) ≤ 7293034) (hr23 : ∀ (k1 k2 : Nat) (φ : Ph), SF 149 φ → k1 + 4 * n ≤ 601024 → k2 + 24 * n ≤ 7293034 → ∀ (l4 : Int32) (M : Mm), r23 l4 M = some (1, M9) → AW G (I_W_law nm hh) B Qm k1 k2 23 [(0, .ref 2000), (1, .ref 0), (2, .ref 134), (3, .ref 148), (4, .int l4)] [] M φ) {l4 : Int32} {M : Mm} (h : f_W_law_2499 L xs r23 l4 M = some (1, M9)) : AW G (I_W_law nm hh) B Qm k1 k2 2499 [(0, .ref 2000), (1, .ref 0), (2, .ref 134), (3, .ref 148), (4, .int l4)] [] M φ := by
  unfold f_W_law_2499 at h
  refine a_aload_n (j := 1) hB e_W_law_2499 rfl rfl ?_
  obtain ⟨r2500, M2500, hr2500, h⟩ := bn2_i h
  refine a_ret (v := (some (.int r2500))) (M1 := M2500) (φ1 := φ) (st1 := [.int r2500]) (j1 := k1) (j2 := k2) (ar_V (As := []) (rest := []) hB (c_C_writeStations (bf_G hB) (sf_m hF (by decide)) hr2500) ml_W_328 md_C_writeStations rc_C_writeStations (sf_lt hF (by decide)) kk_0 rfl rfl (Nat.le_of_ble_eq_true rfl) (rmL (c := 0) (s := 0) (by decide) (by decide) (by omega) (by omega) rfl rfl) e_W_law_2500) rfl rfl rfl ?_
  refine a_aload_n (j := 2) hB e_W_law_2503 rfl rfl ?_
  obtain ⟨r2504, M2504, hr2504, h⟩ := bn2_i h
  refine a_ret (v := (some (.int r2504))) (M1 := M2504) (φ1 := φ) (st1 := [.int r2504, .int r2500]) (j1 := k1) (j2 := k2) (ar_V (As := []) (rest := [.int r2500]) hB (c_M_writeStations (bf_G hB) (sf_m hF (by decide)) hr2504) ml_W_331 md_M_writeStations rc_M_writeStations (sf_lt hF (by decide)) kk_134 rfl rfl (Nat.le_of_ble_eq_true rfl) (rmL (c := 0) (s := 0) (by decide) (by decide) (by omega) (by omega) rfl rfl) e_W_law_2504) rfl rfl rfl ?_
  refine a_icmp_eq (tgt := 2537) hB e_W_law_2507 (by decide) (fun c => ?_) (fun c => ?_)
  · have h := ip c h
    exact t_W_law_2537 hB hend hn hx hF (by omega) (by omega) hr23 h
  · have h := iq c h
    refine a_iconst (v := 0) hB e_W_law_2510 ic_0 ?_
    exact (no01 h).elim
set_option maxRecDepth 100000 in
theorem t_W_law_2512 {G : Gt} {nm : String} {hh : List (Nat × Nat × Nat × Nat)} {B : Bag} {L : Nat} {xs : Nat → Int32} {Qm : State → Prop} {M9 : Mm} (hB : BF G (I_W_law nm hh) B) (hend : ∀ (k1 k2 pc : Nat) (ls : List (Nat × Value)) (M : Mm) (φ : Ph), decode (mB (I_W_law nm hh)) pc = .ok (.ireturn, 1) → k1 ≤ 601024 → k2 ≤ 7293034 → AW G (I_W_law nm hh) B Qm k1 k2 pc ls [.int 1] M φ) (hn : gN G = L) (hx : gX G = xs) {φ : Ph} (hF : SF 149 φ) {k1 k2 : Nat} {n : Nat} {r23 : Int32 → Mm → Option (Int32 × Mm)}  (hk1 : k1 + 4 * (n + 1) ≤ 601024) (hk2 : k2 + 24 * (n + 1) ≤ 7293034) (hr23 : ∀ (k1 k2 : Nat) (φ : Ph), SF 149 φ → k1 + 4 * n ≤ 601024 → k2 + 24 * n ≤ 7293034 → ∀ (l4 : Int32) (M : Mm), r23 l4 M = some (1, M9) → AW G (I_W_law nm hh) B Qm k1 k2 23 [(0, .ref 2000), (1, .ref 0), (2, .ref 134), (3, .ref 148), (4, .int l4)] [] M φ) {l4 : Int32} {M : Mm} (h : f_W_law_2512 L xs r23 l4 M = some (1, M9)) : AW G (I_W_law nm hh) B Qm k1 k2 2512 [(0, .ref 2000), (1, .ref 0), (2, .ref 134), (3, .ref 148), (4, .int l4)] [] M φ := by
  unfold f_W_law_2512 at h
  refine a_aload_n (j := 1) hB e_W_law_2512 rfl rfl ?_
  refine a_aload_n (j := 0) hB e_W_law_2513 rfl rfl ?_
  refine a_iload (j := 4) hB e_W_law_2514 rfl ?_
  refine a_iconst (v := 1) hB e_W_law_2516 ic_1 ?_
  refine a_iadd hB e_W_law_2517 ?_
  obtain ⟨c2518, h⟩ := chk_i h
  refine a_sld' hB hn hx c2518 e_W_law_2518 ?_
  obtain ⟨r2519, hr2519, h⟩ := bn_i h
  refine a_ret (v := (some (.int r2519))) (M1 := M) (φ1 := φ) (st1 := [.int r2519]) (j1 := k1) (j2 := k2) (ar_V (As := [.int (xs (ix (l4 + (1 : Int32))))]) (rest := []) hB (c_C_outputByte (bf_G hB) (sf_m hF (by decide)) hr2519) ml_W_332 md_C_outputByte rc_C_outputByte (sf_lt hF (by decide)) kk_0 rfl rfl (Nat.le_of_ble_eq_true rfl) (rmL (c := 0) (s := 0) (by decide) (by decide) (by omega) (by omega) rfl rfl) e_W_law_2519) rfl rfl rfl ?_
  refine a_aload_n (j := 2) hB e_W_law_2522 rfl rfl ?_
  refine a_aload_n (j := 0) hB e_W_law_2523 rfl rfl ?_
  refine a_iload (j := 4) hB e_W_law_2524 rfl ?_
  refine a_iconst (v := 1) hB e_W_law_2526 ic_1 ?_
  refine a_iadd hB e_W_law_2527 ?_
  refine a_sld' hB hn hx c2518 e_W_law_2528 ?_
  obtain ⟨r2529, M2529, hr2529, h⟩ := bn2_i h
  refine a_ret (v := (some (.int r2529))) (M1 := M2529) (φ1 := φ) (st1 := [.int r2529, .int r2519]) (j1 := k1) (j2 := k2) (ar_V (As := [.int (xs (ix (l4 + (1 : Int32))))]) (rest := [.int r2519]) hB (c_M_outputByte (bf_G hB) (sf_m hF (by decide)) hr2529) ml_W_335 md_M_outputByte rc_M_outputByte (sf_lt hF (by decide)) kk_134 rfl rfl (Nat.le_of_ble_eq_true rfl) (rmL (c := 0) (s := 0) (by decide) (by decide) (by omega) (by omega) rfl rfl) e_W_law_2529) rfl rfl rfl ?_
  refine a_icmp_eq (tgt := 2537) hB e_W_law_2532 (by decide) (fun c => ?_) (fun c => ?_)
  · have h := ip c h
    exact t_W_law_2537 hB hend hn hx hF (by omega) (by omega) hr23 h
  · have h := iq c h
    refine a_iconst (v := 0) hB e_W_law_2535 ic_0 ?_
    exact (no01 h).elim
set_option maxRecDepth 100000 in
theorem t_W_law_296 {G : Gt} {nm : String} {hh : List (Nat × Nat × Nat × Nat)} {B : Bag} {L : Nat} {xs : Nat → Int32} {Qm : State → Prop} {M9 : Mm} (hB : BF G (I_W_law nm hh) B) (hend : ∀ (k1 k2 pc : Nat) (ls : List (Nat × Value)) (M : Mm) (φ : Ph), decode (mB (I_W_law nm hh)) pc = .ok (.ireturn, 1) → k1 ≤ 601024 → k2 ≤ 7293034 → AW G (I_W_law nm hh) B Qm k1 k2 pc ls [.int 1] M φ) (hn : gN G = L) (hx : gX G = xs) {φ : Ph} (hF : SF 149 φ) {k1 k2 : Nat} {n : Nat} {r23 : Int32 → Mm → Option (Int32 × Mm)}  (hk1 : k1 + 4 * (n + 1) ≤ 601024) (hk2 : k2 + 24 * (n + 1) ≤ 7293034) (hr23 : ∀ (k1 k2 : Nat) (φ : Ph), SF 149 φ → k1 + 4 * n ≤ 601024 → k2 + 24 * n ≤ 7293034 → ∀ (l4 : Int32) (M : Mm), r23 l4 M = some (1, M9) → AW G (I_W_law nm hh) B Qm k1 k2 23 [(0, .ref 2000), (1, .ref 0), (2, .ref 134), (3, .ref 148), (4, .int l4)] [] M φ) {l4 : Int32} {M : Mm} (h : f_W_law_296 L xs r23 l4 M = some (1, M9)) : AW G (I_W_law nm hh) B Qm k1 k2 296 [(0, .ref 2000), (1, .ref 0), (2, .ref 134), (3, .ref 148), (4, .int l4)] [] M φ := by
  unfold f_W_law_296 at h
  refine a_aload_n (j := 1) hB e_W_law_296 rfl rfl ?_
  refine a_aload_n (j := 0) hB e_W_law_297 rfl rfl ?_
  refine a_iload (j := 4) hB e_W_law_298 rfl ?_
  refine a_iconst (v := 1) hB e_W_law_300 ic_1 ?_
  refine a_iadd hB e_W_law_301 ?_
  obtain ⟨c302, h⟩ := chk_i h
  refine a_sld' hB hn hx c302 e_W_law_302 ?_
  refine a_aload_n (j := 0) hB e_W_law_303 rfl rfl ?_
  refine a_iload (j := 4) hB e_W_law_304 rfl ?_
  refine a_iconst (v := 2) hB e_W_law_306 ic_2 ?_
  refine a_iadd hB e_W_law_307 ?_
  obtain ⟨c308, h⟩ := chk_i h
  refine a_sld' hB hn hx c308 e_W_law_308 ?_
  refine a_aload_n (j := 0) hB e_W_law_309 rfl rfl ?_
  refine a_iload (j := 4) hB e_W_law_310 rfl ?_
  refine a_iconst (v := 3) hB e_W_law_312 ic_3 ?_
  refine a_iadd hB e_W_law_313 ?_
  obtain ⟨c314, h⟩ := chk_i h
  refine a_sld' hB hn hx c314 e_W_law_314 ?_
  refine a_aload_n (j := 0) hB e_W_law_315 rfl rfl ?_
  refine a_iload (j := 4) hB e_W_law_316 rfl ?_
  refine a_iconst (v := 4) hB e_W_law_318 ic_4 ?_
  refine a_iadd hB e_W_law_319 ?_
  obtain ⟨c320, h⟩ := chk_i h
  refine a_sld' hB hn hx c320 e_W_law_320 ?_
  refine a_aload_n (j := 0) hB e_W_law_321 rfl rfl ?_
  refine a_iload (j := 4) hB e_W_law_322 rfl ?_
  refine a_iconst (v := 5) hB e_W_law_324 ic_5 ?_
  refine a_iadd hB e_W_law_325 ?_
  obtain ⟨c326, h⟩ := chk_i h
  refine a_sld' hB hn hx c326 e_W_law_326 ?_
  obtain ⟨r327, M327, hr327, h⟩ := bn2_i h
  refine a_ret (v := (some (.int r327))) (M1 := M327) (φ1 := φ) (st1 := [.int r327]) (j1 := k1) (j2 := k2) (ar_V (As := [.int (xs (ix (l4 + (1 : Int32)))), .int (xs (ix (l4 + (2 : Int32)))), .int (xs (ix (l4 + (3 : Int32)))), .int (xs (ix (l4 + (4 : Int32)))), .int (xs (ix (l4 + (5 : Int32))))]) (rest := []) hB (c_C_append (bf_G hB) (sf_m hF (by decide)) hr327) ml_W_111 md_C_append rc_C_append (sf_lt hF (by decide)) kk_0 rfl rfl (Nat.le_of_ble_eq_true rfl) (rmL (c := 0) (s := 0) (by decide) (by decide) (by omega) (by omega) rfl rfl) e_W_law_327) rfl rfl rfl ?_
  refine a_aload_n (j := 2) hB e_W_law_330 rfl rfl ?_
  refine a_aload_n (j := 0) hB e_W_law_331 rfl rfl ?_
  refine a_iload (j := 4) hB e_W_law_332 rfl ?_
  refine a_iconst (v := 1) hB e_W_law_334 ic_1 ?_
  refine a_iadd hB e_W_law_335 ?_
  refine a_sld' hB hn hx c302 e_W_law_336 ?_
  refine a_aload_n (j := 0) hB e_W_law_337 rfl rfl ?_
  refine a_iload (j := 4) hB e_W_law_338 rfl ?_
  refine a_iconst (v := 2) hB e_W_law_340 ic_2 ?_
  refine a_iadd hB e_W_law_341 ?_
  refine a_sld' hB hn hx c308 e_W_law_342 ?_
  refine a_aload_n (j := 0) hB e_W_law_343 rfl rfl ?_
  refine a_iload (j := 4) hB e_W_law_344 rfl ?_
  refine a_iconst (v := 3) hB e_W_law_346 ic_3 ?_
  refine a_iadd hB e_W_law_347 ?_
  refine a_sld' hB hn hx c314 e_W_law_348 ?_
  refine a_aload_n (j := 0) hB e_W_law_349 rfl rfl ?_
  refine a_iload (j := 4) hB e_W_law_350 rfl ?_
  refine a_iconst (v := 4) hB e_W_law_352 ic_4 ?_
  refine a_iadd hB e_W_law_353 ?_
  refine a_sld' hB hn hx c320 e_W_law_354 ?_
  refine a_aload_n (j := 0) hB e_W_law_355 rfl rfl ?_
  refine a_iload (j := 4) hB e_W_law_356 rfl ?_
  refine a_iconst (v := 5) hB e_W_law_358 ic_5 ?_
  refine a_iadd hB e_W_law_359 ?_
  refine a_sld' hB hn hx c326 e_W_law_360 ?_
  obtain ⟨r361, M361, hr361, h⟩ := bn2_i h
  refine a_ret (v := (some (.int r361))) (M1 := M361) (φ1 := φ) (st1 := [.int r361, .int r327]) (j1 := k1) (j2 := k2) (ar_V (As := [.int (xs (ix (l4 + (1 : Int32)))), .int (xs (ix (l4 + (2 : Int32)))), .int (xs (ix (l4 + (3 : Int32)))), .int (xs (ix (l4 + (4 : Int32)))), .int (xs (ix (l4 + (5 : Int32))))]) (rest := [.int r327]) hB (c_M_append (bf_G hB) (sf_m hF (by decide)) hr361) ml_W_114 md_M_append rc_M_append (sf_lt hF (by decide)) kk_134 rfl rfl (Nat.le_of_ble_eq_true rfl) (rmL (c := 0) (s := 0) (by decide) (by decide) (by omega) (by omega) rfl rfl) e_W_law_361) rfl rfl rfl ?_
  refine a_icmp_eq (tgt := 2537) hB e_W_law_364 (by decide) (fun c => ?_) (fun c => ?_)
  · have h := ip c h
    exact t_W_law_2537 hB hend hn hx hF (by omega) (by omega) hr23 h
  · have h := iq c h
    refine a_iconst (v := 0) hB e_W_law_367 ic_0 ?_
    exact (no01 h).elim
set_option maxRecDepth 100000 in
theorem t_W_law_422 {G : Gt} {nm : String} {hh : List (Nat × Nat × Nat × Nat)} {B : Bag} {L : Nat} {xs : Nat → Int32} {Qm : State → Prop} {M9 : Mm} (hB : BF G (I_W_law nm hh) B) (hend : ∀ (k1 k2 pc : Nat) (ls : List (Nat × Value)) (M : Mm) (φ : Ph), decode (mB (I_W_law nm hh)) pc = .ok (.ireturn, 1) → k1 ≤ 601024 → k2 ≤ 7293034 → AW G (I_W_law nm hh) B Qm k1 k2 pc ls [.int 1] M φ) (hn : gN G = L) (hx : gX G = xs) {φ : Ph} (hF : SF 149 φ) {k1 k2 : Nat} {n : Nat} {r23 : Int32 → Mm → Option (Int32 × Mm)}  (hk1 : k1 + 4 * (n) ≤ 601024) (hk2 : k2 + 24 * (n) ≤ 7293034) (hr23 : ∀ (k1 k2 : Nat) (φ : Ph), SF 149 φ → k1 + 4 * n ≤ 601024 → k2 + 24 * n ≤ 7293034 → ∀ (l4 : Int32) (M : Mm), r23 l4 M = some (1, M9) → AW G (I_W_law nm hh) B Qm k1 k2 23 [(0, .ref 2000), (1, .ref 0), (2, .ref 134), (3, .ref 148), (4, .int l4)] [] M φ) {l4 : Int32} {M : Mm} (h : f_W_law_422 L xs r23 l4 M = some (1, M9)) : AW G (I_W_law nm hh) B Qm k1 k2 422 [(0, .ref 2000), (1, .ref 0), (2, .ref 134), (3, .ref 148), (4, .int l4)] [] M φ := by
  unfold f_W_law_422 at h
  refine a_goto (tgt := 2537) hB e_W_law_422 (by decide) ?_
  exact t_W_law_2537 hB hend hn hx hF (by omega) (by omega) hr23 h
set_option maxRecDepth 100000 in
theorem t_W_law_369 {G : Gt} {nm : String} {hh : List (Nat × Nat × Nat × Nat)} {B : Bag} {L : Nat} {xs : Nat → Int32} {Qm : State → Prop} {M9 : Mm} (hB : BF G (I_W_law nm hh) B) (hend : ∀ (k1 k2 pc : Nat) (ls : List (Nat × Value)) (M : Mm) (φ : Ph), decode (mB (I_W_law nm hh)) pc = .ok (.ireturn, 1) → k1 ≤ 601024 → k2 ≤ 7293034 → AW G (I_W_law nm hh) B Qm k1 k2 pc ls [.int 1] M φ) (hn : gN G = L) (hx : gX G = xs) {φ : Ph} (hF : SF 149 φ) {k1 k2 : Nat} {n : Nat} {r23 : Int32 → Mm → Option (Int32 × Mm)}  (hk1 : k1 + 4 * (n + 1) ≤ 601024) (hk2 : k2 + 24 * (n + 1) ≤ 7293034) (hr23 : ∀ (k1 k2 : Nat) (φ : Ph), SF 149 φ → k1 + 4 * n ≤ 601024 → k2 + 24 * n ≤ 7293034 → ∀ (l4 : Int32) (M : Mm), r23 l4 M = some (1, M9) → AW G (I_W_law nm hh) B Qm k1 k2 23 [(0, .ref 2000), (1, .ref 0), (2, .ref 134), (3, .ref 148), (4, .int l4)] [] M φ) {l4 : Int32} {M : Mm} (h : f_W_law_369 L xs r23 l4 M = some (1, M9)) : AW G (I_W_law nm hh) B Qm k1 k2 369 [(0, .ref 2000), (1, .ref 0), (2, .ref 134), (3, .ref 148), (4, .int l4)] [] M φ := by
  unfold f_W_law_369 at h
  refine a_aload_n (j := 1) hB e_W_law_369 rfl rfl ?_
  refine a_aload_n (j := 0) hB e_W_law_370 rfl rfl ?_
  refine a_iload (j := 4) hB e_W_law_371 rfl ?_
  refine a_iconst (v := 1) hB e_W_law_373 ic_1 ?_
  refine a_iadd hB e_W_law_374 ?_
  obtain ⟨c375, h⟩ := chk_i h
  refine a_sld' hB hn hx c375 e_W_law_375 ?_
  refine a_aload_n (j := 3) hB e_W_law_376 rfl rfl ?_
  obtain ⟨r377, M377, hr377, h⟩ := bn2_i h
  obtain ⟨φ377, hφ377⟩ : ∃ q, pK r377 φ = q := ⟨_, rfl⟩
  have hF0 := hF
  refine a_ret (v := (some (.int r377))) (M1 := M377) (φ1 := φ377) (st1 := [.int r377]) (j1 := k1 + 1) (j2 := k2 + 6) (ar_SX (As := [.ref 0, .int (xs (ix (l4 + (1 : Int32)))), .ref 148]) (rest := []) hB (c_W_truncateInput (bf_G hB) hF hφ377 hr377) ml_W_115 md_W_truncateInput rfl rfl (Nat.le_of_ble_eq_true rfl) (rmL (c := 1) (s := 6) (by decide) (by decide) (by omega) (by omega) rfl rfl) e_W_law_377) rfl rfl rfl ?_
  have hF : SF 149 φ377 := by rw [← hφ377]; exact sf_K hF0 _
  refine a_istore (ls' := [(5, .int r377), (0, .ref 2000), (1, .ref 0), (2, .ref 134), (3, .ref 148), (4, .int l4)]) hB e_W_law_380 (Nat.le_of_ble_eq_true rfl) rfl ?_
  refine a_aload_n (j := 3) hB e_W_law_382 rfl rfl ?_
  refine a_aload_n (j := 1) hB e_W_law_383 rfl rfl ?_
  refine a_iload (j := 5) hB e_W_law_384 rfl ?_
  refine a_iconst (v := 1) hB e_W_law_386 ic_1 ?_
  refine a_iadd hB e_W_law_387 ?_
  refine a_sld' hB hn hx c375 e_W_law_388 ?_
  obtain ⟨r389, M389, hr389, h⟩ := bn2_i h
  refine a_ret (v := (some (.int r389))) (M1 := M389) (φ1 := φ377) (st1 := [.int r389]) (j1 := k1 + 1) (j2 := k2 + 6) (ar_V (As := [.int (xs (ix (l4 + (1 : Int32))))]) (rest := []) hB (c_M_truncateInput (bf_G hB) (sf_m hF (by decide)) hr389) ml_W_120 md_M_truncateInput rc_M_truncateInput (sf_lt hF (by decide)) kk_134 rfl rfl (Nat.le_of_ble_eq_true rfl) (rmL (c := 0) (s := 0) (by decide) (by decide) (by omega) (by omega) rfl rfl) e_W_law_389) rfl rfl rfl ?_
  refine a_istore (ls' := [(6, .int r389), (5, .int r377), (0, .ref 2000), (1, .ref 0), (2, .ref 134), (3, .ref 148), (4, .int l4)]) hB e_W_law_392 (Nat.le_of_ble_eq_true rfl) rfl ?_
  refine a_aload_n (j := 4) hB e_W_law_394 rfl rfl ?_
  obtain ⟨r395, hr395, h⟩ := bn_i h
  refine a_ret (v := (some (.int r395))) (M1 := M389) (φ1 := φ377) (st1 := [.int r395]) (j1 := k1 + 1) (j2 := k2 + 6) (ar_V (As := []) (rest := []) hB (c_M_thrown (bf_G hB) (sf_m hF (by decide)) hr395) ml_W_121 md_M_thrown rc_M_thrown (sf_lt hF (by decide)) kk_134 rfl rfl (Nat.le_of_ble_eq_true rfl) (rmL (c := 0) (s := 0) (by decide) (by decide) (by omega) (by omega) rfl rfl) e_W_law_395) rfl rfl rfl ?_
  refine a_iload (j := 1) hB e_W_law_398 rfl ?_
  refine a_icmp_eq (tgt := 405) hB e_W_law_400 (by decide) (fun c => ?_) (fun c => ?_)
  · have h := ip c h
    refine a_iload (j := 1) hB e_W_law_405 rfl ?_
    refine a_if_ne (tgt := 422) hB e_W_law_407 (by decide) (fun c => ?_) (fun c => ?_)
    · have h := iq c h
      refine a_ls [2, 3, 4, 5, 6] (ls' := [(0, .ref 2000), (1, .ref 0), (2, .ref 134), (3, .ref 148), (4, .int l4)]) rfl ?_
      exact t_W_law_422 hB hend hn hx hF (by omega) (by omega) hr23 h
    · have h := ip c h
      refine a_aload_n (j := 5) hB e_W_law_410 rfl rfl ?_
      refine a_iconst (v := 0) hB e_W_law_411 ic_0 ?_
      refine a_lald hB e_W_law_412 (sf_lt hF (by decide)) kk_148 (by decide) ?_
      refine a_iload (j := 0) hB e_W_law_413 rfl ?_
      refine a_i2l hB e_W_law_415 ?_
      refine a_lcmp hB e_W_law_416 ?_
      refine a_if_eq (tgt := 422) hB e_W_law_417 (by decide) (fun c => ?_) (fun c => ?_)
      · have h := ip c h
        refine a_ls [2, 3, 4, 5, 6] (ls' := [(0, .ref 2000), (1, .ref 0), (2, .ref 134), (3, .ref 148), (4, .int l4)]) rfl ?_
        exact t_W_law_422 hB hend hn hx hF (by omega) (by omega) hr23 h
      · have h := iq c h
        refine a_iconst (v := 0) hB e_W_law_420 ic_0 ?_
        exact (no01 h).elim
  · have h := iq c h
    refine a_iconst (v := 0) hB e_W_law_403 ic_0 ?_
    exact (no01 h).elim
set_option maxRecDepth 100000 in
theorem t_W_law_425 {G : Gt} {nm : String} {hh : List (Nat × Nat × Nat × Nat)} {B : Bag} {L : Nat} {xs : Nat → Int32} {Qm : State → Prop} {M9 : Mm} (hB : BF G (I_W_law nm hh) B) (hend : ∀ (k1 k2 pc : Nat) (ls : List (Nat × Value)) (M : Mm) (φ : Ph), decode (mB (I_W_law nm hh)) pc = .ok (.ireturn, 1) → k1 ≤ 601024 → k2 ≤ 7293034 → AW G (I_W_law nm hh) B Qm k1 k2 pc ls [.int 1] M φ) (hn : gN G = L) (hx : gX G = xs) {φ : Ph} (hF : SF 149 φ) {k1 k2 : Nat} {n : Nat} {r23 : Int32 → Mm → Option (Int32 × Mm)}  (hk1 : k1 + 4 * (n + 1) ≤ 601024) (hk2 : k2 + 24 * (n + 1) ≤ 7293034) (hr23 : ∀ (k1 k2 : Nat) (φ : Ph), SF 149 φ → k1 + 4 * n ≤ 601024 → k2 + 24 * n ≤ 7293034 → ∀ (l4 : Int32) (M : Mm), r23 l4 M = some (1, M9) → AW G (I_W_law nm hh) B Qm k1 k2 23 [(0, .ref 2000), (1, .ref 0), (2, .ref 134), (3, .ref 148), (4, .int l4)] [] M φ) {l4 : Int32} {M : Mm} (h : f_W_law_425 L xs r23 l4 M = some (1, M9)) : AW G (I_W_law nm hh) B Qm k1 k2 425 [(0, .ref 2000), (1, .ref 0), (2, .ref 134), (3, .ref 148), (4, .int l4)] [] M φ := by
  unfold f_W_law_425 at h
  refine a_aload_n (j := 1) hB e_W_law_425 rfl rfl ?_
  obtain ⟨r426, M426, hr426, h⟩ := bn2_i h
  refine a_ret (v := (some (.int r426))) (M1 := M426) (φ1 := φ) (st1 := [.int r426]) (j1 := k1) (j2 := k2) (ar_V (As := []) (rest := []) hB (c_C_load (bf_G hB) (sf_m hF (by decide)) hr426) ml_W_124 md_C_load rc_C_load (sf_lt hF (by decide)) kk_0 rfl rfl (Nat.le_of_ble_eq_true rfl) (rmL (c := 0) (s := 0) (by decide) (by decide) (by omega) (by omega) rfl rfl) e_W_law_426) rfl rfl rfl ?_
  refine a_aload_n (j := 2) hB e_W_law_429 rfl rfl ?_
  obtain ⟨r430, M430, hr430, h⟩ := bn2_i h
  refine a_ret (v := (some (.int r430))) (M1 := M430) (φ1 := φ) (st1 := [.int r430, .int r426]) (j1 := k1) (j2 := k2) (ar_V (As := []) (rest := [.int r426]) hB (c_M_load (bf_G hB) (sf_m hF (by decide)) hr430) ml_W_127 md_M_load rc_M_load (sf_lt hF (by decide)) kk_134 rfl rfl (Nat.le_of_ble_eq_true rfl) (rmL (c := 0) (s := 0) (by decide) (by decide) (by omega) (by omega) rfl rfl) e_W_law_430) rfl rfl rfl ?_
  refine a_icmp_eq (tgt := 2537) hB e_W_law_433 (by decide) (fun c => ?_) (fun c => ?_)
  · have h := ip c h
    exact t_W_law_2537 hB hend hn hx hF (by omega) (by omega) hr23 h
  · have h := iq c h
    refine a_iconst (v := 0) hB e_W_law_436 ic_0 ?_
    exact (no01 h).elim
set_option maxRecDepth 100000 in
theorem t_W_law_438 {G : Gt} {nm : String} {hh : List (Nat × Nat × Nat × Nat)} {B : Bag} {L : Nat} {xs : Nat → Int32} {Qm : State → Prop} {M9 : Mm} (hB : BF G (I_W_law nm hh) B) (hend : ∀ (k1 k2 pc : Nat) (ls : List (Nat × Value)) (M : Mm) (φ : Ph), decode (mB (I_W_law nm hh)) pc = .ok (.ireturn, 1) → k1 ≤ 601024 → k2 ≤ 7293034 → AW G (I_W_law nm hh) B Qm k1 k2 pc ls [.int 1] M φ) (hn : gN G = L) (hx : gX G = xs) {φ : Ph} (hF : SF 149 φ) {k1 k2 : Nat} {n : Nat} {r23 : Int32 → Mm → Option (Int32 × Mm)}  (hk1 : k1 + 4 * (n + 1) ≤ 601024) (hk2 : k2 + 24 * (n + 1) ≤ 7293034) (hr23 : ∀ (k1 k2 : Nat) (φ : Ph), SF 149 φ → k1 + 4 * n ≤ 601024 → k2 + 24 * n ≤ 7293034 → ∀ (l4 : Int32) (M : Mm), r23 l4 M = some (1, M9) → AW G (I_W_law nm hh) B Qm k1 k2 23 [(0, .ref 2000), (1, .ref 0), (2, .ref 134), (3, .ref 148), (4, .int l4)] [] M φ) {l4 : Int32} {M : Mm} (h : f_W_law_438 L xs r23 l4 M = some (1, M9)) : AW G (I_W_law nm hh) B Qm k1 k2 438 [(0, .ref 2000), (1, .ref 0), (2, .ref 134), (3, .ref 148), (4, .int l4)] [] M φ := by
  unfold f_W_law_438 at h
  refine a_aload_n (j := 1) hB e_W_law_438 rfl rfl ?_
  obtain ⟨r439, M439, hr439, h⟩ := bn2_i h
  refine a_ret (v := (some (.int r439))) (M1 := M439) (φ1 := φ) (st1 := [.int r439]) (j1 := k1) (j2 := k2) (ar_V (As := []) (rest := []) hB (c_C_play (bf_G hB) (sf_m hF (by decide)) hr439) ml_W_128 md_C_play rc_C_play (sf_lt hF (by decide)) kk_0 rfl rfl (Nat.le_of_ble_eq_true rfl) (rmL (c := 0) (s := 0) (by decide) (by decide) (by omega) (by omega) rfl rfl) e_W_law_439) rfl rfl rfl ?_
  refine a_aload_n (j := 2) hB e_W_law_442 rfl rfl ?_
  obtain ⟨r443, M443, hr443, h⟩ := bn2_i h
  refine a_ret (v := (some (.int r443))) (M1 := M443) (φ1 := φ) (st1 := [.int r443, .int r439]) (j1 := k1) (j2 := k2) (ar_V (As := []) (rest := [.int r439]) hB (c_M_play (bf_G hB) (sf_m hF (by decide)) hr443) ml_W_131 md_M_play rc_M_play (sf_lt hF (by decide)) kk_134 rfl rfl (Nat.le_of_ble_eq_true rfl) (rmL (c := 0) (s := 0) (by decide) (by decide) (by omega) (by omega) rfl rfl) e_W_law_443) rfl rfl rfl ?_
  refine a_icmp_eq (tgt := 2537) hB e_W_law_446 (by decide) (fun c => ?_) (fun c => ?_)
  · have h := ip c h
    exact t_W_law_2537 hB hend hn hx hF (by omega) (by omega) hr23 h
  · have h := iq c h
    refine a_iconst (v := 0) hB e_W_law_449 ic_0 ?_
    exact (no01 h).elim
set_option maxRecDepth 100000 in
theorem t_W_law_451 {G : Gt} {nm : String} {hh : List (Nat × Nat × Nat × Nat)} {B : Bag} {L : Nat} {xs : Nat → Int32} {Qm : State → Prop} {M9 : Mm} (hB : BF G (I_W_law nm hh) B) (hend : ∀ (k1 k2 pc : Nat) (ls : List (Nat × Value)) (M : Mm) (φ : Ph), decode (mB (I_W_law nm hh)) pc = .ok (.ireturn, 1) → k1 ≤ 601024 → k2 ≤ 7293034 → AW G (I_W_law nm hh) B Qm k1 k2 pc ls [.int 1] M φ) (hn : gN G = L) (hx : gX G = xs) {φ : Ph} (hF : SF 149 φ) {k1 k2 : Nat} {n : Nat} {r23 : Int32 → Mm → Option (Int32 × Mm)}  (hk1 : k1 + 4 * (n + 1) ≤ 601024) (hk2 : k2 + 24 * (n + 1) ≤ 7293034) (hr23 : ∀ (k1 k2 : Nat) (φ : Ph), SF 149 φ → k1 + 4 * n ≤ 601024 → k2 + 24 * n ≤ 7293034 → ∀ (l4 : Int32) (M : Mm), r23 l4 M = some (1, M9) → AW G (I_W_law nm hh) B Qm k1 k2 23 [(0, .ref 2000), (1, .ref 0), (2, .ref 134), (3, .ref 148), (4, .int l4)] [] M φ) {l4 : Int32} {M : Mm} (h : f_W_law_451 L xs r23 l4 M = some (1, M9)) : AW G (I_W_law nm hh) B Qm k1 k2 451 [(0, .ref 2000), (1, .ref 0), (2, .ref 134), (3, .ref 148), (4, .int l4)] [] M φ := by
  unfold f_W_law_451 at h
  refine a_aload_n (j := 1) hB e_W_law_451 rfl rfl ?_
  obtain ⟨r452, hr452, h⟩ := bn_i h
  refine a_ret (v := (some (.int r452))) (M1 := M) (φ1 := φ) (st1 := [.int r452]) (j1 := k1) (j2 := k2) (ar_V (As := []) (rest := []) hB (c_C_errorCode (bf_G hB) (sf_m hF (by decide)) hr452) ml_W_132 md_C_errorCode rc_C_errorCode (sf_lt hF (by decide)) kk_0 rfl rfl (Nat.le_of_ble_eq_true rfl) (rmL (c := 0) (s := 0) (by decide) (by decide) (by omega) (by omega) rfl rfl) e_W_law_452) rfl rfl rfl ?_
  refine a_aload_n (j := 2) hB e_W_law_455 rfl rfl ?_
  obtain ⟨r456, M456, hr456, h⟩ := bn2_i h
  refine a_ret (v := (some (.int r456))) (M1 := M456) (φ1 := φ) (st1 := [.int r456, .int r452]) (j1 := k1) (j2 := k2) (ar_V (As := []) (rest := [.int r452]) hB (c_M_errorCode (bf_G hB) (sf_m hF (by decide)) hr456) ml_W_135 md_M_errorCode rc_M_errorCode (sf_lt hF (by decide)) kk_134 rfl rfl (Nat.le_of_ble_eq_true rfl) (rmL (c := 0) (s := 0) (by decide) (by decide) (by omega) (by omega) rfl rfl) e_W_law_456) rfl rfl rfl ?_
  refine a_icmp_eq (tgt := 2537) hB e_W_law_459 (by decide) (fun c => ?_) (fun c => ?_)
  · have h := ip c h
    exact t_W_law_2537 hB hend hn hx hF (by omega) (by omega) hr23 h
  · have h := iq c h
    refine a_iconst (v := 0) hB e_W_law_462 ic_0 ?_
    exact (no01 h).elim
set_option maxRecDepth 100000 in
theorem t_W_law_464 {G : Gt} {nm : String} {hh : List (Nat × Nat × Nat × Nat)} {B : Bag} {L : Nat} {xs : Nat → Int32} {Qm : State → Prop} {M9 : Mm} (hB : BF G (I_W_law nm hh) B) (hend : ∀ (k1 k2 pc : Nat) (ls : List (Nat × Value)) (M : Mm) (φ : Ph), decode (mB (I_W_law nm hh)) pc = .ok (.ireturn, 1) → k1 ≤ 601024 → k2 ≤ 7293034 → AW G (I_W_law nm hh) B Qm k1 k2 pc ls [.int 1] M φ) (hn : gN G = L) (hx : gX G = xs) {φ : Ph} (hF : SF 149 φ) {k1 k2 : Nat} {n : Nat} {r23 : Int32 → Mm → Option (Int32 × Mm)}  (hk1 : k1 + 4 * (n + 1) ≤ 601024) (hk2 : k2 + 24 * (n + 1) ≤ 7293034) (hr23 : ∀ (k1 k2 : Nat) (φ : Ph), SF 149 φ → k1 + 4 * n ≤ 601024 → k2 + 24 * n ≤ 7293034 → ∀ (l4 : Int32) (M : Mm), r23 l4 M = some (1, M9) → AW G (I_W_law nm hh) B Qm k1 k2 23 [(0, .ref 2000), (1, .ref 0), (2, .ref 134), (3, .ref 148), (4, .int l4)] [] M φ) {l4 : Int32} {M : Mm} (h : f_W_law_464 L xs r23 l4 M = some (1, M9)) : AW G (I_W_law nm hh) B Qm k1 k2 464 [(0, .ref 2000), (1, .ref 0), (2, .ref 134), (3, .ref 148), (4, .int l4)] [] M φ := by
  unfold f_W_law_464 at h
  refine a_aload_n (j := 1) hB e_W_law_464 rfl rfl ?_
  obtain ⟨r465, hr465, h⟩ := bn_i h
  refine a_ret (v := (some (.int r465))) (M1 := M) (φ1 := φ) (st1 := [.int r465]) (j1 := k1) (j2 := k2) (ar_V (As := []) (rest := []) hB (c_C_errorOffset (bf_G hB) (sf_m hF (by decide)) hr465) ml_W_136 md_C_errorOffset rc_C_errorOffset (sf_lt hF (by decide)) kk_0 rfl rfl (Nat.le_of_ble_eq_true rfl) (rmL (c := 0) (s := 0) (by decide) (by decide) (by omega) (by omega) rfl rfl) e_W_law_465) rfl rfl rfl ?_
  refine a_aload_n (j := 2) hB e_W_law_468 rfl rfl ?_
  obtain ⟨r469, M469, hr469, h⟩ := bn2_i h
  refine a_ret (v := (some (.int r469))) (M1 := M469) (φ1 := φ) (st1 := [.int r469, .int r465]) (j1 := k1) (j2 := k2) (ar_V (As := []) (rest := [.int r465]) hB (c_M_errorOffset (bf_G hB) (sf_m hF (by decide)) hr469) ml_W_139 md_M_errorOffset rc_M_errorOffset (sf_lt hF (by decide)) kk_134 rfl rfl (Nat.le_of_ble_eq_true rfl) (rmL (c := 0) (s := 0) (by decide) (by decide) (by omega) (by omega) rfl rfl) e_W_law_469) rfl rfl rfl ?_
  refine a_icmp_eq (tgt := 2537) hB e_W_law_472 (by decide) (fun c => ?_) (fun c => ?_)
  · have h := ip c h
    exact t_W_law_2537 hB hend hn hx hF (by omega) (by omega) hr23 h
  · have h := iq c h
    refine a_iconst (v := 0) hB e_W_law_475 ic_0 ?_
    exact (no01 h).elim
set_option maxRecDepth 100000 in
theorem t_W_law_578 {G : Gt} {nm : String} {hh : List (Nat × Nat × Nat × Nat)} {B : Bag} {L : Nat} {xs : Nat → Int32} {Qm : State → Prop} {M9 : Mm} (hB : BF G (I_W_law nm hh) B) (hend : ∀ (k1 k2 pc : Nat) (ls : List (Nat × Value)) (M : Mm) (φ : Ph), decode (mB (I_W_law nm hh)) pc = .ok (.ireturn, 1) → k1 ≤ 601024 → k2 ≤ 7293034 → AW G (I_W_law nm hh) B Qm k1 k2 pc ls [.int 1] M φ) (hn : gN G = L) (hx : gX G = xs) {φ : Ph} (hF : SF 149 φ) {k1 k2 : Nat} {n : Nat} {r23 : Int32 → Mm → Option (Int32 × Mm)}  (hk1 : k1 + 4 * (n) ≤ 601024) (hk2 : k2 + 24 * (n) ≤ 7293034) (hr23 : ∀ (k1 k2 : Nat) (φ : Ph), SF 149 φ → k1 + 4 * n ≤ 601024 → k2 + 24 * n ≤ 7293034 → ∀ (l4 : Int32) (M : Mm), r23 l4 M = some (1, M9) → AW G (I_W_law nm hh) B Qm k1 k2 23 [(0, .ref 2000), (1, .ref 0), (2, .ref 134), (3, .ref 148), (4, .int l4)] [] M φ) {l4 : Int32} {M : Mm} (h : f_W_law_578 L xs r23 l4 M = some (1, M9)) : AW G (I_W_law nm hh) B Qm k1 k2 578 [(0, .ref 2000), (1, .ref 0), (2, .ref 134), (3, .ref 148), (4, .int l4)] [] M φ := by
  unfold f_W_law_578 at h
  refine a_goto (tgt := 2537) hB e_W_law_578 (by decide) ?_
  exact t_W_law_2537 hB hend hn hx hF (by omega) (by omega) hr23 h
set_option maxRecDepth 100000 in
theorem t_W_law_477 {G : Gt} {nm : String} {hh : List (Nat × Nat × Nat × Nat)} {B : Bag} {L : Nat} {xs : Nat → Int32} {Qm : State → Prop} {M9 : Mm} (hB : BF G (I_W_law nm hh) B) (hend : ∀ (k1 k2 pc : Nat) (ls : List (Nat × Value)) (M : Mm) (φ : Ph), decode (mB (I_W_law nm hh)) pc = .ok (.ireturn, 1) → k1 ≤ 601024 → k2 ≤ 7293034 → AW G (I_W_law nm hh) B Qm k1 k2 pc ls [.int 1] M φ) (hn : gN G = L) (hx : gX G = xs) {φ : Ph} (hF : SF 149 φ) {k1 k2 : Nat} {n : Nat} {r23 : Int32 → Mm → Option (Int32 × Mm)}  (hk1 : k1 + 4 * (n + 1) ≤ 601024) (hk2 : k2 + 24 * (n + 1) ≤ 7293034) (hr23 : ∀ (k1 k2 : Nat) (φ : Ph), SF 149 φ → k1 + 4 * n ≤ 601024 → k2 + 24 * n ≤ 7293034 → ∀ (l4 : Int32) (M : Mm), r23 l4 M = some (1, M9) → AW G (I_W_law nm hh) B Qm k1 k2 23 [(0, .ref 2000), (1, .ref 0), (2, .ref 134), (3, .ref 148), (4, .int l4)] [] M φ) {l4 : Int32} {M : Mm} (h : f_W_law_477 L xs r23 l4 M = some (1, M9)) : AW G (I_W_law nm hh) B Qm k1 k2 477 [(0, .ref 2000), (1, .ref 0), (2, .ref 134), (3, .ref 148), (4, .int l4)] [] M φ := by
  unfold f_W_law_477 at h
  refine a_aload_n (j := 1) hB e_W_law_477 rfl rfl ?_
  refine a_aload_n (j := 0) hB e_W_law_478 rfl rfl ?_
  refine a_iload (j := 4) hB e_W_law_479 rfl ?_
  refine a_iconst (v := 1) hB e_W_law_481 ic_1 ?_
  refine a_iadd hB e_W_law_482 ?_
  obtain ⟨c483, h⟩ := chk_i h
  refine a_sld' hB hn hx c483 e_W_law_483 ?_
  refine a_aload_n (j := 0) hB e_W_law_484 rfl rfl ?_
  refine a_iload (j := 4) hB e_W_law_485 rfl ?_
  refine a_iconst (v := 2) hB e_W_law_487 ic_2 ?_
  refine a_iadd hB e_W_law_488 ?_
  obtain ⟨c489, h⟩ := chk_i h
  refine a_sld' hB hn hx c489 e_W_law_489 ?_
  refine a_aload_n (j := 0) hB e_W_law_490 rfl rfl ?_
  refine a_iload (j := 4) hB e_W_law_491 rfl ?_
  refine a_iconst (v := 3) hB e_W_law_493 ic_3 ?_
  refine a_iadd hB e_W_law_494 ?_
  obtain ⟨c495, h⟩ := chk_i h
  refine a_sld' hB hn hx c495 e_W_law_495 ?_
  refine a_aload_n (j := 0) hB e_W_law_496 rfl rfl ?_
  refine a_iload (j := 4) hB e_W_law_497 rfl ?_
  refine a_iconst (v := 4) hB e_W_law_499 ic_4 ?_
  refine a_iadd hB e_W_law_500 ?_
  obtain ⟨c501, h⟩ := chk_i h
  refine a_sld' hB hn hx c501 e_W_law_501 ?_
  refine a_aload_n (j := 0) hB e_W_law_502 rfl rfl ?_
  refine a_iload (j := 4) hB e_W_law_503 rfl ?_
  refine a_iconst (v := 5) hB e_W_law_505 ic_5 ?_
  refine a_iadd hB e_W_law_506 ?_
  obtain ⟨c507, h⟩ := chk_i h
  refine a_sld' hB hn hx c507 e_W_law_507 ?_
  refine a_aload_n (j := 3) hB e_W_law_508 rfl rfl ?_
  obtain ⟨r509, M509, hr509, h⟩ := bn2_i h
  obtain ⟨φ509, hφ509⟩ : ∃ q, pK r509 φ = q := ⟨_, rfl⟩
  have hF0 := hF
  refine a_ret (v := (some (.int r509))) (M1 := M509) (φ1 := φ509) (st1 := [.int r509]) (j1 := k1 + 1) (j2 := k2 + 6) (ar_SX (As := [.ref 0, .int (xs (ix (l4 + (1 : Int32)))), .int (xs (ix (l4 + (2 : Int32)))), .int (xs (ix (l4 + (3 : Int32)))), .int (xs (ix (l4 + (4 : Int32)))), .int (xs (ix (l4 + (5 : Int32)))), .ref 148]) (rest := []) hB (c_W_addLeg (bf_G hB) hF hφ509 hr509) ml_W_140 md_W_addLeg rfl rfl (Nat.le_of_ble_eq_true rfl) (rmL (c := 1) (s := 6) (by decide) (by decide) (by omega) (by omega) rfl rfl) e_W_law_509) rfl rfl rfl ?_
  have hF : SF 149 φ509 := by rw [← hφ509]; exact sf_K hF0 _
  refine a_istore (ls' := [(5, .int r509), (0, .ref 2000), (1, .ref 0), (2, .ref 134), (3, .ref 148), (4, .int l4)]) hB e_W_law_512 (Nat.le_of_ble_eq_true rfl) rfl ?_
  refine a_aload_n (j := 3) hB e_W_law_514 rfl rfl ?_
  refine a_aload_n (j := 1) hB e_W_law_515 rfl rfl ?_
  refine a_iload (j := 5) hB e_W_law_516 rfl ?_
  refine a_iconst (v := 1) hB e_W_law_518 ic_1 ?_
  refine a_iadd hB e_W_law_519 ?_
  refine a_sld' hB hn hx c483 e_W_law_520 ?_
  refine a_aload_n (j := 1) hB e_W_law_521 rfl rfl ?_
  refine a_iload (j := 5) hB e_W_law_522 rfl ?_
  refine a_iconst (v := 2) hB e_W_law_524 ic_2 ?_
  refine a_iadd hB e_W_law_525 ?_
  refine a_sld' hB hn hx c489 e_W_law_526 ?_
  refine a_aload_n (j := 1) hB e_W_law_527 rfl rfl ?_
  refine a_iload (j := 5) hB e_W_law_528 rfl ?_
  refine a_iconst (v := 3) hB e_W_law_530 ic_3 ?_
  refine a_iadd hB e_W_law_531 ?_
  refine a_sld' hB hn hx c495 e_W_law_532 ?_
  refine a_aload_n (j := 1) hB e_W_law_533 rfl rfl ?_
  refine a_iload (j := 5) hB e_W_law_534 rfl ?_
  refine a_iconst (v := 4) hB e_W_law_536 ic_4 ?_
  refine a_iadd hB e_W_law_537 ?_
  refine a_sld' hB hn hx c501 e_W_law_538 ?_
  refine a_aload_n (j := 1) hB e_W_law_539 rfl rfl ?_
  refine a_iload (j := 5) hB e_W_law_540 rfl ?_
  refine a_iconst (v := 5) hB e_W_law_542 ic_5 ?_
  refine a_iadd hB e_W_law_543 ?_
  refine a_sld' hB hn hx c507 e_W_law_544 ?_
  obtain ⟨r545, M545, hr545, h⟩ := bn2_i h
  refine a_ret (v := (some (.int r545))) (M1 := M545) (φ1 := φ509) (st1 := [.int r545]) (j1 := k1 + 1) (j2 := k2 + 6) (ar_V (As := [.int (xs (ix (l4 + (1 : Int32)))), .int (xs (ix (l4 + (2 : Int32)))), .int (xs (ix (l4 + (3 : Int32)))), .int (xs (ix (l4 + (4 : Int32)))), .int (xs (ix (l4 + (5 : Int32))))]) (rest := []) hB (c_M_addLeg (bf_G hB) (sf_m hF (by decide)) hr545) ml_W_143 md_M_addLeg rc_M_addLeg (sf_lt hF (by decide)) kk_134 rfl rfl (Nat.le_of_ble_eq_true rfl) (rmL (c := 0) (s := 0) (by decide) (by decide) (by omega) (by omega) rfl rfl) e_W_law_545) rfl rfl rfl ?_
  refine a_istore (ls' := [(6, .int r545), (5, .int r509), (0, .ref 2000), (1, .ref 0), (2, .ref 134), (3, .ref 148), (4, .int l4)]) hB e_W_law_548 (Nat.le_of_ble_eq_true rfl) rfl ?_
  refine a_aload_n (j := 4) hB e_W_law_550 rfl rfl ?_
  obtain ⟨r551, hr551, h⟩ := bn_i h
  refine a_ret (v := (some (.int r551))) (M1 := M545) (φ1 := φ509) (st1 := [.int r551]) (j1 := k1 + 1) (j2 := k2 + 6) (ar_V (As := []) (rest := []) hB (c_M_thrown (bf_G hB) (sf_m hF (by decide)) hr551) ml_W_121 md_M_thrown rc_M_thrown (sf_lt hF (by decide)) kk_134 rfl rfl (Nat.le_of_ble_eq_true rfl) (rmL (c := 0) (s := 0) (by decide) (by decide) (by omega) (by omega) rfl rfl) e_W_law_551) rfl rfl rfl ?_
  refine a_iload (j := 1) hB e_W_law_554 rfl ?_
  refine a_icmp_eq (tgt := 561) hB e_W_law_556 (by decide) (fun c => ?_) (fun c => ?_)
  · have h := ip c h
    refine a_iload (j := 1) hB e_W_law_561 rfl ?_
    refine a_if_ne (tgt := 578) hB e_W_law_563 (by decide) (fun c => ?_) (fun c => ?_)
    · have h := iq c h
      refine a_ls [2, 3, 4, 5, 6] (ls' := [(0, .ref 2000), (1, .ref 0), (2, .ref 134), (3, .ref 148), (4, .int l4)]) rfl ?_
      exact t_W_law_578 hB hend hn hx hF (by omega) (by omega) hr23 h
    · have h := ip c h
      refine a_aload_n (j := 5) hB e_W_law_566 rfl rfl ?_
      refine a_iconst (v := 0) hB e_W_law_567 ic_0 ?_
      refine a_lald hB e_W_law_568 (sf_lt hF (by decide)) kk_148 (by decide) ?_
      refine a_iload (j := 0) hB e_W_law_569 rfl ?_
      refine a_i2l hB e_W_law_571 ?_
      refine a_lcmp hB e_W_law_572 ?_
      refine a_if_eq (tgt := 578) hB e_W_law_573 (by decide) (fun c => ?_) (fun c => ?_)
      · have h := ip c h
        refine a_ls [2, 3, 4, 5, 6] (ls' := [(0, .ref 2000), (1, .ref 0), (2, .ref 134), (3, .ref 148), (4, .int l4)]) rfl ?_
        exact t_W_law_578 hB hend hn hx hF (by omega) (by omega) hr23 h
      · have h := iq c h
        refine a_iconst (v := 0) hB e_W_law_576 ic_0 ?_
        exact (no01 h).elim
  · have h := iq c h
    refine a_iconst (v := 0) hB e_W_law_559 ic_0 ?_
    exact (no01 h).elim
set_option maxRecDepth 100000 in
theorem t_W_law_646 {G : Gt} {nm : String} {hh : List (Nat × Nat × Nat × Nat)} {B : Bag} {L : Nat} {xs : Nat → Int32} {Qm : State → Prop} {M9 : Mm} (hB : BF G (I_W_law nm hh) B) (hend : ∀ (k1 k2 pc : Nat) (ls : List (Nat × Value)) (M : Mm) (φ : Ph), decode (mB (I_W_law nm hh)) pc = .ok (.ireturn, 1) → k1 ≤ 601024 → k2 ≤ 7293034 → AW G (I_W_law nm hh) B Qm k1 k2 pc ls [.int 1] M φ) (hn : gN G = L) (hx : gX G = xs) {φ : Ph} (hF : SF 149 φ) {k1 k2 : Nat} {n : Nat} {r23 : Int32 → Mm → Option (Int32 × Mm)}  (hk1 : k1 + 4 * (n) ≤ 601024) (hk2 : k2 + 24 * (n) ≤ 7293034) (hr23 : ∀ (k1 k2 : Nat) (φ : Ph), SF 149 φ → k1 + 4 * n ≤ 601024 → k2 + 24 * n ≤ 7293034 → ∀ (l4 : Int32) (M : Mm), r23 l4 M = some (1, M9) → AW G (I_W_law nm hh) B Qm k1 k2 23 [(0, .ref 2000), (1, .ref 0), (2, .ref 134), (3, .ref 148), (4, .int l4)] [] M φ) {l4 : Int32} {M : Mm} (h : f_W_law_646 L xs r23 l4 M = some (1, M9)) : AW G (I_W_law nm hh) B Qm k1 k2 646 [(0, .ref 2000), (1, .ref 0), (2, .ref 134), (3, .ref 148), (4, .int l4)] [] M φ := by
  unfold f_W_law_646 at h
  refine a_goto (tgt := 2537) hB e_W_law_646 (by decide) ?_
  exact t_W_law_2537 hB hend hn hx hF (by omega) (by omega) hr23 h
set_option maxRecDepth 100000 in
theorem t_W_law_581 {G : Gt} {nm : String} {hh : List (Nat × Nat × Nat × Nat)} {B : Bag} {L : Nat} {xs : Nat → Int32} {Qm : State → Prop} {M9 : Mm} (hB : BF G (I_W_law nm hh) B) (hend : ∀ (k1 k2 pc : Nat) (ls : List (Nat × Value)) (M : Mm) (φ : Ph), decode (mB (I_W_law nm hh)) pc = .ok (.ireturn, 1) → k1 ≤ 601024 → k2 ≤ 7293034 → AW G (I_W_law nm hh) B Qm k1 k2 pc ls [.int 1] M φ) (hn : gN G = L) (hx : gX G = xs) {φ : Ph} (hF : SF 149 φ) {k1 k2 : Nat} {n : Nat} {r23 : Int32 → Mm → Option (Int32 × Mm)}  (hk1 : k1 + 4 * (n + 1) ≤ 601024) (hk2 : k2 + 24 * (n + 1) ≤ 7293034) (hr23 : ∀ (k1 k2 : Nat) (φ : Ph), SF 149 φ → k1 + 4 * n ≤ 601024 → k2 + 24 * n ≤ 7293034 → ∀ (l4 : Int32) (M : Mm), r23 l4 M = some (1, M9) → AW G (I_W_law nm hh) B Qm k1 k2 23 [(0, .ref 2000), (1, .ref 0), (2, .ref 134), (3, .ref 148), (4, .int l4)] [] M φ) {l4 : Int32} {M : Mm} (h : f_W_law_581 L xs r23 l4 M = some (1, M9)) : AW G (I_W_law nm hh) B Qm k1 k2 581 [(0, .ref 2000), (1, .ref 0), (2, .ref 134), (3, .ref 148), (4, .int l4)] [] M φ := by
  unfold f_W_law_581 at h
  refine a_aload_n (j := 1) hB e_W_law_581 rfl rfl ?_
  refine a_aload_n (j := 0) hB e_W_law_582 rfl rfl ?_
  refine a_iload (j := 4) hB e_W_law_583 rfl ?_
  refine a_iconst (v := 1) hB e_W_law_585 ic_1 ?_
  refine a_iadd hB e_W_law_586 ?_
  obtain ⟨c587, h⟩ := chk_i h
  refine a_sld' hB hn hx c587 e_W_law_587 ?_
  refine a_aload_n (j := 0) hB e_W_law_588 rfl rfl ?_
  refine a_iload (j := 4) hB e_W_law_589 rfl ?_
  refine a_iconst (v := 2) hB e_W_law_591 ic_2 ?_
  refine a_iadd hB e_W_law_592 ?_
  obtain ⟨c593, h⟩ := chk_i h
  refine a_sld' hB hn hx c593 e_W_law_593 ?_
  refine a_aload_n (j := 3) hB e_W_law_594 rfl rfl ?_
  obtain ⟨r595, M595, hr595, h⟩ := bn2_i h
  obtain ⟨φ595, hφ595⟩ : ∃ q, pK r595 φ = q := ⟨_, rfl⟩
  have hF0 := hF
  refine a_ret (v := (some (.int r595))) (M1 := M595) (φ1 := φ595) (st1 := [.int r595]) (j1 := k1 + 1) (j2 := k2 + 6) (ar_SX (As := [.ref 0, .int (xs (ix (l4 + (1 : Int32)))), .int (xs (ix (l4 + (2 : Int32)))), .ref 148]) (rest := []) hB (c_W_addBog (bf_G hB) hF hφ595 hr595) ml_W_144 md_W_addBog rfl rfl (Nat.le_of_ble_eq_true rfl) (rmL (c := 1) (s := 6) (by decide) (by decide) (by omega) (by omega) rfl rfl) e_W_law_595) rfl rfl rfl ?_
  have hF : SF 149 φ595 := by rw [← hφ595]; exact sf_K hF0 _
  refine a_istore (ls' := [(5, .int r595), (0, .ref 2000), (1, .ref 0), (2, .ref 134), (3, .ref 148), (4, .int l4)]) hB e_W_law_598 (Nat.le_of_ble_eq_true rfl) rfl ?_
  refine a_aload_n (j := 3) hB e_W_law_600 rfl rfl ?_
  refine a_aload_n (j := 1) hB e_W_law_601 rfl rfl ?_
  refine a_iload (j := 5) hB e_W_law_602 rfl ?_
  refine a_iconst (v := 1) hB e_W_law_604 ic_1 ?_
  refine a_iadd hB e_W_law_605 ?_
  refine a_sld' hB hn hx c587 e_W_law_606 ?_
  refine a_aload_n (j := 1) hB e_W_law_607 rfl rfl ?_
  refine a_iload (j := 5) hB e_W_law_608 rfl ?_
  refine a_iconst (v := 2) hB e_W_law_610 ic_2 ?_
  refine a_iadd hB e_W_law_611 ?_
  refine a_sld' hB hn hx c593 e_W_law_612 ?_
  obtain ⟨r613, M613, hr613, h⟩ := bn2_i h
  refine a_ret (v := (some (.int r613))) (M1 := M613) (φ1 := φ595) (st1 := [.int r613]) (j1 := k1 + 1) (j2 := k2 + 6) (ar_V (As := [.int (xs (ix (l4 + (1 : Int32)))), .int (xs (ix (l4 + (2 : Int32))))]) (rest := []) hB (c_M_addBog (bf_G hB) (sf_m hF (by decide)) hr613) ml_W_147 md_M_addBog rc_M_addBog (sf_lt hF (by decide)) kk_134 rfl rfl (Nat.le_of_ble_eq_true rfl) (rmL (c := 0) (s := 0) (by decide) (by decide) (by omega) (by omega) rfl rfl) e_W_law_613) rfl rfl rfl ?_
  refine a_istore (ls' := [(6, .int r613), (5, .int r595), (0, .ref 2000), (1, .ref 0), (2, .ref 134), (3, .ref 148), (4, .int l4)]) hB e_W_law_616 (Nat.le_of_ble_eq_true rfl) rfl ?_
  refine a_aload_n (j := 4) hB e_W_law_618 rfl rfl ?_
  obtain ⟨r619, hr619, h⟩ := bn_i h
  refine a_ret (v := (some (.int r619))) (M1 := M613) (φ1 := φ595) (st1 := [.int r619]) (j1 := k1 + 1) (j2 := k2 + 6) (ar_V (As := []) (rest := []) hB (c_M_thrown (bf_G hB) (sf_m hF (by decide)) hr619) ml_W_121 md_M_thrown rc_M_thrown (sf_lt hF (by decide)) kk_134 rfl rfl (Nat.le_of_ble_eq_true rfl) (rmL (c := 0) (s := 0) (by decide) (by decide) (by omega) (by omega) rfl rfl) e_W_law_619) rfl rfl rfl ?_
  refine a_iload (j := 1) hB e_W_law_622 rfl ?_
  refine a_icmp_eq (tgt := 629) hB e_W_law_624 (by decide) (fun c => ?_) (fun c => ?_)
  · have h := ip c h
    refine a_iload (j := 1) hB e_W_law_629 rfl ?_
    refine a_if_ne (tgt := 646) hB e_W_law_631 (by decide) (fun c => ?_) (fun c => ?_)
    · have h := iq c h
      refine a_ls [2, 3, 4, 5, 6] (ls' := [(0, .ref 2000), (1, .ref 0), (2, .ref 134), (3, .ref 148), (4, .int l4)]) rfl ?_
      exact t_W_law_646 hB hend hn hx hF (by omega) (by omega) hr23 h
    · have h := ip c h
      refine a_aload_n (j := 5) hB e_W_law_634 rfl rfl ?_
      refine a_iconst (v := 0) hB e_W_law_635 ic_0 ?_
      refine a_lald hB e_W_law_636 (sf_lt hF (by decide)) kk_148 (by decide) ?_
      refine a_iload (j := 0) hB e_W_law_637 rfl ?_
      refine a_i2l hB e_W_law_639 ?_
      refine a_lcmp hB e_W_law_640 ?_
      refine a_if_eq (tgt := 646) hB e_W_law_641 (by decide) (fun c => ?_) (fun c => ?_)
      · have h := ip c h
        refine a_ls [2, 3, 4, 5, 6] (ls' := [(0, .ref 2000), (1, .ref 0), (2, .ref 134), (3, .ref 148), (4, .int l4)]) rfl ?_
        exact t_W_law_646 hB hend hn hx hF (by omega) (by omega) hr23 h
      · have h := iq c h
        refine a_iconst (v := 0) hB e_W_law_644 ic_0 ?_
        exact (no01 h).elim
  · have h := iq c h
    refine a_iconst (v := 0) hB e_W_law_627 ic_0 ?_
    exact (no01 h).elim
set_option maxRecDepth 100000 in
theorem t_W_law_702 {G : Gt} {nm : String} {hh : List (Nat × Nat × Nat × Nat)} {B : Bag} {L : Nat} {xs : Nat → Int32} {Qm : State → Prop} {M9 : Mm} (hB : BF G (I_W_law nm hh) B) (hend : ∀ (k1 k2 pc : Nat) (ls : List (Nat × Value)) (M : Mm) (φ : Ph), decode (mB (I_W_law nm hh)) pc = .ok (.ireturn, 1) → k1 ≤ 601024 → k2 ≤ 7293034 → AW G (I_W_law nm hh) B Qm k1 k2 pc ls [.int 1] M φ) (hn : gN G = L) (hx : gX G = xs) {φ : Ph} (hF : SF 149 φ) {k1 k2 : Nat} {n : Nat} {r23 : Int32 → Mm → Option (Int32 × Mm)}  (hk1 : k1 + 4 * (n) ≤ 601024) (hk2 : k2 + 24 * (n) ≤ 7293034) (hr23 : ∀ (k1 k2 : Nat) (φ : Ph), SF 149 φ → k1 + 4 * n ≤ 601024 → k2 + 24 * n ≤ 7293034 → ∀ (l4 : Int32) (M : Mm), r23 l4 M = some (1, M9) → AW G (I_W_law nm hh) B Qm k1 k2 23 [(0, .ref 2000), (1, .ref 0), (2, .ref 134), (3, .ref 148), (4, .int l4)] [] M φ) {l4 : Int32} {M : Mm} (h : f_W_law_702 L xs r23 l4 M = some (1, M9)) : AW G (I_W_law nm hh) B Qm k1 k2 702 [(0, .ref 2000), (1, .ref 0), (2, .ref 134), (3, .ref 148), (4, .int l4)] [] M φ := by
  unfold f_W_law_702 at h
  refine a_goto (tgt := 2537) hB e_W_law_702 (by decide) ?_
  exact t_W_law_2537 hB hend hn hx hF (by omega) (by omega) hr23 h
set_option maxRecDepth 100000 in
theorem t_W_law_649 {G : Gt} {nm : String} {hh : List (Nat × Nat × Nat × Nat)} {B : Bag} {L : Nat} {xs : Nat → Int32} {Qm : State → Prop} {M9 : Mm} (hB : BF G (I_W_law nm hh) B) (hend : ∀ (k1 k2 pc : Nat) (ls : List (Nat × Value)) (M : Mm) (φ : Ph), decode (mB (I_W_law nm hh)) pc = .ok (.ireturn, 1) → k1 ≤ 601024 → k2 ≤ 7293034 → AW G (I_W_law nm hh) B Qm k1 k2 pc ls [.int 1] M φ) (hn : gN G = L) (hx : gX G = xs) {φ : Ph} (hF : SF 149 φ) {k1 k2 : Nat} {n : Nat} {r23 : Int32 → Mm → Option (Int32 × Mm)}  (hk1 : k1 + 4 * (n + 1) ≤ 601024) (hk2 : k2 + 24 * (n + 1) ≤ 7293034) (hr23 : ∀ (k1 k2 : Nat) (φ : Ph), SF 149 φ → k1 + 4 * n ≤ 601024 → k2 + 24 * n ≤ 7293034 → ∀ (l4 : Int32) (M : Mm), r23 l4 M = some (1, M9) → AW G (I_W_law nm hh) B Qm k1 k2 23 [(0, .ref 2000), (1, .ref 0), (2, .ref 134), (3, .ref 148), (4, .int l4)] [] M φ) {l4 : Int32} {M : Mm} (h : f_W_law_649 L xs r23 l4 M = some (1, M9)) : AW G (I_W_law nm hh) B Qm k1 k2 649 [(0, .ref 2000), (1, .ref 0), (2, .ref 134), (3, .ref 148), (4, .int l4)] [] M φ := by
  unfold f_W_law_649 at h
  refine a_aload_n (j := 1) hB e_W_law_649 rfl rfl ?_
  refine a_aload_n (j := 0) hB e_W_law_650 rfl rfl ?_
  refine a_iload (j := 4) hB e_W_law_651 rfl ?_
  refine a_iconst (v := 1) hB e_W_law_653 ic_1 ?_
  refine a_iadd hB e_W_law_654 ?_
  obtain ⟨c655, h⟩ := chk_i h
  refine a_sld' hB hn hx c655 e_W_law_655 ?_
  refine a_aload_n (j := 3) hB e_W_law_656 rfl rfl ?_
  obtain ⟨r657, M657, hr657, h⟩ := bn2_i h
  obtain ⟨φ657, hφ657⟩ : ∃ q, pK r657 φ = q := ⟨_, rfl⟩
  have hF0 := hF
  refine a_ret (v := (some (.int r657))) (M1 := M657) (φ1 := φ657) (st1 := [.int r657]) (j1 := k1 + 2) (j2 := k2 + 12) (ar_SX (As := [.ref 0, .int (xs (ix (l4 + (1 : Int32)))), .ref 148]) (rest := []) hB (c_W_dropPin (bf_G hB) hF hφ657 hr657) ml_W_148 md_W_dropPin rfl rfl (Nat.le_of_ble_eq_true rfl) (rmL (c := 2) (s := 12) (by decide) (by decide) (by omega) (by omega) rfl rfl) e_W_law_657) rfl rfl rfl ?_
  have hF : SF 149 φ657 := by rw [← hφ657]; exact sf_K hF0 _
  refine a_istore (ls' := [(5, .int r657), (0, .ref 2000), (1, .ref 0), (2, .ref 134), (3, .ref 148), (4, .int l4)]) hB e_W_law_660 (Nat.le_of_ble_eq_true rfl) rfl ?_
  refine a_aload_n (j := 3) hB e_W_law_662 rfl rfl ?_
  refine a_aload_n (j := 1) hB e_W_law_663 rfl rfl ?_
  refine a_iload (j := 5) hB e_W_law_664 rfl ?_
  refine a_iconst (v := 1) hB e_W_law_666 ic_1 ?_
  refine a_iadd hB e_W_law_667 ?_
  refine a_sld' hB hn hx c655 e_W_law_668 ?_
  obtain ⟨r669, M669, hr669, h⟩ := bn2_i h
  refine a_ret (v := (some (.int r669))) (M1 := M669) (φ1 := φ657) (st1 := [.int r669]) (j1 := k1 + 2) (j2 := k2 + 12) (ar_V (As := [.int (xs (ix (l4 + (1 : Int32))))]) (rest := []) hB (c_M_dropPin (bf_G hB) (sf_m hF (by decide)) hr669) ml_W_150 md_M_dropPin rc_M_dropPin (sf_lt hF (by decide)) kk_134 rfl rfl (Nat.le_of_ble_eq_true rfl) (rmL (c := 0) (s := 0) (by decide) (by decide) (by omega) (by omega) rfl rfl) e_W_law_669) rfl rfl rfl ?_
  refine a_istore (ls' := [(6, .int r669), (5, .int r657), (0, .ref 2000), (1, .ref 0), (2, .ref 134), (3, .ref 148), (4, .int l4)]) hB e_W_law_672 (Nat.le_of_ble_eq_true rfl) rfl ?_
  refine a_aload_n (j := 4) hB e_W_law_674 rfl rfl ?_
  obtain ⟨r675, hr675, h⟩ := bn_i h
  refine a_ret (v := (some (.int r675))) (M1 := M669) (φ1 := φ657) (st1 := [.int r675]) (j1 := k1 + 2) (j2 := k2 + 12) (ar_V (As := []) (rest := []) hB (c_M_thrown (bf_G hB) (sf_m hF (by decide)) hr675) ml_W_121 md_M_thrown rc_M_thrown (sf_lt hF (by decide)) kk_134 rfl rfl (Nat.le_of_ble_eq_true rfl) (rmL (c := 0) (s := 0) (by decide) (by decide) (by omega) (by omega) rfl rfl) e_W_law_675) rfl rfl rfl ?_
  refine a_iload (j := 1) hB e_W_law_678 rfl ?_
  refine a_icmp_eq (tgt := 685) hB e_W_law_680 (by decide) (fun c => ?_) (fun c => ?_)
  · have h := ip c h
    refine a_iload (j := 1) hB e_W_law_685 rfl ?_
    refine a_if_ne (tgt := 702) hB e_W_law_687 (by decide) (fun c => ?_) (fun c => ?_)
    · have h := iq c h
      refine a_ls [2, 3, 4, 5, 6] (ls' := [(0, .ref 2000), (1, .ref 0), (2, .ref 134), (3, .ref 148), (4, .int l4)]) rfl ?_
      exact t_W_law_702 hB hend hn hx hF (by omega) (by omega) hr23 h
    · have h := ip c h
      refine a_aload_n (j := 5) hB e_W_law_690 rfl rfl ?_
      refine a_iconst (v := 0) hB e_W_law_691 ic_0 ?_
      refine a_lald hB e_W_law_692 (sf_lt hF (by decide)) kk_148 (by decide) ?_
      refine a_iload (j := 0) hB e_W_law_693 rfl ?_
      refine a_i2l hB e_W_law_695 ?_
      refine a_lcmp hB e_W_law_696 ?_
      refine a_if_eq (tgt := 702) hB e_W_law_697 (by decide) (fun c => ?_) (fun c => ?_)
      · have h := ip c h
        refine a_ls [2, 3, 4, 5, 6] (ls' := [(0, .ref 2000), (1, .ref 0), (2, .ref 134), (3, .ref 148), (4, .int l4)]) rfl ?_
        exact t_W_law_702 hB hend hn hx hF (by omega) (by omega) hr23 h
      · have h := iq c h
        refine a_iconst (v := 0) hB e_W_law_700 ic_0 ?_
        exact (no01 h).elim
  · have h := iq c h
    refine a_iconst (v := 0) hB e_W_law_683 ic_0 ?_
    exact (no01 h).elim
