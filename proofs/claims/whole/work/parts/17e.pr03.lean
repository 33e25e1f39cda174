/-! the law -/
set_option maxRecDepth 100000 in
theorem t_W_law_758 {G : Gt} {nm : String} {hh : List (Nat × Nat × Nat × Nat)} {B : Bag} {L : Nat} {xs : Nat → Int32} {Qm : State → Prop} {M9 : Mm} (hB : BF G (I_W_law nm hh) B) (hend : ∀ (k1 k2 pc : Nat) (ls : List (Nat × Value)) (M : Mm) (φ : Ph), decode (mB (I_W_law nm hh)) pc = .ok (.ireturn, 1) → k1 ≤ 601024 → k2 ≤ 7293034 → AW G (I_W_law nm hh) B Qm k1 k2 pc ls [.int 1] M φ) (hn : gN G = L) (hx : gX G = xs) {φ : Ph} (hF : SF 149 φ) {k1 k2 : Nat} {n : Nat} {r23 : Int32 → Mm → Option (Int32 × Mm)}  (hk1 : k1 + 4 * (n) ≤ 601024) (hk2 : k2 + 24 * (n) ≤ 7293034) (hr23 : ∀ (k1 k2 : Nat) (φ : Ph), SF 149 φ → k1 + 4 * n ≤ 601024 → k2 + 24 * n ≤ 7293034 → ∀ (l4 : Int32) (M : Mm), r23 l4 M = some (1, M9) → AW G (I_W_law nm hh) B Qm k1 k2 23 [(0, .ref 2000), (1, .ref 0), (2, .ref 134), (3, .ref 148), (4, .int l4)] [] M φ) {l4 : Int32} {M : Mm} (h : f_W_law_758 L xs r23 l4 M = some (1, M9)) : AW G (I_W_law nm hh) B Qm k1 k2 758 [(0, .ref 2000), (1, .ref 0), (2, .ref 134), (3, .ref 148), (4, .int l4)] [] M φ := by
  unfold f_W_law_758 at h
  refine a_goto (tgt := 2537) hB e_W_law_758 (by decide) ?_
  exact t_W_law_2537 hB hend hn hx hF (by omega) (by omega) hr23 h
set_option maxRecDepth 100000 in
theorem t_W_law_705 {G : Gt} {nm : String} {hh : List (Nat × Nat × Nat × Nat)} {B : Bag} {L : Nat} {xs : Nat → Int32} {Qm : State → Prop} {M9 : Mm} (hB : BF G (I_W_law nm hh) B) (hend : ∀ (k1 k2 pc : Nat) (ls : List (Nat × Value)) (M : Mm) (φ : Ph), decode (mB (I_W_law nm hh)) pc = .ok (.ireturn, 1) → k1 ≤ 601024 → k2 ≤ 7293034 → AW G (I_W_law nm hh) B Qm k1 k2 pc ls [.int 1] M φ) (hn : gN G = L) (hx : gX G = xs) {φ : Ph} (hF : SF 149 φ) {k1 k2 : Nat} {n : Nat} {r23 : Int32 → Mm → Option (Int32 × Mm)}  (hk1 : k1 + 4 * (n + 1) ≤ 601024) (hk2 : k2 + 24 * (n + 1) ≤ 7293034) (hr23 : ∀ (k1 k2 : Nat) (φ : Ph), SF 149 φ → k1 + 4 * n ≤ 601024 → k2 + 24 * n ≤ 7293034 → ∀ (l4 : Int32) (M : Mm), r23 l4 M = some (1, M9) → AW G (I_W_law nm hh) B Qm k1 k2 23 [(0, .ref 2000), (1, .ref 0), (2, .ref 134), (3, .ref 148), (4, .int l4)] [] M φ) {l4 : Int32} {M : Mm} (h : f_W_law_705 L xs r23 l4 M = some (1, M9)) : AW G (I_W_law nm hh) B Qm k1 k2 705 [(0, .ref 2000), (1, .ref 0), (2, .ref 134), (3, .ref 148), (4, .int l4)] [] M φ := by
  unfold f_W_law_705 at h
  refine a_aload_n (j := 1) hB e_W_law_705 rfl rfl ?_
  refine a_aload_n (j := 0) hB e_W_law_706 rfl rfl ?_
  refine a_iload (j := 4) hB e_W_law_707 rfl ?_
  refine a_iconst (v := 1) hB e_W_law_709 ic_1 ?_
  refine a_iadd hB e_W_law_710 ?_
  obtain ⟨c711, h⟩ := chk_i h
  refine a_sld' hB hn hx c711 e_W_law_711 ?_
  refine a_aload_n (j := 3) hB e_W_law_712 rfl rfl ?_
  obtain ⟨r713, M713, hr713, h⟩ := bn2_i h
  obtain ⟨φ713, hφ713⟩ : ∃ q, pK r713 φ = q := ⟨_, rfl⟩
  have hF0 := hF
  refine a_ret (v := (some (.int r713))) (M1 := M713) (φ1 := φ713) (st1 := [.int r713]) (j1 := k1 + 2) (j2 := k2 + 12) (ar_SX (As := [.ref 0, .int (xs (ix (l4 + (1 : Int32)))), .ref 148]) (rest := []) hB (c_W_findPin (bf_G hB) hF hφ713 hr713) ml_W_151 md_W_findPin rfl rfl (Nat.le_of_ble_eq_true rfl) (rmL (c := 2) (s := 12) (by decide) (by decide) (by omega) (by omega) rfl rfl) e_W_law_713) rfl rfl rfl ?_
  have hF : SF 149 φ713 := by rw [← hφ713]; exact sf_K hF0 _
  refine a_istore (ls' := [(5, .int r713), (0, .ref 2000), (1, .ref 0), (2, .ref 134), (3, .ref 148), (4, .int l4)]) hB e_W_law_716 (Nat.le_of_ble_eq_true rfl) rfl ?_
  refine a_aload_n (j := 3) hB e_W_law_718 rfl rfl ?_
  refine a_aload_n (j := 1) hB e_W_law_719 rfl rfl ?_
  refine a_iload (j := 5) hB e_W_law_720 rfl ?_
  refine a_iconst (v := 1) hB e_W_law_722 ic_1 ?_
  refine a_iadd hB e_W_law_723 ?_
  refine a_sld' hB hn hx c711 e_W_law_724 ?_
  obtain ⟨r725, M725, hr725, h⟩ := bn2_i h
  refine a_ret (v := (some (.int r725))) (M1 := M725) (φ1 := φ713) (st1 := [.int r725]) (j1 := k1 + 2) (j2 := k2 + 12) (ar_V (As := [.int (xs (ix (l4 + (1 : Int32))))]) (rest := []) hB (c_M_findPin (bf_G hB) (sf_m hF (by decide)) hr725) ml_W_153 md_M_findPin rc_M_findPin (sf_lt hF (by decide)) kk_134 rfl rfl (Nat.le_of_ble_eq_true rfl) (rmL (c := 0) (s := 0) (by decide) (by decide) (by omega) (by omega) rfl rfl) e_W_law_725) rfl rfl rfl ?_
  refine a_istore (ls' := [(6, .int r725), (5, .int r713), (0, .ref 2000), (1, .ref 0), (2, .ref 134), (3, .ref 148), (4, .int l4)]) hB e_W_law_728 (Nat.le_of_ble_eq_true rfl) rfl ?_
  refine a_aload_n (j := 4) hB e_W_law_730 rfl rfl ?_
  obtain ⟨r731, hr731, h⟩ := bn_i h
  refine a_ret (v := (some (.int r731))) (M1 := M725) (φ1 := φ713) (st1 := [.int r731]) (j1 := k1 + 2) (j2 := k2 + 12) (ar_V (As := []) (rest := []) hB (c_M_thrown (bf_G hB) (sf_m hF (by decide)) hr731) ml_W_121 md_M_thrown rc_M_thrown (sf_lt hF (by decide)) kk_134 rfl rfl (Nat.le_of_ble_eq_true rfl) (rmL (c := 0) (s := 0) (by decide) (by decide) (by omega) (by omega) rfl rfl) e_W_law_731) rfl rfl rfl ?_
  refine a_iload (j := 1) hB e_W_law_734 rfl ?_
  refine a_icmp_eq (tgt := 741) hB e_W_law_736 (by decide) (fun c => ?_) (fun c => ?_)
  · have h := ip c h
    refine a_iload (j := 1) hB e_W_law_741 rfl ?_
    refine a_if_ne (tgt := 758) hB e_W_law_743 (by decide) (fun c => ?_) (fun c => ?_)
    · have h := iq c h
      refine a_ls [2, 3, 4, 5, 6] (ls' := [(0, .ref 2000), (1, .ref 0), (2, .ref 134), (3, .ref 148), (4, .int l4)]) rfl ?_
      exact t_W_law_758 hB hend hn hx hF (by omega) (by omega) hr23 h
    · have h := ip c h
      refine a_aload_n (j := 5) hB e_W_law_746 rfl rfl ?_
      refine a_iconst (v := 0) hB e_W_law_747 ic_0 ?_
      refine a_lald hB e_W_law_748 (sf_lt hF (by decide)) kk_148 (by decide) ?_
      refine a_iload (j := 0) hB e_W_law_749 rfl ?_
      refine a_i2l hB e_W_law_751 ?_
      refine a_lcmp hB e_W_law_752 ?_
      refine a_if_eq (tgt := 758) hB e_W_law_753 (by decide) (fun c => ?_) (fun c => ?_)
      · have h := ip c h
        refine a_ls [2, 3, 4, 5, 6] (ls' := [(0, .ref 2000), (1, .ref 0), (2, .ref 134), (3, .ref 148), (4, .int l4)]) rfl ?_
        exact t_W_law_758 hB hend hn hx hF (by omega) (by omega) hr23 h
      · have h := iq c h
        refine a_iconst (v := 0) hB e_W_law_756 ic_0 ?_
        exact (no01 h).elim
  · have h := iq c h
    refine a_iconst (v := 0) hB e_W_law_739 ic_0 ?_
    exact (no01 h).elim
set_option maxRecDepth 100000 in
theorem t_W_law_802 {G : Gt} {nm : String} {hh : List (Nat × Nat × Nat × Nat)} {B : Bag} {L : Nat} {xs : Nat → Int32} {Qm : State → Prop} {M9 : Mm} (hB : BF G (I_W_law nm hh) B) (hend : ∀ (k1 k2 pc : Nat) (ls : List (Nat × Value)) (M : Mm) (φ : Ph), decode (mB (I_W_law nm hh)) pc = .ok (.ireturn, 1) → k1 ≤ 601024 → k2 ≤ 7293034 → AW G (I_W_law nm hh) B Qm k1 k2 pc ls [.int 1] M φ) (hn : gN G = L) (hx : gX G = xs) {φ : Ph} (hF : SF 149 φ) {k1 k2 : Nat} {n : Nat} {r23 : Int32 → Mm → Option (Int32 × Mm)}  (hk1 : k1 + 4 * (n) ≤ 601024) (hk2 : k2 + 24 * (n) ≤ 7293034) (hr23 : ∀ (k1 k2 : Nat) (φ : Ph), SF 149 φ → k1 + 4 * n ≤ 601024 → k2 + 24 * n ≤ 7293034 → ∀ (l4 : Int32) (M : Mm), r23 l4 M = some (1, M9) → AW G (I_W_law nm hh) B Qm k1 k2 23 [(0, .ref 2000), (1, .ref 0), (2, .ref 134), (3, .ref 148), (4, .int l4)] [] M φ) {l4 : Int32} {M : Mm} (h : f_W_law_802 L xs r23 l4 M = some (1, M9)) : AW G (I_W_law nm hh) B Qm k1 k2 802 [(0, .ref 2000), (1, .ref 0), (2, .ref 134), (3, .ref 148), (4, .int l4)] [] M φ := by
  unfold f_W_law_802 at h
  refine a_goto (tgt := 2537) hB e_W_law_802 (by decide) ?_
  exact t_W_law_2537 hB hend hn hx hF (by omega) (by omega) hr23 h
set_option maxRecDepth 100000 in
theorem t_W_law_761 {G : Gt} {nm : String} {hh : List (Nat × Nat × Nat × Nat)} {B : Bag} {L : Nat} {xs : Nat → Int32} {Qm : State → Prop} {M9 : Mm} (hB : BF G (I_W_law nm hh) B) (hend : ∀ (k1 k2 pc : Nat) (ls : List (Nat × Value)) (M : Mm) (φ : Ph), decode (mB (I_W_law nm hh)) pc = .ok (.ireturn, 1) → k1 ≤ 601024 → k2 ≤ 7293034 → AW G (I_W_law nm hh) B Qm k1 k2 pc ls [.int 1] M φ) (hn : gN G = L) (hx : gX G = xs) {φ : Ph} (hF : SF 149 φ) {k1 k2 : Nat} {n : Nat} {r23 : Int32 → Mm → Option (Int32 × Mm)}  (hk1 : k1 + 4 * (n + 1) ≤ 601024) (hk2 : k2 + 24 * (n + 1) ≤ 7293034) (hr23 : ∀ (k1 k2 : Nat) (φ : Ph), SF 149 φ → k1 + 4 * n ≤ 601024 → k2 + 24 * n ≤ 7293034 → ∀ (l4 : Int32) (M : Mm), r23 l4 M = some (1, M9) → AW G (I_W_law nm hh) B Qm k1 k2 23 [(0, .ref 2000), (1, .ref 0), (2, .ref 134), (3, .ref 148), (4, .int l4)] [] M φ) {l4 : Int32} {M : Mm} (h : f_W_law_761 L xs r23 l4 M = some (1, M9)) : AW G (I_W_law nm hh) B Qm k1 k2 761 [(0, .ref 2000), (1, .ref 0), (2, .ref 134), (3, .ref 148), (4, .int l4)] [] M φ := by
  unfold f_W_law_761 at h
  refine a_aload_n (j := 1) hB e_W_law_761 rfl rfl ?_
  refine a_aload_n (j := 3) hB e_W_law_762 rfl rfl ?_
  obtain ⟨r763, M763, hr763, h⟩ := bn2_i h
  obtain ⟨φ763, hφ763⟩ : ∃ q, pK r763 φ = q := ⟨_, rfl⟩
  have hF0 := hF
  refine a_ret (v := (some (.int r763))) (M1 := M763) (φ1 := φ763) (st1 := [.int r763]) (j1 := k1 + 1) (j2 := k2 + 6) (ar_SX (As := [.ref 0, .ref 148]) (rest := []) hB (c_W_removeLast (bf_G hB) hF hφ763 hr763) ml_W_154 md_W_removeLast rfl rfl (Nat.le_of_ble_eq_true rfl) (rmL (c := 1) (s := 6) (by decide) (by decide) (by omega) (by omega) rfl rfl) e_W_law_763) rfl rfl rfl ?_
  have hF : SF 149 φ763 := by rw [← hφ763]; exact sf_K hF0 _
  refine a_istore (ls' := [(5, .int r763), (0, .ref 2000), (1, .ref 0), (2, .ref 134), (3, .ref 148), (4, .int l4)]) hB e_W_law_766 (Nat.le_of_ble_eq_true rfl) rfl ?_
  refine a_aload_n (j := 3) hB e_W_law_768 rfl rfl ?_
  obtain ⟨r769, M769, hr769, h⟩ := bn2_i h
  refine a_ret (v := (some (.int r769))) (M1 := M769) (φ1 := φ763) (st1 := [.int r769]) (j1 := k1 + 1) (j2 := k2 + 6) (ar_V (As := []) (rest := []) hB (c_M_removeLast (bf_G hB) (sf_m hF (by decide)) hr769) ml_W_157 md_M_removeLast rc_M_removeLast (sf_lt hF (by decide)) kk_134 rfl rfl (Nat.le_of_ble_eq_true rfl) (rmL (c := 0) (s := 0) (by decide) (by decide) (by omega) (by omega) rfl rfl) e_W_law_769) rfl rfl rfl ?_
  refine a_istore (ls' := [(6, .int r769), (5, .int r763), (0, .ref 2000), (1, .ref 0), (2, .ref 134), (3, .ref 148), (4, .int l4)]) hB e_W_law_772 (Nat.le_of_ble_eq_true rfl) rfl ?_
  refine a_aload_n (j := 4) hB e_W_law_774 rfl rfl ?_
  obtain ⟨r775, hr775, h⟩ := bn_i h
  refine a_ret (v := (some (.int r775))) (M1 := M769) (φ1 := φ763) (st1 := [.int r775]) (j1 := k1 + 1) (j2 := k2 + 6) (ar_V (As := []) (rest := []) hB (c_M_thrown (bf_G hB) (sf_m hF (by decide)) hr775) ml_W_121 md_M_thrown rc_M_thrown (sf_lt hF (by decide)) kk_134 rfl rfl (Nat.le_of_ble_eq_true rfl) (rmL (c := 0) (s := 0) (by decide) (by decide) (by omega) (by omega) rfl rfl) e_W_law_775) rfl rfl rfl ?_
  refine a_iload (j := 1) hB e_W_law_778 rfl ?_
  refine a_icmp_eq (tgt := 785) hB e_W_law_780 (by decide) (fun c => ?_) (fun c => ?_)
  · have h := ip c h
    refine a_iload (j := 1) hB e_W_law_785 rfl ?_
    refine a_if_ne (tgt := 802) hB e_W_law_787 (by decide) (fun c => ?_) (fun c => ?_)
    · have h := iq c h
      refine a_ls [2, 3, 4, 5, 6] (ls' := [(0, .ref 2000), (1, .ref 0), (2, .ref 134), (3, .ref 148), (4, .int l4)]) rfl ?_
      exact t_W_law_802 hB hend hn hx hF (by omega) (by omega) hr23 h
    · have h := ip c h
      refine a_aload_n (j := 5) hB e_W_law_790 rfl rfl ?_
      refine a_iconst (v := 0) hB e_W_law_791 ic_0 ?_
      refine a_lald hB e_W_law_792 (sf_lt hF (by decide)) kk_148 (by decide) ?_
      refine a_iload (j := 0) hB e_W_law_793 rfl ?_
      refine a_i2l hB e_W_law_795 ?_
      refine a_lcmp hB e_W_law_796 ?_
      refine a_if_eq (tgt := 802) hB e_W_law_797 (by decide) (fun c => ?_) (fun c => ?_)
      · have h := ip c h
        refine a_ls [2, 3, 4, 5, 6] (ls' := [(0, .ref 2000), (1, .ref 0), (2, .ref 134), (3, .ref 148), (4, .int l4)]) rfl ?_
        exact t_W_law_802 hB hend hn hx hF (by omega) (by omega) hr23 h
      · have h := iq c h
        refine a_iconst (v := 0) hB e_W_law_800 ic_0 ?_
        exact (no01 h).elim
  · have h := iq c h
    refine a_iconst (v := 0) hB e_W_law_783 ic_0 ?_
    exact (no01 h).elim
set_option maxRecDepth 100000 in
theorem t_W_law_858 {G : Gt} {nm : String} {hh : List (Nat × Nat × Nat × Nat)} {B : Bag} {L : Nat} {xs : Nat → Int32} {Qm : State → Prop} {M9 : Mm} (hB : BF G (I_W_law nm hh) B) (hend : ∀ (k1 k2 pc : Nat) (ls : List (Nat × Value)) (M : Mm) (φ : Ph), decode (mB (I_W_law nm hh)) pc = .ok (.ireturn, 1) → k1 ≤ 601024 → k2 ≤ 7293034 → AW G (I_W_law nm hh) B Qm k1 k2 pc ls [.int 1] M φ) (hn : gN G = L) (hx : gX G = xs) {φ : Ph} (hF : SF 149 φ) {k1 k2 : Nat} {n : Nat} {r23 : Int32 → Mm → Option (Int32 × Mm)}  (hk1 : k1 + 4 * (n) ≤ 601024) (hk2 : k2 + 24 * (n) ≤ 7293034) (hr23 : ∀ (k1 k2 : Nat) (φ : Ph), SF 149 φ → k1 + 4 * n ≤ 601024 → k2 + 24 * n ≤ 7293034 → ∀ (l4 : Int32) (M : Mm), r23 l4 M = some (1, M9) → AW G (I_W_law nm hh) B Qm k1 k2 23 [(0, .ref 2000), (1, .ref 0), (2, .ref 134), (3, .ref 148), (4, .int l4)] [] M φ) {l4 : Int32} {M : Mm} (h : f_W_law_858 L xs r23 l4 M = some (1, M9)) : AW G (I_W_law nm hh) B Qm k1 k2 858 [(0, .ref 2000), (1, .ref 0), (2, .ref 134), (3, .ref 148), (4, .int l4)] [] M φ := by
  unfold f_W_law_858 at h
  refine a_goto (tgt := 2537) hB e_W_law_858 (by decide) ?_
  exact t_W_law_2537 hB hend hn hx hF (by omega) (by omega) hr23 h
set_option maxRecDepth 100000 in
theorem t_W_law_805 {G : Gt} {nm : String} {hh : List (Nat × Nat × Nat × Nat)} {B : Bag} {L : Nat} {xs : Nat → Int32} {Qm : State → Prop} {M9 : Mm} (hB : BF G (I_W_law nm hh) B) (hend : ∀ (k1 k2 pc : Nat) (ls : List (Nat × Value)) (M : Mm) (φ : Ph), decode (mB (I_W_law nm hh)) pc = .ok (.ireturn, 1) → k1 ≤ 601024 → k2 ≤ 7293034 → AW G (I_W_law nm hh) B Qm k1 k2 pc ls [.int 1] M φ) (hn : gN G = L) (hx : gX G = xs) {φ : Ph} (hF : SF 149 φ) {k1 k2 : Nat} {n : Nat} {r23 : Int32 → Mm → Option (Int32 × Mm)}  (hk1 : k1 + 4 * (n + 1) ≤ 601024) (hk2 : k2 + 24 * (n + 1) ≤ 7293034) (hr23 : ∀ (k1 k2 : Nat) (φ : Ph), SF 149 φ → k1 + 4 * n ≤ 601024 → k2 + 24 * n ≤ 7293034 → ∀ (l4 : Int32) (M : Mm), r23 l4 M = some (1, M9) → AW G (I_W_law nm hh) B Qm k1 k2 23 [(0, .ref 2000), (1, .ref 0), (2, .ref 134), (3, .ref 148), (4, .int l4)] [] M φ) {l4 : Int32} {M : Mm} (h : f_W_law_805 L xs r23 l4 M = some (1, M9)) : AW G (I_W_law nm hh) B Qm k1 k2 805 [(0, .ref 2000), (1, .ref 0), (2, .ref 134), (3, .ref 148), (4, .int l4)] [] M φ := by
  unfold f_W_law_805 at h
  refine a_aload_n (j := 1) hB e_W_law_805 rfl rfl ?_
  refine a_aload_n (j := 0) hB e_W_law_806 rfl rfl ?_
  refine a_iload (j := 4) hB e_W_law_807 rfl ?_
  refine a_iconst (v := 1) hB e_W_law_809 ic_1 ?_
  refine a_iadd hB e_W_law_810 ?_
  obtain ⟨c811, h⟩ := chk_i h
  refine a_sld' hB hn hx c811 e_W_law_811 ?_
  refine a_aload_n (j := 3) hB e_W_law_812 rfl rfl ?_
  obtain ⟨r813, M813, hr813, h⟩ := bn2_i h
  obtain ⟨φ813, hφ813⟩ : ∃ q, pK r813 φ = q := ⟨_, rfl⟩
  have hF0 := hF
  refine a_ret (v := (some (.int r813))) (M1 := M813) (φ1 := φ813) (st1 := [.int r813]) (j1 := k1 + 1) (j2 := k2 + 6) (ar_SX (As := [.ref 0, .int (xs (ix (l4 + (1 : Int32)))), .ref 148]) (rest := []) hB (c_W_setWear (bf_G hB) hF hφ813 hr813) ml_W_158 md_W_setWear rfl rfl (Nat.le_of_ble_eq_true rfl) (rmL (c := 1) (s := 6) (by decide) (by decide) (by omega) (by omega) rfl rfl) e_W_law_813) rfl rfl rfl ?_
  have hF : SF 149 φ813 := by rw [← hφ813]; exact sf_K hF0 _
  refine a_istore (ls' := [(5, .int r813), (0, .ref 2000), (1, .ref 0), (2, .ref 134), (3, .ref 148), (4, .int l4)]) hB e_W_law_816 (Nat.le_of_ble_eq_true rfl) rfl ?_
  refine a_aload_n (j := 3) hB e_W_law_818 rfl rfl ?_
  refine a_aload_n (j := 1) hB e_W_law_819 rfl rfl ?_
  refine a_iload (j := 5) hB e_W_law_820 rfl ?_
  refine a_iconst (v := 1) hB e_W_law_822 ic_1 ?_
  refine a_iadd hB e_W_law_823 ?_
  refine a_sld' hB hn hx c811 e_W_law_824 ?_
  obtain ⟨r825, M825, hr825, h⟩ := bn2_i h
  refine a_ret (v := (some (.int r825))) (M1 := M825) (φ1 := φ813) (st1 := [.int r825]) (j1 := k1 + 1) (j2 := k2 + 6) (ar_V (As := [.int (xs (ix (l4 + (1 : Int32))))]) (rest := []) hB (c_M_setWear (bf_G hB) (sf_m hF (by decide)) hr825) ml_W_160 md_M_setWear rc_M_setWear (sf_lt hF (by decide)) kk_134 rfl rfl (Nat.le_of_ble_eq_true rfl) (rmL (c := 0) (s := 0) (by decide) (by decide) (by omega) (by omega) rfl rfl) e_W_law_825) rfl rfl rfl ?_
  refine a_istore (ls' := [(6, .int r825), (5, .int r813), (0, .ref 2000), (1, .ref 0), (2, .ref 134), (3, .ref 148), (4, .int l4)]) hB e_W_law_828 (Nat.le_of_ble_eq_true rfl) rfl ?_
  refine a_aload_n (j := 4) hB e_W_law_830 rfl rfl ?_
  obtain ⟨r831, hr831, h⟩ := bn_i h
  refine a_ret (v := (some (.int r831))) (M1 := M825) (φ1 := φ813) (st1 := [.int r831]) (j1 := k1 + 1) (j2 := k2 + 6) (ar_V (As := []) (rest := []) hB (c_M_thrown (bf_G hB) (sf_m hF (by decide)) hr831) ml_W_121 md_M_thrown rc_M_thrown (sf_lt hF (by decide)) kk_134 rfl rfl (Nat.le_of_ble_eq_true rfl) (rmL (c := 0) (s := 0) (by decide) (by decide) (by omega) (by omega) rfl rfl) e_W_law_831) rfl rfl rfl ?_
  refine a_iload (j := 1) hB e_W_law_834 rfl ?_
  refine a_icmp_eq (tgt := 841) hB e_W_law_836 (by decide) (fun c => ?_) (fun c => ?_)
  · have h := ip c h
    refine a_iload (j := 1) hB e_W_law_841 rfl ?_
    refine a_if_ne (tgt := 858) hB e_W_law_843 (by decide) (fun c => ?_) (fun c => ?_)
    · have h := iq c h
      refine a_ls [2, 3, 4, 5, 6] (ls' := [(0, .ref 2000), (1, .ref 0), (2, .ref 134), (3, .ref 148), (4, .int l4)]) rfl ?_
      exact t_W_law_858 hB hend hn hx hF (by omega) (by omega) hr23 h
    · have h := ip c h
      refine a_aload_n (j := 5) hB e_W_law_846 rfl rfl ?_
      refine a_iconst (v := 0) hB e_W_law_847 ic_0 ?_
      refine a_lald hB e_W_law_848 (sf_lt hF (by decide)) kk_148 (by decide) ?_
      refine a_iload (j := 0) hB e_W_law_849 rfl ?_
      refine a_i2l hB e_W_law_851 ?_
      refine a_lcmp hB e_W_law_852 ?_
      refine a_if_eq (tgt := 858) hB e_W_law_853 (by decide) (fun c => ?_) (fun c => ?_)
      · have h := ip c h
        refine a_ls [2, 3, 4, 5, 6] (ls' := [(0, .ref 2000), (1, .ref 0), (2, .ref 134), (3, .ref 148), (4, .int l4)]) rfl ?_
        exact t_W_law_858 hB hend hn hx hF (by omega) (by omega) hr23 h
      · have h := iq c h
        refine a_iconst (v := 0) hB e_W_law_856 ic_0 ?_
        exact (no01 h).elim
  · have h := iq c h
    refine a_iconst (v := 0) hB e_W_law_839 ic_0 ?_
    exact (no01 h).elim
set_option maxRecDepth 100000 in
theorem t_W_law_914 {G : Gt} {nm : String} {hh : List (Nat × Nat × Nat × Nat)} {B : Bag} {L : Nat} {xs : Nat → Int32} {Qm : State → Prop} {M9 : Mm} (hB : BF G (I_W_law nm hh) B) (hend : ∀ (k1 k2 pc : Nat) (ls : List (Nat × Value)) (M : Mm) (φ : Ph), decode (mB (I_W_law nm hh)) pc = .ok (.ireturn, 1) → k1 ≤ 601024 → k2 ≤ 7293034 → AW G (I_W_law nm hh) B Qm k1 k2 pc ls [.int 1] M φ) (hn : gN G = L) (hx : gX G = xs) {φ : Ph} (hF : SF 149 φ) {k1 k2 : Nat} {n : Nat} {r23 : Int32 → Mm → Option (Int32 × Mm)}  (hk1 : k1 + 4 * (n) ≤ 601024) (hk2 : k2 + 24 * (n) ≤ 7293034) (hr23 : ∀ (k1 k2 : Nat) (φ : Ph), SF 149 φ → k1 + 4 * n ≤ 601024 → k2 + 24 * n ≤ 7293034 → ∀ (l4 : Int32) (M : Mm), r23 l4 M = some (1, M9) → AW G (I_W_law nm hh) B Qm k1 k2 23 [(0, .ref 2000), (1, .ref 0), (2, .ref 134), (3, .ref 148), (4, .int l4)] [] M φ) {l4 : Int32} {M : Mm} (h : f_W_law_914 L xs r23 l4 M = some (1, M9)) : AW G (I_W_law nm hh) B Qm k1 k2 914 [(0, .ref 2000), (1, .ref 0), (2, .ref 134), (3, .ref 148), (4, .int l4)] [] M φ := by
  unfold f_W_law_914 at h
  refine a_goto (tgt := 2537) hB e_W_law_914 (by decide) ?_
  exact t_W_law_2537 hB hend hn hx hF (by omega) (by omega) hr23 h
set_option maxRecDepth 100000 in
theorem t_W_law_861 {G : Gt} {nm : String} {hh : List (Nat × Nat × Nat × Nat)} {B : Bag} {L : Nat} {xs : Nat → Int32} {Qm : State → Prop} {M9 : Mm} (hB : BF G (I_W_law nm hh) B) (hend : ∀ (k1 k2 pc : Nat) (ls : List (Nat × Value)) (M : Mm) (φ : Ph), decode (mB (I_W_law nm hh)) pc = .ok (.ireturn, 1) → k1 ≤ 601024 → k2 ≤ 7293034 → AW G (I_W_law nm hh) B Qm k1 k2 pc ls [.int 1] M φ) (hn : gN G = L) (hx : gX G = xs) {φ : Ph} (hF : SF 149 φ) {k1 k2 : Nat} {n : Nat} {r23 : Int32 → Mm → Option (Int32 × Mm)}  (hk1 : k1 + 4 * (n + 1) ≤ 601024) (hk2 : k2 + 24 * (n + 1) ≤ 7293034) (hr23 : ∀ (k1 k2 : Nat) (φ : Ph), SF 149 φ → k1 + 4 * n ≤ 601024 → k2 + 24 * n ≤ 7293034 → ∀ (l4 : Int32) (M : Mm), r23 l4 M = some (1, M9) → AW G (I_W_law nm hh) B Qm k1 k2 23 [(0, .ref 2000), (1, .ref 0), (2, .ref 134), (3, .ref 148), (4, .int l4)] [] M φ) {l4 : Int32} {M : Mm} (h : f_W_law_861 L xs r23 l4 M = some (1, M9)) : AW G (I_W_law nm hh) B Qm k1 k2 861 [(0, .ref 2000), (1, .ref 0), (2, .ref 134), (3, .ref 148), (4, .int l4)] [] M φ := by
  unfold f_W_law_861 at h
  refine a_aload_n (j := 1) hB e_W_law_861 rfl rfl ?_
  refine a_aload_n (j := 0) hB e_W_law_862 rfl rfl ?_
  refine a_iload (j := 4) hB e_W_law_863 rfl ?_
  refine a_iconst (v := 1) hB e_W_law_865 ic_1 ?_
  refine a_iadd hB e_W_law_866 ?_
  obtain ⟨c867, h⟩ := chk_i h
  refine a_sld' hB hn hx c867 e_W_law_867 ?_
  refine a_aload_n (j := 3) hB e_W_law_868 rfl rfl ?_
  obtain ⟨r869, M869, hr869, h⟩ := bn2_i h
  obtain ⟨φ869, hφ869⟩ : ∃ q, pK r869 φ = q := ⟨_, rfl⟩
  have hF0 := hF
  refine a_ret (v := (some (.int r869))) (M1 := M869) (φ1 := φ869) (st1 := [.int r869]) (j1 := k1 + 1) (j2 := k2 + 6) (ar_SX (As := [.ref 0, .int (xs (ix (l4 + (1 : Int32)))), .ref 148]) (rest := []) hB (c_W_setPace (bf_G hB) hF hφ869 hr869) ml_W_161 md_W_setPace rfl rfl (Nat.le_of_ble_eq_true rfl) (rmL (c := 1) (s := 6) (by decide) (by decide) (by omega) (by omega) rfl rfl) e_W_law_869) rfl rfl rfl ?_
  have hF : SF 149 φ869 := by rw [← hφ869]; exact sf_K hF0 _
  refine a_istore (ls' := [(5, .int r869), (0, .ref 2000), (1, .ref 0), (2, .ref 134), (3, .ref 148), (4, .int l4)]) hB e_W_law_872 (Nat.le_of_ble_eq_true rfl) rfl ?_
  refine a_aload_n (j := 3) hB e_W_law_874 rfl rfl ?_
  refine a_aload_n (j := 1) hB e_W_law_875 rfl rfl ?_
  refine a_iload (j := 5) hB e_W_law_876 rfl ?_
  refine a_iconst (v := 1) hB e_W_law_878 ic_1 ?_
  refine a_iadd hB e_W_law_879 ?_
  refine a_sld' hB hn hx c867 e_W_law_880 ?_
  obtain ⟨r881, M881, hr881, h⟩ := bn2_i h
  refine a_ret (v := (some (.int r881))) (M1 := M881) (φ1 := φ869) (st1 := [.int r881]) (j1 := k1 + 1) (j2 := k2 + 6) (ar_V (As := [.int (xs (ix (l4 + (1 : Int32))))]) (rest := []) hB (c_M_setPace (bf_G hB) (sf_m hF (by decide)) hr881) ml_W_163 md_M_setPace rc_M_setPace (sf_lt hF (by decide)) kk_134 rfl rfl (Nat.le_of_ble_eq_true rfl) (rmL (c := 0) (s := 0) (by decide) (by decide) (by omega) (by omega) rfl rfl) e_W_law_881) rfl rfl rfl ?_
  refine a_istore (ls' := [(6, .int r881), (5, .int r869), (0, .ref 2000), (1, .ref 0), (2, .ref 134), (3, .ref 148), (4, .int l4)]) hB e_W_law_884 (Nat.le_of_ble_eq_true rfl) rfl ?_
  refine a_aload_n (j := 4) hB e_W_law_886 rfl rfl ?_
  obtain ⟨r887, hr887, h⟩ := bn_i h
  refine a_ret (v := (some (.int r887))) (M1 := M881) (φ1 := φ869) (st1 := [.int r887]) (j1 := k1 + 1) (j2 := k2 + 6) (ar_V (As := []) (rest := []) hB (c_M_thrown (bf_G hB) (sf_m hF (by decide)) hr887) ml_W_121 md_M_thrown rc_M_thrown (sf_lt hF (by decide)) kk_134 rfl rfl (Nat.le_of_ble_eq_true rfl) (rmL (c := 0) (s := 0) (by decide) (by decide) (by omega) (by omega) rfl rfl) e_W_law_887) rfl rfl rfl ?_
  refine a_iload (j := 1) hB e_W_law_890 rfl ?_
  refine a_icmp_eq (tgt := 897) hB e_W_law_892 (by decide) (fun c => ?_) (fun c => ?_)
  · have h := ip c h
    refine a_iload (j := 1) hB e_W_law_897 rfl ?_
    refine a_if_ne (tgt := 914) hB e_W_law_899 (by decide) (fun c => ?_) (fun c => ?_)
    · have h := iq c h
      refine a_ls [2, 3, 4, 5, 6] (ls' := [(0, .ref 2000), (1, .ref 0), (2, .ref 134), (3, .ref 148), (4, .int l4)]) rfl ?_
      exact t_W_law_914 hB hend hn hx hF (by omega) (by omega) hr23 h
    · have h := ip c h
      refine a_aload_n (j := 5) hB e_W_law_902 rfl rfl ?_
      refine a_iconst (v := 0) hB e_W_law_903 ic_0 ?_
      refine a_lald hB e_W_law_904 (sf_lt hF (by decide)) kk_148 (by decide) ?_
      refine a_iload (j := 0) hB e_W_law_905 rfl ?_
      refine a_i2l hB e_W_law_907 ?_
      refine a_lcmp hB e_W_law_908 ?_
      refine a_if_eq (tgt := 914) hB e_W_law_909 (by decide) (fun c => ?_) (fun c => ?_)
      · have h := ip c h
        refine a_ls [2, 3, 4, 5, 6] (ls' := [(0, .ref 2000), (1, .ref 0), (2, .ref 134), (3, .ref 148), (4, .int l4)]) rfl ?_
        exact t_W_law_914 hB hend hn hx hF (by omega) (by omega) hr23 h
      · have h := iq c h
        refine a_iconst (v := 0) hB e_W_law_912 ic_0 ?_
        exact (no01 h).elim
  · have h := iq c h
    refine a_iconst (v := 0) hB e_W_law_895 ic_0 ?_
    exact (no01 h).elim
set_option maxRecDepth 100000 in
theorem t_W_law_950 {G : Gt} {nm : String} {hh : List (Nat × Nat × Nat × Nat)} {B : Bag} {L : Nat} {xs : Nat → Int32} {Qm : State → Prop} {M9 : Mm} (hB : BF G (I_W_law nm hh) B) (hend : ∀ (k1 k2 pc : Nat) (ls : List (Nat × Value)) (M : Mm) (φ : Ph), decode (mB (I_W_law nm hh)) pc = .ok (.ireturn, 1) → k1 ≤ 601024 → k2 ≤ 7293034 → AW G (I_W_law nm hh) B Qm k1 k2 pc ls [.int 1] M φ) (hn : gN G = L) (hx : gX G = xs) {φ : Ph} (hF : SF 149 φ) {k1 k2 : Nat} {n : Nat} {r23 : Int32 → Mm → Option (Int32 × Mm)}  (hk1 : k1 + 4 * (n) ≤ 601024) (hk2 : k2 + 24 * (n) ≤ 7293034) (hr23 : ∀ (k1 k2 : Nat) (φ : Ph), SF 149 φ → k1 + 4 * n ≤ 601024 → k2 + 24 * n ≤ 7293034 → ∀ (l4 : Int32) (M : Mm), r23 l4 M = some (1, M9) → AW G (I_W_law nm hh) B Qm k1 k2 23 [(0, .ref 2000), (1, .ref 0), (2, .ref 134), (3, .ref 148), (4, .int l4)] [] M φ) {l4 : Int32} {t0 : Int32} {t2 : Int32} {M : Mm} (h : f_W_law_950 L xs r23 l4 t0 t2 M = some (1, M9)) : AW G (I_W_law nm hh) B Qm k1 k2 950 [(0, .ref 2000), (1, .ref 0), (2, .ref 134), (3, .ref 148), (4, .int l4)] [.int t2, .ref 134, .int t0] M φ := by
  unfold f_W_law_950 at h
  obtain ⟨r950, M950, hr950, h⟩ := bn2_i h
  refine a_ret (v := (some (.int r950))) (M1 := M950) (φ1 := φ) (st1 := [.int r950, .int t0]) (j1 := k1) (j2 := k2) (ar_V (As := [.int t2]) (rest := [.int t0]) hB (c_M_setAdjusted (bf_G hB) (sf_m hF (by decide)) hr950) ml_W_168 md_M_setAdjusted rc_M_setAdjusted (sf_lt hF (by decide)) kk_134 rfl rfl (Nat.le_of_ble_eq_true rfl) (rmL (c := 0) (s := 0) (by decide) (by decide) (by omega) (by omega) rfl rfl) e_W_law_950) rfl rfl rfl ?_
  refine a_icmp_eq (tgt := 2537) hB e_W_law_953 (by decide) (fun c => ?_) (fun c => ?_)
  · have h := ip c h
    exact t_W_law_2537 hB hend hn hx hF (by omega) (by omega) hr23 h
  · have h := iq c h
    refine a_iconst (v := 0) hB e_W_law_956 ic_0 ?_
    exact (no01 h).elim
set_option maxRecDepth 100000 in
theorem t_W_law_932 {G : Gt} {nm : String} {hh : List (Nat × Nat × Nat × Nat)} {B : Bag} {L : Nat} {xs : Nat → Int32} {Qm : State → Prop} {M9 : Mm} (hB : BF G (I_W_law nm hh) B) (hend : ∀ (k1 k2 pc : Nat) (ls : List (Nat × Value)) (M : Mm) (φ : Ph), decode (mB (I_W_law nm hh)) pc = .ok (.ireturn, 1) → k1 ≤ 601024 → k2 ≤ 7293034 → AW G (I_W_law nm hh) B Qm k1 k2 pc ls [.int 1] M φ) (hn : gN G = L) (hx : gX G = xs) {φ : Ph} (hF : SF 149 φ) {k1 k2 : Nat} {n : Nat} {r23 : Int32 → Mm → Option (Int32 × Mm)}  (hk1 : k1 + 4 * (n) ≤ 601024) (hk2 : k2 + 24 * (n) ≤ 7293034) (hr23 : ∀ (k1 k2 : Nat) (φ : Ph), SF 149 φ → k1 + 4 * n ≤ 601024 → k2 + 24 * n ≤ 7293034 → ∀ (l4 : Int32) (M : Mm), r23 l4 M = some (1, M9) → AW G (I_W_law nm hh) B Qm k1 k2 23 [(0, .ref 2000), (1, .ref 0), (2, .ref 134), (3, .ref 148), (4, .int l4)] [] M φ) {l4 : Int32} {t1 : Int32} {M : Mm} (h : f_W_law_932 L xs r23 l4 t1 M = some (1, M9)) : AW G (I_W_law nm hh) B Qm k1 k2 932 [(0, .ref 2000), (1, .ref 0), (2, .ref 134), (3, .ref 148), (4, .int l4)] [.int t1, .ref 0] M φ := by
  unfold f_W_law_932 at h
  obtain ⟨r932, M932, hr932, h⟩ := bn2_i h
  refine a_ret (v := (some (.int r932))) (M1 := M932) (φ1 := φ) (st1 := [.int r932]) (j1 := k1) (j2 := k2) (ar_V (As := [.int t1]) (rest := []) hB (c_C_setAdjusted (bf_G hB) (sf_m hF (by decide)) hr932) ml_W_164 md_C_setAdjusted rc_C_setAdjusted (sf_lt hF (by decide)) kk_0 rfl rfl (Nat.le_of_ble_eq_true rfl) (rmL (c := 0) (s := 0) (by decide) (by decide) (by omega) (by omega) rfl rfl) e_W_law_932) rfl rfl rfl ?_
  refine a_aload_n (j := 2) hB e_W_law_935 rfl rfl ?_
  refine a_aload_n (j := 0) hB e_W_law_936 rfl rfl ?_
  refine a_iload (j := 4) hB e_W_law_937 rfl ?_
  refine a_iconst (v := 1) hB e_W_law_939 ic_1 ?_
  refine a_iadd hB e_W_law_940 ?_
  obtain ⟨c941, h⟩ := chk_i h
  refine a_sld' hB hn hx c941 e_W_law_941 ?_
  refine a_if_eq (tgt := 949) hB e_W_law_942 (by decide) (fun c => ?_) (fun c => ?_)
  · have h := ip c h
    refine a_iconst (v := 0) hB e_W_law_949 ic_0 ?_
    exact t_W_law_950 hB hend hn hx hF (by omega) (by omega) hr23 h
  · have h := iq c h
    refine a_iconst (v := 1) hB e_W_law_945 ic_1 ?_
    refine a_goto (tgt := 950) hB e_W_law_946 (by decide) ?_
    exact t_W_law_950 hB hend hn hx hF (by omega) (by omega) hr23 h
set_option maxRecDepth 100000 in
theorem t_W_law_917 {G : Gt} {nm : String} {hh : List (Nat × Nat × Nat × Nat)} {B : Bag} {L : Nat} {xs : Nat → Int32} {Qm : State → Prop} {M9 : Mm} (hB : BF G (I_W_law nm hh) B) (hend : ∀ (k1 k2 pc : Nat) (ls : List (Nat × Value)) (M : Mm) (φ : Ph), decode (mB (I_W_law nm hh)) pc = .ok (.ireturn, 1) → k1 ≤ 601024 → k2 ≤ 7293034 → AW G (I_W_law nm hh) B Qm k1 k2 pc ls [.int 1] M φ) (hn : gN G = L) (hx : gX G = xs) {φ : Ph} (hF : SF 149 φ) {k1 k2 : Nat} {n : Nat} {r23 : Int32 → Mm → Option (Int32 × Mm)}  (hk1 : k1 + 4 * (n + 1) ≤ 601024) (hk2 : k2 + 24 * (n + 1) ≤ 7293034) (hr23 : ∀ (k1 k2 : Nat) (φ : Ph), SF 149 φ → k1 + 4 * n ≤ 601024 → k2 + 24 * n ≤ 7293034 → ∀ (l4 : Int32) (M : Mm), r23 l4 M = some (1, M9) → AW G (I_W_law nm hh) B Qm k1 k2 23 [(0, .ref 2000), (1, .ref 0), (2, .ref 134), (3, .ref 148), (4, .int l4)] [] M φ) {l4 : Int32} {M : Mm} (h : f_W_law_917 L xs r23 l4 M = some (1, M9)) : AW G (I_W_law nm hh) B Qm k1 k2 917 [(0, .ref 2000), (1, .ref 0), (2, .ref 134), (3, .ref 148), (4, .int l4)] [] M φ := by
  unfold f_W_law_917 at h
  refine a_aload_n (j := 1) hB e_W_law_917 rfl rfl ?_
  refine a_aload_n (j := 0) hB e_W_law_918 rfl rfl ?_
  refine a_iload (j := 4) hB e_W_law_919 rfl ?_
  refine a_iconst (v := 1) hB e_W_law_921 ic_1 ?_
  refine a_iadd hB e_W_law_922 ?_
  obtain ⟨c923, h⟩ := chk_i h
  refine a_sld' hB hn hx c923 e_W_law_923 ?_
  refine a_if_eq (tgt := 931) hB e_W_law_924 (by decide) (fun c => ?_) (fun c => ?_)
  · have h := ip c h
    refine a_iconst (v := 0) hB e_W_law_931 ic_0 ?_
    exact t_W_law_932 hB hend hn hx hF (by omega) (by omega) hr23 h
  · have h := iq c h
    refine a_iconst (v := 1) hB e_W_law_927 ic_1 ?_
    refine a_goto (tgt := 932) hB e_W_law_928 (by decide) ?_
    exact t_W_law_932 hB hend hn hx hF (by omega) (by omega) hr23 h
set_option maxRecDepth 100000 in
theorem t_W_law_999 {G : Gt} {nm : String} {hh : List (Nat × Nat × Nat × Nat)} {B : Bag} {L : Nat} {xs : Nat → Int32} {Qm : State → Prop} {M9 : Mm} (hB : BF G (I_W_law nm hh) B) (hend : ∀ (k1 k2 pc : Nat) (ls : List (Nat × Value)) (M : Mm) (φ : Ph), decode (mB (I_W_law nm hh)) pc = .ok (.ireturn, 1) → k1 ≤ 601024 → k2 ≤ 7293034 → AW G (I_W_law nm hh) B Qm k1 k2 pc ls [.int 1] M φ) (hn : gN G = L) (hx : gX G = xs) {φ : Ph} (hF : SF 149 φ) {k1 k2 : Nat} {n : Nat} {r23 : Int32 → Mm → Option (Int32 × Mm)}  (hk1 : k1 + 4 * (n) ≤ 601024) (hk2 : k2 + 24 * (n) ≤ 7293034) (hr23 : ∀ (k1 k2 : Nat) (φ : Ph), SF 149 φ → k1 + 4 * n ≤ 601024 → k2 + 24 * n ≤ 7293034 → ∀ (l4 : Int32) (M : Mm), r23 l4 M = some (1, M9) → AW G (I_W_law nm hh) B Qm k1 k2 23 [(0, .ref 2000), (1, .ref 0), (2, .ref 134), (3, .ref 148), (4, .int l4)] [] M φ) {l4 : Int32} {M : Mm} (h : f_W_law_999 L xs r23 l4 M = some (1, M9)) : AW G (I_W_law nm hh) B Qm k1 k2 999 [(0, .ref 2000), (1, .ref 0), (2, .ref 134), (3, .ref 148), (4, .int l4)] [] M φ := by
  unfold f_W_law_999 at h
  refine a_goto (tgt := 2537) hB e_W_law_999 (by decide) ?_
  exact t_W_law_2537 hB hend hn hx hF (by omega) (by omega) hr23 h
set_option maxRecDepth 100000 in
theorem t_W_law_958 {G : Gt} {nm : String} {hh : List (Nat × Nat × Nat × Nat)} {B : Bag} {L : Nat} {xs : Nat → Int32} {Qm : State → Prop} {M9 : Mm} (hB : BF G (I_W_law nm hh) B) (hend : ∀ (k1 k2 pc : Nat) (ls : List (Nat × Value)) (M : Mm) (φ : Ph), decode (mB (I_W_law nm hh)) pc = .ok (.ireturn, 1) → k1 ≤ 601024 → k2 ≤ 7293034 → AW G (I_W_law nm hh) B Qm k1 k2 pc ls [.int 1] M φ) (hn : gN G = L) (hx : gX G = xs) {φ : Ph} (hF : SF 149 φ) {k1 k2 : Nat} {n : Nat} {r23 : Int32 → Mm → Option (Int32 × Mm)}  (hk1 : k1 + 4 * (n + 1) ≤ 601024) (hk2 : k2 + 24 * (n + 1) ≤ 7293034) (hr23 : ∀ (k1 k2 : Nat) (φ : Ph), SF 149 φ → k1 + 4 * n ≤ 601024 → k2 + 24 * n ≤ 7293034 → ∀ (l4 : Int32) (M : Mm), r23 l4 M = some (1, M9) → AW G (I_W_law nm hh) B Qm k1 k2 23 [(0, .ref 2000), (1, .ref 0), (2, .ref 134), (3, .ref 148), (4, .int l4)] [] M φ) {l4 : Int32} {M : Mm} (h : f_W_law_958 L xs r23 l4 M = some (1, M9)) : AW G (I_W_law nm hh) B Qm k1 k2 958 [(0, .ref 2000), (1, .ref 0), (2, .ref 134), (3, .ref 148), (4, .int l4)] [] M φ := by
  unfold f_W_law_958 at h
  refine a_aload_n (j := 1) hB e_W_law_958 rfl rfl ?_
  refine a_aload_n (j := 3) hB e_W_law_959 rfl rfl ?_
  obtain ⟨r960, M960, hr960, h⟩ := bn2_i h
  obtain ⟨φ960, hφ960⟩ : ∃ q, pK r960 φ = q := ⟨_, rfl⟩
  have hF0 := hF
  refine a_ret (v := (some (.int r960))) (M1 := M960) (φ1 := φ960) (st1 := [.int r960]) (j1 := k1 + 1) (j2 := k2 + 6) (ar_SX (As := [.ref 0, .ref 148]) (rest := []) hB (c_W_undo (bf_G hB) hF hφ960 hr960) ml_W_169 md_W_undo rfl rfl (Nat.le_of_ble_eq_true rfl) (rmL (c := 1) (s := 6) (by decide) (by decide) (by omega) (by omega) rfl rfl) e_W_law_960) rfl rfl rfl ?_
  have hF : SF 149 φ960 := by rw [← hφ960]; exact sf_K hF0 _
  refine a_istore (ls' := [(5, .int r960), (0, .ref 2000), (1, .ref 0), (2, .ref 134), (3, .ref 148), (4, .int l4)]) hB e_W_law_963 (Nat.le_of_ble_eq_true rfl) rfl ?_
  refine a_aload_n (j := 3) hB e_W_law_965 rfl rfl ?_
  obtain ⟨r966, M966, hr966, h⟩ := bn2_i h
  refine a_ret (v := (some (.int r966))) (M1 := M966) (φ1 := φ960) (st1 := [.int r966]) (j1 := k1 + 1) (j2 := k2 + 6) (ar_V (As := []) (rest := []) hB (c_M_undo (bf_G hB) (sf_m hF (by decide)) hr966) ml_W_171 md_M_undo rc_M_undo (sf_lt hF (by decide)) kk_134 rfl rfl (Nat.le_of_ble_eq_true rfl) (rmL (c := 0) (s := 0) (by decide) (by decide) (by omega) (by omega) rfl rfl) e_W_law_966) rfl rfl rfl ?_
  refine a_istore (ls' := [(6, .int r966), (5, .int r960), (0, .ref 2000), (1, .ref 0), (2, .ref 134), (3, .ref 148), (4, .int l4)]) hB e_W_law_969 (Nat.le_of_ble_eq_true rfl) rfl ?_
  refine a_aload_n (j := 4) hB e_W_law_971 rfl rfl ?_
  obtain ⟨r972, hr972, h⟩ := bn_i h
  refine a_ret (v := (some (.int r972))) (M1 := M966) (φ1 := φ960) (st1 := [.int r972]) (j1 := k1 + 1) (j2 := k2 + 6) (ar_V (As := []) (rest := []) hB (c_M_thrown (bf_G hB) (sf_m hF (by decide)) hr972) ml_W_121 md_M_thrown rc_M_thrown (sf_lt hF (by decide)) kk_134 rfl rfl (Nat.le_of_ble_eq_true rfl) (rmL (c := 0) (s := 0) (by decide) (by decide) (by omega) (by omega) rfl rfl) e_W_law_972) rfl rfl rfl ?_
  refine a_iload (j := 1) hB e_W_law_975 rfl ?_
  refine a_icmp_eq (tgt := 982) hB e_W_law_977 (by decide) (fun c => ?_) (fun c => ?_)
  · have h := ip c h
    refine a_iload (j := 1) hB e_W_law_982 rfl ?_
    refine a_if_ne (tgt := 999) hB e_W_law_984 (by decide) (fun c => ?_) (fun c => ?_)
    · have h := iq c h
      refine a_ls [2, 3, 4, 5, 6] (ls' := [(0, .ref 2000), (1, .ref 0), (2, .ref 134), (3, .ref 148), (4, .int l4)]) rfl ?_
      exact t_W_law_999 hB hend hn hx hF (by omega) (by omega) hr23 h
    · have h := ip c h
      refine a_aload_n (j := 5) hB e_W_law_987 rfl rfl ?_
      refine a_iconst (v := 0) hB e_W_law_988 ic_0 ?_
      refine a_lald hB e_W_law_989 (sf_lt hF (by decide)) kk_148 (by decide) ?_
      refine a_iload (j := 0) hB e_W_law_990 rfl ?_
      refine a_i2l hB e_W_law_992 ?_
      refine a_lcmp hB e_W_law_993 ?_
      refine a_if_eq (tgt := 999) hB e_W_law_994 (by decide) (fun c => ?_) (fun c => ?_)
      · have h := ip c h
        refine a_ls [2, 3, 4, 5, 6] (ls' := [(0, .ref 2000), (1, .ref 0), (2, .ref 134), (3, .ref 148), (4, .int l4)]) rfl ?_
        exact t_W_law_999 hB hend hn hx hF (by omega) (by omega) hr23 h
      · have h := iq c h
        refine a_iconst (v := 0) hB e_W_law_997 ic_0 ?_
        exact (no01 h).elim
  · have h := iq c h
    refine a_iconst (v := 0) hB e_W_law_980 ic_0 ?_
    exact (no01 h).elim
set_option maxRecDepth 100000 in
theorem t_W_law_23 {G : Gt} {nm : String} {hh : List (Nat × Nat × Nat × Nat)} {B : Bag} {L : Nat} {xs : Nat → Int32} {Qm : State → Prop} {M9 : Mm} (hB : BF G (I_W_law nm hh) B) (hend : ∀ (k1 k2 pc : Nat) (ls : List (Nat × Value)) (M : Mm) (φ : Ph), decode (mB (I_W_law nm hh)) pc = .ok (.ireturn, 1) → k1 ≤ 601024 → k2 ≤ 7293034 → AW G (I_W_law nm hh) B Qm k1 k2 pc ls [.int 1] M φ) (hn : gN G = L) (hx : gX G = xs) : ∀ (n k1 k2 : Nat) (φ : Ph), SF 149 φ → k1 + 4 * n ≤ 601024 → k2 + 24 * n ≤ 7293034 → ∀ (l4 : Int32) (M : Mm), f_W_law_23 L xs n l4 M = some (1, M9) → AW G (I_W_law nm hh) B Qm k1 k2 23 [(0, .ref 2000), (1, .ref 0), (2, .ref 134), (3, .ref 148), (4, .int l4)] [] M φ := by
  intro n
  induction n with
  | zero => intro k1 k2 φ hF hk1 hk2 l4 M h; cases h
  | succ n hr23 =>
    intro k1 k2 φ hF hk1 hk2 l4 M h
    rw [f_W_law_23] at h
    refine a_iload (j := 4) hB e_W_law_23 rfl ?_
    refine a_aload_n (j := 0) hB e_W_law_25 rfl rfl ?_
    refine a_slen' hB hn e_W_law_26 ?_
    refine a_bipush (v := 6) hB e_W_law_27 bp_6 ?_
    refine a_isub hB e_W_law_29 ?_
    refine a_icmp_gt (tgt := 2543) hB e_W_law_30 (by decide) (fun c => ?_) (fun c => ?_)
    · have h := ip c h
      refine a_iconst (v := 1) hB e_W_law_2543 ic_1 ?_
      exact hend _ _ _ _ _ _ e_W_law_2544 (by omega) (by omega)
    · have h := iq c h
      refine a_aload_n (j := 0) hB e_W_law_33 rfl rfl ?_
      refine a_iload (j := 4) hB e_W_law_34 rfl ?_
      obtain ⟨c36, h⟩ := chk_i h
      refine a_sld' hB hn hx c36 e_W_law_36 ?_
      refine a_bipush (v := 63) hB e_W_law_37 bp_63 ?_
      refine a_iand hB e_W_law_39 ?_
      rcases Decidable.em (((xs (ix l4)) &&& (63 : Int32)).toInt < 0 ∨ 59 < ((xs (ix l4)) &&& (63 : Int32)).toInt) with q | q
      · have h := ip q h
        refine a_tabOut (tgt := 2537) hB e_W_law_40 q (by decide) ?_
        exact t_W_law_2537 hB hend hn hx hF (by omega) (by omega) hr23 h
      · have h := iq q h
        rcases Decidable.em (((xs (ix l4)) &&& (63 : Int32)) = 0) with q | q
        · have h := ip q h
          refine a_tabIn (v := 0) (off := 256) (tgt := 296) hB e_W_law_40 q (by decide) (by decide) rfl (by decide) ?_
          exact t_W_law_296 hB hend hn hx hF (by omega) (by omega) hr23 h
        · have h := iq q h
          rcases Decidable.em (((xs (ix l4)) &&& (63 : Int32)) = 1) with q | q
          · have h := ip q h
            refine a_tabIn (v := 1) (off := 329) (tgt := 369) hB e_W_law_40 q (by decide) (by decide) rfl (by decide) ?_
            exact t_W_law_369 hB hend hn hx hF (by omega) (by omega) hr23 h
          · have h := iq q h
            rcases Decidable.em (((xs (ix l4)) &&& (63 : Int32)) = 2) with q | q
            · have h := ip q h
              refine a_tabIn (v := 2) (off := 385) (tgt := 425) hB e_W_law_40 q (by decide) (by decide) rfl (by decide) ?_
              exact t_W_law_425 hB hend hn hx hF (by omega) (by omega) hr23 h
            · have h := iq q h
              rcases Decidable.em (((xs (ix l4)) &&& (63 : Int32)) = 3) with q | q
              · have h := ip q h
                refine a_tabIn (v := 3) (off := 398) (tgt := 438) hB e_W_law_40 q (by decide) (by decide) rfl (by decide) ?_
                exact t_W_law_438 hB hend hn hx hF (by omega) (by omega) hr23 h
              · have h := iq q h
                rcases Decidable.em (((xs (ix l4)) &&& (63 : Int32)) = 4) with q | q
                · have h := ip q h
                  refine a_tabIn (v := 4) (off := 411) (tgt := 451) hB e_W_law_40 q (by decide) (by decide) rfl (by decide) ?_
                  exact t_W_law_451 hB hend hn hx hF (by omega) (by omega) hr23 h
                · have h := iq q h
                  rcases Decidable.em (((xs (ix l4)) &&& (63 : Int32)) = 5) with q | q
                  · have h := ip q h
                    refine a_tabIn (v := 5) (off := 424) (tgt := 464) hB e_W_law_40 q (by decide) (by decide) rfl (by decide) ?_
                    exact t_W_law_464 hB hend hn hx hF (by omega) (by omega) hr23 h
                  · have h := iq q h
                    rcases Decidable.em (((xs (ix l4)) &&& (63 : Int32)) = 6) with q | q
                    · have h := ip q h
                      refine a_tabIn (v := 6) (off := 437) (tgt := 477) hB e_W_law_40 q (by decide) (by decide) rfl (by decide) ?_
                      exact t_W_law_477 hB hend hn hx hF (by omega) (by omega) hr23 h
                    · have h := iq q h
                      rcases Decidable.em (((xs (ix l4)) &&& (63 : Int32)) = 7) with q | q
                      · have h := ip q h
                        refine a_tabIn (v := 7) (off := 541) (tgt := 581) hB e_W_law_40 q (by decide) (by decide) rfl (by decide) ?_
                        exact t_W_law_581 hB hend hn hx hF (by omega) (by omega) hr23 h
                      · have h := iq q h
                        rcases Decidable.em (((xs (ix l4)) &&& (63 : Int32)) = 8) with q | q
                        · have h := ip q h
                          refine a_tabIn (v := 8) (off := 609) (tgt := 649) hB e_W_law_40 q (by decide) (by decide) rfl (by decide) ?_
                          exact t_W_law_649 hB hend hn hx hF (by omega) (by omega) hr23 h
                        · have h := iq q h
                          rcases Decidable.em (((xs (ix l4)) &&& (63 : Int32)) = 9) with q | q
                          · have h := ip q h
                            refine a_tabIn (v := 9) (off := 665) (tgt := 705) hB e_W_law_40 q (by decide) (by decide) rfl (by decide) ?_
                            exact t_W_law_705 hB hend hn hx hF (by omega) (by omega) hr23 h
                          · have h := iq q h
                            rcases Decidable.em (((xs (ix l4)) &&& (63 : Int32)) = 10) with q | q
                            · have h := ip q h
                              refine a_tabIn (v := 10) (off := 721) (tgt := 761) hB e_W_law_40 q (by decide) (by decide) rfl (by decide) ?_
                              exact t_W_law_761 hB hend hn hx hF (by omega) (by omega) hr23 h
                            · have h := iq q h
                              rcases Decidable.em (((xs (ix l4)) &&& (63 : Int32)) = 11) with q | q
                              · have h := ip q h
                                refine a_tabIn (v := 11) (off := 765) (tgt := 805) hB e_W_law_40 q (by decide) (by decide) rfl (by decide) ?_
                                exact t_W_law_805 hB hend hn hx hF (by omega) (by omega) hr23 h
                              · have h := iq q h
                                rcases Decidable.em (((xs (ix l4)) &&& (63 : Int32)) = 12) with q | q
                                · have h := ip q h
                                  refine a_tabIn (v := 12) (off := 821) (tgt := 861) hB e_W_law_40 q (by decide) (by decide) rfl (by decide) ?_
                                  exact t_W_law_861 hB hend hn hx hF (by omega) (by omega) hr23 h
                                · have h := iq q h
                                  rcases Decidable.em (((xs (ix l4)) &&& (63 : Int32)) = 13) with q | q
                                  · have h := ip q h
                                    refine a_tabIn (v := 13) (off := 877) (tgt := 917) hB e_W_law_40 q (by decide) (by decide) rfl (by decide) ?_
                                    exact t_W_law_917 hB hend hn hx hF (by omega) (by omega) hr23 h
                                  · have h := iq q h
                                    rcases Decidable.em (((xs (ix l4)) &&& (63 : Int32)) = 14) with q | q
                                    · have h := ip q h
                                      refine a_tabIn (v := 14) (off := 918) (tgt := 958) hB e_W_law_40 q (by decide) (by decide) rfl (by decide) ?_
                                      exact t_W_law_958 hB hend hn hx hF (by omega) (by omega) hr23 h
                                    · have h := iq q h
                                      rcases Decidable.em (((xs (ix l4)) &&& (63 : Int32)) = 15) with q | q
                                      · have h := ip q h
                                        refine a_tabIn (v := 15) (off := 962) (tgt := 1002) hB e_W_law_40 q (by decide) (by decide) rfl (by decide) ?_
                                        exact t_W_law_1002 hB hend hn hx hF (by omega) (by omega) hr23 h
                                      · have h := iq q h
                                        rcases Decidable.em (((xs (ix l4)) &&& (63 : Int32)) = 16) with q | q
                                        · have h := ip q h
                                          refine a_tabIn (v := 16) (off := 1018) (tgt := 1058) hB e_W_law_40 q (by decide) (by decide) rfl (by decide) ?_
                                          exact t_W_law_1058 hB hend hn hx hF (by omega) (by omega) hr23 h
                                        · have h := iq q h
                                          rcases Decidable.em (((xs (ix l4)) &&& (63 : Int32)) = 17) with q | q
                                          · have h := ip q h
                                            refine a_tabIn (v := 17) (off := 1074) (tgt := 1114) hB e_W_law_40 q (by decide) (by decide) rfl (by decide) ?_
                                            exact t_W_law_1114 hB hend hn hx hF (by omega) (by omega) hr23 h
                                          · have h := iq q h
                                            rcases Decidable.em (((xs (ix l4)) &&& (63 : Int32)) = 18) with q | q
                                            · have h := ip q h
                                              refine a_tabIn (v := 18) (off := 1087) (tgt := 1127) hB e_W_law_40 q (by decide) (by decide) rfl (by decide) ?_
                                              exact t_W_law_1127 hB hend hn hx hF (by omega) (by omega) hr23 h
                                            · have h := iq q h
                                              rcases Decidable.em (((xs (ix l4)) &&& (63 : Int32)) = 19) with q | q
                                              · have h := ip q h
                                                refine a_tabIn (v := 19) (off := 1100) (tgt := 1140) hB e_W_law_40 q (by decide) (by decide) rfl (by decide) ?_
                                                exact t_W_law_1140 hB hend hn hx hF (by omega) (by omega) hr23 h
                                              · have h := iq q h
                                                rcases Decidable.em (((xs (ix l4)) &&& (63 : Int32)) = 20) with q | q
                                                · have h := ip q h
                                                  refine a_tabIn (v := 20) (off := 1113) (tgt := 1153) hB e_W_law_40 q (by decide) (by decide) rfl (by decide) ?_
                                                  exact t_W_law_1153 hB hend hn hx hF (by omega) (by omega) hr23 h
                                                · have h := iq q h
                                                  rcases Decidable.em (((xs (ix l4)) &&& (63 : Int32)) = 21) with q | q
                                                  · have h := ip q h
                                                    refine a_tabIn (v := 21) (off := 1126) (tgt := 1166) hB e_W_law_40 q (by decide) (by decide) rfl (by decide) ?_
                                                    exact t_W_law_1166 hB hend hn hx hF (by omega) (by omega) hr23 h
                                                  · have h := iq q h
                                                    rcases Decidable.em (((xs (ix l4)) &&& (63 : Int32)) = 22) with q | q
                                                    · have h := ip q h
                                                      refine a_tabIn (v := 22) (off := 1139) (tgt := 1179) hB e_W_law_40 q (by decide) (by decide) rfl (by decide) ?_
                                                      exact t_W_law_1179 hB hend hn hx hF (by omega) (by omega) hr23 h
                                                    · have h := iq q h
                                                      rcases Decidable.em (((xs (ix l4)) &&& (63 : Int32)) = 23) with q | q
                                                      · have h := ip q h
                                                        refine a_tabIn (v := 23) (off := 1152) (tgt := 1192) hB e_W_law_40 q (by decide) (by decide) rfl (by decide) ?_
                                                        exact t_W_law_1192 hB hend hn hx hF (by omega) (by omega) hr23 h
                                                      · have h := iq q h
                                                        rcases Decidable.em (((xs (ix l4)) &&& (63 : Int32)) = 24) with q | q
                                                        · have h := ip q h
                                                          refine a_tabIn (v := 24) (off := 1208) (tgt := 1248) hB e_W_law_40 q (by decide) (by decide) rfl (by decide) ?_
                                                          exact t_W_law_1248 hB hend hn hx hF (by omega) (by omega) hr23 h
                                                        · have h := iq q h
                                                          rcases Decidable.em (((xs (ix l4)) &&& (63 : Int32)) = 25) with q | q
                                                          · have h := ip q h
                                                            refine a_tabIn (v := 25) (off := 1264) (tgt := 1304) hB e_W_law_40 q (by decide) (by decide) rfl (by decide) ?_
                                                            exact t_W_law_1304 hB hend hn hx hF (by omega) (by omega) hr23 h
                                                          · have h := iq q h
                                                            rcases Decidable.em (((xs (ix l4)) &&& (63 : Int32)) = 26) with q | q
                                                            · have h := ip q h
                                                              refine a_tabIn (v := 26) (off := 1320) (tgt := 1360) hB e_W_law_40 q (by decide) (by decide) rfl (by decide) ?_
                                                              exact t_W_law_1360 hB hend hn hx hF (by omega) (by omega) hr23 h
                                                            · have h := iq q h
                                                              rcases Decidable.em (((xs (ix l4)) &&& (63 : Int32)) = 27) with q | q
                                                              · have h := ip q h
                                                                refine a_tabIn (v := 27) (off := 1376) (tgt := 1416) hB e_W_law_40 q (by decide) (by decide) rfl (by decide) ?_
                                                                exact t_W_law_1416 hB hend hn hx hF (by omega) (by omega) hr23 h
                                                              · have h := iq q h
                                                                rcases Decidable.em (((xs (ix l4)) &&& (63 : Int32)) = 28) with q | q
                                                                · have h := ip q h
                                                                  refine a_tabIn (v := 28) (off := 1432) (tgt := 1472) hB e_W_law_40 q (by decide) (by decide) rfl (by decide) ?_
                                                                  exact t_W_law_1472 hB hend hn hx hF (by omega) (by omega) hr23 h
                                                                · have h := iq q h
                                                                  rcases Decidable.em (((xs (ix l4)) &&& (63 : Int32)) = 29) with q | q
                                                                  · have h := ip q h
                                                                    refine a_tabIn (v := 29) (off := 1488) (tgt := 1528) hB e_W_law_40 q (by decide) (by decide) rfl (by decide) ?_
                                                                    exact t_W_law_1528 hB hend hn hx hF (by omega) (by omega) hr23 h
                                                                  · have h := iq q h
                                                                    rcases Decidable.em (((xs (ix l4)) &&& (63 : Int32)) = 30) with q | q
                                                                    · have h := ip q h
                                                                      refine a_tabIn (v := 30) (off := 1544) (tgt := 1584) hB e_W_law_40 q (by decide) (by decide) rfl (by decide) ?_
                                                                      exact t_W_law_1584 hB hend hn hx hF (by omega) (by omega) hr23 h
                                                                    · have h := iq q h
                                                                      rcases Decidable.em (((xs (ix l4)) &&& (63 : Int32)) = 31) with q | q
                                                                      · have h := ip q h
                                                                        refine a_tabIn (v := 31) (off := 1600) (tgt := 1640) hB e_W_law_40 q (by decide) (by decide) rfl (by decide) ?_
                                                                        exact t_W_law_1640 hB hend hn hx hF (by omega) (by omega) hr23 h
                                                                      · have h := iq q h
                                                                        rcases Decidable.em (((xs (ix l4)) &&& (63 : Int32)) = 32) with q | q
                                                                        · have h := ip q h
                                                                          refine a_tabIn (v := 32) (off := 1656) (tgt := 1696) hB e_W_law_40 q (by decide) (by decide) rfl (by decide) ?_
                                                                          exact t_W_law_1696 hB hend hn hx hF (by omega) (by omega) hr23 h
                                                                        · have h := iq q h
                                                                          rcases Decidable.em (((xs (ix l4)) &&& (63 : Int32)) = 33) with q | q
                                                                          · have h := ip q h
                                                                            refine a_tabIn (v := 33) (off := 1719) (tgt := 1759) hB e_W_law_40 q (by decide) (by decide) rfl (by decide) ?_
                                                                            exact t_W_law_1759 hB hend hn hx hF (by omega) (by omega) hr23 h
                                                                          · have h := iq q h
                                                                            rcases Decidable.em (((xs (ix l4)) &&& (63 : Int32)) = 34) with q | q
                                                                            · have h := ip q h
                                                                              refine a_tabIn (v := 34) (off := 1787) (tgt := 1827) hB e_W_law_40 q (by decide) (by decide) rfl (by decide) ?_
                                                                              exact t_W_law_1827 hB hend hn hx hF (by omega) (by omega) hr23 h
                                                                            · have h := iq q h
                                                                              rcases Decidable.em (((xs (ix l4)) &&& (63 : Int32)) = 35) with q | q
                                                                              · have h := ip q h
                                                                                refine a_tabIn (v := 35) (off := 1800) (tgt := 1840) hB e_W_law_40 q (by decide) (by decide) rfl (by decide) ?_
                                                                                exact t_W_law_1840 hB hend hn hx hF (by omega) (by omega) hr23 h
                                                                              · have h := iq q h
                                                                                rcases Decidable.em (((xs (ix l4)) &&& (63 : Int32)) = 36) with q | q
                                                                                · have h := ip q h
                                                                                  refine a_tabIn (v := 36) (off := 1856) (tgt := 1896) hB e_W_law_40 q (by decide) (by decide) rfl (by decide) ?_
                                                                                  exact t_W_law_1896 hB hend hn hx hF (by omega) (by omega) hr23 h
                                                                                · have h := iq q h
                                                                                  rcases Decidable.em (((xs (ix l4)) &&& (63 : Int32)) = 37) with q | q
                                                                                  · have h := ip q h
                                                                                    refine a_tabIn (v := 37) (off := 1912) (tgt := 1952) hB e_W_law_40 q (by decide) (by decide) rfl (by decide) ?_
                                                                                    exact t_W_law_1952 hB hend hn hx hF (by omega) (by omega) hr23 h
                                                                                  · have h := iq q h
                                                                                    rcases Decidable.em (((xs (ix l4)) &&& (63 : Int32)) = 38) with q | q
                                                                                    · have h := ip q h
                                                                                      refine a_tabIn (v := 38) (off := 1968) (tgt := 2008) hB e_W_law_40 q (by decide) (by decide) rfl (by decide) ?_
                                                                                      exact t_W_law_2008 hB hend hn hx hF (by omega) (by omega) hr23 h
                                                                                    · have h := iq q h
                                                                                      rcases Decidable.em (((xs (ix l4)) &&& (63 : Int32)) = 39) with q | q
                                                                                      · have h := ip q h
                                                                                        refine a_tabIn (v := 39) (off := 2024) (tgt := 2064) hB e_W_law_40 q (by decide) (by decide) rfl (by decide) ?_
                                                                                        exact t_W_law_2064 hB hend hn hx hF (by omega) (by omega) hr23 h
                                                                                      · have h := iq q h
                                                                                        rcases Decidable.em (((xs (ix l4)) &&& (63 : Int32)) = 40) with q | q
                                                                                        · have h := ip q h
                                                                                          refine a_tabIn (v := 40) (off := 2080) (tgt := 2120) hB e_W_law_40 q (by decide) (by decide) rfl (by decide) ?_
                                                                                          exact t_W_law_2120 hB hend hn hx hF (by omega) (by omega) hr23 h
                                                                                        · have h := iq q h
                                                                                          rcases Decidable.em (((xs (ix l4)) &&& (63 : Int32)) = 41) with q | q
                                                                                          · have h := ip q h
                                                                                            refine a_tabIn (v := 41) (off := 2136) (tgt := 2176) hB e_W_law_40 q (by decide) (by decide) rfl (by decide) ?_
                                                                                            exact t_W_law_2176 hB hend hn hx hF (by omega) (by omega) hr23 h
                                                                                          · have h := iq q h
                                                                                            rcases Decidable.em (((xs (ix l4)) &&& (63 : Int32)) = 42) with q | q
                                                                                            · have h := ip q h
                                                                                              refine a_tabIn (v := 42) (off := 2149) (tgt := 2189) hB e_W_law_40 q (by decide) (by decide) rfl (by decide) ?_
                                                                                              exact t_W_law_2189 hB hend hn hx hF (by omega) (by omega) hr23 h
                                                                                            · have h := iq q h
                                                                                              rcases Decidable.em (((xs (ix l4)) &&& (63 : Int32)) = 43) with q | q
                                                                                              · have h := ip q h
                                                                                                refine a_tabIn (v := 43) (off := 2162) (tgt := 2202) hB e_W_law_40 q (by decide) (by decide) rfl (by decide) ?_
                                                                                                exact t_W_law_2202 hB hend hn hx hF (by omega) (by omega) hr23 h
                                                                                              · have h := iq q h
                                                                                                rcases Decidable.em (((xs (ix l4)) &&& (63 : Int32)) = 44) with q | q
                                                                                                · have h := ip q h
                                                                                                  refine a_tabIn (v := 44) (off := 2175) (tgt := 2215) hB e_W_law_40 q (by decide) (by decide) rfl (by decide) ?_
                                                                                                  exact t_W_law_2215 hB hend hn hx hF (by omega) (by omega) hr23 h
                                                                                                · have h := iq q h
                                                                                                  rcases Decidable.em (((xs (ix l4)) &&& (63 : Int32)) = 45) with q | q
                                                                                                  · have h := ip q h
                                                                                                    refine a_tabIn (v := 45) (off := 2188) (tgt := 2228) hB e_W_law_40 q (by decide) (by decide) rfl (by decide) ?_
                                                                                                    exact t_W_law_2228 hB hend hn hx hF (by omega) (by omega) hr23 h
                                                                                                  · have h := iq q h
                                                                                                    rcases Decidable.em (((xs (ix l4)) &&& (63 : Int32)) = 46) with q | q
                                                                                                    · have h := ip q h
                                                                                                      refine a_tabIn (v := 46) (off := 2201) (tgt := 2241) hB e_W_law_40 q (by decide) (by decide) rfl (by decide) ?_
                                                                                                      exact t_W_law_2241 hB hend hn hx hF (by omega) (by omega) hr23 h
                                                                                                    · have h := iq q h
                                                                                                      rcases Decidable.em (((xs (ix l4)) &&& (63 : Int32)) = 47) with q | q
                                                                                                      · have h := ip q h
                                                                                                        refine a_tabIn (v := 47) (off := 2214) (tgt := 2254) hB e_W_law_40 q (by decide) (by decide) rfl (by decide) ?_
                                                                                                        exact t_W_law_2254 hB hend hn hx hF (by omega) (by omega) hr23 h
                                                                                                      · have h := iq q h
                                                                                                        rcases Decidable.em (((xs (ix l4)) &&& (63 : Int32)) = 48) with q | q
                                                                                                        · have h := ip q h
                                                                                                          refine a_tabIn (v := 48) (off := 2227) (tgt := 2267) hB e_W_law_40 q (by decide) (by decide) rfl (by decide) ?_
                                                                                                          exact t_W_law_2267 hB hend hn hx hF (by omega) (by omega) hr23 h
                                                                                                        · have h := iq q h
                                                                                                          rcases Decidable.em (((xs (ix l4)) &&& (63 : Int32)) = 49) with q | q
                                                                                                          · have h := ip q h
                                                                                                            refine a_tabIn (v := 49) (off := 2240) (tgt := 2280) hB e_W_law_40 q (by decide) (by decide) rfl (by decide) ?_
                                                                                                            exact t_W_law_2280 hB hend hn hx hF (by omega) (by omega) hr23 h
                                                                                                          · have h := iq q h
                                                                                                            rcases Decidable.em (((xs (ix l4)) &&& (63 : Int32)) = 50) with q | q
                                                                                                            · have h := ip q h
                                                                                                              refine a_tabIn (v := 50) (off := 2253) (tgt := 2293) hB e_W_law_40 q (by decide) (by decide) rfl (by decide) ?_
                                                                                                              exact t_W_law_2293 hB hend hn hx hF (by omega) (by omega) hr23 h
                                                                                                            · have h := iq q h
                                                                                                              rcases Decidable.em (((xs (ix l4)) &&& (63 : Int32)) = 51) with q | q
                                                                                                              · have h := ip q h
                                                                                                                refine a_tabIn (v := 51) (off := 2266) (tgt := 2306) hB e_W_law_40 q (by decide) (by decide) rfl (by decide) ?_
                                                                                                                exact t_W_law_2306 hB hend hn hx hF (by omega) (by omega) hr23 h
                                                                                                              · have h := iq q h
                                                                                                                rcases Decidable.em (((xs (ix l4)) &&& (63 : Int32)) = 52) with q | q
                                                                                                                · have h := ip q h
                                                                                                                  refine a_tabIn (v := 52) (off := 2280) (tgt := 2320) hB e_W_law_40 q (by decide) (by decide) rfl (by decide) ?_
                                                                                                                  exact t_W_law_2320 hB hend hn hx hF (by omega) (by omega) hr23 h
                                                                                                                · have h := iq q h
                                                                                                                  rcases Decidable.em (((xs (ix l4)) &&& (63 : Int32)) = 53) with q | q
                                                                                                                  · have h := ip q h
                                                                                                                    refine a_tabIn (v := 53) (off := 2336) (tgt := 2376) hB e_W_law_40 q (by decide) (by decide) rfl (by decide) ?_
                                                                                                                    exact t_W_law_2376 hB hend hn hx hF (by omega) (by omega) hr23 h
                                                                                                                  · have h := iq q h
                                                                                                                    rcases Decidable.em (((xs (ix l4)) &&& (63 : Int32)) = 54) with q | q
                                                                                                                    · have h := ip q h
                                                                                                                      refine a_tabIn (v := 54) (off := 2349) (tgt := 2389) hB e_W_law_40 q (by decide) (by decide) rfl (by decide) ?_
                                                                                                                      exact t_W_law_2389 hB hend hn hx hF (by omega) (by omega) hr23 h
                                                                                                                    · have h := iq q h
                                                                                                                      rcases Decidable.em (((xs (ix l4)) &&& (63 : Int32)) = 55) with q | q
                                                                                                                      · have h := ip q h
                                                                                                                        refine a_tabIn (v := 55) (off := 2362) (tgt := 2402) hB e_W_law_40 q (by decide) (by decide) rfl (by decide) ?_
                                                                                                                        exact t_W_law_2402 hB hend hn hx hF (by omega) (by omega) hr23 h
                                                                                                                      · have h := iq q h
                                                                                                                        rcases Decidable.em (((xs (ix l4)) &&& (63 : Int32)) = 56) with q | q
                                                                                                                        · have h := ip q h
                                                                                                                          refine a_tabIn (v := 56) (off := 2375) (tgt := 2415) hB e_W_law_40 q (by decide) (by decide) rfl (by decide) ?_
                                                                                                                          exact t_W_law_2415 hB hend hn hx hF (by omega) (by omega) hr23 h
                                                                                                                        · have h := iq q h
                                                                                                                          rcases Decidable.em (((xs (ix l4)) &&& (63 : Int32)) = 57) with q | q
                                                                                                                          · have h := ip q h
                                                                                                                            refine a_tabIn (v := 57) (off := 2416) (tgt := 2456) hB e_W_law_40 q (by decide) (by decide) rfl (by decide) ?_
                                                                                                                            exact t_W_law_2456 hB hend hn hx hF (by omega) (by omega) hr23 h
                                                                                                                          · have h := iq q h
                                                                                                                            rcases Decidable.em (((xs (ix l4)) &&& (63 : Int32)) = 58) with q | q
                                                                                                                            · have h := ip q h
                                                                                                                              refine a_tabIn (v := 58) (off := 2459) (tgt := 2499) hB e_W_law_40 q (by decide) (by decide) rfl (by decide) ?_
                                                                                                                              exact t_W_law_2499 hB hend hn hx hF (by omega) (by omega) hr23 h
                                                                                                                            · have h := iq q h
                                                                                                                              rcases Decidable.em (((xs (ix l4)) &&& (63 : Int32)) = 59) with q | q
                                                                                                                              · have h := ip q h
                                                                                                                                refine a_tabIn (v := 59) (off := 2472) (tgt := 2512) hB e_W_law_40 q (by decide) (by decide) rfl (by decide) ?_
                                                                                                                                exact t_W_law_2512 hB hend hn hx hF (by omega) (by omega) hr23 h
                                                                                                                              · have h := iq q h
                                                                                                                                cases h
set_option maxRecDepth 100000 in
theorem t_W_law {G : Gt} {nm : String} {hh : List (Nat × Nat × Nat × Nat)} {B : Bag} {L : Nat} {xs : Nat → Int32} {Qm : State → Prop} {M9 : Mm} (hB : BF G (I_W_law nm hh) B) (hend : ∀ (k1 k2 pc : Nat) (ls : List (Nat × Value)) (M : Mm) (φ : Ph), decode (mB (I_W_law nm hh)) pc = .ok (.ireturn, 1) → k1 ≤ 601024 → k2 ≤ 7293034 → AW G (I_W_law nm hh) B Qm k1 k2 pc ls [.int 1] M φ) (hn : gN G = L) (hx : gX G = xs) {M : Mm} (h : f_W_law L xs M = some (1, M9)) : AW G (I_W_law nm hh) B Qm 0 0 0 [(0, .ref 2000)] [] M (ph [] 0) := by
  unfold f_W_law at h
  obtain ⟨M0, hM0, h⟩ := bm_i h
  refine a_new (a := 0) hB e_W_law_0 ck_4 cl_W_8 is_4 ic_X4 rfl rfl (by decide) kk_0 hd_4_0 rfl rfl (Nat.le_of_ble_eq_true rfl) (Nat.le_of_ble_eq_true rfl) ?_
  refine a_ph (φ' := (ph [(0, 0)] (1))) ph_nA rfl ?_
  refine a_mem hM0 ?_
  refine a_dup hB e_W_law_3 rfl ?_
  obtain ⟨M4, hr4, h⟩ := bn_i h
  refine a_ret (v := none) (M1 := M4) (φ1 := (ph [] (134))) (st1 := [.ref 0]) (j1 := 134) (j2 := 3877) (ar_I (As := []) (rest := [.ref 0]) hB (c_C_init (bf_G hB) hr4) ml_W_107 md_C_init rfl rfl (Nat.le_of_ble_eq_true rfl) (rmL (c := 133) (s := 3862) (by decide) (by decide) (Nat.le_of_ble_eq_true rfl) (Nat.le_of_ble_eq_true rfl) rfl rfl) e_W_law_4) rfl rfl rfl ?_
  refine a_astore_n (ls' := [(1, .ref 0), (0, .ref 2000)]) hB e_W_law_7 rfl (Nat.le_of_ble_eq_true rfl) rfl ?_
  obtain ⟨M8, hM8, h⟩ := bm_i h
  refine a_new (a := 134) hB e_W_law_8 ck_5 cl_W_108 is_5 ic_X5 rfl rfl (by decide) kk_134 hd_5_134 rfl rfl (Nat.le_of_ble_eq_true rfl) (Nat.le_of_ble_eq_true rfl) ?_
  refine a_ph (φ' := (ph [(134, 0)] (135))) ph_nA rfl ?_
  refine a_mem hM8 ?_
  refine a_dup hB e_W_law_11 rfl ?_
  obtain ⟨M12, hr12, h⟩ := bn_i h
  refine a_ret (v := none) (M1 := M12) (φ1 := (ph [] (148))) (st1 := [.ref 134]) (j1 := 148) (j2 := 9173) (ar_I (As := []) (rest := [.ref 134]) hB (c_M_init (bf_G hB) hr12) ml_W_110 md_M_init rfl rfl (Nat.le_of_ble_eq_true rfl) (rmL (c := 13) (s := 5270) (by decide) (by decide) (Nat.le_of_ble_eq_true rfl) (Nat.le_of_ble_eq_true rfl) rfl rfl) e_W_law_12) rfl rfl rfl ?_
  refine a_astore_n (ls' := [(2, .ref 134), (1, .ref 0), (0, .ref 2000)]) hB e_W_law_15 rfl (Nat.le_of_ble_eq_true rfl) rfl ?_
  refine a_iconst (v := 1) hB e_W_law_16 ic_1 ?_
  obtain ⟨M17, hM17, h⟩ := bm_i h
  refine a_newaJ (a := 148) hB e_W_law_17 ac_long rfl rfl (by decide) kk_148 (by decide) (by decide) (by rw [ll_148]; decide) rfl (by rw [ll_148]) (Nat.le_of_ble_eq_true rfl) (Nat.le_of_ble_eq_true rfl) ?_
  refine a_ph (φ' := (ph [] (149))) (ph_nA0 (no_t 148 (by decide))) rfl ?_
  refine a_mem hM17 ?_
  refine a_astore_n (ls' := [(3, .ref 148), (2, .ref 134), (1, .ref 0), (0, .ref 2000)]) hB e_W_law_19 rfl (Nat.le_of_ble_eq_true rfl) rfl ?_
  refine a_iconst (v := 0) hB e_W_law_20 ic_0 ?_
  refine a_istore (ls' := [(4, .int (0 : Int32)), (3, .ref 148), (2, .ref 134), (1, .ref 0), (0, .ref 2000)]) hB e_W_law_21 (Nat.le_of_ble_eq_true rfl) rfl ?_
  refine a_ls [4, 3, 2, 1, 0] (ls' := [(0, .ref 2000), (1, .ref 0), (2, .ref 134), (3, .ref 148), (4, .int (0 : Int32))]) rfl ?_
  exact t_W_law_23 hB hend hn hx fl _ _ _ (ph_sf (by decide)) (by decide) (by decide) _ _ h
