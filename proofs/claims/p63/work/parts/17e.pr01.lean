/-! the law -/
set_option maxRecDepth 100000 in
theorem t_W_isSound_69 {G : Gt} {B : Bag} {o : Int32} {M9 : Mm} (hB : BF G I_W_isSound B)  {φ : Ph} (hF : SF 138 φ) (hd : dirt φ = φ)   : ∀ (n k1 k2 : Nat) (l1 : Int32) (l2 : Int32) (l3 : Int32) (l4 : Int32) (l5 : Int32) (l6 : Int32) (l7 : Int32) (M : Mm), k1 + (n * 30 + 92) ≤ 756 → k2 + 6 * (n * 30 + 92) ≤ 4536 → f_W_isSound_69 n l1 l2 l3 l4 l5 l6 l7 M = some (o, M9) → AW G I_W_isSound B (QM G I_W_isSound B (.inl (some (.int o))) M9 φ) k1 k2 69 [(0, .ref 0), (1, .int l1), (2, .int l2), (3, .int l3), (4, .int l4), (5, .int l5), (6, .int l6), (7, .int l7)] [] M φ := by
  intro n
  induction n with
  | zero => intro k1 k2 l1 l2 l3 l4 l5 l6 l7 M hk1 hk2 h; cases h
  | succ n hr69 =>
    intro k1 k2 l1 l2 l3 l4 l5 l6 l7 M hk1 hk2 h
    have hr69 : ∀ (k1 k2 : Nat) (l1 : Int32) (l2 : Int32) (l3 : Int32) (l4 : Int32) (l5 : Int32) (l6 : Int32) (l7 : Int32) (M : Mm), k1 + (n * 30 + 92) ≤ 756 → k2 + 6 * (n * 30 + 92) ≤ 4536 → f_W_isSound_69 n l1 l2 l3 l4 l5 l6 l7 M = some (o, M9) → AW G I_W_isSound B (QM G I_W_isSound B (.inl (some (.int o))) M9 φ) k1 k2 69 [(0, .ref 0), (1, .int l1), (2, .int l2), (3, .int l3), (4, .int l4), (5, .int l5), (6, .int l6), (7, .int l7)] [] M φ := fun a b => hr69 a b
    have hc69 : 92 ≤ n * 30 + 92 := Nat.le_add_left _ _
    rw [f_W_isSound_69] at h
    refine a_iload (j := 7) hB e_W_isSound_69 rfl ?_
    refine a_iload_n (j := 1) hB e_W_isSound_71 rfl rfl ?_
    refine a_icmp_ge (tgt := 481) hB e_W_isSound_72 (by decide) (fun c => ?_) (fun c => ?_)
    · have h := ip c h
      refine a_lconst (v := 0) hB e_W_isSound_481 rfl ?_
      refine a_lstore (ls' := [(7, .long (0 : Int64)), (0, .ref 0), (1, .int l1), (2, .int l2), (3, .int l3), (4, .int l4), (5, .int l5), (6, .int l6)]) hB e_W_isSound_482 (Nat.le_of_ble_eq_true rfl) rfl ?_
      refine a_iconst (v := 0) hB e_W_isSound_484 ic_0 ?_
      refine a_istore (ls' := [(9, .int (0 : Int32)), (7, .long (0 : Int64)), (0, .ref 0), (1, .int l1), (2, .int l2), (3, .int l3), (4, .int l4), (5, .int l5), (6, .int l6)]) hB e_W_isSound_485 (Nat.le_of_ble_eq_true rfl) rfl ?_
      refine a_ls [2, 3, 4, 5, 6, 7, 8, 1, 0] (ls' := [(0, .ref 0), (1, .int l1), (2, .int l2), (3, .int l3), (4, .int l4), (5, .int l5), (6, .int l6), (7, .long (0 : Int64)), (9, .int (0 : Int32))]) rfl ?_
      exact t_W_isSound_487 hB hF hd 22 _ _ _ _ _ _ _ _ _ _ _ (by omega) (by omega) h
    · have h := iq c h
      refine a_aload_n (j := 0) hB e_W_isSound_75 rfl rfl ?_
      refine a_iload (j := 7) hB e_W_isSound_76 rfl ?_
      obtain ⟨r78, hr78, h⟩ := bn_i h
      refine a_ret (v := (some (.int r78))) (M1 := M) (φ1 := φ) (st1 := [.int r78]) (j1 := k1 + 1) (j2 := k2 + 6) (ar_SX (As := [.ref 0, .int l7]) (rest := []) hB (c_W_horizontalLength (bf_G hB) hF hd hr78) ml_W_138 md_W_horizontalLength rfl rfl (Nat.le_of_ble_eq_true rfl) (rmL (c := 1) (s := 6) (K1 := 756) (K2 := 4536) (Nat.le_of_ble_eq_true rfl) (Nat.le_of_ble_eq_true rfl) (by omega) (by omega) rfl rfl rfl rfl) e_W_isSound_78) rfl rfl rfl ?_
      refine a_istore (ls' := [(8, .int r78), (0, .ref 0), (1, .int l1), (2, .int l2), (3, .int l3), (4, .int l4), (5, .int l5), (6, .int l6), (7, .int l7)]) hB e_W_isSound_81 (Nat.le_of_ble_eq_true rfl) rfl ?_
      refine a_aload_n (j := 1) hB e_W_isSound_83 rfl rfl ?_
      refine a_iload (j := 8) hB e_W_isSound_84 rfl ?_
      obtain ⟨r86, hr86, h⟩ := bn_i h
      refine a_ret (v := (some (.int r86))) (M1 := M) (φ1 := φ) (st1 := [.int r86]) (j1 := k1 + 2) (j2 := k2 + 12) (ar_SX (As := [.ref 0, .int l7]) (rest := []) hB (c_W_bearing (bf_G hB) hF hd hr86) ml_W_140 md_W_bearing rfl rfl (Nat.le_of_ble_eq_true rfl) (rmL (c := 1) (s := 6) (K1 := 756) (K2 := 4536) (Nat.le_of_ble_eq_true rfl) (Nat.le_of_ble_eq_true rfl) (by omega) (by omega) rfl rfl rfl rfl) e_W_isSound_86) rfl rfl rfl ?_
      refine a_istore (ls' := [(9, .int r86), (8, .int r78), (0, .ref 0), (1, .int l1), (2, .int l2), (3, .int l3), (4, .int l4), (5, .int l5), (6, .int l6), (7, .int l7)]) hB e_W_isSound_89 (Nat.le_of_ble_eq_true rfl) rfl ?_
      refine a_iload (j := 1) hB e_W_isSound_91 rfl ?_
      refine a_if_lt (tgt := 148) hB e_W_isSound_93 (by decide) (fun c => ?_) (fun c => ?_)
      · have h := ip c h
        refine a_ls [] (ls' := []) rfl ?_
        exact t_W_isSound_148 hB hF hd (by omega) (by omega) h
      · have h := iq c h
        refine a_iload (j := 1) hB e_W_isSound_96 rfl ?_
        refine a_aload_n (j := 2) hB e_W_isSound_98 rfl rfl ?_
        refine a_iload (j := 9) hB e_W_isSound_99 rfl ?_
        obtain ⟨r101, hr101, h⟩ := bn_i h
        refine a_ret (v := (some (.int r101))) (M1 := M) (φ1 := φ) (st1 := [.int r101, .int r78]) (j1 := k1 + 3) (j2 := k2 + 18) (ar_SX (As := [.ref 0, .int l7]) (rest := [.int r78]) hB (c_W_slopeLength (bf_G hB) hF hd hr101) ml_W_142 md_W_slopeLength rfl rfl (Nat.le_of_ble_eq_true rfl) (rmL (c := 1) (s := 6) (K1 := 756) (K2 := 4536) (Nat.le_of_ble_eq_true rfl) (Nat.le_of_ble_eq_true rfl) (by omega) (by omega) rfl rfl rfl rfl) e_W_isSound_101) rfl rfl rfl ?_
        refine a_icmp_gt (tgt := 148) hB e_W_isSound_104 (by decide) (fun c => ?_) (fun c => ?_)
        · have h := ip c h
          refine a_ls [] (ls' := []) rfl ?_
          exact t_W_isSound_148 hB hF hd (by omega) (by omega) h
        · have h := iq c h
          refine a_aload_n (j := 2) hB e_W_isSound_107 rfl rfl ?_
          refine a_iload (j := 9) hB e_W_isSound_108 rfl ?_
          obtain ⟨r110, hr110, h⟩ := bn_i h
          refine a_ret (v := (some (.int r110))) (M1 := M) (φ1 := φ) (st1 := [.int r110]) (j1 := k1 + 4) (j2 := k2 + 24) (ar_SX (As := [.ref 0, .int l7]) (rest := []) hB (c_W_isBog (bf_G hB) hF hd hr110) ml_W_144 md_W_isBog rfl rfl (Nat.le_of_ble_eq_true rfl) (rmL (c := 1) (s := 6) (K1 := 756) (K2 := 4536) (Nat.le_of_ble_eq_true rfl) (Nat.le_of_ble_eq_true rfl) (by omega) (by omega) rfl rfl rfl rfl) e_W_isSound_110) rfl rfl rfl ?_
          refine a_iconst (v := 1) hB e_W_isSound_113 ic_1 ?_
          refine a_icmp_ne (tgt := 150) hB e_W_isSound_114 (by decide) (fun c => ?_) (fun c => ?_)
          · have h := iq c h
            refine a_ls [2, 3, 4, 5, 6, 7, 8, 9, 1, 0] (ls' := [(0, .ref 0), (1, .int l1), (2, .int l2), (3, .int l3), (4, .int l4), (5, .int l5), (6, .int l6), (7, .int l7), (8, .int r78), (9, .int r86)]) rfl ?_
            exact t_W_isSound_150 hB hF hd hr69 hc69 (by omega) (by omega) h
          · have h := ip c h
            refine a_iload (j := 1) hB e_W_isSound_117 rfl ?_
            refine a_aload_n (j := 2) hB e_W_isSound_119 rfl rfl ?_
            refine a_iload (j := 9) hB e_W_isSound_120 rfl ?_
            obtain ⟨r122, hr122, h⟩ := bn_i h
            refine a_ret (v := (some (.int r122))) (M1 := M) (φ1 := φ) (st1 := [.int r122, .int r78]) (j1 := k1 + 5) (j2 := k2 + 30) (ar_SX (As := [.ref 0, .int l7]) (rest := [.int r78]) hB (c_W_readLength (bf_G hB) hF hd hr122) ml_W_146 md_W_readLength rfl rfl (Nat.le_of_ble_eq_true rfl) (rmL (c := 1) (s := 6) (K1 := 756) (K2 := 4536) (Nat.le_of_ble_eq_true rfl) (Nat.le_of_ble_eq_true rfl) (by omega) (by omega) rfl rfl rfl rfl) e_W_isSound_122) rfl rfl rfl ?_
            refine a_icmp_ne (tgt := 148) hB e_W_isSound_125 (by decide) (fun c => ?_) (fun c => ?_)
            · have h := iq c h
              refine a_ls [] (ls' := []) rfl ?_
              exact t_W_isSound_148 hB hF hd (by omega) (by omega) h
            · have h := ip c h
              refine a_aload_n (j := 2) hB e_W_isSound_128 rfl rfl ?_
              refine a_iload (j := 9) hB e_W_isSound_129 rfl ?_
              obtain ⟨r131, hr131, h⟩ := bn_i h
              refine a_ret (v := (some (.int r131))) (M1 := M) (φ1 := φ) (st1 := [.int r131]) (j1 := k1 + 6) (j2 := k2 + 36) (ar_SX (As := [.ref 0, .int l7]) (rest := []) hB (c_W_slopeLength (bf_G hB) hF hd hr131) ml_W_142 md_W_slopeLength rfl rfl (Nat.le_of_ble_eq_true rfl) (rmL (c := 1) (s := 6) (K1 := 756) (K2 := 4536) (Nat.le_of_ble_eq_true rfl) (Nat.le_of_ble_eq_true rfl) (by omega) (by omega) rfl rfl rfl rfl) e_W_isSound_131) rfl rfl rfl ?_
              refine a_iload (j := 1) hB e_W_isSound_134 rfl ?_
              refine a_icmp_ne (tgt := 148) hB e_W_isSound_136 (by decide) (fun c => ?_) (fun c => ?_)
              · have h := iq c h
                refine a_ls [] (ls' := []) rfl ?_
                exact t_W_isSound_148 hB hF hd (by omega) (by omega) h
              · have h := ip c h
                refine a_aload_n (j := 2) hB e_W_isSound_139 rfl rfl ?_
                refine a_iload (j := 9) hB e_W_isSound_140 rfl ?_
                obtain ⟨r142, hr142, h⟩ := bn_i h
                refine a_ret (v := (some (.int r142))) (M1 := M) (φ1 := φ) (st1 := [.int r142]) (j1 := k1 + 7) (j2 := k2 + 42) (ar_SX (As := [.ref 0, .int l7]) (rest := []) hB (c_W_pins (bf_G hB) hF hd hr142) ml_W_148 md_W_pins rfl rfl (Nat.le_of_ble_eq_true rfl) (rmL (c := 1) (s := 6) (K1 := 756) (K2 := 4536) (Nat.le_of_ble_eq_true rfl) (Nat.le_of_ble_eq_true rfl) (by omega) (by omega) rfl rfl rfl rfl) e_W_isSound_142) rfl rfl rfl ?_
                refine a_if_eq (tgt := 150) hB e_W_isSound_145 (by decide) (fun c => ?_) (fun c => ?_)
                · have h := ip c h
                  refine a_ls [2, 3, 4, 5, 6, 7, 8, 9, 1, 0] (ls' := [(0, .ref 0), (1, .int l1), (2, .int l2), (3, .int l3), (4, .int l4), (5, .int l5), (6, .int l6), (7, .int l7), (8, .int r78), (9, .int r86)]) rfl ?_
                  exact t_W_isSound_150 hB hF hd hr69 hc69 (by omega) (by omega) h
                · have h := iq c h
                  refine a_ls [] (ls' := []) rfl ?_
                  exact t_W_isSound_148 hB hF hd (by omega) (by omega) h
set_option maxRecDepth 100000 in
theorem t_W_isSound {G : Gt} {B : Bag} {o : Int32} {M9 : Mm} (hB : BF G I_W_isSound B)  {φ : Ph} (hF : SF 138 φ) (hd : dirt φ = φ)    {M : Mm} (h : f_W_isSound M = some (o, M9)) : AW G I_W_isSound B (QM G I_W_isSound B (.inl (some (.int o))) M9 φ) 0 0 0 [(0, .ref 0)] [] M φ := by
  unfold f_W_isSound at h
  refine a_aload_n (j := 0) hB e_W_isSound_0 rfl rfl ?_
  obtain ⟨r1, hr1, h⟩ := bn_i h
  refine a_ret (v := (some (.int r1))) (M1 := M) (φ1 := φ) (st1 := [.int r1]) (j1 := 0) (j2 := 0) (ar_V (As := []) (rest := []) hB (c_C_legCount (bf_G hB) (sf_m hF (by decide)) hr1) ml_W_126 md_C_legCount rc_C_legCount (sf_lt hF (by decide)) kk_0 rfl rfl (Nat.le_of_ble_eq_true rfl) (rmL (c := 0) (s := 0) (K1 := 756) (K2 := 4536) (Nat.le_of_ble_eq_true rfl) (Nat.le_of_ble_eq_true rfl) (Nat.le_of_ble_eq_true rfl) (Nat.le_of_ble_eq_true rfl) rfl rfl rfl rfl) e_W_isSound_1) rfl rfl rfl ?_
  refine a_istore_n (ls' := [(1, .int r1), (0, .ref 0)]) hB e_W_isSound_4 rfl (Nat.le_of_ble_eq_true rfl) rfl ?_
  refine a_iconst (v := 0) hB e_W_isSound_5 ic_0 ?_
  refine a_istore_n (ls' := [(2, .int (0 : Int32)), (1, .int r1), (0, .ref 0)]) hB e_W_isSound_6 rfl (Nat.le_of_ble_eq_true rfl) rfl ?_
  refine a_iconst (v := 0) hB e_W_isSound_7 ic_0 ?_
  refine a_istore_n (ls' := [(3, .int (0 : Int32)), (2, .int (0 : Int32)), (1, .int r1), (0, .ref 0)]) hB e_W_isSound_8 rfl (Nat.le_of_ble_eq_true rfl) rfl ?_
  refine a_iconst (v := 0) hB e_W_isSound_9 ic_0 ?_
  refine a_istore (ls' := [(4, .int (0 : Int32)), (3, .int (0 : Int32)), (2, .int (0 : Int32)), (1, .int r1), (0, .ref 0)]) hB e_W_isSound_10 (Nat.le_of_ble_eq_true rfl) rfl ?_
  refine a_iconst (v := 0) hB e_W_isSound_12 ic_0 ?_
  refine a_istore (ls' := [(5, .int (0 : Int32)), (4, .int (0 : Int32)), (3, .int (0 : Int32)), (2, .int (0 : Int32)), (1, .int r1), (0, .ref 0)]) hB e_W_isSound_13 (Nat.le_of_ble_eq_true rfl) rfl ?_
  refine a_iconst (v := -1) hB e_W_isSound_15 ic_m1 ?_
  refine a_istore (ls' := [(6, .int (-1 : Int32)), (5, .int (0 : Int32)), (4, .int (0 : Int32)), (3, .int (0 : Int32)), (2, .int (0 : Int32)), (1, .int r1), (0, .ref 0)]) hB e_W_isSound_16 (Nat.le_of_ble_eq_true rfl) rfl ?_
  refine a_aload_n (j := 6) hB e_W_isSound_18 rfl rfl ?_
  obtain ⟨r19, hr19, h⟩ := bn_i h
  refine a_ret (v := (some (.int r19))) (M1 := M) (φ1 := φ) (st1 := [.int r19]) (j1 := 0) (j2 := 0) (ar_V (As := []) (rest := []) hB (c_C_stationCount (bf_G hB) (sf_m hF (by decide)) hr19) ml_W_129 md_C_stationCount rc_C_stationCount (sf_lt hF (by decide)) kk_0 rfl rfl (Nat.le_of_ble_eq_true rfl) (rmL (c := 0) (s := 0) (K1 := 756) (K2 := 4536) (Nat.le_of_ble_eq_true rfl) (Nat.le_of_ble_eq_true rfl) (Nat.le_of_ble_eq_true rfl) (Nat.le_of_ble_eq_true rfl) rfl rfl rfl rfl) e_W_isSound_19) rfl rfl rfl ?_
  refine a_iload_n (j := 5) hB e_W_isSound_22 rfl rfl ?_
  refine a_iconst (v := 1) hB e_W_isSound_23 ic_1 ?_
  refine a_iadd hB e_W_isSound_24 ?_
  refine a_icmp_ne (tgt := 64) hB e_W_isSound_25 (by decide) (fun c => ?_) (fun c => ?_)
  · have h := iq c h
    refine a_ls [] (ls' := []) rfl ?_
    exact t_W_isSound_64 hB hF hd (by omega) (by omega) h
  · have h := ip c h
    refine a_aload_n (j := 6) hB e_W_isSound_28 rfl rfl ?_
    refine a_iconst (v := 0) hB e_W_isSound_29 ic_0 ?_
    obtain ⟨r30, M30, hr30, h⟩ := bn2_i h
    refine a_ret (v := (some (.int r30))) (M1 := M30) (φ1 := φ) (st1 := [.int r30]) (j1 := 1) (j2 := 6) (ar_SX (As := [.ref 0, .int (0 : Int32)]) (rest := []) hB (c_W_rawEast (bf_G hB) hF hd hr30) ml_W_132 md_W_rawEast rfl rfl (Nat.le_of_ble_eq_true rfl) (rmL (c := 1) (s := 6) (K1 := 756) (K2 := 4536) (Nat.le_of_ble_eq_true rfl) (Nat.le_of_ble_eq_true rfl) (Nat.le_of_ble_eq_true rfl) (Nat.le_of_ble_eq_true rfl) rfl rfl rfl rfl) e_W_isSound_30) rfl rfl rfl ?_
    refine a_if_ne (tgt := 64) hB e_W_isSound_33 (by decide) (fun c => ?_) (fun c => ?_)
    · have h := iq c h
      refine a_ls [] (ls' := []) rfl ?_
      exact t_W_isSound_64 hB hF hd (by omega) (by omega) h
    · have h := ip c h
      refine a_aload_n (j := 6) hB e_W_isSound_36 rfl rfl ?_
      refine a_iconst (v := 0) hB e_W_isSound_37 ic_0 ?_
      obtain ⟨r38, M38, hr38, h⟩ := bn2_i h
      refine a_ret (v := (some (.int r38))) (M1 := M38) (φ1 := φ) (st1 := [.int r38]) (j1 := 2) (j2 := 12) (ar_SX (As := [.ref 0, .int (0 : Int32)]) (rest := []) hB (c_W_east (bf_G hB) hF hd hr38) ml_W_134 md_W_east rfl rfl (Nat.le_of_ble_eq_true rfl) (rmL (c := 1) (s := 6) (K1 := 756) (K2 := 4536) (Nat.le_of_ble_eq_true rfl) (Nat.le_of_ble_eq_true rfl) (Nat.le_of_ble_eq_true rfl) (Nat.le_of_ble_eq_true rfl) rfl rfl rfl rfl) e_W_isSound_38) rfl rfl rfl ?_
      refine a_if_ne (tgt := 64) hB e_W_isSound_41 (by decide) (fun c => ?_) (fun c => ?_)
      · have h := iq c h
        refine a_ls [] (ls' := []) rfl ?_
        exact t_W_isSound_64 hB hF hd (by omega) (by omega) h
      · have h := ip c h
        refine a_aload_n (j := 6) hB e_W_isSound_44 rfl rfl ?_
        refine a_iconst (v := 0) hB e_W_isSound_45 ic_0 ?_
        obtain ⟨r46, M46, hr46, h⟩ := bn2_i h
        refine a_ret (v := (some (.int r46))) (M1 := M46) (φ1 := φ) (st1 := [.int r46]) (j1 := 3) (j2 := 18) (ar_SX (As := [.ref 0, .int (0 : Int32)]) (rest := []) hB (c_W_run (bf_G hB) hF hd hr46) ml_W_136 md_W_run rfl rfl (Nat.le_of_ble_eq_true rfl) (rmL (c := 1) (s := 6) (K1 := 756) (K2 := 4536) (Nat.le_of_ble_eq_true rfl) (Nat.le_of_ble_eq_true rfl) (Nat.le_of_ble_eq_true rfl) (Nat.le_of_ble_eq_true rfl) rfl rfl rfl rfl) e_W_isSound_46) rfl rfl rfl ?_
        refine a_if_ne (tgt := 64) hB e_W_isSound_49 (by decide) (fun c => ?_) (fun c => ?_)
        · have h := iq c h
          refine a_ls [] (ls' := []) rfl ?_
          exact t_W_isSound_64 hB hF hd (by omega) (by omega) h
        · have h := ip c h
          refine a_aload_n (j := 6) hB e_W_isSound_52 rfl rfl ?_
          refine a_iload_n (j := 5) hB e_W_isSound_53 rfl rfl ?_
          refine a_iconst (v := 1) hB e_W_isSound_54 ic_1 ?_
          refine a_iadd hB e_W_isSound_55 ?_
          obtain ⟨r56, M56, hr56, h⟩ := bn2_i h
          refine a_ret (v := (some (.int r56))) (M1 := M56) (φ1 := φ) (st1 := [.int r56]) (j1 := 4) (j2 := 24) (ar_SX (As := [.ref 0, .int (r1 + (1 : Int32))]) (rest := []) hB (c_W_rawEast (bf_G hB) hF hd hr56) ml_W_132 md_W_rawEast rfl rfl (Nat.le_of_ble_eq_true rfl) (rmL (c := 1) (s := 6) (K1 := 756) (K2 := 4536) (Nat.le_of_ble_eq_true rfl) (Nat.le_of_ble_eq_true rfl) (Nat.le_of_ble_eq_true rfl) (Nat.le_of_ble_eq_true rfl) rfl rfl rfl rfl) e_W_isSound_56) rfl rfl rfl ?_
          refine a_ldc (v := -1000000017) hB cn_W_32 e_W_isSound_59 ?_
          refine a_icmp_eq (tgt := 66) hB e_W_isSound_61 (by decide) (fun c => ?_) (fun c => ?_)
          · have h := ip c h
            refine a_iconst (v := 0) hB e_W_isSound_66 ic_0 ?_
            refine a_istore (ls' := [(7, .int (0 : Int32)), (6, .int (-1 : Int32)), (5, .int (0 : Int32)), (4, .int (0 : Int32)), (3, .int (0 : Int32)), (2, .int (0 : Int32)), (1, .int r1), (0, .ref 0)]) hB e_W_isSound_67 (Nat.le_of_ble_eq_true rfl) rfl ?_
            refine a_ls [7, 6, 5, 4, 3, 2, 1, 0] (ls' := [(0, .ref 0), (1, .int r1), (2, .int (0 : Int32)), (3, .int (0 : Int32)), (4, .int (0 : Int32)), (5, .int (0 : Int32)), (6, .int (-1 : Int32)), (7, .int (0 : Int32))]) rfl ?_
            exact t_W_isSound_69 hB hF hd 22 _ _ _ _ _ _ _ _ _ _ (by omega) (by omega) h
          · have h := iq c h
            refine a_ls [] (ls' := []) rfl ?_
            exact t_W_isSound_64 hB hF hd (by omega) (by omega) h
set_option maxRecDepth 100000 in
theorem c_W_isSound {G : Gt} (hG : GOK G) {φ : Ph} (hF : SF 138 φ) (hd : dirt φ = φ) {M : Mm}  {o : Int32} {M9 : Mm} (h : f_W_isSound M = some (o, M9)) : CT G I_W_isSound [.ref 0] M φ (.inl (some (.int o))) M9 φ :=
  ct_of hG (by decide) (Nat.le_of_ble_eq_true rfl) (fun B hB => t_W_isSound hB hF hd h)
set_option maxRecDepth 100000 in
theorem t_W_acts_272 {G : Gt} {B : Bag} {o : Int32} {M9 : Mm} (hB : BF G I_W_acts B)  {φ : Ph} (hF : SF 138 φ) (hd : dirt φ = φ)   {k1 k2 : Nat}  (hk1 : k1 + (0) ≤ 46) (hk2 : k2 + 6 * (0) ≤ 276) {t0 : Int32} {M : Mm} (h : f_W_acts_272 t0 M = some (o, M9)) : AW G I_W_acts B (QM G I_W_acts B (.inl (some (.int o))) M9 φ) k1 k2 272 [] [.int t0] M φ := by
  unfold f_W_acts_272 at h
  obtain ⟨z272, h⟩ := chk_i h
  cases h
  exact a_zret hB rfl z272 e_W_acts_272 (le_K (K := 46) (by omega) rfl) (le_K (K := 276) (by omega) rfl)
set_option maxRecDepth 100000 in
theorem t_W_acts_271 {G : Gt} {B : Bag} {o : Int32} {M9 : Mm} (hB : BF G I_W_acts B)  {φ : Ph} (hF : SF 138 φ) (hd : dirt φ = φ)   {k1 k2 : Nat}  (hk1 : k1 + (0) ≤ 46) (hk2 : k2 + 6 * (0) ≤ 276)  {M : Mm} (h : f_W_acts_271 M = some (o, M9)) : AW G I_W_acts B (QM G I_W_acts B (.inl (some (.int o))) M9 φ) k1 k2 271 [] [] M φ := by
  unfold f_W_acts_271 at h
  refine a_iconst (v := 0) hB e_W_acts_271 ic_0 ?_
  exact t_W_acts_272 hB hF hd (by omega) (by omega) h
set_option maxRecDepth 100000 in
theorem t_W_acts_200 {G : Gt} {B : Bag} {o : Int32} {M9 : Mm} (hB : BF G I_W_acts B)  {φ : Ph} (hF : SF 138 φ) (hd : dirt φ = φ)   {k1 k2 : Nat}  (hk1 : k1 + (2) ≤ 46) (hk2 : k2 + 6 * (2) ≤ 276) {l2 : Int32} {M : Mm} (h : f_W_acts_200 l2 M = some (o, M9)) : AW G I_W_acts B (QM G I_W_acts B (.inl (some (.int o))) M9 φ) k1 k2 200 [(0, .ref 0), (1, .ref 1999), (2, .int l2)] [] M φ := by
  unfold f_W_acts_200 at h
  refine a_iconst (v := 1) hB e_W_acts_200 ic_1 ?_
  refine a_aload_n (j := 1) hB e_W_acts_201 rfl rfl ?_
  refine a_sipush (v := 300) hB e_W_acts_202 sp_300 ?_
  obtain ⟨r205, M205, hr205, h⟩ := bn2_i h
  refine a_ret (v := (some (.int r205))) (M1 := M205) (φ1 := φ) (st1 := [.int r205, .int (1 : Int32)]) (j1 := k1) (j2 := k2) (ar_S (As := [.ref 1999, .int (300 : Int32)]) (rest := [.int (1 : Int32)]) hB (c_W_draw (bf_G hB) (sf_m hF (by decide)) hr205) ml_W_217 md_W_draw rfl rfl (Nat.le_of_ble_eq_true rfl) (rmL (c := 0) (s := 0) (K1 := 46) (K2 := 276) (Nat.le_of_ble_eq_true rfl) (Nat.le_of_ble_eq_true rfl) (by omega) (by omega) rfl rfl rfl rfl) e_W_acts_205) rfl rfl rfl ?_
  refine a_iadd hB e_W_acts_208 ?_
  refine a_istore_n (ls' := [(3, .int ((1 : Int32) + r205)), (0, .ref 0), (1, .ref 1999), (2, .int l2)]) hB e_W_acts_209 rfl (Nat.le_of_ble_eq_true rfl) rfl ?_
  refine a_aload_n (j := 1) hB e_W_acts_210 rfl rfl ?_
  refine a_bipush (v := 15) hB e_W_acts_211 bp_15 ?_
  refine a_aload_n (j := 2) hB e_W_acts_213 rfl rfl ?_
  refine a_bipush (v := 24) hB e_W_acts_214 bp_24 ?_
  obtain ⟨r216, M216, hr216, h⟩ := bn2_i h
  refine a_ret (v := (some (.int r216))) (M1 := M216) (φ1 := φ) (st1 := [.int r216, .int (15 : Int32), .ref 0]) (j1 := k1) (j2 := k2) (ar_S (As := [.ref 1999, .int (24 : Int32)]) (rest := [.int (15 : Int32), .ref 0]) hB (c_W_draw (bf_G hB) (sf_m hF (by decide)) hr216) ml_W_217 md_W_draw rfl rfl (Nat.le_of_ble_eq_true rfl) (rmL (c := 0) (s := 0) (K1 := 46) (K2 := 276) (Nat.le_of_ble_eq_true rfl) (Nat.le_of_ble_eq_true rfl) (by omega) (by omega) rfl rfl rfl rfl) e_W_acts_216) rfl rfl rfl ?_
  refine a_imul hB e_W_acts_219 ?_
  refine a_iload_n (j := 0) hB e_W_acts_220 rfl rfl ?_
  obtain ⟨r221, M221, hr221, h⟩ := bn2_i h
  refine a_ret (v := (some (.int r221))) (M1 := M221) (φ1 := φ) (st1 := [.int r221]) (j1 := k1 + 1) (j2 := k2 + 6) (ar_SX (As := [.ref 0, .int ((15 : Int32) * r216), .int ((1 : Int32) + r205)]) (rest := []) hB (c_W_addBog (bf_G hB) hF hd hr221) ml_W_227 md_W_addBog rfl rfl (Nat.le_of_ble_eq_true rfl) (rmL (c := 1) (s := 6) (K1 := 46) (K2 := 276) (Nat.le_of_ble_eq_true rfl) (Nat.le_of_ble_eq_true rfl) (by omega) (by omega) rfl rfl rfl rfl) e_W_acts_221) rfl rfl rfl ?_
  refine a_istore (ls' := [(4, .int r221), (3, .int ((1 : Int32) + r205)), (0, .ref 0), (1, .ref 1999), (2, .int l2)]) hB e_W_acts_224 (Nat.le_of_ble_eq_true rfl) rfl ?_
  refine a_iload_n (j := 4) hB e_W_acts_226 rfl rfl ?_
  refine a_bipush (v := 20) hB e_W_acts_227 bp_20 ?_
  refine a_icmp_ne (tgt := 247) hB e_W_acts_229 (by decide) (fun c => ?_) (fun c => ?_)
  · have h := iq c h
    refine a_iload (j := 0) hB e_W_acts_247 rfl ?_
    refine a_iload_n (j := 4) hB e_W_acts_249 rfl rfl ?_
    refine a_icmp_ne (tgt := 271) hB e_W_acts_250 (by decide) (fun c => ?_) (fun c => ?_)
    · have h := iq c h
      refine a_ls [] (ls' := []) rfl ?_
      exact t_W_acts_271 hB hF hd (by omega) (by omega) h
    · have h := ip c h
      refine a_aload_n (j := 2) hB e_W_acts_253 rfl rfl ?_
      refine a_iload_n (j := 4) hB e_W_acts_254 rfl rfl ?_
      obtain ⟨r255, hr255, h⟩ := bn_i h
      refine a_ret (v := (some (.int r255))) (M1 := M221) (φ1 := φ) (st1 := [.int r255]) (j1 := k1 + 2) (j2 := k2 + 12) (ar_SX (As := [.ref 0, .int l2]) (rest := []) hB (c_W_readLength (bf_G hB) hF hd hr255) ml_W_146 md_W_readLength rfl rfl (Nat.le_of_ble_eq_true rfl) (rmL (c := 1) (s := 6) (K1 := 46) (K2 := 276) (Nat.le_of_ble_eq_true rfl) (Nat.le_of_ble_eq_true rfl) (by omega) (by omega) rfl rfl rfl rfl) e_W_acts_255) rfl rfl rfl ?_
      refine a_iload_n (j := 1) hB e_W_acts_258 rfl rfl ?_
      refine a_aload_n (j := 2) hB e_W_acts_259 rfl rfl ?_
      obtain ⟨r260, hr260, h⟩ := bn_i h
      refine a_ret (v := (some (.int r260))) (M1 := M221) (φ1 := φ) (st1 := [.int r260, .int ((1 : Int32) + r205), .int r255]) (j1 := k1 + 2) (j2 := k2 + 12) (ar_V (As := []) (rest := [.int ((1 : Int32) + r205), .int r255]) hB (c_C_pace (bf_G hB) (sf_m hF (by decide)) hr260) ml_W_229 md_C_pace rc_C_pace (sf_lt hF (by decide)) kk_0 rfl rfl (Nat.le_of_ble_eq_true rfl) (rmL (c := 0) (s := 0) (K1 := 46) (K2 := 276) (Nat.le_of_ble_eq_true rfl) (Nat.le_of_ble_eq_true rfl) (by omega) (by omega) rfl rfl rfl rfl) e_W_acts_260) rfl rfl rfl ?_
      refine a_imul hB e_W_acts_263 ?_
      refine a_icmp_ne (tgt := 271) hB e_W_acts_264 (by decide) (fun c => ?_) (fun c => ?_)
      · have h := iq c h
        refine a_ls [] (ls' := []) rfl ?_
        exact t_W_acts_271 hB hF hd (by omega) (by omega) h
      · have h := ip c h
        refine a_iconst (v := 1) hB e_W_acts_267 ic_1 ?_
        refine a_goto (tgt := 272) hB e_W_acts_268 (by decide) ?_
        refine a_ls [] (ls' := []) rfl ?_
        exact t_W_acts_272 hB hF hd (by omega) (by omega) h
  · have h := ip c h
    refine a_iload (j := 0) hB e_W_acts_232 rfl ?_
    refine a_ldc (v := -1000000019) hB cn_W_22 e_W_acts_234 ?_
    refine a_icmp_ne (tgt := 243) hB e_W_acts_236 (by decide) (fun c => ?_) (fun c => ?_)
    · have h := iq c h
      refine a_iconst (v := 0) hB e_W_acts_243 ic_0 ?_
      refine a_goto (tgt := 272) hB e_W_acts_244 (by decide) ?_
      refine a_ls [] (ls' := []) rfl ?_
      exact t_W_acts_272 hB hF hd (by omega) (by omega) h
    · have h := ip c h
      refine a_iconst (v := 1) hB e_W_acts_239 ic_1 ?_
      refine a_goto (tgt := 272) hB e_W_acts_240 (by decide) ?_
      refine a_ls [] (ls' := []) rfl ?_
      exact t_W_acts_272 hB hF hd (by omega) (by omega) h
set_option maxRecDepth 100000 in
theorem t_W_acts_292 {G : Gt} {B : Bag} {o : Int32} {M9 : Mm} (hB : BF G I_W_acts B)  {φ : Ph} (hF : SF 138 φ) (hd : dirt φ = φ)   {k1 k2 : Nat}  (hk1 : k1 + (0) ≤ 46) (hk2 : k2 + 6 * (0) ≤ 276) {t0 : Int32} {M : Mm} (h : f_W_acts_292 t0 M = some (o, M9)) : AW G I_W_acts B (QM G I_W_acts B (.inl (some (.int o))) M9 φ) k1 k2 292 [] [.int t0] M φ := by
  unfold f_W_acts_292 at h
  obtain ⟨z292, h⟩ := chk_i h
  cases h
  exact a_zret hB rfl z292 e_W_acts_292 (le_K (K := 46) (by omega) rfl) (le_K (K := 276) (by omega) rfl)
set_option maxRecDepth 100000 in
theorem t_W_acts_367 {G : Gt} {B : Bag} {o : Int32} {M9 : Mm} (hB : BF G I_W_acts B)  {φ : Ph} (hF : SF 138 φ) (hd : dirt φ = φ)   {k1 k2 : Nat}  (hk1 : k1 + (0) ≤ 46) (hk2 : k2 + 6 * (0) ≤ 276) {t0 : Int32} {M : Mm} (h : f_W_acts_367 t0 M = some (o, M9)) : AW G I_W_acts B (QM G I_W_acts B (.inl (some (.int o))) M9 φ) k1 k2 367 [] [.int t0] M φ := by
  unfold f_W_acts_367 at h
  obtain ⟨z367, h⟩ := chk_i h
  cases h
  exact a_zret hB rfl z367 e_W_acts_367 (le_K (K := 46) (by omega) rfl) (le_K (K := 276) (by omega) rfl)
set_option maxRecDepth 100000 in
theorem t_W_acts_366 {G : Gt} {B : Bag} {o : Int32} {M9 : Mm} (hB : BF G I_W_acts B)  {φ : Ph} (hF : SF 138 φ) (hd : dirt φ = φ)   {k1 k2 : Nat}  (hk1 : k1 + (0) ≤ 46) (hk2 : k2 + 6 * (0) ≤ 276)  {M : Mm} (h : f_W_acts_366 M = some (o, M9)) : AW G I_W_acts B (QM G I_W_acts B (.inl (some (.int o))) M9 φ) k1 k2 366 [] [] M φ := by
  unfold f_W_acts_366 at h
  refine a_iconst (v := 0) hB e_W_acts_366 ic_0 ?_
  exact t_W_acts_367 hB hF hd (by omega) (by omega) h
set_option maxRecDepth 100000 in
theorem t_W_acts_389 {G : Gt} {B : Bag} {o : Int32} {M9 : Mm} (hB : BF G I_W_acts B)  {φ : Ph} (hF : SF 138 φ) (hd : dirt φ = φ)   {k1 k2 : Nat}  (hk1 : k1 + (0) ≤ 46) (hk2 : k2 + 6 * (0) ≤ 276)  {M : Mm} (h : f_W_acts_389 M = some (o, M9)) : AW G I_W_acts B (QM G I_W_acts B (.inl (some (.int o))) M9 φ) k1 k2 389 [] [] M φ := by
  unfold f_W_acts_389 at h
  refine a_iconst (v := 0) hB e_W_acts_389 ic_0 ?_
  cases h
  exact a_zret hB rfl (Or.inl rfl) e_W_acts_390 (le_K (K := 46) (by omega) rfl) (le_K (K := 276) (by omega) rfl)
set_option maxRecDepth 100000 in
theorem t_W_acts_423 {G : Gt} {B : Bag} {o : Int32} {M9 : Mm} (hB : BF G I_W_acts B)  {φ : Ph} (hF : SF 138 φ) (hd : dirt φ = φ)   {k1 k2 : Nat}  (hk1 : k1 + (0) ≤ 46) (hk2 : k2 + 6 * (0) ≤ 276) {t0 : Int32} {M : Mm} (h : f_W_acts_423 t0 M = some (o, M9)) : AW G I_W_acts B (QM G I_W_acts B (.inl (some (.int o))) M9 φ) k1 k2 423 [] [.int t0] M φ := by
  unfold f_W_acts_423 at h
  obtain ⟨z423, h⟩ := chk_i h
  cases h
  exact a_zret hB rfl z423 e_W_acts_423 (le_K (K := 46) (by omega) rfl) (le_K (K := 276) (by omega) rfl)
set_option maxRecDepth 100000 in
theorem t_W_acts_418 {G : Gt} {B : Bag} {o : Int32} {M9 : Mm} (hB : BF G I_W_acts B)  {φ : Ph} (hF : SF 138 φ) (hd : dirt φ = φ)   {k1 k2 : Nat}  (hk1 : k1 + (0) ≤ 46) (hk2 : k2 + 6 * (0) ≤ 276)  {M : Mm} (h : f_W_acts_418 M = some (o, M9)) : AW G I_W_acts B (QM G I_W_acts B (.inl (some (.int o))) M9 φ) k1 k2 418 [] [] M φ := by
  unfold f_W_acts_418 at h
  refine a_iconst (v := 1) hB e_W_acts_418 ic_1 ?_
  refine a_goto (tgt := 423) hB e_W_acts_419 (by decide) ?_
  exact t_W_acts_423 hB hF hd (by omega) (by omega) h
set_option maxRecDepth 100000 in
theorem t_W_acts_422 {G : Gt} {B : Bag} {o : Int32} {M9 : Mm} (hB : BF G I_W_acts B)  {φ : Ph} (hF : SF 138 φ) (hd : dirt φ = φ)   {k1 k2 : Nat}  (hk1 : k1 + (0) ≤ 46) (hk2 : k2 + 6 * (0) ≤ 276)  {M : Mm} (h : f_W_acts_422 M = some (o, M9)) : AW G I_W_acts B (QM G I_W_acts B (.inl (some (.int o))) M9 φ) k1 k2 422 [] [] M φ := by
  unfold f_W_acts_422 at h
  refine a_iconst (v := 0) hB e_W_acts_422 ic_0 ?_
  exact t_W_acts_423 hB hF hd (by omega) (by omega) h
set_option maxRecDepth 100000 in
theorem t_W_acts_339 {G : Gt} {B : Bag} {o : Int32} {M9 : Mm} (hB : BF G I_W_acts B)  {φ : Ph} (hF : SF 138 φ) (hd : dirt φ = φ)   {k1 k2 : Nat}  (hk1 : k1 + (4) ≤ 46) (hk2 : k2 + 6 * (4) ≤ 276) {l3 : Int32} {l4 : Int32} {l5 : Int32} {l6 : Int32} {t0 : Int32} {M : Mm} (h : f_W_acts_339 l3 l4 l5 l6 t0 M = some (o, M9)) : AW G I_W_acts B (QM G I_W_acts B (.inl (some (.int o))) M9 φ) k1 k2 339 [(0, .ref 0), (1, .ref 1999), (3, .int l3), (4, .int l4), (5, .int l5), (6, .int l6)] [.int t0] M φ := by
  unfold f_W_acts_339 at h
  refine a_istore (ls' := [(7, .int t0), (0, .ref 0), (1, .ref 1999), (3, .int l3), (4, .int l4), (5, .int l5), (6, .int l6)]) hB e_W_acts_339 (Nat.le_of_ble_eq_true rfl) rfl ?_
  refine a_iload (j := 0) hB e_W_acts_341 rfl ?_
  refine a_if_ne (tgt := 368) hB e_W_acts_343 (by decide) (fun c => ?_) (fun c => ?_)
  · have h := iq c h
    refine a_aload_n (j := 1) hB e_W_acts_368 rfl rfl ?_
    refine a_iload_n (j := 3) hB e_W_acts_369 rfl rfl ?_
    obtain ⟨r370, M370, hr370, h⟩ := bn2_i h
    refine a_ret (v := (some (.int r370))) (M1 := M370) (φ1 := φ) (st1 := [.int r370]) (j1 := k1 + 2) (j2 := k2 + 12) (ar_SX (As := [.ref 0, .int l3]) (rest := []) hB (c_W_dropPin (bf_G hB) hF hd hr370) ml_W_232 md_W_dropPin rfl rfl (Nat.le_of_ble_eq_true rfl) (rmL (c := 2) (s := 12) (K1 := 46) (K2 := 276) (Nat.le_of_ble_eq_true rfl) (Nat.le_of_ble_eq_true rfl) (by omega) (by omega) rfl rfl rfl rfl) e_W_acts_370) rfl rfl rfl ?_
    refine a_iload (j := 5) hB e_W_acts_373 rfl ?_
    refine a_iconst (v := 1) hB e_W_acts_375 ic_1 ?_
    refine a_iadd hB e_W_acts_376 ?_
    refine a_icmp_ne (tgt := 389) hB e_W_acts_377 (by decide) (fun c => ?_) (fun c => ?_)
    · have h := iq c h
      refine a_ls [] (ls' := []) rfl ?_
      exact t_W_acts_389 hB hF hd (by omega) (by omega) h
    · have h := ip c h
      refine a_aload_n (j := 1) hB e_W_acts_380 rfl rfl ?_
      obtain ⟨r381, M381, hr381, h⟩ := bn2_i h
      refine a_ret (v := (some (.int r381))) (M1 := M381) (φ1 := φ) (st1 := [.int r381]) (j1 := k1 + 2) (j2 := k2 + 12) (ar_V (As := []) (rest := []) hB (c_C_misclosure (bf_G hB) (sf_m hF (by decide)) hr381) ml_W_175 md_C_misclosure rc_C_misclosure (sf_lt hF (by decide)) kk_0 rfl rfl (Nat.le_of_ble_eq_true rfl) (rmL (c := 0) (s := 0) (K1 := 46) (K2 := 276) (Nat.le_of_ble_eq_true rfl) (Nat.le_of_ble_eq_true rfl) (by omega) (by omega) rfl rfl rfl rfl) e_W_acts_381) rfl rfl rfl ?_
      refine a_iload (j := 4) hB e_W_acts_384 rfl ?_
      refine a_icmp_eq (tgt := 391) hB e_W_acts_386 (by decide) (fun c => ?_) (fun c => ?_)
      · have h := ip c h
        refine a_aload_n (j := 2) hB e_W_acts_391 rfl rfl ?_
        refine a_iconst (v := 2) hB e_W_acts_392 ic_2 ?_
        obtain ⟨r393, M393, hr393, h⟩ := bn2_i h
        refine a_ret (v := (some (.int r393))) (M1 := M393) (φ1 := φ) (st1 := [.int r393]) (j1 := k1 + 2) (j2 := k2 + 12) (ar_S (As := [.ref 1999, .int (2 : Int32)]) (rest := []) hB (c_W_draw (bf_G hB) (sf_m hF (by decide)) hr393) ml_W_217 md_W_draw rfl rfl (Nat.le_of_ble_eq_true rfl) (rmL (c := 0) (s := 0) (K1 := 46) (K2 := 276) (Nat.le_of_ble_eq_true rfl) (Nat.le_of_ble_eq_true rfl) (by omega) (by omega) rfl rfl rfl rfl) e_W_acts_393) rfl rfl rfl ?_
        refine a_if_eq (tgt := 418) hB e_W_acts_396 (by decide) (fun c => ?_) (fun c => ?_)
        · have h := ip c h
          refine a_ls [] (ls' := []) rfl ?_
          exact t_W_acts_418 hB hF hd (by omega) (by omega) h
        · have h := iq c h
          refine a_aload_n (j := 1) hB e_W_acts_399 rfl rfl ?_
          refine a_iload_n (j := 3) hB e_W_acts_400 rfl rfl ?_
          obtain ⟨r401, M401, hr401, h⟩ := bn2_i h
          refine a_ret (v := (some (.int r401))) (M1 := M401) (φ1 := φ) (st1 := [.int r401]) (j1 := k1 + 4) (j2 := k2 + 24) (ar_SX (As := [.ref 0, .int l3]) (rest := []) hB (c_W_findPin (bf_G hB) hF hd hr401) ml_W_236 md_W_findPin rfl rfl (Nat.le_of_ble_eq_true rfl) (rmL (c := 2) (s := 12) (K1 := 46) (K2 := 276) (Nat.le_of_ble_eq_true rfl) (Nat.le_of_ble_eq_true rfl) (by omega) (by omega) rfl rfl rfl rfl) e_W_acts_401) rfl rfl rfl ?_
          refine a_iload (j := 5) hB e_W_acts_404 rfl ?_
          refine a_icmp_ne (tgt := 422) hB e_W_acts_406 (by decide) (fun c => ?_) (fun c => ?_)
          · have h := iq c h
            refine a_ls [] (ls' := []) rfl ?_
            exact t_W_acts_422 hB hF hd (by omega) (by omega) h
          · have h := ip c h
            refine a_aload_n (j := 1) hB e_W_acts_409 rfl rfl ?_
            obtain ⟨r410, M410, hr410, h⟩ := bn2_i h
            refine a_ret (v := (some (.int r410))) (M1 := M410) (φ1 := φ) (st1 := [.int r410]) (j1 := k1 + 4) (j2 := k2 + 24) (ar_V (As := []) (rest := []) hB (c_C_misclosure (bf_G hB) (sf_m hF (by decide)) hr410) ml_W_175 md_C_misclosure rc_C_misclosure (sf_lt hF (by decide)) kk_0 rfl rfl (Nat.le_of_ble_eq_true rfl) (rmL (c := 0) (s := 0) (K1 := 46) (K2 := 276) (Nat.le_of_ble_eq_true rfl) (Nat.le_of_ble_eq_true rfl) (by omega) (by omega) rfl rfl rfl rfl) e_W_acts_410) rfl rfl rfl ?_
            refine a_iload (j := 6) hB e_W_acts_413 rfl ?_
            refine a_icmp_ne (tgt := 422) hB e_W_acts_415 (by decide) (fun c => ?_) (fun c => ?_)
            · have h := iq c h
              refine a_ls [] (ls' := []) rfl ?_
              exact t_W_acts_422 hB hF hd (by omega) (by omega) h
            · have h := ip c h
              refine a_ls [] (ls' := []) rfl ?_
              exact t_W_acts_418 hB hF hd (by omega) (by omega) h
      · have h := iq c h
        refine a_ls [] (ls' := []) rfl ?_
        exact t_W_acts_389 hB hF hd (by omega) (by omega) h
  · have h := ip c h
    refine a_iload (j := 4) hB e_W_acts_346 rfl ?_
    refine a_iconst (v := -1) hB e_W_acts_348 ic_m1 ?_
    refine a_icmp_ne (tgt := 366) hB e_W_acts_349 (by decide) (fun c => ?_) (fun c => ?_)
    · have h := iq c h
      refine a_ls [] (ls' := []) rfl ?_
      exact t_W_acts_366 hB hF hd (by omega) (by omega) h
    · have h := ip c h
      refine a_aload_n (j := 1) hB e_W_acts_352 rfl rfl ?_
      refine a_iload_n (j := 3) hB e_W_acts_353 rfl rfl ?_
      obtain ⟨r354, M354, hr354, h⟩ := bn2_i h
      refine a_ret (v := (some (.int r354))) (M1 := M354) (φ1 := φ) (st1 := [.int r354]) (j1 := k1 + 2) (j2 := k2 + 12) (ar_SX (As := [.ref 0, .int l3]) (rest := []) hB (c_W_dropPin (bf_G hB) hF hd hr354) ml_W_232 md_W_dropPin rfl rfl (Nat.le_of_ble_eq_true rfl) (rmL (c := 2) (s := 12) (K1 := 46) (K2 := 276) (Nat.le_of_ble_eq_true rfl) (Nat.le_of_ble_eq_true rfl) (by omega) (by omega) rfl rfl rfl rfl) e_W_acts_354) rfl rfl rfl ?_
      refine a_ldc (v := -1000000019) hB cn_W_22 e_W_acts_357 ?_
      refine a_icmp_ne (tgt := 366) hB e_W_acts_359 (by decide) (fun c => ?_) (fun c => ?_)
      · have h := iq c h
        refine a_ls [] (ls' := []) rfl ?_
        exact t_W_acts_366 hB hF hd (by omega) (by omega) h
      · have h := ip c h
        refine a_iconst (v := 1) hB e_W_acts_362 ic_1 ?_
        refine a_goto (tgt := 367) hB e_W_acts_363 (by decide) ?_
        refine a_ls [] (ls' := []) rfl ?_
        exact t_W_acts_367 hB hF hd (by omega) (by omega) h
set_option maxRecDepth 100000 in
theorem t_W_acts_338 {G : Gt} {B : Bag} {o : Int32} {M9 : Mm} (hB : BF G I_W_acts B)  {φ : Ph} (hF : SF 138 φ) (hd : dirt φ = φ)   {k1 k2 : Nat}  (hk1 : k1 + (4) ≤ 46) (hk2 : k2 + 6 * (4) ≤ 276) {l3 : Int32} {l4 : Int32} {l5 : Int32} {l6 : Int32} {M : Mm} (h : f_W_acts_338 l3 l4 l5 l6 M = some (o, M9)) : AW G I_W_acts B (QM G I_W_acts B (.inl (some (.int o))) M9 φ) k1 k2 338 [(0, .ref 0), (1, .ref 1999), (3, .int l3), (4, .int l4), (5, .int l5), (6, .int l6)] [] M φ := by
  unfold f_W_acts_338 at h
  refine a_iconst (v := 0) hB e_W_acts_338 ic_0 ?_
  exact t_W_acts_339 hB hF hd (by omega) (by omega) h
set_option maxRecDepth 100000 in
theorem t_W_acts_273 {G : Gt} {B : Bag} {o : Int32} {M9 : Mm} (hB : BF G I_W_acts B)  {φ : Ph} (hF : SF 138 φ) (hd : dirt φ = φ)   {k1 k2 : Nat}  (hk1 : k1 + (7) ≤ 46) (hk2 : k2 + 6 * (7) ≤ 276) {l2 : Int32} {M : Mm} (h : f_W_acts_273 l2 M = some (o, M9)) : AW G I_W_acts B (QM G I_W_acts B (.inl (some (.int o))) M9 φ) k1 k2 273 [(0, .ref 0), (1, .ref 1999), (2, .int l2)] [] M φ := by
  unfold f_W_acts_273 at h
  refine a_iload_n (j := 2) hB e_W_acts_273 rfl rfl ?_
  refine a_if_ne (tgt := 293) hB e_W_acts_274 (by decide) (fun c => ?_) (fun c => ?_)
  · have h := iq c h
    refine a_aload_n (j := 1) hB e_W_acts_293 rfl rfl ?_
    refine a_iload_n (j := 2) hB e_W_acts_294 rfl rfl ?_
    obtain ⟨r295, M295, hr295, h⟩ := bn2_i h
    refine a_ret (v := (some (.int r295))) (M1 := M295) (φ1 := φ) (st1 := [.int r295]) (j1 := k1) (j2 := k2) (ar_S (As := [.ref 1999, .int l2]) (rest := []) hB (c_W_draw (bf_G hB) (sf_m hF (by decide)) hr295) ml_W_217 md_W_draw rfl rfl (Nat.le_of_ble_eq_true rfl) (rmL (c := 0) (s := 0) (K1 := 46) (K2 := 276) (Nat.le_of_ble_eq_true rfl) (Nat.le_of_ble_eq_true rfl) (by omega) (by omega) rfl rfl rfl rfl) e_W_acts_295) rfl rfl rfl ?_
    refine a_istore_n (ls' := [(3, .int r295), (0, .ref 0), (1, .ref 1999), (2, .int l2)]) hB e_W_acts_298 rfl (Nat.le_of_ble_eq_true rfl) rfl ?_
    refine a_aload_n (j := 1) hB e_W_acts_299 rfl rfl ?_
    refine a_iload_n (j := 0) hB e_W_acts_300 rfl rfl ?_
    obtain ⟨r301, M301, hr301, h⟩ := bn2_i h
    refine a_ret (v := (some (.int r301))) (M1 := M301) (φ1 := φ) (st1 := [.int r301]) (j1 := k1 + 1) (j2 := k2 + 6) (ar_SX (As := [.ref 0, .int r295]) (rest := []) hB (c_W_misclosureIfDropped (bf_G hB) hF hd hr301) ml_W_234 md_W_misclosureIfDropped rfl rfl (Nat.le_of_ble_eq_true rfl) (rmL (c := 1) (s := 6) (K1 := 46) (K2 := 276) (Nat.le_of_ble_eq_true rfl) (Nat.le_of_ble_eq_true rfl) (by omega) (by omega) rfl rfl rfl rfl) e_W_acts_301) rfl rfl rfl ?_
    refine a_istore (ls' := [(4, .int r301), (3, .int r295), (0, .ref 0), (1, .ref 1999), (2, .int l2)]) hB e_W_acts_304 (Nat.le_of_ble_eq_true rfl) rfl ?_
    refine a_aload_n (j := 2) hB e_W_acts_306 rfl rfl ?_
    refine a_iload_n (j := 1) hB e_W_acts_307 rfl rfl ?_
    obtain ⟨r308, hr308, h⟩ := bn_i h
    refine a_ret (v := (some (.int r308))) (M1 := M301) (φ1 := φ) (st1 := [.int r308]) (j1 := k1 + 2) (j2 := k2 + 12) (ar_SX (As := [.ref 0, .int r295]) (rest := []) hB (c_W_droppedPins (bf_G hB) hF hd hr308) ml_W_156 md_W_droppedPins rfl rfl (Nat.le_of_ble_eq_true rfl) (rmL (c := 1) (s := 6) (K1 := 46) (K2 := 276) (Nat.le_of_ble_eq_true rfl) (Nat.le_of_ble_eq_true rfl) (by omega) (by omega) rfl rfl rfl rfl) e_W_acts_308) rfl rfl rfl ?_
    refine a_istore (ls' := [(5, .int r308), (4, .int r301), (3, .int r295), (0, .ref 0), (1, .ref 1999), (2, .int l2)]) hB e_W_acts_311 (Nat.le_of_ble_eq_true rfl) rfl ?_
    refine a_aload_n (j := 3) hB e_W_acts_313 rfl rfl ?_
    obtain ⟨r314, M314, hr314, h⟩ := bn2_i h
    refine a_ret (v := (some (.int r314))) (M1 := M314) (φ1 := φ) (st1 := [.int r314]) (j1 := k1 + 2) (j2 := k2 + 12) (ar_V (As := []) (rest := []) hB (c_C_misclosure (bf_G hB) (sf_m hF (by decide)) hr314) ml_W_175 md_C_misclosure rc_C_misclosure (sf_lt hF (by decide)) kk_0 rfl rfl (Nat.le_of_ble_eq_true rfl) (rmL (c := 0) (s := 0) (K1 := 46) (K2 := 276) (Nat.le_of_ble_eq_true rfl) (Nat.le_of_ble_eq_true rfl) (by omega) (by omega) rfl rfl rfl rfl) e_W_acts_314) rfl rfl rfl ?_
    refine a_istore (ls' := [(6, .int r314), (5, .int r308), (4, .int r301), (3, .int r295), (0, .ref 0), (1, .ref 1999), (2, .int l2)]) hB e_W_acts_317 (Nat.le_of_ble_eq_true rfl) rfl ?_
    refine a_aload_n (j := 4) hB e_W_acts_319 rfl rfl ?_
    refine a_iload_n (j := 3) hB e_W_acts_320 rfl rfl ?_
    obtain ⟨r321, hr321, h⟩ := bn_i h
    refine a_ret (v := (some (.int r321))) (M1 := M314) (φ1 := φ) (st1 := [.int r321]) (j1 := k1 + 3) (j2 := k2 + 18) (ar_SX (As := [.ref 0, .int r295]) (rest := []) hB (c_W_isBog (bf_G hB) hF hd hr321) ml_W_144 md_W_isBog rfl rfl (Nat.le_of_ble_eq_true rfl) (rmL (c := 1) (s := 6) (K1 := 46) (K2 := 276) (Nat.le_of_ble_eq_true rfl) (Nat.le_of_ble_eq_true rfl) (by omega) (by omega) rfl rfl rfl rfl) e_W_acts_321) rfl rfl rfl ?_
    refine a_if_ne (tgt := 338) hB e_W_acts_324 (by decide) (fun c => ?_) (fun c => ?_)
    · have h := iq c h
      refine a_ls [4, 5, 3, 2, 1, 0] (ls' := [(0, .ref 0), (1, .ref 1999), (3, .int r295), (4, .int r301), (5, .int r308), (6, .int r314)]) rfl ?_
      exact t_W_acts_338 hB hF hd (by omega) (by omega) h
    · have h := ip c h
      refine a_iload (j := 1) hB e_W_acts_327 rfl ?_
      refine a_bipush (v := 9) hB e_W_acts_329 bp_9 ?_
      refine a_icmp_ge (tgt := 338) hB e_W_acts_331 (by decide) (fun c => ?_) (fun c => ?_)
      · have h := ip c h
        refine a_ls [4, 5, 3, 2, 1, 0] (ls' := [(0, .ref 0), (1, .ref 1999), (3, .int r295), (4, .int r301), (5, .int r308), (6, .int r314)]) rfl ?_
        exact t_W_acts_338 hB hF hd (by omega) (by omega) h
      · have h := iq c h
        refine a_iconst (v := 1) hB e_W_acts_334 ic_1 ?_
        refine a_goto (tgt := 339) hB e_W_acts_335 (by decide) ?_
        refine a_ls [4, 5, 3, 2, 1, 0] (ls' := [(0, .ref 0), (1, .ref 1999), (3, .int r295), (4, .int r301), (5, .int r308), (6, .int r314)]) rfl ?_
        exact t_W_acts_339 hB hF hd (by omega) (by omega) h
  · have h := ip c h
    refine a_aload_n (j := 0) hB e_W_acts_277 rfl rfl ?_
    refine a_iconst (v := 0) hB e_W_acts_278 ic_0 ?_
    obtain ⟨r279, M279, hr279, h⟩ := bn2_i h
    refine a_ret (v := (some (.int r279))) (M1 := M279) (φ1 := φ) (st1 := [.int r279]) (j1 := k1 + 2) (j2 := k2 + 12) (ar_SX (As := [.ref 0, .int (0 : Int32)]) (rest := []) hB (c_W_dropPin (bf_G hB) hF hd hr279) ml_W_232 md_W_dropPin rfl rfl (Nat.le_of_ble_eq_true rfl) (rmL (c := 2) (s := 12) (K1 := 46) (K2 := 276) (Nat.le_of_ble_eq_true rfl) (Nat.le_of_ble_eq_true rfl) (by omega) (by omega) rfl rfl rfl rfl) e_W_acts_279) rfl rfl rfl ?_
    refine a_ldc (v := -1000000017) hB cn_W_32 e_W_acts_282 ?_
    refine a_icmp_ne (tgt := 291) hB e_W_acts_284 (by decide) (fun c => ?_) (fun c => ?_)
    · have h := iq c h
      refine a_iconst (v := 0) hB e_W_acts_291 ic_0 ?_
      refine a_ls [] (ls' := []) rfl ?_
      exact t_W_acts_292 hB hF hd (by omega) (by omega) h
    · have h := ip c h
      refine a_iconst (v := 1) hB e_W_acts_287 ic_1 ?_
      refine a_goto (tgt := 292) hB e_W_acts_288 (by decide) ?_
      refine a_ls [] (ls' := []) rfl ?_
      exact t_W_acts_292 hB hF hd (by omega) (by omega) h
set_option maxRecDepth 100000 in
theorem t_W_acts_479 {G : Gt} {B : Bag} {o : Int32} {M9 : Mm} (hB : BF G I_W_acts B)  {φ : Ph} (hF : SF 138 φ) (hd : dirt φ = φ)   {k1 k2 : Nat} {c : Nat} {r438 : Int32 → Int32 → Int32 → Int32 → Mm → Option (Int32 × Mm)} (hr438 : ∀ (k1 k2 : Nat) (l2 : Int32) (l3 : Int32) (l4 : Int32) (l5 : Int32) (M : Mm), k1 + c ≤ 46 → k2 + 6 * c ≤ 276 → r438 l2 l3 l4 l5 M = some (o, M9) → AW G I_W_acts B (QM G I_W_acts B (.inl (some (.int o))) M9 φ) k1 k2 438 [(0, .ref 0), (2, .int l2), (3, .int l3), (4, .int l4), (5, .int l5)] [] M φ) (hc438 : 2 ≤ c) (hk1 : k1 + (0 + c) ≤ 46) (hk2 : k2 + 6 * (0 + c) ≤ 276) {l2 : Int32} {l3 : Int32} {l4 : Int32} {l5 : Int32} {M : Mm} (h : f_W_acts_479 r438 l2 l3 l4 l5 M = some (o, M9)) : AW G I_W_acts B (QM G I_W_acts B (.inl (some (.int o))) M9 φ) k1 k2 479 [(0, .ref 0), (2, .int l2), (3, .int l3), (4, .int l4), (5, .int l5)] [] M φ := by
  unfold f_W_acts_479 at h
  refine a_iinc (j := 4) (v := l5 + 1) (ls' := [(5, .int (l5 + 1)), (0, .ref 0), (2, .int l2), (3, .int l3), (4, .int l4)]) hB e_W_acts_479 rfl (inc_1 _) (Nat.le_of_ble_eq_true rfl) rfl ?_
  refine a_goto (tgt := 438) hB e_W_acts_482 (by decide) ?_
  refine a_ls [1, 2, 3, 4, 0] (ls' := [(0, .ref 0), (2, .int l2), (3, .int l3), (4, .int l4), (5, .int (l5 + 1))]) rfl ?_
  exact hr438 _ _ _ _ _ _ _ (by omega) (by omega) h
set_option maxRecDepth 100000 in
theorem t_W_acts_474 {G : Gt} {B : Bag} {o : Int32} {M9 : Mm} (hB : BF G I_W_acts B)  {φ : Ph} (hF : SF 138 φ) (hd : dirt φ = φ)   {k1 k2 : Nat} {c : Nat} {r438 : Int32 → Int32 → Int32 → Int32 → Mm → Option (Int32 × Mm)} (hr438 : ∀ (k1 k2 : Nat) (l2 : Int32) (l3 : Int32) (l4 : Int32) (l5 : Int32) (M : Mm), k1 + c ≤ 46 → k2 + 6 * c ≤ 276 → r438 l2 l3 l4 l5 M = some (o, M9) → AW G I_W_acts B (QM G I_W_acts B (.inl (some (.int o))) M9 φ) k1 k2 438 [(0, .ref 0), (2, .int l2), (3, .int l3), (4, .int l4), (5, .int l5)] [] M φ) (hc438 : 2 ≤ c) (hk1 : k1 + (0 + c) ≤ 46) (hk2 : k2 + 6 * (0 + c) ≤ 276) {l2 : Int32} {l3 : Int32} {l4 : Int32} {l5 : Int32} {t0 : Int32} {t1 : Int32} {M : Mm} (h : f_W_acts_474 r438 l2 l3 l4 l5 t0 t1 M = some (o, M9)) : AW G I_W_acts B (QM G I_W_acts B (.inl (some (.int o))) M9 φ) k1 k2 474 [(0, .ref 0), (2, .int l2), (3, .int l3), (4, .int l4), (5, .int l5)] [.int t1, .int t0] M φ := by
  unfold f_W_acts_474 at h
  refine a_icmp_ge (tgt := 479) hB e_W_acts_474 (by decide) (fun c => ?_) (fun c => ?_)
  · have h := ip c h
    exact t_W_acts_479 hB hF hd hr438 hc438 (by omega) (by omega) h
  · have h := iq c h
    refine a_iconst (v := 0) hB e_W_acts_477 ic_0 ?_
    cases h
    exact a_zret hB rfl (Or.inl rfl) e_W_acts_478 (le_K (K := 46) (by omega) rfl) (le_K (K := 276) (by omega) rfl)
set_option maxRecDepth 100000 in
theorem t_W_acts_505 {G : Gt} {B : Bag} {o : Int32} {M9 : Mm} (hB : BF G I_W_acts B)  {φ : Ph} (hF : SF 138 φ) (hd : dirt φ = φ)   {k1 k2 : Nat}  (hk1 : k1 + (0) ≤ 46) (hk2 : k2 + 6 * (0) ≤ 276) {t0 : Int32} {M : Mm} (h : f_W_acts_505 t0 M = some (o, M9)) : AW G I_W_acts B (QM G I_W_acts B (.inl (some (.int o))) M9 φ) k1 k2 505 [] [.int t0] M φ := by
  unfold f_W_acts_505 at h
  obtain ⟨z505, h⟩ := chk_i h
  cases h
  exact a_zret hB rfl z505 e_W_acts_505 (le_K (K := 46) (by omega) rfl) (le_K (K := 276) (by omega) rfl)
set_option maxRecDepth 100000 in
theorem t_W_acts_500 {G : Gt} {B : Bag} {o : Int32} {M9 : Mm} (hB : BF G I_W_acts B)  {φ : Ph} (hF : SF 138 φ) (hd : dirt φ = φ)   {k1 k2 : Nat}  (hk1 : k1 + (0) ≤ 46) (hk2 : k2 + 6 * (0) ≤ 276)  {M : Mm} (h : f_W_acts_500 M = some (o, M9)) : AW G I_W_acts B (QM G I_W_acts B (.inl (some (.int o))) M9 φ) k1 k2 500 [] [] M φ := by
  unfold f_W_acts_500 at h
  refine a_iconst (v := 1) hB e_W_acts_500 ic_1 ?_
  refine a_goto (tgt := 505) hB e_W_acts_501 (by decide) ?_
  exact t_W_acts_505 hB hF hd (by omega) (by omega) h
set_option maxRecDepth 100000 in
theorem t_W_acts_438 {G : Gt} {B : Bag} {o : Int32} {M9 : Mm} (hB : BF G I_W_acts B)  {φ : Ph} (hF : SF 138 φ) (hd : dirt φ = φ)   : ∀ (n k1 k2 : Nat) (l2 : Int32) (l3 : Int32) (l4 : Int32) (l5 : Int32) (M : Mm), k1 + (n * 2 + 2) ≤ 46 → k2 + 6 * (n * 2 + 2) ≤ 276 → f_W_acts_438 n l2 l3 l4 l5 M = some (o, M9) → AW G I_W_acts B (QM G I_W_acts B (.inl (some (.int o))) M9 φ) k1 k2 438 [(0, .ref 0), (2, .int l2), (3, .int l3), (4, .int l4), (5, .int l5)] [] M φ := by
  intro n
  induction n with
  | zero => intro k1 k2 l2 l3 l4 l5 M hk1 hk2 h; cases h
  | succ n hr438 =>
    intro k1 k2 l2 l3 l4 l5 M hk1 hk2 h
    have hr438 : ∀ (k1 k2 : Nat) (l2 : Int32) (l3 : Int32) (l4 : Int32) (l5 : Int32) (M : Mm), k1 + (n * 2 + 2) ≤ 46 → k2 + 6 * (n * 2 + 2) ≤ 276 → f_W_acts_438 n l2 l3 l4 l5 M = some (o, M9) → AW G I_W_acts B (QM G I_W_acts B (.inl (some (.int o))) M9 φ) k1 k2 438 [(0, .ref 0), (2, .int l2), (3, .int l3), (4, .int l4), (5, .int l5)] [] M φ := fun a b => hr438 a b
    have hc438 : 2 ≤ n * 2 + 2 := Nat.le_add_left _ _
    rw [f_W_acts_438] at h
    refine a_iload (j := 4) hB e_W_acts_438 rfl ?_
    refine a_iload_n (j := 1) hB e_W_acts_440 rfl rfl ?_
    refine a_icmp_ge (tgt := 485) hB e_W_acts_441 (by decide) (fun c => ?_) (fun c => ?_)
    · have h := ip c h
      refine a_iload_n (j := 2) hB e_W_acts_485 rfl rfl ?_
      refine a_iconst (v := -1) hB e_W_acts_486 ic_m1 ?_
      refine a_icmp_eq (tgt := 500) hB e_W_acts_487 (by decide) (fun c => ?_) (fun c => ?_)
      · have h := ip c h
        refine a_ls [] (ls' := []) rfl ?_
        exact t_W_acts_500 hB hF hd (by omega) (by omega) h
      · have h := iq c h
        refine a_aload_n (j := 0) hB e_W_acts_490 rfl rfl ?_
        refine a_iload_n (j := 2) hB e_W_acts_491 rfl rfl ?_
        obtain ⟨r492, M492, hr492, h⟩ := bn2_i h
        refine a_ret (v := (some (.int r492))) (M1 := M492) (φ1 := φ) (st1 := [.int r492]) (j1 := k1 + 1) (j2 := k2 + 6) (ar_SX (As := [.ref 0, .int l3]) (rest := []) hB (c_W_misclosureIfDropped (bf_G hB) hF hd hr492) ml_W_234 md_W_misclosureIfDropped rfl rfl (Nat.le_of_ble_eq_true rfl) (rmL (c := 1) (s := 6) (K1 := 46) (K2 := 276) (Nat.le_of_ble_eq_true rfl) (Nat.le_of_ble_eq_true rfl) (by omega) (by omega) rfl rfl rfl rfl) e_W_acts_492) rfl rfl rfl ?_
        refine a_iload (j := 3) hB e_W_acts_495 rfl ?_
        refine a_icmp_ge (tgt := 504) hB e_W_acts_497 (by decide) (fun c => ?_) (fun c => ?_)
        · have h := ip c h
          refine a_iconst (v := 0) hB e_W_acts_504 ic_0 ?_
          refine a_ls [] (ls' := []) rfl ?_
          exact t_W_acts_505 hB hF hd (by omega) (by omega) h
        · have h := iq c h
          refine a_ls [] (ls' := []) rfl ?_
          exact t_W_acts_500 hB hF hd (by omega) (by omega) h
    · have h := iq c h
      refine a_aload_n (j := 0) hB e_W_acts_444 rfl rfl ?_
      refine a_iload (j := 4) hB e_W_acts_445 rfl ?_
      obtain ⟨r447, M447, hr447, h⟩ := bn2_i h
      refine a_ret (v := (some (.int r447))) (M1 := M447) (φ1 := φ) (st1 := [.int r447]) (j1 := k1 + 1) (j2 := k2 + 6) (ar_SX (As := [.ref 0, .int l5]) (rest := []) hB (c_W_misclosureIfDropped (bf_G hB) hF hd hr447) ml_W_234 md_W_misclosureIfDropped rfl rfl (Nat.le_of_ble_eq_true rfl) (rmL (c := 1) (s := 6) (K1 := 46) (K2 := 276) (Nat.le_of_ble_eq_true rfl) (Nat.le_of_ble_eq_true rfl) (by omega) (by omega) rfl rfl rfl rfl) e_W_acts_447) rfl rfl rfl ?_
      refine a_istore (ls' := [(6, .int r447), (0, .ref 0), (2, .int l2), (3, .int l3), (4, .int l4), (5, .int l5)]) hB e_W_acts_450 (Nat.le_of_ble_eq_true rfl) rfl ?_
      refine a_iload (j := 0) hB e_W_acts_452 rfl ?_
      refine a_if_lt (tgt := 479) hB e_W_acts_454 (by decide) (fun c => ?_) (fun c => ?_)
      · have h := ip c h
        refine a_ls [1, 2, 3, 4, 5] (ls' := [(0, .ref 0), (2, .int l2), (3, .int l3), (4, .int l4), (5, .int l5)]) rfl ?_
        exact t_W_acts_479 hB hF hd hr438 hc438 (by omega) (by omega) h
      · have h := iq c h
        refine a_iload (j := 0) hB e_W_acts_457 rfl ?_
        refine a_iload_n (j := 3) hB e_W_acts_459 rfl rfl ?_
        refine a_iconst (v := -1) hB e_W_acts_460 ic_m1 ?_
        refine a_icmp_ne (tgt := 469) hB e_W_acts_461 (by decide) (fun c => ?_) (fun c => ?_)
        · have h := iq c h
          refine a_aload_n (j := 1) hB e_W_acts_469 rfl rfl ?_
          refine a_iload_n (j := 3) hB e_W_acts_470 rfl rfl ?_
          obtain ⟨r471, M471, hr471, h⟩ := bn2_i h
          refine a_ret (v := (some (.int r471))) (M1 := M471) (φ1 := φ) (st1 := [.int r471, .int r447]) (j1 := k1 + 2) (j2 := k2 + 12) (ar_SX (As := [.ref 0, .int l3]) (rest := [.int r447]) hB (c_W_misclosureIfDropped (bf_G hB) hF hd hr471) ml_W_234 md_W_misclosureIfDropped rfl rfl (Nat.le_of_ble_eq_true rfl) (rmL (c := 1) (s := 6) (K1 := 46) (K2 := 276) (Nat.le_of_ble_eq_true rfl) (Nat.le_of_ble_eq_true rfl) (by omega) (by omega) rfl rfl rfl rfl) e_W_acts_471) rfl rfl rfl ?_
          refine a_ls [1, 2, 3, 4, 5] (ls' := [(0, .ref 0), (2, .int l2), (3, .int l3), (4, .int l4), (5, .int l5)]) rfl ?_
          exact t_W_acts_474 hB hF hd hr438 hc438 (by omega) (by omega) h
        · have h := ip c h
          refine a_iload (j := 4) hB e_W_acts_464 rfl ?_
          refine a_goto (tgt := 474) hB e_W_acts_466 (by decide) ?_
          refine a_ls [1, 2, 3, 4, 5] (ls' := [(0, .ref 0), (2, .int l2), (3, .int l3), (4, .int l4), (5, .int l5)]) rfl ?_
          exact t_W_acts_474 hB hF hd hr438 hc438 (by omega) (by omega) h
set_option maxRecDepth 100000 in
theorem t_W_acts_424 {G : Gt} {B : Bag} {o : Int32} {M9 : Mm} (hB : BF G I_W_acts B)  {φ : Ph} (hF : SF 138 φ) (hd : dirt φ = φ)   {k1 k2 : Nat}  (hk1 : k1 + (46) ≤ 46) (hk2 : k2 + 6 * (46) ≤ 276) {l2 : Int32} {M : Mm} (h : f_W_acts_424 l2 M = some (o, M9)) : AW G I_W_acts B (QM G I_W_acts B (.inl (some (.int o))) M9 φ) k1 k2 424 [(0, .ref 0), (2, .int l2)] [] M φ := by
  unfold f_W_acts_424 at h
  refine a_aload_n (j := 0) hB e_W_acts_424 rfl rfl ?_
  obtain ⟨r425, M425, hr425, h⟩ := bn2_i h
  refine a_ret (v := (some (.int r425))) (M1 := M425) (φ1 := φ) (st1 := [.int r425]) (j1 := k1) (j2 := k2) (ar_V (As := []) (rest := []) hB (c_C_suspectLeg (bf_G hB) (sf_m hF (by decide)) hr425) ml_W_238 md_C_suspectLeg rc_C_suspectLeg (sf_lt hF (by decide)) kk_0 rfl rfl (Nat.le_of_ble_eq_true rfl) (rmL (c := 0) (s := 0) (K1 := 46) (K2 := 276) (Nat.le_of_ble_eq_true rfl) (Nat.le_of_ble_eq_true rfl) (by omega) (by omega) rfl rfl rfl rfl) e_W_acts_425) rfl rfl rfl ?_
  refine a_istore_n (ls' := [(3, .int r425), (0, .ref 0), (2, .int l2)]) hB e_W_acts_428 rfl (Nat.le_of_ble_eq_true rfl) rfl ?_
  refine a_aload_n (j := 1) hB e_W_acts_429 rfl rfl ?_
  obtain ⟨r430, M430, hr430, h⟩ := bn2_i h
  refine a_ret (v := (some (.int r430))) (M1 := M430) (φ1 := φ) (st1 := [.int r430]) (j1 := k1) (j2 := k2) (ar_V (As := []) (rest := []) hB (c_C_misclosure (bf_G hB) (sf_m hF (by decide)) hr430) ml_W_175 md_C_misclosure rc_C_misclosure (sf_lt hF (by decide)) kk_0 rfl rfl (Nat.le_of_ble_eq_true rfl) (rmL (c := 0) (s := 0) (K1 := 46) (K2 := 276) (Nat.le_of_ble_eq_true rfl) (Nat.le_of_ble_eq_true rfl) (by omega) (by omega) rfl rfl rfl rfl) e_W_acts_430) rfl rfl rfl ?_
  refine a_istore (ls' := [(4, .int r430), (3, .int r425), (0, .ref 0), (2, .int l2)]) hB e_W_acts_433 (Nat.le_of_ble_eq_true rfl) rfl ?_
  refine a_iconst (v := 0) hB e_W_acts_435 ic_0 ?_
  refine a_istore (ls' := [(5, .int (0 : Int32)), (4, .int r430), (3, .int r425), (0, .ref 0), (2, .int l2)]) hB e_W_acts_436 (Nat.le_of_ble_eq_true rfl) rfl ?_
  refine a_ls [3, 4, 2, 1, 0] (ls' := [(0, .ref 0), (2, .int l2), (3, .int r425), (4, .int r430), (5, .int (0 : Int32))]) rfl ?_
  exact t_W_acts_438 hB hF hd 22 _ _ _ _ _ _ _ (by omega) (by omega) h
set_option maxRecDepth 100000 in
theorem t_W_acts_540 {G : Gt} {B : Bag} {o : Int32} {M9 : Mm} (hB : BF G I_W_acts B)  {φ : Ph} (hF : SF 138 φ) (hd : dirt φ = φ)   {k1 k2 : Nat}  (hk1 : k1 + (0) ≤ 46) (hk2 : k2 + 6 * (0) ≤ 276) {t0 : Int32} {M : Mm} (h : f_W_acts_540 t0 M = some (o, M9)) : AW G I_W_acts B (QM G I_W_acts B (.inl (some (.int o))) M9 φ) k1 k2 540 [] [.int t0] M φ := by
  unfold f_W_acts_540 at h
  obtain ⟨z540, h⟩ := chk_i h
  cases h
  exact a_zret hB rfl z540 e_W_acts_540 (le_K (K := 46) (by omega) rfl) (le_K (K := 276) (by omega) rfl)
set_option maxRecDepth 100000 in
theorem t_W_acts_560 {G : Gt} {B : Bag} {o : Int32} {M9 : Mm} (hB : BF G I_W_acts B)  {φ : Ph} (hF : SF 138 φ) (hd : dirt φ = φ)   {k1 k2 : Nat}  (hk1 : k1 + (0) ≤ 46) (hk2 : k2 + 6 * (0) ≤ 276)  {M : Mm} (h : f_W_acts_560 M = some (o, M9)) : AW G I_W_acts B (QM G I_W_acts B (.inl (some (.int o))) M9 φ) k1 k2 560 [] [] M φ := by
  unfold f_W_acts_560 at h
  refine a_iconst (v := 0) hB e_W_acts_560 ic_0 ?_
  cases h
  exact a_zret hB rfl (Or.inl rfl) e_W_acts_561 (le_K (K := 46) (by omega) rfl) (le_K (K := 276) (by omega) rfl)
set_option maxRecDepth 100000 in
theorem t_W_acts_619 {G : Gt} {B : Bag} {o : Int32} {M9 : Mm} (hB : BF G I_W_acts B)  {φ : Ph} (hF : SF 138 φ) (hd : dirt φ = φ)   {k1 k2 : Nat}  (hk1 : k1 + (0) ≤ 46) (hk2 : k2 + 6 * (0) ≤ 276) {t0 : Int32} {M : Mm} (h : f_W_acts_619 t0 M = some (o, M9)) : AW G I_W_acts B (QM G I_W_acts B (.inl (some (.int o))) M9 φ) k1 k2 619 [] [.int t0] M φ := by
  unfold f_W_acts_619 at h
  obtain ⟨z619, h⟩ := chk_i h
  cases h
  exact a_zret hB rfl z619 e_W_acts_619 (le_K (K := 46) (by omega) rfl) (le_K (K := 276) (by omega) rfl)
set_option maxRecDepth 100000 in
theorem t_W_acts_614 {G : Gt} {B : Bag} {o : Int32} {M9 : Mm} (hB : BF G I_W_acts B)  {φ : Ph} (hF : SF 138 φ) (hd : dirt φ = φ)   {k1 k2 : Nat}  (hk1 : k1 + (0) ≤ 46) (hk2 : k2 + 6 * (0) ≤ 276)  {M : Mm} (h : f_W_acts_614 M = some (o, M9)) : AW G I_W_acts B (QM G I_W_acts B (.inl (some (.int o))) M9 φ) k1 k2 614 [] [] M φ := by
  unfold f_W_acts_614 at h
  refine a_iconst (v := 1) hB e_W_acts_614 ic_1 ?_
  refine a_goto (tgt := 619) hB e_W_acts_615 (by decide) ?_
  exact t_W_acts_619 hB hF hd (by omega) (by omega) h
set_option maxRecDepth 100000 in
theorem t_W_acts_618 {G : Gt} {B : Bag} {o : Int32} {M9 : Mm} (hB : BF G I_W_acts B)  {φ : Ph} (hF : SF 138 φ) (hd : dirt φ = φ)   {k1 k2 : Nat}  (hk1 : k1 + (0) ≤ 46) (hk2 : k2 + 6 * (0) ≤ 276)  {M : Mm} (h : f_W_acts_618 M = some (o, M9)) : AW G I_W_acts B (QM G I_W_acts B (.inl (some (.int o))) M9 φ) k1 k2 618 [] [] M φ := by
  unfold f_W_acts_618 at h
  refine a_iconst (v := 0) hB e_W_acts_618 ic_0 ?_
  exact t_W_acts_619 hB hF hd (by omega) (by omega) h
set_option maxRecDepth 100000 in
theorem t_W_acts_506 {G : Gt} {B : Bag} {o : Int32} {M9 : Mm} (hB : BF G I_W_acts B)  {φ : Ph} (hF : SF 138 φ) (hd : dirt φ = φ)   {k1 k2 : Nat}  (hk1 : k1 + (2) ≤ 46) (hk2 : k2 + 6 * (2) ≤ 276)  {M : Mm} (h : f_W_acts_506 M = some (o, M9)) : AW G I_W_acts B (QM G I_W_acts B (.inl (some (.int o))) M9 φ) k1 k2 506 [(0, .ref 0), (1, .ref 1999)] [] M φ := by
  unfold f_W_acts_506 at h
  refine a_aload_n (j := 0) hB e_W_acts_506 rfl rfl ?_
  obtain ⟨r507, hr507, h⟩ := bn_i h
  refine a_ret (v := (some (.int r507))) (M1 := M) (φ1 := φ) (st1 := [.int r507]) (j1 := k1) (j2 := k2) (ar_V (As := []) (rest := []) hB (c_C_bestPace (bf_G hB) (sf_m hF (by decide)) hr507) ml_W_241 md_C_bestPace rc_C_bestPace (sf_lt hF (by decide)) kk_0 rfl rfl (Nat.le_of_ble_eq_true rfl) (rmL (c := 0) (s := 0) (K1 := 46) (K2 := 276) (Nat.le_of_ble_eq_true rfl) (Nat.le_of_ble_eq_true rfl) (by omega) (by omega) rfl rfl rfl rfl) e_W_acts_507) rfl rfl rfl ?_
  refine a_istore_n (ls' := [(3, .int r507), (0, .ref 0), (1, .ref 1999)]) hB e_W_acts_510 rfl (Nat.le_of_ble_eq_true rfl) rfl ?_
  refine a_aload_n (j := 1) hB e_W_acts_511 rfl rfl ?_
  obtain ⟨r512, hr512, h⟩ := bn_i h
  refine a_ret (v := (some (.int r512))) (M1 := M) (φ1 := φ) (st1 := [.int r512]) (j1 := k1) (j2 := k2) (ar_V (As := []) (rest := []) hB (c_C_pace (bf_G hB) (sf_m hF (by decide)) hr512) ml_W_229 md_C_pace rc_C_pace (sf_lt hF (by decide)) kk_0 rfl rfl (Nat.le_of_ble_eq_true rfl) (rmL (c := 0) (s := 0) (K1 := 46) (K2 := 276) (Nat.le_of_ble_eq_true rfl) (Nat.le_of_ble_eq_true rfl) (by omega) (by omega) rfl rfl rfl rfl) e_W_acts_512) rfl rfl rfl ?_
  refine a_istore (ls' := [(4, .int r512), (3, .int r507), (0, .ref 0), (1, .ref 1999)]) hB e_W_acts_515 (Nat.le_of_ble_eq_true rfl) rfl ?_
  refine a_aload_n (j := 2) hB e_W_acts_517 rfl rfl ?_
  obtain ⟨r518, M518, hr518, h⟩ := bn2_i h
  refine a_ret (v := (some (.int r518))) (M1 := M518) (φ1 := φ) (st1 := [.int r518]) (j1 := k1) (j2 := k2) (ar_V (As := []) (rest := []) hB (c_C_misclosure (bf_G hB) (sf_m hF (by decide)) hr518) ml_W_175 md_C_misclosure rc_C_misclosure (sf_lt hF (by decide)) kk_0 rfl rfl (Nat.le_of_ble_eq_true rfl) (rmL (c := 0) (s := 0) (K1 := 46) (K2 := 276) (Nat.le_of_ble_eq_true rfl) (Nat.le_of_ble_eq_true rfl) (by omega) (by omega) rfl rfl rfl rfl) e_W_acts_518) rfl rfl rfl ?_
  refine a_istore (ls' := [(5, .int r518), (4, .int r512), (3, .int r507), (0, .ref 0), (1, .ref 1999)]) hB e_W_acts_521 (Nat.le_of_ble_eq_true rfl) rfl ?_
  refine a_iload_n (j := 2) hB e_W_acts_523 rfl rfl ?_
  refine a_iconst (v := -1) hB e_W_acts_524 ic_m1 ?_
  refine a_icmp_ne (tgt := 541) hB e_W_acts_525 (by decide) (fun c => ?_) (fun c => ?_)
  · have h := iq c h
    refine a_aload_n (j := 3) hB e_W_acts_541 rfl rfl ?_
    refine a_iload_n (j := 2) hB e_W_acts_542 rfl rfl ?_
    obtain ⟨r543, M543, hr543, h⟩ := bn2_i h
    refine a_ret (v := (some (.int r543))) (M1 := M543) (φ1 := φ) (st1 := [.int r543]) (j1 := k1 + 1) (j2 := k2 + 6) (ar_SX (As := [.ref 0, .int r507]) (rest := []) hB (c_W_setPace (bf_G hB) hF hd hr543) ml_W_244 md_W_setPace rfl rfl (Nat.le_of_ble_eq_true rfl) (rmL (c := 1) (s := 6) (K1 := 46) (K2 := 276) (Nat.le_of_ble_eq_true rfl) (Nat.le_of_ble_eq_true rfl) (by omega) (by omega) rfl rfl rfl rfl) e_W_acts_543) rfl rfl rfl ?_
    refine a_iload (j := 1) hB e_W_acts_546 rfl ?_
    refine a_icmp_ne (tgt := 560) hB e_W_acts_548 (by decide) (fun c => ?_) (fun c => ?_)
    · have h := iq c h
      refine a_ls [] (ls' := []) rfl ?_
      exact t_W_acts_560 hB hF hd (by omega) (by omega) h
    · have h := ip c h
      refine a_aload_n (j := 3) hB e_W_acts_551 rfl rfl ?_
      obtain ⟨r552, M552, hr552, h⟩ := bn2_i h
      refine a_ret (v := (some (.int r552))) (M1 := M552) (φ1 := φ) (st1 := [.int r552]) (j1 := k1 + 1) (j2 := k2 + 6) (ar_V (As := []) (rest := []) hB (c_C_misclosure (bf_G hB) (sf_m hF (by decide)) hr552) ml_W_175 md_C_misclosure rc_C_misclosure (sf_lt hF (by decide)) kk_0 rfl rfl (Nat.le_of_ble_eq_true rfl) (rmL (c := 0) (s := 0) (K1 := 46) (K2 := 276) (Nat.le_of_ble_eq_true rfl) (Nat.le_of_ble_eq_true rfl) (by omega) (by omega) rfl rfl rfl rfl) e_W_acts_552) rfl rfl rfl ?_
      refine a_iload (j := 0) hB e_W_acts_555 rfl ?_
      refine a_icmp_le (tgt := 562) hB e_W_acts_557 (by decide) (fun c => ?_) (fun c => ?_)
      · have h := ip c h
        refine a_aload_n (j := 3) hB e_W_acts_562 rfl rfl ?_
        obtain ⟨r563, M563, hr563, h⟩ := bn2_i h
        refine a_ret (v := (some (.int r563))) (M1 := M563) (φ1 := φ) (st1 := [.int r563]) (j1 := k1 + 1) (j2 := k2 + 6) (ar_V (As := []) (rest := []) hB (c_C_misclosure (bf_G hB) (sf_m hF (by decide)) hr563) ml_W_175 md_C_misclosure rc_C_misclosure (sf_lt hF (by decide)) kk_0 rfl rfl (Nat.le_of_ble_eq_true rfl) (rmL (c := 0) (s := 0) (K1 := 46) (K2 := 276) (Nat.le_of_ble_eq_true rfl) (Nat.le_of_ble_eq_true rfl) (by omega) (by omega) rfl rfl rfl rfl) e_W_acts_563) rfl rfl rfl ?_
        refine a_istore (ls' := [(6, .int r563), (5, .int r518), (4, .int r512), (3, .int r507), (0, .ref 0), (1, .ref 1999)]) hB e_W_acts_566 (Nat.le_of_ble_eq_true rfl) rfl ?_
        refine a_bipush (v := 100) hB e_W_acts_568 bp_100 ?_
        refine a_aload_n (j := 5) hB e_W_acts_570 rfl rfl ?_
        refine a_sipush (v := 900) hB e_W_acts_571 sp_900 ?_
        obtain ⟨r574, M574, hr574, h⟩ := bn2_i h
        refine a_ret (v := (some (.int r574))) (M1 := M574) (φ1 := φ) (st1 := [.int r574, .int (100 : Int32)]) (j1 := k1 + 1) (j2 := k2 + 6) (ar_S (As := [.ref 1999, .int (900 : Int32)]) (rest := [.int (100 : Int32)]) hB (c_W_draw (bf_G hB) (sf_m hF (by decide)) hr574) ml_W_217 md_W_draw rfl rfl (Nat.le_of_ble_eq_true rfl) (rmL (c := 0) (s := 0) (K1 := 46) (K2 := 276) (Nat.le_of_ble_eq_true rfl) (Nat.le_of_ble_eq_true rfl) (by omega) (by omega) rfl rfl rfl rfl) e_W_acts_574) rfl rfl rfl ?_
        refine a_iadd hB e_W_acts_577 ?_
        refine a_istore (ls' := [(7, .int ((100 : Int32) + r574)), (6, .int r563), (5, .int r518), (4, .int r512), (3, .int r507), (0, .ref 0), (1, .ref 1999)]) hB e_W_acts_578 (Nat.le_of_ble_eq_true rfl) rfl ?_
        refine a_aload_n (j := 5) hB e_W_acts_580 rfl rfl ?_
        refine a_iload (j := 0) hB e_W_acts_581 rfl ?_
        obtain ⟨r583, M583, hr583, h⟩ := bn2_i h
        refine a_ret (v := (some (.int r583))) (M1 := M583) (φ1 := φ) (st1 := [.int r583]) (j1 := k1 + 2) (j2 := k2 + 12) (ar_SX (As := [.ref 0, .int ((100 : Int32) + r574)]) (rest := []) hB (c_W_setPace (bf_G hB) hF hd hr583) ml_W_244 md_W_setPace rfl rfl (Nat.le_of_ble_eq_true rfl) (rmL (c := 1) (s := 6) (K1 := 46) (K2 := 276) (Nat.le_of_ble_eq_true rfl) (Nat.le_of_ble_eq_true rfl) (by omega) (by omega) rfl rfl rfl rfl) e_W_acts_583) rfl rfl rfl ?_
        refine a_iload_n (j := 4) hB e_W_acts_586 rfl rfl ?_
        refine a_icmp_ne (tgt := 618) hB e_W_acts_587 (by decide) (fun c => ?_) (fun c => ?_)
        · have h := iq c h
          refine a_ls [] (ls' := []) rfl ?_
          exact t_W_acts_618 hB hF hd (by omega) (by omega) h
        · have h := ip c h
          refine a_aload_n (j := 5) hB e_W_acts_590 rfl rfl ?_
          obtain ⟨r591, M591, hr591, h⟩ := bn2_i h
          refine a_ret (v := (some (.int r591))) (M1 := M591) (φ1 := φ) (st1 := [.int r591]) (j1 := k1 + 2) (j2 := k2 + 12) (ar_V (As := []) (rest := []) hB (c_C_misclosure (bf_G hB) (sf_m hF (by decide)) hr591) ml_W_175 md_C_misclosure rc_C_misclosure (sf_lt hF (by decide)) kk_0 rfl rfl (Nat.le_of_ble_eq_true rfl) (rmL (c := 0) (s := 0) (K1 := 46) (K2 := 276) (Nat.le_of_ble_eq_true rfl) (Nat.le_of_ble_eq_true rfl) (by omega) (by omega) rfl rfl rfl rfl) e_W_acts_591) rfl rfl rfl ?_
          refine a_iload (j := 1) hB e_W_acts_594 rfl ?_
          refine a_icmp_gt (tgt := 614) hB e_W_acts_596 (by decide) (fun c => ?_) (fun c => ?_)
          · have h := ip c h
            refine a_ls [] (ls' := []) rfl ?_
            exact t_W_acts_614 hB hF hd (by omega) (by omega) h
          · have h := iq c h
            refine a_aload_n (j := 5) hB e_W_acts_599 rfl rfl ?_
            obtain ⟨r600, M600, hr600, h⟩ := bn2_i h
            refine a_ret (v := (some (.int r600))) (M1 := M600) (φ1 := φ) (st1 := [.int r600]) (j1 := k1 + 2) (j2 := k2 + 12) (ar_V (As := []) (rest := []) hB (c_C_misclosure (bf_G hB) (sf_m hF (by decide)) hr600) ml_W_175 md_C_misclosure rc_C_misclosure (sf_lt hF (by decide)) kk_0 rfl rfl (Nat.le_of_ble_eq_true rfl) (rmL (c := 0) (s := 0) (K1 := 46) (K2 := 276) (Nat.le_of_ble_eq_true rfl) (Nat.le_of_ble_eq_true rfl) (by omega) (by omega) rfl rfl rfl rfl) e_W_acts_600) rfl rfl rfl ?_
            refine a_iload (j := 1) hB e_W_acts_603 rfl ?_
            refine a_icmp_ne (tgt := 618) hB e_W_acts_605 (by decide) (fun c => ?_) (fun c => ?_)
            · have h := iq c h
              refine a_ls [] (ls' := []) rfl ?_
              exact t_W_acts_618 hB hF hd (by omega) (by omega) h
            · have h := ip c h
              refine a_iload (j := 0) hB e_W_acts_608 rfl ?_
              refine a_iload_n (j := 4) hB e_W_acts_610 rfl rfl ?_
              refine a_icmp_lt (tgt := 618) hB e_W_acts_611 (by decide) (fun c => ?_) (fun c => ?_)
              · have h := ip c h
                refine a_ls [] (ls' := []) rfl ?_
                exact t_W_acts_618 hB hF hd (by omega) (by omega) h
              · have h := iq c h
                refine a_ls [] (ls' := []) rfl ?_
                exact t_W_acts_614 hB hF hd (by omega) (by omega) h
      · have h := iq c h
        refine a_ls [] (ls' := []) rfl ?_
        exact t_W_acts_560 hB hF hd (by omega) (by omega) h
  · have h := ip c h
    refine a_aload_n (j := 3) hB e_W_acts_528 rfl rfl ?_
    obtain ⟨r529, hr529, h⟩ := bn_i h
    refine a_ret (v := (some (.int r529))) (M1 := M518) (φ1 := φ) (st1 := [.int r529]) (j1 := k1) (j2 := k2) (ar_V (As := []) (rest := []) hB (c_C_bogLength (bf_G hB) (sf_m hF (by decide)) hr529) ml_W_190 md_C_bogLength rc_C_bogLength (sf_lt hF (by decide)) kk_0 rfl rfl (Nat.le_of_ble_eq_true rfl) (rmL (c := 0) (s := 0) (K1 := 46) (K2 := 276) (Nat.le_of_ble_eq_true rfl) (Nat.le_of_ble_eq_true rfl) (by omega) (by omega) rfl rfl rfl rfl) e_W_acts_529) rfl rfl rfl ?_
    refine a_if_ne (tgt := 539) hB e_W_acts_532 (by decide) (fun c => ?_) (fun c => ?_)
    · have h := iq c h
      refine a_iconst (v := 0) hB e_W_acts_539 ic_0 ?_
      refine a_ls [] (ls' := []) rfl ?_
      exact t_W_acts_540 hB hF hd (by omega) (by omega) h
    · have h := ip c h
      refine a_iconst (v := 1) hB e_W_acts_535 ic_1 ?_
      refine a_goto (tgt := 540) hB e_W_acts_536 (by decide) ?_
      refine a_ls [] (ls' := []) rfl ?_
      exact t_W_acts_540 hB hF hd (by omega) (by omega) h
