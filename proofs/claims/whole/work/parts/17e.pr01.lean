/-! the law -/
set_option maxRecDepth 100000 in
theorem t_W_law_1693 {G : Gt} {nm : String} {hh : List (Nat × Nat × Nat × Nat)} {B : Bag} {L : Nat} {xs : Nat → Int32} {Qm : State → Prop} {M9 : Mm} (hB : BF G (I_W_law nm hh) B) (hend : ∀ (k1 k2 pc : Nat) (ls : List (Nat × Value)) (M : Mm) (φ : Ph), decode (mB (I_W_law nm hh)) pc = .ok (.ireturn, 1) → k1 ≤ 601024 → k2 ≤ 7293034 → AW G (I_W_law nm hh) B Qm k1 k2 pc ls [.int 1] M φ) (hn : gN G = L) (hx : gX G = xs) {φ : Ph} (hF : SF 149 φ) {k1 k2 : Nat} {n : Nat} {r23 : Int32 → Mm → Option (Int32 × Mm)}  (hk1 : k1 + 4 * (n) ≤ 601024) (hk2 : k2 + 24 * (n) ≤ 7293034) (hr23 : ∀ (k1 k2 : Nat) (φ : Ph), SF 149 φ → k1 + 4 * n ≤ 601024 → k2 + 24 * n ≤ 7293034 → ∀ (l4 : Int32) (M : Mm), r23 l4 M = some (1, M9) → AW G (I_W_law nm hh) B Qm k1 k2 23 [(0, .ref 2000), (1, .ref 0), (2, .ref 134), (3, .ref 148), (4, .int l4)] [] M φ) {l4 : Int32} {M : Mm} (h : f_W_law_1693 L xs r23 l4 M = some (1, M9)) : AW G (I_W_law nm hh) B Qm k1 k2 1693 [(0, .ref 2000), (1, .ref 0), (2, .ref 134), (3, .ref 148), (4, .int l4)] [] M φ := by
  unfold f_W_law_1693 at h
  refine a_goto (tgt := 2537) hB e_W_law_1693 (by decide) ?_
  exact t_W_law_2537 hB hend hn hx hF (by omega) (by omega) hr23 h
set_option maxRecDepth 100000 in
theorem t_W_law_1640 {G : Gt} {nm : String} {hh : List (Nat × Nat × Nat × Nat)} {B : Bag} {L : Nat} {xs : Nat → Int32} {Qm : State → Prop} {M9 : Mm} (hB : BF G (I_W_law nm hh) B) (hend : ∀ (k1 k2 pc : Nat) (ls : List (Nat × Value)) (M : Mm) (φ : Ph), decode (mB (I_W_law nm hh)) pc = .ok (.ireturn, 1) → k1 ≤ 601024 → k2 ≤ 7293034 → AW G (I_W_law nm hh) B Qm k1 k2 pc ls [.int 1] M φ) (hn : gN G = L) (hx : gX G = xs) {φ : Ph} (hF : SF 149 φ) {k1 k2 : Nat} {n : Nat} {r23 : Int32 → Mm → Option (Int32 × Mm)}  (hk1 : k1 + 4 * (n + 1) ≤ 601024) (hk2 : k2 + 24 * (n + 1) ≤ 7293034) (hr23 : ∀ (k1 k2 : Nat) (φ : Ph), SF 149 φ → k1 + 4 * n ≤ 601024 → k2 + 24 * n ≤ 7293034 → ∀ (l4 : Int32) (M : Mm), r23 l4 M = some (1, M9) → AW G (I_W_law nm hh) B Qm k1 k2 23 [(0, .ref 2000), (1, .ref 0), (2, .ref 134), (3, .ref 148), (4, .int l4)] [] M φ) {l4 : Int32} {M : Mm} (h : f_W_law_1640 L xs r23 l4 M = some (1, M9)) : AW G (I_W_law nm hh) B Qm k1 k2 1640 [(0, .ref 2000), (1, .ref 0), (2, .ref 134), (3, .ref 148), (4, .int l4)] [] M φ := by
  unfold f_W_law_1640 at h
  refine a_aload_n (j := 1) hB e_W_law_1640 rfl rfl ?_
  refine a_aload_n (j := 0) hB e_W_law_1641 rfl rfl ?_
  refine a_iload (j := 4) hB e_W_law_1642 rfl ?_
  refine a_iconst (v := 1) hB e_W_law_1644 ic_1 ?_
  refine a_iadd hB e_W_law_1645 ?_
  obtain ⟨c1646, h⟩ := chk_i h
  refine a_sld' hB hn hx c1646 e_W_law_1646 ?_
  refine a_aload_n (j := 3) hB e_W_law_1647 rfl rfl ?_
  obtain ⟨r1648, M1648, hr1648, h⟩ := bn2_i h
  obtain ⟨φ1648, hφ1648⟩ : ∃ q, pK r1648 φ = q := ⟨_, rfl⟩
  have hF0 := hF
  refine a_ret (v := (some (.int r1648))) (M1 := M1648) (φ1 := φ1648) (st1 := [.int r1648]) (j1 := k1 + 1) (j2 := k2 + 6) (ar_SX (As := [.ref 0, .int (xs (ix (l4 + (1 : Int32)))), .ref 148]) (rest := []) hB (c_W_tallies (bf_G hB) hF hφ1648 hr1648) ml_W_227 md_W_tallies rfl rfl (Nat.le_of_ble_eq_true rfl) (rmL (c := 1) (s := 6) (by decide) (by decide) (by omega) (by omega) rfl rfl) e_W_law_1648) rfl rfl rfl ?_
  have hF : SF 149 φ1648 := by rw [← hφ1648]; exact sf_K hF0 _
  refine a_istore (ls' := [(5, .int r1648), (0, .ref 2000), (1, .ref 0), (2, .ref 134), (3, .ref 148), (4, .int l4)]) hB e_W_law_1651 (Nat.le_of_ble_eq_true rfl) rfl ?_
  refine a_aload_n (j := 3) hB e_W_law_1653 rfl rfl ?_
  refine a_aload_n (j := 1) hB e_W_law_1654 rfl rfl ?_
  refine a_iload (j := 5) hB e_W_law_1655 rfl ?_
  refine a_iconst (v := 1) hB e_W_law_1657 ic_1 ?_
  refine a_iadd hB e_W_law_1658 ?_
  refine a_sld' hB hn hx c1646 e_W_law_1659 ?_
  obtain ⟨r1660, M1660, hr1660, h⟩ := bn2_i h
  refine a_ret (v := (some (.int r1660))) (M1 := M1660) (φ1 := φ1648) (st1 := [.int r1660]) (j1 := k1 + 1) (j2 := k2 + 6) (ar_V (As := [.int (xs (ix (l4 + (1 : Int32))))]) (rest := []) hB (c_M_tallies (bf_G hB) (sf_m hF (by decide)) hr1660) ml_W_229 md_M_tallies rc_M_tallies (sf_lt hF (by decide)) kk_134 rfl rfl (Nat.le_of_ble_eq_true rfl) (rmL (c := 0) (s := 0) (by decide) (by decide) (by omega) (by omega) rfl rfl) e_W_law_1660) rfl rfl rfl ?_
  refine a_istore (ls' := [(6, .int r1660), (5, .int r1648), (0, .ref 2000), (1, .ref 0), (2, .ref 134), (3, .ref 148), (4, .int l4)]) hB e_W_law_1663 (Nat.le_of_ble_eq_true rfl) rfl ?_
  refine a_aload_n (j := 4) hB e_W_law_1665 rfl rfl ?_
  obtain ⟨r1666, hr1666, h⟩ := bn_i h
  refine a_ret (v := (some (.int r1666))) (M1 := M1660) (φ1 := φ1648) (st1 := [.int r1666]) (j1 := k1 + 1) (j2 := k2 + 6) (ar_V (As := []) (rest := []) hB (c_M_thrown (bf_G hB) (sf_m hF (by decide)) hr1666) ml_W_121 md_M_thrown rc_M_thrown (sf_lt hF (by decide)) kk_134 rfl rfl (Nat.le_of_ble_eq_true rfl) (rmL (c := 0) (s := 0) (by decide) (by decide) (by omega) (by omega) rfl rfl) e_W_law_1666) rfl rfl rfl ?_
  refine a_iload (j := 1) hB e_W_law_1669 rfl ?_
  refine a_icmp_eq (tgt := 1676) hB e_W_law_1671 (by decide) (fun c => ?_) (fun c => ?_)
  · have h := ip c h
    refine a_iload (j := 1) hB e_W_law_1676 rfl ?_
    refine a_if_ne (tgt := 1693) hB e_W_law_1678 (by decide) (fun c => ?_) (fun c => ?_)
    · have h := iq c h
      refine a_ls [2, 3, 4, 5, 6] (ls' := [(0, .ref 2000), (1, .ref 0), (2, .ref 134), (3, .ref 148), (4, .int l4)]) rfl ?_
      exact t_W_law_1693 hB hend hn hx hF (by omega) (by omega) hr23 h
    · have h := ip c h
      refine a_aload_n (j := 5) hB e_W_law_1681 rfl rfl ?_
      refine a_iconst (v := 0) hB e_W_law_1682 ic_0 ?_
      refine a_lald hB e_W_law_1683 (sf_lt hF (by decide)) kk_148 (by decide) ?_
      refine a_iload (j := 0) hB e_W_law_1684 rfl ?_
      refine a_i2l hB e_W_law_1686 ?_
      refine a_lcmp hB e_W_law_1687 ?_
      refine a_if_eq (tgt := 1693) hB e_W_law_1688 (by decide) (fun c => ?_) (fun c => ?_)
      · have h := ip c h
        refine a_ls [2, 3, 4, 5, 6] (ls' := [(0, .ref 2000), (1, .ref 0), (2, .ref 134), (3, .ref 148), (4, .int l4)]) rfl ?_
        exact t_W_law_1693 hB hend hn hx hF (by omega) (by omega) hr23 h
      · have h := iq c h
        refine a_iconst (v := 0) hB e_W_law_1691 ic_0 ?_
        exact (no01 h).elim
  · have h := iq c h
    refine a_iconst (v := 0) hB e_W_law_1674 ic_0 ?_
    exact (no01 h).elim
set_option maxRecDepth 100000 in
theorem t_W_law_1756 {G : Gt} {nm : String} {hh : List (Nat × Nat × Nat × Nat)} {B : Bag} {L : Nat} {xs : Nat → Int32} {Qm : State → Prop} {M9 : Mm} (hB : BF G (I_W_law nm hh) B) (hend : ∀ (k1 k2 pc : Nat) (ls : List (Nat × Value)) (M : Mm) (φ : Ph), decode (mB (I_W_law nm hh)) pc = .ok (.ireturn, 1) → k1 ≤ 601024 → k2 ≤ 7293034 → AW G (I_W_law nm hh) B Qm k1 k2 pc ls [.int 1] M φ) (hn : gN G = L) (hx : gX G = xs) {φ : Ph} (hF : SF 149 φ) {k1 k2 : Nat} {n : Nat} {r23 : Int32 → Mm → Option (Int32 × Mm)}  (hk1 : k1 + 4 * (n) ≤ 601024) (hk2 : k2 + 24 * (n) ≤ 7293034) (hr23 : ∀ (k1 k2 : Nat) (φ : Ph), SF 149 φ → k1 + 4 * n ≤ 601024 → k2 + 24 * n ≤ 7293034 → ∀ (l4 : Int32) (M : Mm), r23 l4 M = some (1, M9) → AW G (I_W_law nm hh) B Qm k1 k2 23 [(0, .ref 2000), (1, .ref 0), (2, .ref 134), (3, .ref 148), (4, .int l4)] [] M φ) {l4 : Int32} {M : Mm} (h : f_W_law_1756 L xs r23 l4 M = some (1, M9)) : AW G (I_W_law nm hh) B Qm k1 k2 1756 [(0, .ref 2000), (1, .ref 0), (2, .ref 134), (3, .ref 148), (4, .int l4)] [] M φ := by
  unfold f_W_law_1756 at h
  refine a_goto (tgt := 2537) hB e_W_law_1756 (by decide) ?_
  exact t_W_law_2537 hB hend hn hx hF (by omega) (by omega) hr23 h
set_option maxRecDepth 100000 in
theorem t_W_law_1750 {G : Gt} {nm : String} {hh : List (Nat × Nat × Nat × Nat)} {B : Bag} {L : Nat} {xs : Nat → Int32} {Qm : State → Prop} {M9 : Mm} (hB : BF G (I_W_law nm hh) B) (hend : ∀ (k1 k2 pc : Nat) (ls : List (Nat × Value)) (M : Mm) (φ : Ph), decode (mB (I_W_law nm hh)) pc = .ok (.ireturn, 1) → k1 ≤ 601024 → k2 ≤ 7293034 → AW G (I_W_law nm hh) B Qm k1 k2 pc ls [.int 1] M φ) (hn : gN G = L) (hx : gX G = xs) {φ : Ph} (hF : SF 149 φ) {k1 k2 : Nat} {n : Nat} {r23 : Int32 → Mm → Option (Int32 × Mm)}  (hk1 : k1 + 4 * (n) ≤ 601024) (hk2 : k2 + 24 * (n) ≤ 7293034) (hr23 : ∀ (k1 k2 : Nat) (φ : Ph), SF 149 φ → k1 + 4 * n ≤ 601024 → k2 + 24 * n ≤ 7293034 → ∀ (l4 : Int32) (M : Mm), r23 l4 M = some (1, M9) → AW G (I_W_law nm hh) B Qm k1 k2 23 [(0, .ref 2000), (1, .ref 0), (2, .ref 134), (3, .ref 148), (4, .int l4)] [] M φ) {l4 : Int32} {t0 : Int64} {t1 : Int64} {M : Mm} (h : f_W_law_1750 L xs r23 l4 t0 t1 M = some (1, M9)) : AW G (I_W_law nm hh) B Qm k1 k2 1750 [(0, .ref 2000), (1, .ref 0), (2, .ref 134), (3, .ref 148), (4, .int l4)] [.long t1, .long t0] M φ := by
  unfold f_W_law_1750 at h
  refine a_lcmp hB e_W_law_1750 ?_
  refine a_if_eq (tgt := 1756) hB e_W_law_1751 (by decide) (fun c => ?_) (fun c => ?_)
  · have h := ip c h
    exact t_W_law_1756 hB hend hn hx hF (by omega) (by omega) hr23 h
  · have h := iq c h
    refine a_iconst (v := 0) hB e_W_law_1754 ic_0 ?_
    exact (no01 h).elim
set_option maxRecDepth 100000 in
theorem t_W_law_1696 {G : Gt} {nm : String} {hh : List (Nat × Nat × Nat × Nat)} {B : Bag} {L : Nat} {xs : Nat → Int32} {Qm : State → Prop} {M9 : Mm} (hB : BF G (I_W_law nm hh) B) (hend : ∀ (k1 k2 pc : Nat) (ls : List (Nat × Value)) (M : Mm) (φ : Ph), decode (mB (I_W_law nm hh)) pc = .ok (.ireturn, 1) → k1 ≤ 601024 → k2 ≤ 7293034 → AW G (I_W_law nm hh) B Qm k1 k2 pc ls [.int 1] M φ) (hn : gN G = L) (hx : gX G = xs) {φ : Ph} (hF : SF 149 φ) {k1 k2 : Nat} {n : Nat} {r23 : Int32 → Mm → Option (Int32 × Mm)}  (hk1 : k1 + 4 * (n + 1) ≤ 601024) (hk2 : k2 + 24 * (n + 1) ≤ 7293034) (hr23 : ∀ (k1 k2 : Nat) (φ : Ph), SF 149 φ → k1 + 4 * n ≤ 601024 → k2 + 24 * n ≤ 7293034 → ∀ (l4 : Int32) (M : Mm), r23 l4 M = some (1, M9) → AW G (I_W_law nm hh) B Qm k1 k2 23 [(0, .ref 2000), (1, .ref 0), (2, .ref 134), (3, .ref 148), (4, .int l4)] [] M φ) {l4 : Int32} {M : Mm} (h : f_W_law_1696 L xs r23 l4 M = some (1, M9)) : AW G (I_W_law nm hh) B Qm k1 k2 1696 [(0, .ref 2000), (1, .ref 0), (2, .ref 134), (3, .ref 148), (4, .int l4)] [] M φ := by
  unfold f_W_law_1696 at h
  refine a_aload_n (j := 1) hB e_W_law_1696 rfl rfl ?_
  refine a_aload_n (j := 0) hB e_W_law_1697 rfl rfl ?_
  refine a_iload (j := 4) hB e_W_law_1698 rfl ?_
  refine a_iconst (v := 1) hB e_W_law_1700 ic_1 ?_
  refine a_iadd hB e_W_law_1701 ?_
  obtain ⟨c1702, h⟩ := chk_i h
  refine a_sld' hB hn hx c1702 e_W_law_1702 ?_
  refine a_aload_n (j := 3) hB e_W_law_1703 rfl rfl ?_
  obtain ⟨r1704, M1704, hr1704, h⟩ := bn2_i h
  obtain ⟨φ1704, hφ1704⟩ : ∃ q, pK r1704 φ = q := ⟨_, rfl⟩
  have hF0 := hF
  refine a_ret (v := (some (.int r1704))) (M1 := M1704) (φ1 := φ1704) (st1 := [.int r1704]) (j1 := k1 + 1) (j2 := k2 + 6) (ar_SX (As := [.ref 0, .int (xs (ix (l4 + (1 : Int32)))), .ref 148]) (rest := []) hB (c_W_isBog (bf_G hB) hF hφ1704 hr1704) ml_W_230 md_W_isBog rfl rfl (Nat.le_of_ble_eq_true rfl) (rmL (c := 1) (s := 6) (by decide) (by decide) (by omega) (by omega) rfl rfl) e_W_law_1704) rfl rfl rfl ?_
  have hF : SF 149 φ1704 := by rw [← hφ1704]; exact sf_K hF0 _
  refine a_istore (ls' := [(5, .int r1704), (0, .ref 2000), (1, .ref 0), (2, .ref 134), (3, .ref 148), (4, .int l4)]) hB e_W_law_1707 (Nat.le_of_ble_eq_true rfl) rfl ?_
  refine a_aload_n (j := 3) hB e_W_law_1709 rfl rfl ?_
  refine a_aload_n (j := 1) hB e_W_law_1710 rfl rfl ?_
  refine a_iload (j := 5) hB e_W_law_1711 rfl ?_
  refine a_iconst (v := 1) hB e_W_law_1713 ic_1 ?_
  refine a_iadd hB e_W_law_1714 ?_
  refine a_sld' hB hn hx c1702 e_W_law_1715 ?_
  obtain ⟨r1716, M1716, hr1716, h⟩ := bn2_i h
  refine a_ret (v := (some (.int r1716))) (M1 := M1716) (φ1 := φ1704) (st1 := [.int r1716]) (j1 := k1 + 1) (j2 := k2 + 6) (ar_V (As := [.int (xs (ix (l4 + (1 : Int32))))]) (rest := []) hB (c_M_isBog (bf_G hB) (sf_m hF (by decide)) hr1716) ml_W_232 md_M_isBog rc_M_isBog (sf_lt hF (by decide)) kk_134 rfl rfl (Nat.le_of_ble_eq_true rfl) (rmL (c := 0) (s := 0) (by decide) (by decide) (by omega) (by omega) rfl rfl) e_W_law_1716) rfl rfl rfl ?_
  refine a_istore (ls' := [(6, .int r1716), (5, .int r1704), (0, .ref 2000), (1, .ref 0), (2, .ref 134), (3, .ref 148), (4, .int l4)]) hB e_W_law_1719 (Nat.le_of_ble_eq_true rfl) rfl ?_
  refine a_aload_n (j := 4) hB e_W_law_1721 rfl rfl ?_
  obtain ⟨r1722, hr1722, h⟩ := bn_i h
  refine a_ret (v := (some (.int r1722))) (M1 := M1716) (φ1 := φ1704) (st1 := [.int r1722]) (j1 := k1 + 1) (j2 := k2 + 6) (ar_V (As := []) (rest := []) hB (c_M_thrown (bf_G hB) (sf_m hF (by decide)) hr1722) ml_W_121 md_M_thrown rc_M_thrown (sf_lt hF (by decide)) kk_134 rfl rfl (Nat.le_of_ble_eq_true rfl) (rmL (c := 0) (s := 0) (by decide) (by decide) (by omega) (by omega) rfl rfl) e_W_law_1722) rfl rfl rfl ?_
  refine a_iload (j := 1) hB e_W_law_1725 rfl ?_
  refine a_icmp_eq (tgt := 1732) hB e_W_law_1727 (by decide) (fun c => ?_) (fun c => ?_)
  · have h := ip c h
    refine a_iload (j := 1) hB e_W_law_1732 rfl ?_
    refine a_if_ne (tgt := 1756) hB e_W_law_1734 (by decide) (fun c => ?_) (fun c => ?_)
    · have h := iq c h
      refine a_ls [2, 3, 4, 5, 6] (ls' := [(0, .ref 2000), (1, .ref 0), (2, .ref 134), (3, .ref 148), (4, .int l4)]) rfl ?_
      exact t_W_law_1756 hB hend hn hx hF (by omega) (by omega) hr23 h
    · have h := ip c h
      refine a_aload_n (j := 5) hB e_W_law_1737 rfl rfl ?_
      refine a_iconst (v := 0) hB e_W_law_1738 ic_0 ?_
      refine a_lald hB e_W_law_1739 (sf_lt hF (by decide)) kk_148 (by decide) ?_
      refine a_iload (j := 0) hB e_W_law_1740 rfl ?_
      refine a_if_eq (tgt := 1749) hB e_W_law_1742 (by decide) (fun c => ?_) (fun c => ?_)
      · have h := ip c h
        refine a_lconst (v := 0) hB e_W_law_1749 rfl ?_
        refine a_ls [2, 3, 4, 5, 6] (ls' := [(0, .ref 2000), (1, .ref 0), (2, .ref 134), (3, .ref 148), (4, .int l4)]) rfl ?_
        exact t_W_law_1750 hB hend hn hx hF (by omega) (by omega) hr23 h
      · have h := iq c h
        refine a_lconst (v := 1) hB e_W_law_1745 rfl ?_
        refine a_goto (tgt := 1750) hB e_W_law_1746 (by decide) ?_
        refine a_ls [2, 3, 4, 5, 6] (ls' := [(0, .ref 2000), (1, .ref 0), (2, .ref 134), (3, .ref 148), (4, .int l4)]) rfl ?_
        exact t_W_law_1750 hB hend hn hx hF (by omega) (by omega) hr23 h
  · have h := iq c h
    refine a_iconst (v := 0) hB e_W_law_1730 ic_0 ?_
    exact (no01 h).elim
set_option maxRecDepth 100000 in
theorem t_W_law_1824 {G : Gt} {nm : String} {hh : List (Nat × Nat × Nat × Nat)} {B : Bag} {L : Nat} {xs : Nat → Int32} {Qm : State → Prop} {M9 : Mm} (hB : BF G (I_W_law nm hh) B) (hend : ∀ (k1 k2 pc : Nat) (ls : List (Nat × Value)) (M : Mm) (φ : Ph), decode (mB (I_W_law nm hh)) pc = .ok (.ireturn, 1) → k1 ≤ 601024 → k2 ≤ 7293034 → AW G (I_W_law nm hh) B Qm k1 k2 pc ls [.int 1] M φ) (hn : gN G = L) (hx : gX G = xs) {φ : Ph} (hF : SF 149 φ) {k1 k2 : Nat} {n : Nat} {r23 : Int32 → Mm → Option (Int32 × Mm)}  (hk1 : k1 + 4 * (n) ≤ 601024) (hk2 : k2 + 24 * (n) ≤ 7293034) (hr23 : ∀ (k1 k2 : Nat) (φ : Ph), SF 149 φ → k1 + 4 * n ≤ 601024 → k2 + 24 * n ≤ 7293034 → ∀ (l4 : Int32) (M : Mm), r23 l4 M = some (1, M9) → AW G (I_W_law nm hh) B Qm k1 k2 23 [(0, .ref 2000), (1, .ref 0), (2, .ref 134), (3, .ref 148), (4, .int l4)] [] M φ) {l4 : Int32} {M : Mm} (h : f_W_law_1824 L xs r23 l4 M = some (1, M9)) : AW G (I_W_law nm hh) B Qm k1 k2 1824 [(0, .ref 2000), (1, .ref 0), (2, .ref 134), (3, .ref 148), (4, .int l4)] [] M φ := by
  unfold f_W_law_1824 at h
  refine a_goto (tgt := 2537) hB e_W_law_1824 (by decide) ?_
  exact t_W_law_2537 hB hend hn hx hF (by omega) (by omega) hr23 h
set_option maxRecDepth 100000 in
theorem t_W_law_1759 {G : Gt} {nm : String} {hh : List (Nat × Nat × Nat × Nat)} {B : Bag} {L : Nat} {xs : Nat → Int32} {Qm : State → Prop} {M9 : Mm} (hB : BF G (I_W_law nm hh) B) (hend : ∀ (k1 k2 pc : Nat) (ls : List (Nat × Value)) (M : Mm) (φ : Ph), decode (mB (I_W_law nm hh)) pc = .ok (.ireturn, 1) → k1 ≤ 601024 → k2 ≤ 7293034 → AW G (I_W_law nm hh) B Qm k1 k2 pc ls [.int 1] M φ) (hn : gN G = L) (hx : gX G = xs) {φ : Ph} (hF : SF 149 φ) {k1 k2 : Nat} {n : Nat} {r23 : Int32 → Mm → Option (Int32 × Mm)}  (hk1 : k1 + 4 * (n + 1) ≤ 601024) (hk2 : k2 + 24 * (n + 1) ≤ 7293034) (hr23 : ∀ (k1 k2 : Nat) (φ : Ph), SF 149 φ → k1 + 4 * n ≤ 601024 → k2 + 24 * n ≤ 7293034 → ∀ (l4 : Int32) (M : Mm), r23 l4 M = some (1, M9) → AW G (I_W_law nm hh) B Qm k1 k2 23 [(0, .ref 2000), (1, .ref 0), (2, .ref 134), (3, .ref 148), (4, .int l4)] [] M φ) {l4 : Int32} {M : Mm} (h : f_W_law_1759 L xs r23 l4 M = some (1, M9)) : AW G (I_W_law nm hh) B Qm k1 k2 1759 [(0, .ref 2000), (1, .ref 0), (2, .ref 134), (3, .ref 148), (4, .int l4)] [] M φ := by
  unfold f_W_law_1759 at h
  refine a_aload_n (j := 1) hB e_W_law_1759 rfl rfl ?_
  refine a_aload_n (j := 0) hB e_W_law_1760 rfl rfl ?_
  refine a_iload (j := 4) hB e_W_law_1761 rfl ?_
  refine a_iconst (v := 1) hB e_W_law_1763 ic_1 ?_
  refine a_iadd hB e_W_law_1764 ?_
  obtain ⟨c1765, h⟩ := chk_i h
  refine a_sld' hB hn hx c1765 e_W_law_1765 ?_
  refine a_aload_n (j := 0) hB e_W_law_1766 rfl rfl ?_
  refine a_iload (j := 4) hB e_W_law_1767 rfl ?_
  refine a_iconst (v := 2) hB e_W_law_1769 ic_2 ?_
  refine a_iadd hB e_W_law_1770 ?_
  obtain ⟨c1771, h⟩ := chk_i h
  refine a_sld' hB hn hx c1771 e_W_law_1771 ?_
  refine a_aload_n (j := 3) hB e_W_law_1772 rfl rfl ?_
  obtain ⟨r1773, M1773, hr1773, h⟩ := bn2_i h
  obtain ⟨φ1773, hφ1773⟩ : ∃ q, pK r1773 φ = q := ⟨_, rfl⟩
  have hF0 := hF
  refine a_ret (v := (some (.int r1773))) (M1 := M1773) (φ1 := φ1773) (st1 := [.int r1773]) (j1 := k1 + 1) (j2 := k2 + 6) (ar_SX (As := [.ref 0, .int (xs (ix (l4 + (1 : Int32)))), .int (xs (ix (l4 + (2 : Int32)))), .ref 148]) (rest := []) hB (c_W_nameByte (bf_G hB) hF hφ1773 hr1773) ml_W_233 md_W_nameByte rfl rfl (Nat.le_of_ble_eq_true rfl) (rmL (c := 1) (s := 6) (by decide) (by decide) (by omega) (by omega) rfl rfl) e_W_law_1773) rfl rfl rfl ?_
  have hF : SF 149 φ1773 := by rw [← hφ1773]; exact sf_K hF0 _
  refine a_istore (ls' := [(5, .int r1773), (0, .ref 2000), (1, .ref 0), (2, .ref 134), (3, .ref 148), (4, .int l4)]) hB e_W_law_1776 (Nat.le_of_ble_eq_true rfl) rfl ?_
  refine a_aload_n (j := 3) hB e_W_law_1778 rfl rfl ?_
  refine a_aload_n (j := 1) hB e_W_law_1779 rfl rfl ?_
  refine a_iload (j := 5) hB e_W_law_1780 rfl ?_
  refine a_iconst (v := 1) hB e_W_law_1782 ic_1 ?_
  refine a_iadd hB e_W_law_1783 ?_
  refine a_sld' hB hn hx c1765 e_W_law_1784 ?_
  refine a_aload_n (j := 1) hB e_W_law_1785 rfl rfl ?_
  refine a_iload (j := 5) hB e_W_law_1786 rfl ?_
  refine a_iconst (v := 2) hB e_W_law_1788 ic_2 ?_
  refine a_iadd hB e_W_law_1789 ?_
  refine a_sld' hB hn hx c1771 e_W_law_1790 ?_
  obtain ⟨r1791, M1791, hr1791, h⟩ := bn2_i h
  refine a_ret (v := (some (.int r1791))) (M1 := M1791) (φ1 := φ1773) (st1 := [.int r1791]) (j1 := k1 + 1) (j2 := k2 + 6) (ar_V (As := [.int (xs (ix (l4 + (1 : Int32)))), .int (xs (ix (l4 + (2 : Int32))))]) (rest := []) hB (c_M_nameByte (bf_G hB) (sf_m hF (by decide)) hr1791) ml_W_235 md_M_nameByte rc_M_nameByte (sf_lt hF (by decide)) kk_134 rfl rfl (Nat.le_of_ble_eq_true rfl) (rmL (c := 0) (s := 0) (by decide) (by decide) (by omega) (by omega) rfl rfl) e_W_law_1791) rfl rfl rfl ?_
  refine a_istore (ls' := [(6, .int r1791), (5, .int r1773), (0, .ref 2000), (1, .ref 0), (2, .ref 134), (3, .ref 148), (4, .int l4)]) hB e_W_law_1794 (Nat.le_of_ble_eq_true rfl) rfl ?_
  refine a_aload_n (j := 4) hB e_W_law_1796 rfl rfl ?_
  obtain ⟨r1797, hr1797, h⟩ := bn_i h
  refine a_ret (v := (some (.int r1797))) (M1 := M1791) (φ1 := φ1773) (st1 := [.int r1797]) (j1 := k1 + 1) (j2 := k2 + 6) (ar_V (As := []) (rest := []) hB (c_M_thrown (bf_G hB) (sf_m hF (by decide)) hr1797) ml_W_121 md_M_thrown rc_M_thrown (sf_lt hF (by decide)) kk_134 rfl rfl (Nat.le_of_ble_eq_true rfl) (rmL (c := 0) (s := 0) (by decide) (by decide) (by omega) (by omega) rfl rfl) e_W_law_1797) rfl rfl rfl ?_
  refine a_iload (j := 1) hB e_W_law_1800 rfl ?_
  refine a_icmp_eq (tgt := 1807) hB e_W_law_1802 (by decide) (fun c => ?_) (fun c => ?_)
  · have h := ip c h
    refine a_iload (j := 1) hB e_W_law_1807 rfl ?_
    refine a_if_ne (tgt := 1824) hB e_W_law_1809 (by decide) (fun c => ?_) (fun c => ?_)
    · have h := iq c h
      refine a_ls [2, 3, 4, 5, 6] (ls' := [(0, .ref 2000), (1, .ref 0), (2, .ref 134), (3, .ref 148), (4, .int l4)]) rfl ?_
      exact t_W_law_1824 hB hend hn hx hF (by omega) (by omega) hr23 h
    · have h := ip c h
      refine a_aload_n (j := 5) hB e_W_law_1812 rfl rfl ?_
      refine a_iconst (v := 0) hB e_W_law_1813 ic_0 ?_
      refine a_lald hB e_W_law_1814 (sf_lt hF (by decide)) kk_148 (by decide) ?_
      refine a_iload (j := 0) hB e_W_law_1815 rfl ?_
      refine a_i2l hB e_W_law_1817 ?_
      refine a_lcmp hB e_W_law_1818 ?_
      refine a_if_eq (tgt := 1824) hB e_W_law_1819 (by decide) (fun c => ?_) (fun c => ?_)
      · have h := ip c h
        refine a_ls [2, 3, 4, 5, 6] (ls' := [(0, .ref 2000), (1, .ref 0), (2, .ref 134), (3, .ref 148), (4, .int l4)]) rfl ?_
        exact t_W_law_1824 hB hend hn hx hF (by omega) (by omega) hr23 h
      · have h := iq c h
        refine a_iconst (v := 0) hB e_W_law_1822 ic_0 ?_
        exact (no01 h).elim
  · have h := iq c h
    refine a_iconst (v := 0) hB e_W_law_1805 ic_0 ?_
    exact (no01 h).elim
set_option maxRecDepth 100000 in
theorem t_W_law_1827 {G : Gt} {nm : String} {hh : List (Nat × Nat × Nat × Nat)} {B : Bag} {L : Nat} {xs : Nat → Int32} {Qm : State → Prop} {M9 : Mm} (hB : BF G (I_W_law nm hh) B) (hend : ∀ (k1 k2 pc : Nat) (ls : List (Nat × Value)) (M : Mm) (φ : Ph), decode (mB (I_W_law nm hh)) pc = .ok (.ireturn, 1) → k1 ≤ 601024 → k2 ≤ 7293034 → AW G (I_W_law nm hh) B Qm k1 k2 pc ls [.int 1] M φ) (hn : gN G = L) (hx : gX G = xs) {φ : Ph} (hF : SF 149 φ) {k1 k2 : Nat} {n : Nat} {r23 : Int32 → Mm → Option (Int32 × Mm)}  (hk1 : k1 + 4 * (n + 1) ≤ 601024) (hk2 : k2 + 24 * (n + 1) ≤ 7293034) (hr23 : ∀ (k1 k2 : Nat) (φ : Ph), SF 149 φ → k1 + 4 * n ≤ 601024 → k2 + 24 * n ≤ 7293034 → ∀ (l4 : Int32) (M : Mm), r23 l4 M = some (1, M9) → AW G (I_W_law nm hh) B Qm k1 k2 23 [(0, .ref 2000), (1, .ref 0), (2, .ref 134), (3, .ref 148), (4, .int l4)] [] M φ) {l4 : Int32} {M : Mm} (h : f_W_law_1827 L xs r23 l4 M = some (1, M9)) : AW G (I_W_law nm hh) B Qm k1 k2 1827 [(0, .ref 2000), (1, .ref 0), (2, .ref 134), (3, .ref 148), (4, .int l4)] [] M φ := by
  unfold f_W_law_1827 at h
  refine a_aload_n (j := 1) hB e_W_law_1827 rfl rfl ?_
  obtain ⟨r1828, hr1828, h⟩ := bn_i h
  refine a_ret (v := (some (.int r1828))) (M1 := M) (φ1 := φ) (st1 := [.int r1828]) (j1 := k1) (j2 := k2) (ar_V (As := []) (rest := []) hB (c_C_findLeg (bf_G hB) (sf_m hF (by decide)) hr1828) ml_W_236 md_C_findLeg rc_C_findLeg (sf_lt hF (by decide)) kk_0 rfl rfl (Nat.le_of_ble_eq_true rfl) (rmL (c := 0) (s := 0) (by decide) (by decide) (by omega) (by omega) rfl rfl) e_W_law_1828) rfl rfl rfl ?_
  refine a_aload_n (j := 2) hB e_W_law_1831 rfl rfl ?_
  obtain ⟨r1832, M1832, hr1832, h⟩ := bn2_i h
  refine a_ret (v := (some (.int r1832))) (M1 := M1832) (φ1 := φ) (st1 := [.int r1832, .int r1828]) (j1 := k1) (j2 := k2) (ar_V (As := []) (rest := [.int r1828]) hB (c_M_findLeg (bf_G hB) (sf_m hF (by decide)) hr1832) ml_W_239 md_M_findLeg rc_M_findLeg (sf_lt hF (by decide)) kk_134 rfl rfl (Nat.le_of_ble_eq_true rfl) (rmL (c := 0) (s := 0) (by decide) (by decide) (by omega) (by omega) rfl rfl) e_W_law_1832) rfl rfl rfl ?_
  refine a_icmp_eq (tgt := 2537) hB e_W_law_1835 (by decide) (fun c => ?_) (fun c => ?_)
  · have h := ip c h
    exact t_W_law_2537 hB hend hn hx hF (by omega) (by omega) hr23 h
  · have h := iq c h
    refine a_iconst (v := 0) hB e_W_law_1838 ic_0 ?_
    exact (no01 h).elim
set_option maxRecDepth 100000 in
theorem t_W_law_1893 {G : Gt} {nm : String} {hh : List (Nat × Nat × Nat × Nat)} {B : Bag} {L : Nat} {xs : Nat → Int32} {Qm : State → Prop} {M9 : Mm} (hB : BF G (I_W_law nm hh) B) (hend : ∀ (k1 k2 pc : Nat) (ls : List (Nat × Value)) (M : Mm) (φ : Ph), decode (mB (I_W_law nm hh)) pc = .ok (.ireturn, 1) → k1 ≤ 601024 → k2 ≤ 7293034 → AW G (I_W_law nm hh) B Qm k1 k2 pc ls [.int 1] M φ) (hn : gN G = L) (hx : gX G = xs) {φ : Ph} (hF : SF 149 φ) {k1 k2 : Nat} {n : Nat} {r23 : Int32 → Mm → Option (Int32 × Mm)}  (hk1 : k1 + 4 * (n) ≤ 601024) (hk2 : k2 + 24 * (n) ≤ 7293034) (hr23 : ∀ (k1 k2 : Nat) (φ : Ph), SF 149 φ → k1 + 4 * n ≤ 601024 → k2 + 24 * n ≤ 7293034 → ∀ (l4 : Int32) (M : Mm), r23 l4 M = some (1, M9) → AW G (I_W_law nm hh) B Qm k1 k2 23 [(0, .ref 2000), (1, .ref 0), (2, .ref 134), (3, .ref 148), (4, .int l4)] [] M φ) {l4 : Int32} {M : Mm} (h : f_W_law_1893 L xs r23 l4 M = some (1, M9)) : AW G (I_W_law nm hh) B Qm k1 k2 1893 [(0, .ref 2000), (1, .ref 0), (2, .ref 134), (3, .ref 148), (4, .int l4)] [] M φ := by
  unfold f_W_law_1893 at h
  refine a_goto (tgt := 2537) hB e_W_law_1893 (by decide) ?_
  exact t_W_law_2537 hB hend hn hx hF (by omega) (by omega) hr23 h
set_option maxRecDepth 100000 in
theorem t_W_law_1840 {G : Gt} {nm : String} {hh : List (Nat × Nat × Nat × Nat)} {B : Bag} {L : Nat} {xs : Nat → Int32} {Qm : State → Prop} {M9 : Mm} (hB : BF G (I_W_law nm hh) B) (hend : ∀ (k1 k2 pc : Nat) (ls : List (Nat × Value)) (M : Mm) (φ : Ph), decode (mB (I_W_law nm hh)) pc = .ok (.ireturn, 1) → k1 ≤ 601024 → k2 ≤ 7293034 → AW G (I_W_law nm hh) B Qm k1 k2 pc ls [.int 1] M φ) (hn : gN G = L) (hx : gX G = xs) {φ : Ph} (hF : SF 149 φ) {k1 k2 : Nat} {n : Nat} {r23 : Int32 → Mm → Option (Int32 × Mm)}  (hk1 : k1 + 4 * (n + 1) ≤ 601024) (hk2 : k2 + 24 * (n + 1) ≤ 7293034) (hr23 : ∀ (k1 k2 : Nat) (φ : Ph), SF 149 φ → k1 + 4 * n ≤ 601024 → k2 + 24 * n ≤ 7293034 → ∀ (l4 : Int32) (M : Mm), r23 l4 M = some (1, M9) → AW G (I_W_law nm hh) B Qm k1 k2 23 [(0, .ref 2000), (1, .ref 0), (2, .ref 134), (3, .ref 148), (4, .int l4)] [] M φ) {l4 : Int32} {M : Mm} (h : f_W_law_1840 L xs r23 l4 M = some (1, M9)) : AW G (I_W_law nm hh) B Qm k1 k2 1840 [(0, .ref 2000), (1, .ref 0), (2, .ref 134), (3, .ref 148), (4, .int l4)] [] M φ := by
  unfold f_W_law_1840 at h
  refine a_aload_n (j := 1) hB e_W_law_1840 rfl rfl ?_
  refine a_aload_n (j := 0) hB e_W_law_1841 rfl rfl ?_
  refine a_iload (j := 4) hB e_W_law_1842 rfl ?_
  refine a_iconst (v := 1) hB e_W_law_1844 ic_1 ?_
  refine a_iadd hB e_W_law_1845 ?_
  obtain ⟨c1846, h⟩ := chk_i h
  refine a_sld' hB hn hx c1846 e_W_law_1846 ?_
  refine a_aload_n (j := 3) hB e_W_law_1847 rfl rfl ?_
  obtain ⟨r1848, M1848, hr1848, h⟩ := bn2_i h
  obtain ⟨φ1848, hφ1848⟩ : ∃ q, pK r1848 φ = q := ⟨_, rfl⟩
  have hF0 := hF
  refine a_ret (v := (some (.int r1848))) (M1 := M1848) (φ1 := φ1848) (st1 := [.int r1848]) (j1 := k1 + 1) (j2 := k2 + 6) (ar_SX (As := [.ref 0, .int (xs (ix (l4 + (1 : Int32)))), .ref 148]) (rest := []) hB (c_W_rawEast (bf_G hB) hF hφ1848 hr1848) ml_W_240 md_W_rawEast rfl rfl (Nat.le_of_ble_eq_true rfl) (rmL (c := 1) (s := 6) (by decide) (by decide) (by omega) (by omega) rfl rfl) e_W_law_1848) rfl rfl rfl ?_
  have hF : SF 149 φ1848 := by rw [← hφ1848]; exact sf_K hF0 _
  refine a_istore (ls' := [(5, .int r1848), (0, .ref 2000), (1, .ref 0), (2, .ref 134), (3, .ref 148), (4, .int l4)]) hB e_W_law_1851 (Nat.le_of_ble_eq_true rfl) rfl ?_
  refine a_aload_n (j := 3) hB e_W_law_1853 rfl rfl ?_
  refine a_aload_n (j := 1) hB e_W_law_1854 rfl rfl ?_
  refine a_iload (j := 5) hB e_W_law_1855 rfl ?_
  refine a_iconst (v := 1) hB e_W_law_1857 ic_1 ?_
  refine a_iadd hB e_W_law_1858 ?_
  refine a_sld' hB hn hx c1846 e_W_law_1859 ?_
  obtain ⟨r1860, M1860, hr1860, h⟩ := bn2_i h
  refine a_ret (v := (some (.int r1860))) (M1 := M1860) (φ1 := φ1848) (st1 := [.int r1860]) (j1 := k1 + 1) (j2 := k2 + 6) (ar_V (As := [.int (xs (ix (l4 + (1 : Int32))))]) (rest := []) hB (c_M_rawEast (bf_G hB) (sf_m hF (by decide)) hr1860) ml_W_242 md_M_rawEast rc_M_rawEast (sf_lt hF (by decide)) kk_134 rfl rfl (Nat.le_of_ble_eq_true rfl) (rmL (c := 0) (s := 0) (by decide) (by decide) (by omega) (by omega) rfl rfl) e_W_law_1860) rfl rfl rfl ?_
  refine a_istore (ls' := [(6, .int r1860), (5, .int r1848), (0, .ref 2000), (1, .ref 0), (2, .ref 134), (3, .ref 148), (4, .int l4)]) hB e_W_law_1863 (Nat.le_of_ble_eq_true rfl) rfl ?_
  refine a_aload_n (j := 4) hB e_W_law_1865 rfl rfl ?_
  obtain ⟨r1866, hr1866, h⟩ := bn_i h
  refine a_ret (v := (some (.int r1866))) (M1 := M1860) (φ1 := φ1848) (st1 := [.int r1866]) (j1 := k1 + 1) (j2 := k2 + 6) (ar_V (As := []) (rest := []) hB (c_M_thrown (bf_G hB) (sf_m hF (by decide)) hr1866) ml_W_121 md_M_thrown rc_M_thrown (sf_lt hF (by decide)) kk_134 rfl rfl (Nat.le_of_ble_eq_true rfl) (rmL (c := 0) (s := 0) (by decide) (by decide) (by omega) (by omega) rfl rfl) e_W_law_1866) rfl rfl rfl ?_
  refine a_iload (j := 1) hB e_W_law_1869 rfl ?_
  refine a_icmp_eq (tgt := 1876) hB e_W_law_1871 (by decide) (fun c => ?_) (fun c => ?_)
  · have h := ip c h
    refine a_iload (j := 1) hB e_W_law_1876 rfl ?_
    refine a_if_ne (tgt := 1893) hB e_W_law_1878 (by decide) (fun c => ?_) (fun c => ?_)
    · have h := iq c h
      refine a_ls [2, 3, 4, 5, 6] (ls' := [(0, .ref 2000), (1, .ref 0), (2, .ref 134), (3, .ref 148), (4, .int l4)]) rfl ?_
      exact t_W_law_1893 hB hend hn hx hF (by omega) (by omega) hr23 h
    · have h := ip c h
      refine a_aload_n (j := 5) hB e_W_law_1881 rfl rfl ?_
      refine a_iconst (v := 0) hB e_W_law_1882 ic_0 ?_
      refine a_lald hB e_W_law_1883 (sf_lt hF (by decide)) kk_148 (by decide) ?_
      refine a_iload (j := 0) hB e_W_law_1884 rfl ?_
      refine a_i2l hB e_W_law_1886 ?_
      refine a_lcmp hB e_W_law_1887 ?_
      refine a_if_eq (tgt := 1893) hB e_W_law_1888 (by decide) (fun c => ?_) (fun c => ?_)
      · have h := ip c h
        refine a_ls [2, 3, 4, 5, 6] (ls' := [(0, .ref 2000), (1, .ref 0), (2, .ref 134), (3, .ref 148), (4, .int l4)]) rfl ?_
        exact t_W_law_1893 hB hend hn hx hF (by omega) (by omega) hr23 h
      · have h := iq c h
        refine a_iconst (v := 0) hB e_W_law_1891 ic_0 ?_
        exact (no01 h).elim
  · have h := iq c h
    refine a_iconst (v := 0) hB e_W_law_1874 ic_0 ?_
    exact (no01 h).elim
set_option maxRecDepth 100000 in
theorem t_W_law_1949 {G : Gt} {nm : String} {hh : List (Nat × Nat × Nat × Nat)} {B : Bag} {L : Nat} {xs : Nat → Int32} {Qm : State → Prop} {M9 : Mm} (hB : BF G (I_W_law nm hh) B) (hend : ∀ (k1 k2 pc : Nat) (ls : List (Nat × Value)) (M : Mm) (φ : Ph), decode (mB (I_W_law nm hh)) pc = .ok (.ireturn, 1) → k1 ≤ 601024 → k2 ≤ 7293034 → AW G (I_W_law nm hh) B Qm k1 k2 pc ls [.int 1] M φ) (hn : gN G = L) (hx : gX G = xs) {φ : Ph} (hF : SF 149 φ) {k1 k2 : Nat} {n : Nat} {r23 : Int32 → Mm → Option (Int32 × Mm)}  (hk1 : k1 + 4 * (n) ≤ 601024) (hk2 : k2 + 24 * (n) ≤ 7293034) (hr23 : ∀ (k1 k2 : Nat) (φ : Ph), SF 149 φ → k1 + 4 * n ≤ 601024 → k2 + 24 * n ≤ 7293034 → ∀ (l4 : Int32) (M : Mm), r23 l4 M = some (1, M9) → AW G (I_W_law nm hh) B Qm k1 k2 23 [(0, .ref 2000), (1, .ref 0), (2, .ref 134), (3, .ref 148), (4, .int l4)] [] M φ) {l4 : Int32} {M : Mm} (h : f_W_law_1949 L xs r23 l4 M = some (1, M9)) : AW G (I_W_law nm hh) B Qm k1 k2 1949 [(0, .ref 2000), (1, .ref 0), (2, .ref 134), (3, .ref 148), (4, .int l4)] [] M φ := by
  unfold f_W_law_1949 at h
  refine a_goto (tgt := 2537) hB e_W_law_1949 (by decide) ?_
  exact t_W_law_2537 hB hend hn hx hF (by omega) (by omega) hr23 h
set_option maxRecDepth 100000 in
theorem t_W_law_1896 {G : Gt} {nm : String} {hh : List (Nat × Nat × Nat × Nat)} {B : Bag} {L : Nat} {xs : Nat → Int32} {Qm : State → Prop} {M9 : Mm} (hB : BF G (I_W_law nm hh) B) (hend : ∀ (k1 k2 pc : Nat) (ls : List (Nat × Value)) (M : Mm) (φ : Ph), decode (mB (I_W_law nm hh)) pc = .ok (.ireturn, 1) → k1 ≤ 601024 → k2 ≤ 7293034 → AW G (I_W_law nm hh) B Qm k1 k2 pc ls [.int 1] M φ) (hn : gN G = L) (hx : gX G = xs) {φ : Ph} (hF : SF 149 φ) {k1 k2 : Nat} {n : Nat} {r23 : Int32 → Mm → Option (Int32 × Mm)}  (hk1 : k1 + 4 * (n + 1) ≤ 601024) (hk2 : k2 + 24 * (n + 1) ≤ 7293034) (hr23 : ∀ (k1 k2 : Nat) (φ : Ph), SF 149 φ → k1 + 4 * n ≤ 601024 → k2 + 24 * n ≤ 7293034 → ∀ (l4 : Int32) (M : Mm), r23 l4 M = some (1, M9) → AW G (I_W_law nm hh) B Qm k1 k2 23 [(0, .ref 2000), (1, .ref 0), (2, .ref 134), (3, .ref 148), (4, .int l4)] [] M φ) {l4 : Int32} {M : Mm} (h : f_W_law_1896 L xs r23 l4 M = some (1, M9)) : AW G (I_W_law nm hh) B Qm k1 k2 1896 [(0, .ref 2000), (1, .ref 0), (2, .ref 134), (3, .ref 148), (4, .int l4)] [] M φ := by
  unfold f_W_law_1896 at h
  refine a_aload_n (j := 1) hB e_W_law_1896 rfl rfl ?_
  refine a_aload_n (j := 0) hB e_W_law_1897 rfl rfl ?_
  refine a_iload (j := 4) hB e_W_law_1898 rfl ?_
  refine a_iconst (v := 1) hB e_W_law_1900 ic_1 ?_
  refine a_iadd hB e_W_law_1901 ?_
  obtain ⟨c1902, h⟩ := chk_i h
  refine a_sld' hB hn hx c1902 e_W_law_1902 ?_
  refine a_aload_n (j := 3) hB e_W_law_1903 rfl rfl ?_
  obtain ⟨r1904, M1904, hr1904, h⟩ := bn2_i h
  obtain ⟨φ1904, hφ1904⟩ : ∃ q, pK r1904 φ = q := ⟨_, rfl⟩
  have hF0 := hF
  refine a_ret (v := (some (.int r1904))) (M1 := M1904) (φ1 := φ1904) (st1 := [.int r1904]) (j1 := k1 + 1) (j2 := k2 + 6) (ar_SX (As := [.ref 0, .int (xs (ix (l4 + (1 : Int32)))), .ref 148]) (rest := []) hB (c_W_rawNorth (bf_G hB) hF hφ1904 hr1904) ml_W_243 md_W_rawNorth rfl rfl (Nat.le_of_ble_eq_true rfl) (rmL (c := 1) (s := 6) (by decide) (by decide) (by omega) (by omega) rfl rfl) e_W_law_1904) rfl rfl rfl ?_
  have hF : SF 149 φ1904 := by rw [← hφ1904]; exact sf_K hF0 _
  refine a_istore (ls' := [(5, .int r1904), (0, .ref 2000), (1, .ref 0), (2, .ref 134), (3, .ref 148), (4, .int l4)]) hB e_W_law_1907 (Nat.le_of_ble_eq_true rfl) rfl ?_
  refine a_aload_n (j := 3) hB e_W_law_1909 rfl rfl ?_
  refine a_aload_n (j := 1) hB e_W_law_1910 rfl rfl ?_
  refine a_iload (j := 5) hB e_W_law_1911 rfl ?_
  refine a_iconst (v := 1) hB e_W_law_1913 ic_1 ?_
  refine a_iadd hB e_W_law_1914 ?_
  refine a_sld' hB hn hx c1902 e_W_law_1915 ?_
  obtain ⟨r1916, M1916, hr1916, h⟩ := bn2_i h
  refine a_ret (v := (some (.int r1916))) (M1 := M1916) (φ1 := φ1904) (st1 := [.int r1916]) (j1 := k1 + 1) (j2 := k2 + 6) (ar_V (As := [.int (xs (ix (l4 + (1 : Int32))))]) (rest := []) hB (c_M_rawNorth (bf_G hB) (sf_m hF (by decide)) hr1916) ml_W_245 md_M_rawNorth rc_M_rawNorth (sf_lt hF (by decide)) kk_134 rfl rfl (Nat.le_of_ble_eq_true rfl) (rmL (c := 0) (s := 0) (by decide) (by decide) (by omega) (by omega) rfl rfl) e_W_law_1916) rfl rfl rfl ?_
  refine a_istore (ls' := [(6, .int r1916), (5, .int r1904), (0, .ref 2000), (1, .ref 0), (2, .ref 134), (3, .ref 148), (4, .int l4)]) hB e_W_law_1919 (Nat.le_of_ble_eq_true rfl) rfl ?_
  refine a_aload_n (j := 4) hB e_W_law_1921 rfl rfl ?_
  obtain ⟨r1922, hr1922, h⟩ := bn_i h
  refine a_ret (v := (some (.int r1922))) (M1 := M1916) (φ1 := φ1904) (st1 := [.int r1922]) (j1 := k1 + 1) (j2 := k2 + 6) (ar_V (As := []) (rest := []) hB (c_M_thrown (bf_G hB) (sf_m hF (by decide)) hr1922) ml_W_121 md_M_thrown rc_M_thrown (sf_lt hF (by decide)) kk_134 rfl rfl (Nat.le_of_ble_eq_true rfl) (rmL (c := 0) (s := 0) (by decide) (by decide) (by omega) (by omega) rfl rfl) e_W_law_1922) rfl rfl rfl ?_
  refine a_iload (j := 1) hB e_W_law_1925 rfl ?_
  refine a_icmp_eq (tgt := 1932) hB e_W_law_1927 (by decide) (fun c => ?_) (fun c => ?_)
  · have h := ip c h
    refine a_iload (j := 1) hB e_W_law_1932 rfl ?_
    refine a_if_ne (tgt := 1949) hB e_W_law_1934 (by decide) (fun c => ?_) (fun c => ?_)
    · have h := iq c h
      refine a_ls [2, 3, 4, 5, 6] (ls' := [(0, .ref 2000), (1, .ref 0), (2, .ref 134), (3, .ref 148), (4, .int l4)]) rfl ?_
      exact t_W_law_1949 hB hend hn hx hF (by omega) (by omega) hr23 h
    · have h := ip c h
      refine a_aload_n (j := 5) hB e_W_law_1937 rfl rfl ?_
      refine a_iconst (v := 0) hB e_W_law_1938 ic_0 ?_
      refine a_lald hB e_W_law_1939 (sf_lt hF (by decide)) kk_148 (by decide) ?_
      refine a_iload (j := 0) hB e_W_law_1940 rfl ?_
      refine a_i2l hB e_W_law_1942 ?_
      refine a_lcmp hB e_W_law_1943 ?_
      refine a_if_eq (tgt := 1949) hB e_W_law_1944 (by decide) (fun c => ?_) (fun c => ?_)
      · have h := ip c h
        refine a_ls [2, 3, 4, 5, 6] (ls' := [(0, .ref 2000), (1, .ref 0), (2, .ref 134), (3, .ref 148), (4, .int l4)]) rfl ?_
        exact t_W_law_1949 hB hend hn hx hF (by omega) (by omega) hr23 h
      · have h := iq c h
        refine a_iconst (v := 0) hB e_W_law_1947 ic_0 ?_
        exact (no01 h).elim
  · have h := iq c h
    refine a_iconst (v := 0) hB e_W_law_1930 ic_0 ?_
    exact (no01 h).elim
set_option maxRecDepth 100000 in
theorem t_W_law_2005 {G : Gt} {nm : String} {hh : List (Nat × Nat × Nat × Nat)} {B : Bag} {L : Nat} {xs : Nat → Int32} {Qm : State → Prop} {M9 : Mm} (hB : BF G (I_W_law nm hh) B) (hend : ∀ (k1 k2 pc : Nat) (ls : List (Nat × Value)) (M : Mm) (φ : Ph), decode (mB (I_W_law nm hh)) pc = .ok (.ireturn, 1) → k1 ≤ 601024 → k2 ≤ 7293034 → AW G (I_W_law nm hh) B Qm k1 k2 pc ls [.int 1] M φ) (hn : gN G = L) (hx : gX G = xs) {φ : Ph} (hF : SF 149 φ) {k1 k2 : Nat} {n : Nat} {r23 : Int32 → Mm → Option (Int32 × Mm)}  (hk1 : k1 + 4 * (n) ≤ 601024) (hk2 : k2 + 24 * (n) ≤ 7293034) (hr23 : ∀ (k1 k2 : Nat) (φ : Ph), SF 149 φ → k1 + 4 * n ≤ 601024 → k2 + 24 * n ≤ 7293034 → ∀ (l4 : Int32) (M : Mm), r23 l4 M = some (1, M9) → AW G (I_W_law nm hh) B Qm k1 k2 23 [(0, .ref 2000), (1, .ref 0), (2, .ref 134), (3, .ref 148), (4, .int l4)] [] M φ) {l4 : Int32} {M : Mm} (h : f_W_law_2005 L xs r23 l4 M = some (1, M9)) : AW G (I_W_law nm hh) B Qm k1 k2 2005 [(0, .ref 2000), (1, .ref 0), (2, .ref 134), (3, .ref 148), (4, .int l4)] [] M φ := by
  unfold f_W_law_2005 at h
  refine a_goto (tgt := 2537) hB e_W_law_2005 (by decide) ?_
  exact t_W_law_2537 hB hend hn hx hF (by omega) (by omega) hr23 h
set_option maxRecDepth 100000 in
theorem t_W_law_1952 {G : Gt} {nm : String} {hh : List (Nat × Nat × Nat × Nat)} {B : Bag} {L : Nat} {xs : Nat → Int32} {Qm : State → Prop} {M9 : Mm} (hB : BF G (I_W_law nm hh) B) (hend : ∀ (k1 k2 pc : Nat) (ls : List (Nat × Value)) (M : Mm) (φ : Ph), decode (mB (I_W_law nm hh)) pc = .ok (.ireturn, 1) → k1 ≤ 601024 → k2 ≤ 7293034 → AW G (I_W_law nm hh) B Qm k1 k2 pc ls [.int 1] M φ) (hn : gN G = L) (hx : gX G = xs) {φ : Ph} (hF : SF 149 φ) {k1 k2 : Nat} {n : Nat} {r23 : Int32 → Mm → Option (Int32 × Mm)}  (hk1 : k1 + 4 * (n + 1) ≤ 601024) (hk2 : k2 + 24 * (n + 1) ≤ 7293034) (hr23 : ∀ (k1 k2 : Nat) (φ : Ph), SF 149 φ → k1 + 4 * n ≤ 601024 → k2 + 24 * n ≤ 7293034 → ∀ (l4 : Int32) (M : Mm), r23 l4 M = some (1, M9) → AW G (I_W_law nm hh) B Qm k1 k2 23 [(0, .ref 2000), (1, .ref 0), (2, .ref 134), (3, .ref 148), (4, .int l4)] [] M φ) {l4 : Int32} {M : Mm} (h : f_W_law_1952 L xs r23 l4 M = some (1, M9)) : AW G (I_W_law nm hh) B Qm k1 k2 1952 [(0, .ref 2000), (1, .ref 0), (2, .ref 134), (3, .ref 148), (4, .int l4)] [] M φ := by
  unfold f_W_law_1952 at h
  refine a_aload_n (j := 1) hB e_W_law_1952 rfl rfl ?_
  refine a_aload_n (j := 0) hB e_W_law_1953 rfl rfl ?_
  refine a_iload (j := 4) hB e_W_law_1954 rfl ?_
  refine a_iconst (v := 1) hB e_W_law_1956 ic_1 ?_
  refine a_iadd hB e_W_law_1957 ?_
  obtain ⟨c1958, h⟩ := chk_i h
  refine a_sld' hB hn hx c1958 e_W_law_1958 ?_
  refine a_aload_n (j := 3) hB e_W_law_1959 rfl rfl ?_
  obtain ⟨r1960, M1960, hr1960, h⟩ := bn2_i h
  obtain ⟨φ1960, hφ1960⟩ : ∃ q, pK r1960 φ = q := ⟨_, rfl⟩
  have hF0 := hF
  refine a_ret (v := (some (.int r1960))) (M1 := M1960) (φ1 := φ1960) (st1 := [.int r1960]) (j1 := k1 + 1) (j2 := k2 + 6) (ar_SX (As := [.ref 0, .int (xs (ix (l4 + (1 : Int32)))), .ref 148]) (rest := []) hB (c_W_east (bf_G hB) hF hφ1960 hr1960) ml_W_246 md_W_east rfl rfl (Nat.le_of_ble_eq_true rfl) (rmL (c := 1) (s := 6) (by decide) (by decide) (by omega) (by omega) rfl rfl) e_W_law_1960) rfl rfl rfl ?_
  have hF : SF 149 φ1960 := by rw [← hφ1960]; exact sf_K hF0 _
  refine a_istore (ls' := [(5, .int r1960), (0, .ref 2000), (1, .ref 0), (2, .ref 134), (3, .ref 148), (4, .int l4)]) hB e_W_law_1963 (Nat.le_of_ble_eq_true rfl) rfl ?_
  refine a_aload_n (j := 3) hB e_W_law_1965 rfl rfl ?_
  refine a_aload_n (j := 1) hB e_W_law_1966 rfl rfl ?_
  refine a_iload (j := 5) hB e_W_law_1967 rfl ?_
  refine a_iconst (v := 1) hB e_W_law_1969 ic_1 ?_
  refine a_iadd hB e_W_law_1970 ?_
  refine a_sld' hB hn hx c1958 e_W_law_1971 ?_
  obtain ⟨r1972, M1972, hr1972, h⟩ := bn2_i h
  refine a_ret (v := (some (.int r1972))) (M1 := M1972) (φ1 := φ1960) (st1 := [.int r1972]) (j1 := k1 + 1) (j2 := k2 + 6) (ar_V (As := [.int (xs (ix (l4 + (1 : Int32))))]) (rest := []) hB (c_M_east (bf_G hB) (sf_m hF (by decide)) hr1972) ml_W_248 md_M_east rc_M_east (sf_lt hF (by decide)) kk_134 rfl rfl (Nat.le_of_ble_eq_true rfl) (rmL (c := 0) (s := 0) (by decide) (by decide) (by omega) (by omega) rfl rfl) e_W_law_1972) rfl rfl rfl ?_
  refine a_istore (ls' := [(6, .int r1972), (5, .int r1960), (0, .ref 2000), (1, .ref 0), (2, .ref 134), (3, .ref 148), (4, .int l4)]) hB e_W_law_1975 (Nat.le_of_ble_eq_true rfl) rfl ?_
  refine a_aload_n (j := 4) hB e_W_law_1977 rfl rfl ?_
  obtain ⟨r1978, hr1978, h⟩ := bn_i h
  refine a_ret (v := (some (.int r1978))) (M1 := M1972) (φ1 := φ1960) (st1 := [.int r1978]) (j1 := k1 + 1) (j2 := k2 + 6) (ar_V (As := []) (rest := []) hB (c_M_thrown (bf_G hB) (sf_m hF (by decide)) hr1978) ml_W_121 md_M_thrown rc_M_thrown (sf_lt hF (by decide)) kk_134 rfl rfl (Nat.le_of_ble_eq_true rfl) (rmL (c := 0) (s := 0) (by decide) (by decide) (by omega) (by omega) rfl rfl) e_W_law_1978) rfl rfl rfl ?_
  refine a_iload (j := 1) hB e_W_law_1981 rfl ?_
  refine a_icmp_eq (tgt := 1988) hB e_W_law_1983 (by decide) (fun c => ?_) (fun c => ?_)
  · have h := ip c h
    refine a_iload (j := 1) hB e_W_law_1988 rfl ?_
    refine a_if_ne (tgt := 2005) hB e_W_law_1990 (by decide) (fun c => ?_) (fun c => ?_)
    · have h := iq c h
      refine a_ls [2, 3, 4, 5, 6] (ls' := [(0, .ref 2000), (1, .ref 0), (2, .ref 134), (3, .ref 148), (4, .int l4)]) rfl ?_
      exact t_W_law_2005 hB hend hn hx hF (by omega) (by omega) hr23 h
    · have h := ip c h
      refine a_aload_n (j := 5) hB e_W_law_1993 rfl rfl ?_
      refine a_iconst (v := 0) hB e_W_law_1994 ic_0 ?_
      refine a_lald hB e_W_law_1995 (sf_lt hF (by decide)) kk_148 (by decide) ?_
      refine a_iload (j := 0) hB e_W_law_1996 rfl ?_
      refine a_i2l hB e_W_law_1998 ?_
      refine a_lcmp hB e_W_law_1999 ?_
      refine a_if_eq (tgt := 2005) hB e_W_law_2000 (by decide) (fun c => ?_) (fun c => ?_)
      · have h := ip c h
        refine a_ls [2, 3, 4, 5, 6] (ls' := [(0, .ref 2000), (1, .ref 0), (2, .ref 134), (3, .ref 148), (4, .int l4)]) rfl ?_
        exact t_W_law_2005 hB hend hn hx hF (by omega) (by omega) hr23 h
      · have h := iq c h
        refine a_iconst (v := 0) hB e_W_law_2003 ic_0 ?_
        exact (no01 h).elim
  · have h := iq c h
    refine a_iconst (v := 0) hB e_W_law_1986 ic_0 ?_
    exact (no01 h).elim
set_option maxRecDepth 100000 in
theorem t_W_law_2061 {G : Gt} {nm : String} {hh : List (Nat × Nat × Nat × Nat)} {B : Bag} {L : Nat} {xs : Nat → Int32} {Qm : State → Prop} {M9 : Mm} (hB : BF G (I_W_law nm hh) B) (hend : ∀ (k1 k2 pc : Nat) (ls : List (Nat × Value)) (M : Mm) (φ : Ph), decode (mB (I_W_law nm hh)) pc = .ok (.ireturn, 1) → k1 ≤ 601024 → k2 ≤ 7293034 → AW G (I_W_law nm hh) B Qm k1 k2 pc ls [.int 1] M φ) (hn : gN G = L) (hx : gX G = xs) {φ : Ph} (hF : SF 149 φ) {k1 k2 : Nat} {n : Nat} {r23 : Int32 → Mm → Option (Int32 × Mm)}  (hk1 : k1 + 4 * (n) ≤ 601024) (hk2 : k2 + 24 * (n) ≤ 7293034) (hr23 : ∀ (k1 k2 : Nat) (φ : Ph), SF 149 φ → k1 + 4 * n ≤ 601024 → k2 + 24 * n ≤ 7293034 → ∀ (l4 : Int32) (M : Mm), r23 l4 M = some (1, M9) → AW G (I_W_law nm hh) B Qm k1 k2 23 [(0, .ref 2000), (1, .ref 0), (2, .ref 134), (3, .ref 148), (4, .int l4)] [] M φ) {l4 : Int32} {M : Mm} (h : f_W_law_2061 L xs r23 l4 M = some (1, M9)) : AW G (I_W_law nm hh) B Qm k1 k2 2061 [(0, .ref 2000), (1, .ref 0), (2, .ref 134), (3, .ref 148), (4, .int l4)] [] M φ := by
  unfold f_W_law_2061 at h
  refine a_goto (tgt := 2537) hB e_W_law_2061 (by decide) ?_
  exact t_W_law_2537 hB hend hn hx hF (by omega) (by omega) hr23 h
set_option maxRecDepth 100000 in
theorem t_W_law_2008 {G : Gt} {nm : String} {hh : List (Nat × Nat × Nat × Nat)} {B : Bag} {L : Nat} {xs : Nat → Int32} {Qm : State → Prop} {M9 : Mm} (hB : BF G (I_W_law nm hh) B) (hend : ∀ (k1 k2 pc : Nat) (ls : List (Nat × Value)) (M : Mm) (φ : Ph), decode (mB (I_W_law nm hh)) pc = .ok (.ireturn, 1) → k1 ≤ 601024 → k2 ≤ 7293034 → AW G (I_W_law nm hh) B Qm k1 k2 pc ls [.int 1] M φ) (hn : gN G = L) (hx : gX G = xs) {φ : Ph} (hF : SF 149 φ) {k1 k2 : Nat} {n : Nat} {r23 : Int32 → Mm → Option (Int32 × Mm)}  (hk1 : k1 + 4 * (n + 1) ≤ 601024) (hk2 : k2 + 24 * (n + 1) ≤ 7293034) (hr23 : ∀ (k1 k2 : Nat) (φ : Ph), SF 149 φ → k1 + 4 * n ≤ 601024 → k2 + 24 * n ≤ 7293034 → ∀ (l4 : Int32) (M : Mm), r23 l4 M = some (1, M9) → AW G (I_W_law nm hh) B Qm k1 k2 23 [(0, .ref 2000), (1, .ref 0), (2, .ref 134), (3, .ref 148), (4, .int l4)] [] M φ) {l4 : Int32} {M : Mm} (h : f_W_law_2008 L xs r23 l4 M = some (1, M9)) : AW G (I_W_law nm hh) B Qm k1 k2 2008 [(0, .ref 2000), (1, .ref 0), (2, .ref 134), (3, .ref 148), (4, .int l4)] [] M φ := by
  unfold f_W_law_2008 at h
  refine a_aload_n (j := 1) hB e_W_law_2008 rfl rfl ?_
  refine a_aload_n (j := 0) hB e_W_law_2009 rfl rfl ?_
  refine a_iload (j := 4) hB e_W_law_2010 rfl ?_
  refine a_iconst (v := 1) hB e_W_law_2012 ic_1 ?_
  refine a_iadd hB e_W_law_2013 ?_
  obtain ⟨c2014, h⟩ := chk_i h
  refine a_sld' hB hn hx c2014 e_W_law_2014 ?_
  refine a_aload_n (j := 3) hB e_W_law_2015 rfl rfl ?_
  obtain ⟨r2016, M2016, hr2016, h⟩ := bn2_i h
  obtain ⟨φ2016, hφ2016⟩ : ∃ q, pK r2016 φ = q := ⟨_, rfl⟩
  have hF0 := hF
  refine a_ret (v := (some (.int r2016))) (M1 := M2016) (φ1 := φ2016) (st1 := [.int r2016]) (j1 := k1 + 1) (j2 := k2 + 6) (ar_SX (As := [.ref 0, .int (xs (ix (l4 + (1 : Int32)))), .ref 148]) (rest := []) hB (c_W_north (bf_G hB) hF hφ2016 hr2016) ml_W_249 md_W_north rfl rfl (Nat.le_of_ble_eq_true rfl) (rmL (c := 1) (s := 6) (by decide) (by decide) (by omega) (by omega) rfl rfl) e_W_law_2016) rfl rfl rfl ?_
  have hF : SF 149 φ2016 := by rw [← hφ2016]; exact sf_K hF0 _
  refine a_istore (ls' := [(5, .int r2016), (0, .ref 2000), (1, .ref 0), (2, .ref 134), (3, .ref 148), (4, .int l4)]) hB e_W_law_2019 (Nat.le_of_ble_eq_true rfl) rfl ?_
  refine a_aload_n (j := 3) hB e_W_law_2021 rfl rfl ?_
  refine a_aload_n (j := 1) hB e_W_law_2022 rfl rfl ?_
  refine a_iload (j := 5) hB e_W_law_2023 rfl ?_
  refine a_iconst (v := 1) hB e_W_law_2025 ic_1 ?_
  refine a_iadd hB e_W_law_2026 ?_
  refine a_sld' hB hn hx c2014 e_W_law_2027 ?_
  obtain ⟨r2028, M2028, hr2028, h⟩ := bn2_i h
  refine a_ret (v := (some (.int r2028))) (M1 := M2028) (φ1 := φ2016) (st1 := [.int r2028]) (j1 := k1 + 1) (j2 := k2 + 6) (ar_V (As := [.int (xs (ix (l4 + (1 : Int32))))]) (rest := []) hB (c_M_north (bf_G hB) (sf_m hF (by decide)) hr2028) ml_W_251 md_M_north rc_M_north (sf_lt hF (by decide)) kk_134 rfl rfl (Nat.le_of_ble_eq_true rfl) (rmL (c := 0) (s := 0) (by decide) (by decide) (by omega) (by omega) rfl rfl) e_W_law_2028) rfl rfl rfl ?_
  refine a_istore (ls' := [(6, .int r2028), (5, .int r2016), (0, .ref 2000), (1, .ref 0), (2, .ref 134), (3, .ref 148), (4, .int l4)]) hB e_W_law_2031 (Nat.le_of_ble_eq_true rfl) rfl ?_
  refine a_aload_n (j := 4) hB e_W_law_2033 rfl rfl ?_
  obtain ⟨r2034, hr2034, h⟩ := bn_i h
  refine a_ret (v := (some (.int r2034))) (M1 := M2028) (φ1 := φ2016) (st1 := [.int r2034]) (j1 := k1 + 1) (j2 := k2 + 6) (ar_V (As := []) (rest := []) hB (c_M_thrown (bf_G hB) (sf_m hF (by decide)) hr2034) ml_W_121 md_M_thrown rc_M_thrown (sf_lt hF (by decide)) kk_134 rfl rfl (Nat.le_of_ble_eq_true rfl) (rmL (c := 0) (s := 0) (by decide) (by decide) (by omega) (by omega) rfl rfl) e_W_law_2034) rfl rfl rfl ?_
  refine a_iload (j := 1) hB e_W_law_2037 rfl ?_
  refine a_icmp_eq (tgt := 2044) hB e_W_law_2039 (by decide) (fun c => ?_) (fun c => ?_)
  · have h := ip c h
    refine a_iload (j := 1) hB e_W_law_2044 rfl ?_
    refine a_if_ne (tgt := 2061) hB e_W_law_2046 (by decide) (fun c => ?_) (fun c => ?_)
    · have h := iq c h
      refine a_ls [2, 3, 4, 5, 6] (ls' := [(0, .ref 2000), (1, .ref 0), (2, .ref 134), (3, .ref 148), (4, .int l4)]) rfl ?_
      exact t_W_law_2061 hB hend hn hx hF (by omega) (by omega) hr23 h
    · have h := ip c h
      refine a_aload_n (j := 5) hB e_W_law_2049 rfl rfl ?_
      refine a_iconst (v := 0) hB e_W_law_2050 ic_0 ?_
      refine a_lald hB e_W_law_2051 (sf_lt hF (by decide)) kk_148 (by decide) ?_
      refine a_iload (j := 0) hB e_W_law_2052 rfl ?_
      refine a_i2l hB e_W_law_2054 ?_
      refine a_lcmp hB e_W_law_2055 ?_
      refine a_if_eq (tgt := 2061) hB e_W_law_2056 (by decide) (fun c => ?_) (fun c => ?_)
      · have h := ip c h
        refine a_ls [2, 3, 4, 5, 6] (ls' := [(0, .ref 2000), (1, .ref 0), (2, .ref 134), (3, .ref 148), (4, .int l4)]) rfl ?_
        exact t_W_law_2061 hB hend hn hx hF (by omega) (by omega) hr23 h
      · have h := iq c h
        refine a_iconst (v := 0) hB e_W_law_2059 ic_0 ?_
        exact (no01 h).elim
  · have h := iq c h
    refine a_iconst (v := 0) hB e_W_law_2042 ic_0 ?_
    exact (no01 h).elim
set_option maxRecDepth 100000 in
theorem t_W_law_2117 {G : Gt} {nm : String} {hh : List (Nat × Nat × Nat × Nat)} {B : Bag} {L : Nat} {xs : Nat → Int32} {Qm : State → Prop} {M9 : Mm} (hB : BF G (I_W_law nm hh) B) (hend : ∀ (k1 k2 pc : Nat) (ls : List (Nat × Value)) (M : Mm) (φ : Ph), decode (mB (I_W_law nm hh)) pc = .ok (.ireturn, 1) → k1 ≤ 601024 → k2 ≤ 7293034 → AW G (I_W_law nm hh) B Qm k1 k2 pc ls [.int 1] M φ) (hn : gN G = L) (hx : gX G = xs) {φ : Ph} (hF : SF 149 φ) {k1 k2 : Nat} {n : Nat} {r23 : Int32 → Mm → Option (Int32 × Mm)}  (hk1 : k1 + 4 * (n) ≤ 601024) (hk2 : k2 + 24 * (n) ≤ 7293034) (hr23 : ∀ (k1 k2 : Nat) (φ : Ph), SF 149 φ → k1 + 4 * n ≤ 601024 → k2 + 24 * n ≤ 7293034 → ∀ (l4 : Int32) (M : Mm), r23 l4 M = some (1, M9) → AW G (I_W_law nm hh) B Qm k1 k2 23 [(0, .ref 2000), (1, .ref 0), (2, .ref 134), (3, .ref 148), (4, .int l4)] [] M φ) {l4 : Int32} {M : Mm} (h : f_W_law_2117 L xs r23 l4 M = some (1, M9)) : AW G (I_W_law nm hh) B Qm k1 k2 2117 [(0, .ref 2000), (1, .ref 0), (2, .ref 134), (3, .ref 148), (4, .int l4)] [] M φ := by
  unfold f_W_law_2117 at h
  refine a_goto (tgt := 2537) hB e_W_law_2117 (by decide) ?_
  exact t_W_law_2537 hB hend hn hx hF (by omega) (by omega) hr23 h
set_option maxRecDepth 100000 in
theorem t_W_law_2064 {G : Gt} {nm : String} {hh : List (Nat × Nat × Nat × Nat)} {B : Bag} {L : Nat} {xs : Nat → Int32} {Qm : State → Prop} {M9 : Mm} (hB : BF G (I_W_law nm hh) B) (hend : ∀ (k1 k2 pc : Nat) (ls : List (Nat × Value)) (M : Mm) (φ : Ph), decode (mB (I_W_law nm hh)) pc = .ok (.ireturn, 1) → k1 ≤ 601024 → k2 ≤ 7293034 → AW G (I_W_law nm hh) B Qm k1 k2 pc ls [.int 1] M φ) (hn : gN G = L) (hx : gX G = xs) {φ : Ph} (hF : SF 149 φ) {k1 k2 : Nat} {n : Nat} {r23 : Int32 → Mm → Option (Int32 × Mm)}  (hk1 : k1 + 4 * (n + 1) ≤ 601024) (hk2 : k2 + 24 * (n + 1) ≤ 7293034) (hr23 : ∀ (k1 k2 : Nat) (φ : Ph), SF 149 φ → k1 + 4 * n ≤ 601024 → k2 + 24 * n ≤ 7293034 → ∀ (l4 : Int32) (M : Mm), r23 l4 M = some (1, M9) → AW G (I_W_law nm hh) B Qm k1 k2 23 [(0, .ref 2000), (1, .ref 0), (2, .ref 134), (3, .ref 148), (4, .int l4)] [] M φ) {l4 : Int32} {M : Mm} (h : f_W_law_2064 L xs r23 l4 M = some (1, M9)) : AW G (I_W_law nm hh) B Qm k1 k2 2064 [(0, .ref 2000), (1, .ref 0), (2, .ref 134), (3, .ref 148), (4, .int l4)] [] M φ := by
  unfold f_W_law_2064 at h
  refine a_aload_n (j := 1) hB e_W_law_2064 rfl rfl ?_
  refine a_aload_n (j := 0) hB e_W_law_2065 rfl rfl ?_
  refine a_iload (j := 4) hB e_W_law_2066 rfl ?_
  refine a_iconst (v := 1) hB e_W_law_2068 ic_1 ?_
  refine a_iadd hB e_W_law_2069 ?_
  obtain ⟨c2070, h⟩ := chk_i h
  refine a_sld' hB hn hx c2070 e_W_law_2070 ?_
  refine a_aload_n (j := 3) hB e_W_law_2071 rfl rfl ?_
  obtain ⟨r2072, M2072, hr2072, h⟩ := bn2_i h
  obtain ⟨φ2072, hφ2072⟩ : ∃ q, pK r2072 φ = q := ⟨_, rfl⟩
  have hF0 := hF
  refine a_ret (v := (some (.int r2072))) (M1 := M2072) (φ1 := φ2072) (st1 := [.int r2072]) (j1 := k1 + 1) (j2 := k2 + 6) (ar_SX (As := [.ref 0, .int (xs (ix (l4 + (1 : Int32)))), .ref 148]) (rest := []) hB (c_W_run (bf_G hB) hF hφ2072 hr2072) ml_W_252 md_W_run rfl rfl (Nat.le_of_ble_eq_true rfl) (rmL (c := 1) (s := 6) (by decide) (by decide) (by omega) (by omega) rfl rfl) e_W_law_2072) rfl rfl rfl ?_
  have hF : SF 149 φ2072 := by rw [← hφ2072]; exact sf_K hF0 _
  refine a_istore (ls' := [(5, .int r2072), (0, .ref 2000), (1, .ref 0), (2, .ref 134), (3, .ref 148), (4, .int l4)]) hB e_W_law_2075 (Nat.le_of_ble_eq_true rfl) rfl ?_
  refine a_aload_n (j := 3) hB e_W_law_2077 rfl rfl ?_
  refine a_aload_n (j := 1) hB e_W_law_2078 rfl rfl ?_
  refine a_iload (j := 5) hB e_W_law_2079 rfl ?_
  refine a_iconst (v := 1) hB e_W_law_2081 ic_1 ?_
  refine a_iadd hB e_W_law_2082 ?_
  refine a_sld' hB hn hx c2070 e_W_law_2083 ?_
  obtain ⟨r2084, M2084, hr2084, h⟩ := bn2_i h
  refine a_ret (v := (some (.int r2084))) (M1 := M2084) (φ1 := φ2072) (st1 := [.int r2084]) (j1 := k1 + 1) (j2 := k2 + 6) (ar_V (As := [.int (xs (ix (l4 + (1 : Int32))))]) (rest := []) hB (c_M_run (bf_G hB) (sf_m hF (by decide)) hr2084) ml_W_254 md_M_run rc_M_run (sf_lt hF (by decide)) kk_134 rfl rfl (Nat.le_of_ble_eq_true rfl) (rmL (c := 0) (s := 0) (by decide) (by decide) (by omega) (by omega) rfl rfl) e_W_law_2084) rfl rfl rfl ?_
  refine a_istore (ls' := [(6, .int r2084), (5, .int r2072), (0, .ref 2000), (1, .ref 0), (2, .ref 134), (3, .ref 148), (4, .int l4)]) hB e_W_law_2087 (Nat.le_of_ble_eq_true rfl) rfl ?_
  refine a_aload_n (j := 4) hB e_W_law_2089 rfl rfl ?_
  obtain ⟨r2090, hr2090, h⟩ := bn_i h
  refine a_ret (v := (some (.int r2090))) (M1 := M2084) (φ1 := φ2072) (st1 := [.int r2090]) (j1 := k1 + 1) (j2 := k2 + 6) (ar_V (As := []) (rest := []) hB (c_M_thrown (bf_G hB) (sf_m hF (by decide)) hr2090) ml_W_121 md_M_thrown rc_M_thrown (sf_lt hF (by decide)) kk_134 rfl rfl (Nat.le_of_ble_eq_true rfl) (rmL (c := 0) (s := 0) (by decide) (by decide) (by omega) (by omega) rfl rfl) e_W_law_2090) rfl rfl rfl ?_
  refine a_iload (j := 1) hB e_W_law_2093 rfl ?_
  refine a_icmp_eq (tgt := 2100) hB e_W_law_2095 (by decide) (fun c => ?_) (fun c => ?_)
  · have h := ip c h
    refine a_iload (j := 1) hB e_W_law_2100 rfl ?_
    refine a_if_ne (tgt := 2117) hB e_W_law_2102 (by decide) (fun c => ?_) (fun c => ?_)
    · have h := iq c h
      refine a_ls [2, 3, 4, 5, 6] (ls' := [(0, .ref 2000), (1, .ref 0), (2, .ref 134), (3, .ref 148), (4, .int l4)]) rfl ?_
      exact t_W_law_2117 hB hend hn hx hF (by omega) (by omega) hr23 h
    · have h := ip c h
      refine a_aload_n (j := 5) hB e_W_law_2105 rfl rfl ?_
      refine a_iconst (v := 0) hB e_W_law_2106 ic_0 ?_
      refine a_lald hB e_W_law_2107 (sf_lt hF (by decide)) kk_148 (by decide) ?_
      refine a_iload (j := 0) hB e_W_law_2108 rfl ?_
      refine a_i2l hB e_W_law_2110 ?_
      refine a_lcmp hB e_W_law_2111 ?_
      refine a_if_eq (tgt := 2117) hB e_W_law_2112 (by decide) (fun c => ?_) (fun c => ?_)
      · have h := ip c h
        refine a_ls [2, 3, 4, 5, 6] (ls' := [(0, .ref 2000), (1, .ref 0), (2, .ref 134), (3, .ref 148), (4, .int l4)]) rfl ?_
        exact t_W_law_2117 hB hend hn hx hF (by omega) (by omega) hr23 h
      · have h := iq c h
        refine a_iconst (v := 0) hB e_W_law_2115 ic_0 ?_
        exact (no01 h).elim
  · have h := iq c h
    refine a_iconst (v := 0) hB e_W_law_2098 ic_0 ?_
    exact (no01 h).elim
set_option maxRecDepth 100000 in
theorem t_W_law_2173 {G : Gt} {nm : String} {hh : List (Nat × Nat × Nat × Nat)} {B : Bag} {L : Nat} {xs : Nat → Int32} {Qm : State → Prop} {M9 : Mm} (hB : BF G (I_W_law nm hh) B) (hend : ∀ (k1 k2 pc : Nat) (ls : List (Nat × Value)) (M : Mm) (φ : Ph), decode (mB (I_W_law nm hh)) pc = .ok (.ireturn, 1) → k1 ≤ 601024 → k2 ≤ 7293034 → AW G (I_W_law nm hh) B Qm k1 k2 pc ls [.int 1] M φ) (hn : gN G = L) (hx : gX G = xs) {φ : Ph} (hF : SF 149 φ) {k1 k2 : Nat} {n : Nat} {r23 : Int32 → Mm → Option (Int32 × Mm)}  (hk1 : k1 + 4 * (n) ≤ 601024) (hk2 : k2 + 24 * (n) ≤ 7293034) (hr23 : ∀ (k1 k2 : Nat) (φ : Ph), SF 149 φ → k1 + 4 * n ≤ 601024 → k2 + 24 * n ≤ 7293034 → ∀ (l4 : Int32) (M : Mm), r23 l4 M = some (1, M9) → AW G (I_W_law nm hh) B Qm k1 k2 23 [(0, .ref 2000), (1, .ref 0), (2, .ref 134), (3, .ref 148), (4, .int l4)] [] M φ) {l4 : Int32} {M : Mm} (h : f_W_law_2173 L xs r23 l4 M = some (1, M9)) : AW G (I_W_law nm hh) B Qm k1 k2 2173 [(0, .ref 2000), (1, .ref 0), (2, .ref 134), (3, .ref 148), (4, .int l4)] [] M φ := by
  unfold f_W_law_2173 at h
  refine a_goto (tgt := 2537) hB e_W_law_2173 (by decide) ?_
  exact t_W_law_2537 hB hend hn hx hF (by omega) (by omega) hr23 h
set_option maxRecDepth 100000 in
theorem t_W_law_2120 {G : Gt} {nm : String} {hh : List (Nat × Nat × Nat × Nat)} {B : Bag} {L : Nat} {xs : Nat → Int32} {Qm : State → Prop} {M9 : Mm} (hB : BF G (I_W_law nm hh) B) (hend : ∀ (k1 k2 pc : Nat) (ls : List (Nat × Value)) (M : Mm) (φ : Ph), decode (mB (I_W_law nm hh)) pc = .ok (.ireturn, 1) → k1 ≤ 601024 → k2 ≤ 7293034 → AW G (I_W_law nm hh) B Qm k1 k2 pc ls [.int 1] M φ) (hn : gN G = L) (hx : gX G = xs) {φ : Ph} (hF : SF 149 φ) {k1 k2 : Nat} {n : Nat} {r23 : Int32 → Mm → Option (Int32 × Mm)}  (hk1 : k1 + 4 * (n + 1) ≤ 601024) (hk2 : k2 + 24 * (n + 1) ≤ 7293034) (hr23 : ∀ (k1 k2 : Nat) (φ : Ph), SF 149 φ → k1 + 4 * n ≤ 601024 → k2 + 24 * n ≤ 7293034 → ∀ (l4 : Int32) (M : Mm), r23 l4 M = some (1, M9) → AW G (I_W_law nm hh) B Qm k1 k2 23 [(0, .ref 2000), (1, .ref 0), (2, .ref 134), (3, .ref 148), (4, .int l4)] [] M φ) {l4 : Int32} {M : Mm} (h : f_W_law_2120 L xs r23 l4 M = some (1, M9)) : AW G (I_W_law nm hh) B Qm k1 k2 2120 [(0, .ref 2000), (1, .ref 0), (2, .ref 134), (3, .ref 148), (4, .int l4)] [] M φ := by
  unfold f_W_law_2120 at h
  refine a_aload_n (j := 1) hB e_W_law_2120 rfl rfl ?_
  refine a_aload_n (j := 0) hB e_W_law_2121 rfl rfl ?_
  refine a_iload (j := 4) hB e_W_law_2122 rfl ?_
  refine a_iconst (v := 1) hB e_W_law_2124 ic_1 ?_
  refine a_iadd hB e_W_law_2125 ?_
  obtain ⟨c2126, h⟩ := chk_i h
  refine a_sld' hB hn hx c2126 e_W_law_2126 ?_
  refine a_aload_n (j := 3) hB e_W_law_2127 rfl rfl ?_
  obtain ⟨r2128, M2128, hr2128, h⟩ := bn2_i h
  obtain ⟨φ2128, hφ2128⟩ : ∃ q, pK r2128 φ = q := ⟨_, rfl⟩
  have hF0 := hF
  refine a_ret (v := (some (.int r2128))) (M1 := M2128) (φ1 := φ2128) (st1 := [.int r2128]) (j1 := k1 + 1) (j2 := k2 + 6) (ar_SX (As := [.ref 0, .int (xs (ix (l4 + (1 : Int32)))), .ref 148]) (rest := []) hB (c_W_distanceFromStart (bf_G hB) hF hφ2128 hr2128) ml_W_255 md_W_distanceFromStart rfl rfl (Nat.le_of_ble_eq_true rfl) (rmL (c := 1) (s := 6) (by decide) (by decide) (by omega) (by omega) rfl rfl) e_W_law_2128) rfl rfl rfl ?_
  have hF : SF 149 φ2128 := by rw [← hφ2128]; exact sf_K hF0 _
  refine a_istore (ls' := [(5, .int r2128), (0, .ref 2000), (1, .ref 0), (2, .ref 134), (3, .ref 148), (4, .int l4)]) hB e_W_law_2131 (Nat.le_of_ble_eq_true rfl) rfl ?_
  refine a_aload_n (j := 3) hB e_W_law_2133 rfl rfl ?_
  refine a_aload_n (j := 1) hB e_W_law_2134 rfl rfl ?_
  refine a_iload (j := 5) hB e_W_law_2135 rfl ?_
  refine a_iconst (v := 1) hB e_W_law_2137 ic_1 ?_
  refine a_iadd hB e_W_law_2138 ?_
  refine a_sld' hB hn hx c2126 e_W_law_2139 ?_
  obtain ⟨r2140, M2140, hr2140, h⟩ := bn2_i h
  refine a_ret (v := (some (.int r2140))) (M1 := M2140) (φ1 := φ2128) (st1 := [.int r2140]) (j1 := k1 + 1) (j2 := k2 + 6) (ar_V (As := [.int (xs (ix (l4 + (1 : Int32))))]) (rest := []) hB (c_M_distanceFromStart (bf_G hB) (sf_m hF (by decide)) hr2140) ml_W_257 md_M_distanceFromStart rc_M_distanceFromStart (sf_lt hF (by decide)) kk_134 rfl rfl (Nat.le_of_ble_eq_true rfl) (rmL (c := 0) (s := 0) (by decide) (by decide) (by omega) (by omega) rfl rfl) e_W_law_2140) rfl rfl rfl ?_
  refine a_istore (ls' := [(6, .int r2140), (5, .int r2128), (0, .ref 2000), (1, .ref 0), (2, .ref 134), (3, .ref 148), (4, .int l4)]) hB e_W_law_2143 (Nat.le_of_ble_eq_true rfl) rfl ?_
  refine a_aload_n (j := 4) hB e_W_law_2145 rfl rfl ?_
  obtain ⟨r2146, hr2146, h⟩ := bn_i h
  refine a_ret (v := (some (.int r2146))) (M1 := M2140) (φ1 := φ2128) (st1 := [.int r2146]) (j1 := k1 + 1) (j2 := k2 + 6) (ar_V (As := []) (rest := []) hB (c_M_thrown (bf_G hB) (sf_m hF (by decide)) hr2146) ml_W_121 md_M_thrown rc_M_thrown (sf_lt hF (by decide)) kk_134 rfl rfl (Nat.le_of_ble_eq_true rfl) (rmL (c := 0) (s := 0) (by decide) (by decide) (by omega) (by omega) rfl rfl) e_W_law_2146) rfl rfl rfl ?_
  refine a_iload (j := 1) hB e_W_law_2149 rfl ?_
  refine a_icmp_eq (tgt := 2156) hB e_W_law_2151 (by decide) (fun c => ?_) (fun c => ?_)
  · have h := ip c h
    refine a_iload (j := 1) hB e_W_law_2156 rfl ?_
    refine a_if_ne (tgt := 2173) hB e_W_law_2158 (by decide) (fun c => ?_) (fun c => ?_)
    · have h := iq c h
      refine a_ls [2, 3, 4, 5, 6] (ls' := [(0, .ref 2000), (1, .ref 0), (2, .ref 134), (3, .ref 148), (4, .int l4)]) rfl ?_
      exact t_W_law_2173 hB hend hn hx hF (by omega) (by omega) hr23 h
    · have h := ip c h
      refine a_aload_n (j := 5) hB e_W_law_2161 rfl rfl ?_
      refine a_iconst (v := 0) hB e_W_law_2162 ic_0 ?_
      refine a_lald hB e_W_law_2163 (sf_lt hF (by decide)) kk_148 (by decide) ?_
      refine a_iload (j := 0) hB e_W_law_2164 rfl ?_
      refine a_i2l hB e_W_law_2166 ?_
      refine a_lcmp hB e_W_law_2167 ?_
      refine a_if_eq (tgt := 2173) hB e_W_law_2168 (by decide) (fun c => ?_) (fun c => ?_)
      · have h := ip c h
        refine a_ls [2, 3, 4, 5, 6] (ls' := [(0, .ref 2000), (1, .ref 0), (2, .ref 134), (3, .ref 148), (4, .int l4)]) rfl ?_
        exact t_W_law_2173 hB hend hn hx hF (by omega) (by omega) hr23 h
      · have h := iq c h
        refine a_iconst (v := 0) hB e_W_law_2171 ic_0 ?_
        exact (no01 h).elim
  · have h := iq c h
    refine a_iconst (v := 0) hB e_W_law_2154 ic_0 ?_
    exact (no01 h).elim
set_option maxRecDepth 100000 in
theorem t_W_law_2176 {G : Gt} {nm : String} {hh : List (Nat × Nat × Nat × Nat)} {B : Bag} {L : Nat} {xs : Nat → Int32} {Qm : State → Prop} {M9 : Mm} (hB : BF G (I_W_law nm hh) B) (hend : ∀ (k1 k2 pc : Nat) (ls : List (Nat × Value)) (M : Mm) (φ : Ph), decode (mB (I_W_law nm hh)) pc = .ok (.ireturn, 1) → k1 ≤ 601024 → k2 ≤ 7293034 → AW G (I_W_law nm hh) B Qm k1 k2 pc ls [.int 1] M φ) (hn : gN G = L) (hx : gX G = xs) {φ : Ph} (hF : SF 149 φ) {k1 k2 : Nat} {n : Nat} {r23 : Int32 → Mm → Option (Int32 × Mm)}  (hk1 : k1 + 4 * (n + 1) ≤ 601024) (hk2 : k2 + 24 * (n + 1) ≤ 7293034) (hr23 : ∀ (k1 k2 : Nat) (φ : Ph), SF 149 φ → k1 + 4 * n ≤ 601024 → k2 + 24 * n ≤ 7293034 → ∀ (l4 : Int32) (M : Mm), r23 l4 M = some (1, M9) → AW G (I_W_law nm hh) B Qm k1 k2 23 [(0, .ref 2000), (1, .ref 0), (2, .ref 134), (3, .ref 148), (4, .int l4)] [] M φ) {l4 : Int32} {M : Mm} (h : f_W_law_2176 L xs r23 l4 M = some (1, M9)) : AW G (I_W_law nm hh) B Qm k1 k2 2176 [(0, .ref 2000), (1, .ref 0), (2, .ref 134), (3, .ref 148), (4, .int l4)] [] M φ := by
  unfold f_W_law_2176 at h
  refine a_aload_n (j := 1) hB e_W_law_2176 rfl rfl ?_
  obtain ⟨r2177, M2177, hr2177, h⟩ := bn2_i h
  refine a_ret (v := (some (.int r2177))) (M1 := M2177) (φ1 := φ) (st1 := [.int r2177]) (j1 := k1) (j2 := k2) (ar_V (As := []) (rest := []) hB (c_C_perimeter (bf_G hB) (sf_m hF (by decide)) hr2177) ml_W_258 md_C_perimeter rc_C_perimeter (sf_lt hF (by decide)) kk_0 rfl rfl (Nat.le_of_ble_eq_true rfl) (rmL (c := 0) (s := 0) (by decide) (by decide) (by omega) (by omega) rfl rfl) e_W_law_2177) rfl rfl rfl ?_
  refine a_aload_n (j := 2) hB e_W_law_2180 rfl rfl ?_
  obtain ⟨r2181, M2181, hr2181, h⟩ := bn2_i h
  refine a_ret (v := (some (.int r2181))) (M1 := M2181) (φ1 := φ) (st1 := [.int r2181, .int r2177]) (j1 := k1) (j2 := k2) (ar_V (As := []) (rest := [.int r2177]) hB (c_M_perimeter (bf_G hB) (sf_m hF (by decide)) hr2181) ml_W_261 md_M_perimeter rc_M_perimeter (sf_lt hF (by decide)) kk_134 rfl rfl (Nat.le_of_ble_eq_true rfl) (rmL (c := 0) (s := 0) (by decide) (by decide) (by omega) (by omega) rfl rfl) e_W_law_2181) rfl rfl rfl ?_
  refine a_icmp_eq (tgt := 2537) hB e_W_law_2184 (by decide) (fun c => ?_) (fun c => ?_)
  · have h := ip c h
    exact t_W_law_2537 hB hend hn hx hF (by omega) (by omega) hr23 h
  · have h := iq c h
    refine a_iconst (v := 0) hB e_W_law_2187 ic_0 ?_
    exact (no01 h).elim
set_option maxRecDepth 100000 in
theorem t_W_law_2189 {G : Gt} {nm : String} {hh : List (Nat × Nat × Nat × Nat)} {B : Bag} {L : Nat} {xs : Nat → Int32} {Qm : State → Prop} {M9 : Mm} (hB : BF G (I_W_law nm hh) B) (hend : ∀ (k1 k2 pc : Nat) (ls : List (Nat × Value)) (M : Mm) (φ : Ph), decode (mB (I_W_law nm hh)) pc = .ok (.ireturn, 1) → k1 ≤ 601024 → k2 ≤ 7293034 → AW G (I_W_law nm hh) B Qm k1 k2 pc ls [.int 1] M φ) (hn : gN G = L) (hx : gX G = xs) {φ : Ph} (hF : SF 149 φ) {k1 k2 : Nat} {n : Nat} {r23 : Int32 → Mm → Option (Int32 × Mm)}  (hk1 : k1 + 4 * (n + 1) ≤ 601024) (hk2 : k2 + 24 * (n + 1) ≤ 7293034) (hr23 : ∀ (k1 k2 : Nat) (φ : Ph), SF 149 φ → k1 + 4 * n ≤ 601024 → k2 + 24 * n ≤ 7293034 → ∀ (l4 : Int32) (M : Mm), r23 l4 M = some (1, M9) → AW G (I_W_law nm hh) B Qm k1 k2 23 [(0, .ref 2000), (1, .ref 0), (2, .ref 134), (3, .ref 148), (4, .int l4)] [] M φ) {l4 : Int32} {M : Mm} (h : f_W_law_2189 L xs r23 l4 M = some (1, M9)) : AW G (I_W_law nm hh) B Qm k1 k2 2189 [(0, .ref 2000), (1, .ref 0), (2, .ref 134), (3, .ref 148), (4, .int l4)] [] M φ := by
  unfold f_W_law_2189 at h
  refine a_aload_n (j := 1) hB e_W_law_2189 rfl rfl ?_
  obtain ⟨r2190, M2190, hr2190, h⟩ := bn2_i h
  refine a_ret (v := (some (.int r2190))) (M1 := M2190) (φ1 := φ) (st1 := [.int r2190]) (j1 := k1) (j2 := k2) (ar_V (As := []) (rest := []) hB (c_C_closingEast (bf_G hB) (sf_m hF (by decide)) hr2190) ml_W_262 md_C_closingEast rc_C_closingEast (sf_lt hF (by decide)) kk_0 rfl rfl (Nat.le_of_ble_eq_true rfl) (rmL (c := 0) (s := 0) (by decide) (by decide) (by omega) (by omega) rfl rfl) e_W_law_2190) rfl rfl rfl ?_
  refine a_aload_n (j := 2) hB e_W_law_2193 rfl rfl ?_
  obtain ⟨r2194, M2194, hr2194, h⟩ := bn2_i h
  refine a_ret (v := (some (.int r2194))) (M1 := M2194) (φ1 := φ) (st1 := [.int r2194, .int r2190]) (j1 := k1) (j2 := k2) (ar_V (As := []) (rest := [.int r2190]) hB (c_M_closingEast (bf_G hB) (sf_m hF (by decide)) hr2194) ml_W_265 md_M_closingEast rc_M_closingEast (sf_lt hF (by decide)) kk_134 rfl rfl (Nat.le_of_ble_eq_true rfl) (rmL (c := 0) (s := 0) (by decide) (by decide) (by omega) (by omega) rfl rfl) e_W_law_2194) rfl rfl rfl ?_
  refine a_icmp_eq (tgt := 2537) hB e_W_law_2197 (by decide) (fun c => ?_) (fun c => ?_)
  · have h := ip c h
    exact t_W_law_2537 hB hend hn hx hF (by omega) (by omega) hr23 h
  · have h := iq c h
    refine a_iconst (v := 0) hB e_W_law_2200 ic_0 ?_
    exact (no01 h).elim
set_option maxRecDepth 100000 in
theorem t_W_law_2202 {G : Gt} {nm : String} {hh : List (Nat × Nat × Nat × Nat)} {B : Bag} {L : Nat} {xs : Nat → Int32} {Qm : State → Prop} {M9 : Mm} (hB : BF G (I_W_law nm hh) B) (hend : ∀ (k1 k2 pc : Nat) (ls : List (Nat × Value)) (M : Mm) (φ : Ph), decode (mB (I_W_law nm hh)) pc = .ok (.ireturn, 1) → k1 ≤ 601024 → k2 ≤ 7293034 → AW G (I_W_law nm hh) B Qm k1 k2 pc ls [.int 1] M φ) (hn : gN G = L) (hx : gX G = xs) {φ : Ph} (hF : SF 149 φ) {k1 k2 : Nat} {n : Nat} {r23 : Int32 → Mm → Option (Int32 × Mm)}  (hk1 : k1 + 4 * (n + 1) ≤ 601024) (hk2 : k2 + 24 * (n + 1) ≤ 7293034) (hr23 : ∀ (k1 k2 : Nat) (φ : Ph), SF 149 φ → k1 + 4 * n ≤ 601024 → k2 + 24 * n ≤ 7293034 → ∀ (l4 : Int32) (M : Mm), r23 l4 M = some (1, M9) → AW G (I_W_law nm hh) B Qm k1 k2 23 [(0, .ref 2000), (1, .ref 0), (2, .ref 134), (3, .ref 148), (4, .int l4)] [] M φ) {l4 : Int32} {M : Mm} (h : f_W_law_2202 L xs r23 l4 M = some (1, M9)) : AW G (I_W_law nm hh) B Qm k1 k2 2202 [(0, .ref 2000), (1, .ref 0), (2, .ref 134), (3, .ref 148), (4, .int l4)] [] M φ := by
  unfold f_W_law_2202 at h
  refine a_aload_n (j := 1) hB e_W_law_2202 rfl rfl ?_
  obtain ⟨r2203, M2203, hr2203, h⟩ := bn2_i h
  refine a_ret (v := (some (.int r2203))) (M1 := M2203) (φ1 := φ) (st1 := [.int r2203]) (j1 := k1) (j2 := k2) (ar_V (As := []) (rest := []) hB (c_C_closingNorth (bf_G hB) (sf_m hF (by decide)) hr2203) ml_W_266 md_C_closingNorth rc_C_closingNorth (sf_lt hF (by decide)) kk_0 rfl rfl (Nat.le_of_ble_eq_true rfl) (rmL (c := 0) (s := 0) (by decide) (by decide) (by omega) (by omega) rfl rfl) e_W_law_2203) rfl rfl rfl ?_
  refine a_aload_n (j := 2) hB e_W_law_2206 rfl rfl ?_
  obtain ⟨r2207, M2207, hr2207, h⟩ := bn2_i h
  refine a_ret (v := (some (.int r2207))) (M1 := M2207) (φ1 := φ) (st1 := [.int r2207, .int r2203]) (j1 := k1) (j2 := k2) (ar_V (As := []) (rest := [.int r2203]) hB (c_M_closingNorth (bf_G hB) (sf_m hF (by decide)) hr2207) ml_W_269 md_M_closingNorth rc_M_closingNorth (sf_lt hF (by decide)) kk_134 rfl rfl (Nat.le_of_ble_eq_true rfl) (rmL (c := 0) (s := 0) (by decide) (by decide) (by omega) (by omega) rfl rfl) e_W_law_2207) rfl rfl rfl ?_
  refine a_icmp_eq (tgt := 2537) hB e_W_law_2210 (by decide) (fun c => ?_) (fun c => ?_)
  · have h := ip c h
    exact t_W_law_2537 hB hend hn hx hF (by omega) (by omega) hr23 h
  · have h := iq c h
    refine a_iconst (v := 0) hB e_W_law_2213 ic_0 ?_
    exact (no01 h).elim
set_option maxRecDepth 100000 in
theorem t_W_law_2215 {G : Gt} {nm : String} {hh : List (Nat × Nat × Nat × Nat)} {B : Bag} {L : Nat} {xs : Nat → Int32} {Qm : State → Prop} {M9 : Mm} (hB : BF G (I_W_law nm hh) B) (hend : ∀ (k1 k2 pc : Nat) (ls : List (Nat × Value)) (M : Mm) (φ : Ph), decode (mB (I_W_law nm hh)) pc = .ok (.ireturn, 1) → k1 ≤ 601024 → k2 ≤ 7293034 → AW G (I_W_law nm hh) B Qm k1 k2 pc ls [.int 1] M φ) (hn : gN G = L) (hx : gX G = xs) {φ : Ph} (hF : SF 149 φ) {k1 k2 : Nat} {n : Nat} {r23 : Int32 → Mm → Option (Int32 × Mm)}  (hk1 : k1 + 4 * (n + 1) ≤ 601024) (hk2 : k2 + 24 * (n + 1) ≤ 7293034) (hr23 : ∀ (k1 k2 : Nat) (φ : Ph), SF 149 φ → k1 + 4 * n ≤ 601024 → k2 + 24 * n ≤ 7293034 → ∀ (l4 : Int32) (M : Mm), r23 l4 M = some (1, M9) → AW G (I_W_law nm hh) B Qm k1 k2 23 [(0, .ref 2000), (1, .ref 0), (2, .ref 134), (3, .ref 148), (4, .int l4)] [] M φ) {l4 : Int32} {M : Mm} (h : f_W_law_2215 L xs r23 l4 M = some (1, M9)) : AW G (I_W_law nm hh) B Qm k1 k2 2215 [(0, .ref 2000), (1, .ref 0), (2, .ref 134), (3, .ref 148), (4, .int l4)] [] M φ := by
  unfold f_W_law_2215 at h
  refine a_aload_n (j := 1) hB e_W_law_2215 rfl rfl ?_
  obtain ⟨r2216, M2216, hr2216, h⟩ := bn2_i h
  refine a_ret (v := (some (.int r2216))) (M1 := M2216) (φ1 := φ) (st1 := [.int r2216]) (j1 := k1) (j2 := k2) (ar_V (As := []) (rest := []) hB (c_C_misclosure (bf_G hB) (sf_m hF (by decide)) hr2216) ml_W_270 md_C_misclosure rc_C_misclosure (sf_lt hF (by decide)) kk_0 rfl rfl (Nat.le_of_ble_eq_true rfl) (rmL (c := 0) (s := 0) (by decide) (by decide) (by omega) (by omega) rfl rfl) e_W_law_2216) rfl rfl rfl ?_
  refine a_aload_n (j := 2) hB e_W_law_2219 rfl rfl ?_
  obtain ⟨r2220, M2220, hr2220, h⟩ := bn2_i h
  refine a_ret (v := (some (.int r2220))) (M1 := M2220) (φ1 := φ) (st1 := [.int r2220, .int r2216]) (j1 := k1) (j2 := k2) (ar_V (As := []) (rest := [.int r2216]) hB (c_M_misclosure (bf_G hB) (sf_m hF (by decide)) hr2220) ml_W_273 md_M_misclosure rc_M_misclosure (sf_lt hF (by decide)) kk_134 rfl rfl (Nat.le_of_ble_eq_true rfl) (rmL (c := 0) (s := 0) (by decide) (by decide) (by omega) (by omega) rfl rfl) e_W_law_2220) rfl rfl rfl ?_
  refine a_icmp_eq (tgt := 2537) hB e_W_law_2223 (by decide) (fun c => ?_) (fun c => ?_)
  · have h := ip c h
    exact t_W_law_2537 hB hend hn hx hF (by omega) (by omega) hr23 h
  · have h := iq c h
    refine a_iconst (v := 0) hB e_W_law_2226 ic_0 ?_
    exact (no01 h).elim
set_option maxRecDepth 100000 in
theorem t_W_law_2228 {G : Gt} {nm : String} {hh : List (Nat × Nat × Nat × Nat)} {B : Bag} {L : Nat} {xs : Nat → Int32} {Qm : State → Prop} {M9 : Mm} (hB : BF G (I_W_law nm hh) B) (hend : ∀ (k1 k2 pc : Nat) (ls : List (Nat × Value)) (M : Mm) (φ : Ph), decode (mB (I_W_law nm hh)) pc = .ok (.ireturn, 1) → k1 ≤ 601024 → k2 ≤ 7293034 → AW G (I_W_law nm hh) B Qm k1 k2 pc ls [.int 1] M φ) (hn : gN G = L) (hx : gX G = xs) {φ : Ph} (hF : SF 149 φ) {k1 k2 : Nat} {n : Nat} {r23 : Int32 → Mm → Option (Int32 × Mm)}  (hk1 : k1 + 4 * (n + 1) ≤ 601024) (hk2 : k2 + 24 * (n + 1) ≤ 7293034) (hr23 : ∀ (k1 k2 : Nat) (φ : Ph), SF 149 φ → k1 + 4 * n ≤ 601024 → k2 + 24 * n ≤ 7293034 → ∀ (l4 : Int32) (M : Mm), r23 l4 M = some (1, M9) → AW G (I_W_law nm hh) B Qm k1 k2 23 [(0, .ref 2000), (1, .ref 0), (2, .ref 134), (3, .ref 148), (4, .int l4)] [] M φ) {l4 : Int32} {M : Mm} (h : f_W_law_2228 L xs r23 l4 M = some (1, M9)) : AW G (I_W_law nm hh) B Qm k1 k2 2228 [(0, .ref 2000), (1, .ref 0), (2, .ref 134), (3, .ref 148), (4, .int l4)] [] M φ := by
  unfold f_W_law_2228 at h
  refine a_aload_n (j := 1) hB e_W_law_2228 rfl rfl ?_
  obtain ⟨r2229, M2229, hr2229, h⟩ := bn2_i h
  refine a_ret (v := (some (.int r2229))) (M1 := M2229) (φ1 := φ) (st1 := [.int r2229]) (j1 := k1) (j2 := k2) (ar_V (As := []) (rest := []) hB (c_C_precision (bf_G hB) (sf_m hF (by decide)) hr2229) ml_W_274 md_C_precision rc_C_precision (sf_lt hF (by decide)) kk_0 rfl rfl (Nat.le_of_ble_eq_true rfl) (rmL (c := 0) (s := 0) (by decide) (by decide) (by omega) (by omega) rfl rfl) e_W_law_2229) rfl rfl rfl ?_
  refine a_aload_n (j := 2) hB e_W_law_2232 rfl rfl ?_
  obtain ⟨r2233, M2233, hr2233, h⟩ := bn2_i h
  refine a_ret (v := (some (.int r2233))) (M1 := M2233) (φ1 := φ) (st1 := [.int r2233, .int r2229]) (j1 := k1) (j2 := k2) (ar_V (As := []) (rest := [.int r2229]) hB (c_M_precision (bf_G hB) (sf_m hF (by decide)) hr2233) ml_W_277 md_M_precision rc_M_precision (sf_lt hF (by decide)) kk_134 rfl rfl (Nat.le_of_ble_eq_true rfl) (rmL (c := 0) (s := 0) (by decide) (by decide) (by omega) (by omega) rfl rfl) e_W_law_2233) rfl rfl rfl ?_
  refine a_icmp_eq (tgt := 2537) hB e_W_law_2236 (by decide) (fun c => ?_) (fun c => ?_)
  · have h := ip c h
    exact t_W_law_2537 hB hend hn hx hF (by omega) (by omega) hr23 h
  · have h := iq c h
    refine a_iconst (v := 0) hB e_W_law_2239 ic_0 ?_
    exact (no01 h).elim
set_option maxRecDepth 100000 in
theorem t_W_law_2241 {G : Gt} {nm : String} {hh : List (Nat × Nat × Nat × Nat)} {B : Bag} {L : Nat} {xs : Nat → Int32} {Qm : State → Prop} {M9 : Mm} (hB : BF G (I_W_law nm hh) B) (hend : ∀ (k1 k2 pc : Nat) (ls : List (Nat × Value)) (M : Mm) (φ : Ph), decode (mB (I_W_law nm hh)) pc = .ok (.ireturn, 1) → k1 ≤ 601024 → k2 ≤ 7293034 → AW G (I_W_law nm hh) B Qm k1 k2 pc ls [.int 1] M φ) (hn : gN G = L) (hx : gX G = xs) {φ : Ph} (hF : SF 149 φ) {k1 k2 : Nat} {n : Nat} {r23 : Int32 → Mm → Option (Int32 × Mm)}  (hk1 : k1 + 4 * (n + 1) ≤ 601024) (hk2 : k2 + 24 * (n + 1) ≤ 7293034) (hr23 : ∀ (k1 k2 : Nat) (φ : Ph), SF 149 φ → k1 + 4 * n ≤ 601024 → k2 + 24 * n ≤ 7293034 → ∀ (l4 : Int32) (M : Mm), r23 l4 M = some (1, M9) → AW G (I_W_law nm hh) B Qm k1 k2 23 [(0, .ref 2000), (1, .ref 0), (2, .ref 134), (3, .ref 148), (4, .int l4)] [] M φ) {l4 : Int32} {M : Mm} (h : f_W_law_2241 L xs r23 l4 M = some (1, M9)) : AW G (I_W_law nm hh) B Qm k1 k2 2241 [(0, .ref 2000), (1, .ref 0), (2, .ref 134), (3, .ref 148), (4, .int l4)] [] M φ := by
  unfold f_W_law_2241 at h
  refine a_aload_n (j := 1) hB e_W_law_2241 rfl rfl ?_
  obtain ⟨r2242, M2242, hr2242, h⟩ := bn2_i h
  refine a_ret (v := (some (.int r2242))) (M1 := M2242) (φ1 := φ) (st1 := [.int r2242]) (j1 := k1) (j2 := k2) (ar_V (As := []) (rest := []) hB (c_C_width (bf_G hB) (sf_m hF (by decide)) hr2242) ml_W_278 md_C_width rc_C_width (sf_lt hF (by decide)) kk_0 rfl rfl (Nat.le_of_ble_eq_true rfl) (rmL (c := 0) (s := 0) (by decide) (by decide) (by omega) (by omega) rfl rfl) e_W_law_2242) rfl rfl rfl ?_
  refine a_aload_n (j := 2) hB e_W_law_2245 rfl rfl ?_
  obtain ⟨r2246, M2246, hr2246, h⟩ := bn2_i h
  refine a_ret (v := (some (.int r2246))) (M1 := M2246) (φ1 := φ) (st1 := [.int r2246, .int r2242]) (j1 := k1) (j2 := k2) (ar_V (As := []) (rest := [.int r2242]) hB (c_M_width (bf_G hB) (sf_m hF (by decide)) hr2246) ml_W_281 md_M_width rc_M_width (sf_lt hF (by decide)) kk_134 rfl rfl (Nat.le_of_ble_eq_true rfl) (rmL (c := 0) (s := 0) (by decide) (by decide) (by omega) (by omega) rfl rfl) e_W_law_2246) rfl rfl rfl ?_
  refine a_icmp_eq (tgt := 2537) hB e_W_law_2249 (by decide) (fun c => ?_) (fun c => ?_)
  · have h := ip c h
    exact t_W_law_2537 hB hend hn hx hF (by omega) (by omega) hr23 h
  · have h := iq c h
    refine a_iconst (v := 0) hB e_W_law_2252 ic_0 ?_
    exact (no01 h).elim
set_option maxRecDepth 100000 in
theorem t_W_law_2254 {G : Gt} {nm : String} {hh : List (Nat × Nat × Nat × Nat)} {B : Bag} {L : Nat} {xs : Nat → Int32} {Qm : State → Prop} {M9 : Mm} (hB : BF G (I_W_law nm hh) B) (hend : ∀ (k1 k2 pc : Nat) (ls : List (Nat × Value)) (M : Mm) (φ : Ph), decode (mB (I_W_law nm hh)) pc = .ok (.ireturn, 1) → k1 ≤ 601024 → k2 ≤ 7293034 → AW G (I_W_law nm hh) B Qm k1 k2 pc ls [.int 1] M φ) (hn : gN G = L) (hx : gX G = xs) {φ : Ph} (hF : SF 149 φ) {k1 k2 : Nat} {n : Nat} {r23 : Int32 → Mm → Option (Int32 × Mm)}  (hk1 : k1 + 4 * (n + 1) ≤ 601024) (hk2 : k2 + 24 * (n + 1) ≤ 7293034) (hr23 : ∀ (k1 k2 : Nat) (φ : Ph), SF 149 φ → k1 + 4 * n ≤ 601024 → k2 + 24 * n ≤ 7293034 → ∀ (l4 : Int32) (M : Mm), r23 l4 M = some (1, M9) → AW G (I_W_law nm hh) B Qm k1 k2 23 [(0, .ref 2000), (1, .ref 0), (2, .ref 134), (3, .ref 148), (4, .int l4)] [] M φ) {l4 : Int32} {M : Mm} (h : f_W_law_2254 L xs r23 l4 M = some (1, M9)) : AW G (I_W_law nm hh) B Qm k1 k2 2254 [(0, .ref 2000), (1, .ref 0), (2, .ref 134), (3, .ref 148), (4, .int l4)] [] M φ := by
  unfold f_W_law_2254 at h
  refine a_aload_n (j := 1) hB e_W_law_2254 rfl rfl ?_
  obtain ⟨r2255, M2255, hr2255, h⟩ := bn2_i h
  refine a_ret (v := (some (.int r2255))) (M1 := M2255) (φ1 := φ) (st1 := [.int r2255]) (j1 := k1) (j2 := k2) (ar_V (As := []) (rest := []) hB (c_C_height (bf_G hB) (sf_m hF (by decide)) hr2255) ml_W_282 md_C_height rc_C_height (sf_lt hF (by decide)) kk_0 rfl rfl (Nat.le_of_ble_eq_true rfl) (rmL (c := 0) (s := 0) (by decide) (by decide) (by omega) (by omega) rfl rfl) e_W_law_2255) rfl rfl rfl ?_
  refine a_aload_n (j := 2) hB e_W_law_2258 rfl rfl ?_
  obtain ⟨r2259, M2259, hr2259, h⟩ := bn2_i h
  refine a_ret (v := (some (.int r2259))) (M1 := M2259) (φ1 := φ) (st1 := [.int r2259, .int r2255]) (j1 := k1) (j2 := k2) (ar_V (As := []) (rest := [.int r2255]) hB (c_M_height (bf_G hB) (sf_m hF (by decide)) hr2259) ml_W_285 md_M_height rc_M_height (sf_lt hF (by decide)) kk_134 rfl rfl (Nat.le_of_ble_eq_true rfl) (rmL (c := 0) (s := 0) (by decide) (by decide) (by omega) (by omega) rfl rfl) e_W_law_2259) rfl rfl rfl ?_
  refine a_icmp_eq (tgt := 2537) hB e_W_law_2262 (by decide) (fun c => ?_) (fun c => ?_)
  · have h := ip c h
    exact t_W_law_2537 hB hend hn hx hF (by omega) (by omega) hr23 h
  · have h := iq c h
    refine a_iconst (v := 0) hB e_W_law_2265 ic_0 ?_
    exact (no01 h).elim
set_option maxRecDepth 100000 in
theorem t_W_law_2267 {G : Gt} {nm : String} {hh : List (Nat × Nat × Nat × Nat)} {B : Bag} {L : Nat} {xs : Nat → Int32} {Qm : State → Prop} {M9 : Mm} (hB : BF G (I_W_law nm hh) B) (hend : ∀ (k1 k2 pc : Nat) (ls : List (Nat × Value)) (M : Mm) (φ : Ph), decode (mB (I_W_law nm hh)) pc = .ok (.ireturn, 1) → k1 ≤ 601024 → k2 ≤ 7293034 → AW G (I_W_law nm hh) B Qm k1 k2 pc ls [.int 1] M φ) (hn : gN G = L) (hx : gX G = xs) {φ : Ph} (hF : SF 149 φ) {k1 k2 : Nat} {n : Nat} {r23 : Int32 → Mm → Option (Int32 × Mm)}  (hk1 : k1 + 4 * (n + 1) ≤ 601024) (hk2 : k2 + 24 * (n + 1) ≤ 7293034) (hr23 : ∀ (k1 k2 : Nat) (φ : Ph), SF 149 φ → k1 + 4 * n ≤ 601024 → k2 + 24 * n ≤ 7293034 → ∀ (l4 : Int32) (M : Mm), r23 l4 M = some (1, M9) → AW G (I_W_law nm hh) B Qm k1 k2 23 [(0, .ref 2000), (1, .ref 0), (2, .ref 134), (3, .ref 148), (4, .int l4)] [] M φ) {l4 : Int32} {M : Mm} (h : f_W_law_2267 L xs r23 l4 M = some (1, M9)) : AW G (I_W_law nm hh) B Qm k1 k2 2267 [(0, .ref 2000), (1, .ref 0), (2, .ref 134), (3, .ref 148), (4, .int l4)] [] M φ := by
  unfold f_W_law_2267 at h
  refine a_aload_n (j := 1) hB e_W_law_2267 rfl rfl ?_
  obtain ⟨r2268, M2268, hr2268, h⟩ := bn2_i h
  refine a_ret (v := (some (.int r2268))) (M1 := M2268) (φ1 := φ) (st1 := [.int r2268]) (j1 := k1) (j2 := k2) (ar_V (As := []) (rest := []) hB (c_C_farthestStation (bf_G hB) (sf_m hF (by decide)) hr2268) ml_W_286 md_C_farthestStation rc_C_farthestStation (sf_lt hF (by decide)) kk_0 rfl rfl (Nat.le_of_ble_eq_true rfl) (rmL (c := 0) (s := 0) (by decide) (by decide) (by omega) (by omega) rfl rfl) e_W_law_2268) rfl rfl rfl ?_
  refine a_aload_n (j := 2) hB e_W_law_2271 rfl rfl ?_
  obtain ⟨r2272, M2272, hr2272, h⟩ := bn2_i h
  refine a_ret (v := (some (.int r2272))) (M1 := M2272) (φ1 := φ) (st1 := [.int r2272, .int r2268]) (j1 := k1) (j2 := k2) (ar_V (As := []) (rest := [.int r2268]) hB (c_M_farthestStation (bf_G hB) (sf_m hF (by decide)) hr2272) ml_W_289 md_M_farthestStation rc_M_farthestStation (sf_lt hF (by decide)) kk_134 rfl rfl (Nat.le_of_ble_eq_true rfl) (rmL (c := 0) (s := 0) (by decide) (by decide) (by omega) (by omega) rfl rfl) e_W_law_2272) rfl rfl rfl ?_
  refine a_icmp_eq (tgt := 2537) hB e_W_law_2275 (by decide) (fun c => ?_) (fun c => ?_)
  · have h := ip c h
    exact t_W_law_2537 hB hend hn hx hF (by omega) (by omega) hr23 h
  · have h := iq c h
    refine a_iconst (v := 0) hB e_W_law_2278 ic_0 ?_
    exact (no01 h).elim
