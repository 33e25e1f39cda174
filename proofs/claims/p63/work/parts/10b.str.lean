/-! String.length and String.charAt on the literals -/
def yP_chk : MethodName := ⟨RJ3, "checkIndex", "(IILjava/util/function/BiFunction;)I"⟩
def I_P_chk : MI := (yP_chk, prog_25_method_11_code, 3, some .int, { frames := 0, cells := 0, slots := 0, locals := 0 }, [])
def I_U_checkIndex : MI := (yJ0_checkIndex_df160, cJ0_checkIndex_df160, 2, none, { frames := 1, cells := 0, slots := 0, locals := 22 }, [])
def I_U_coder : MI := (yJ0_coder_7d493, cJ0_coder_7d493, 1, some .byte, { frames := 0, cells := 0, slots := 0, locals := 0 }, [])
def I_U_isLatin1 : MI := (yJ0_isLatin1_aae02, cJ0_isLatin1_aae02, 1, some .boolean, { frames := 0, cells := 0, slots := 0, locals := 0 }, [])
def I_V_charAt : MI := (yJ1_charAt_3b067, cJ1_charAt_3b067, 2, some .char, { frames := 2, cells := 0, slots := 0, locals := 8 + 13 + 22 }, [])
def I_U_length : MI := (yJ0_length_8abf5, cJ0_length_8abf5, 1, some .int, { frames := 1, cells := 0, slots := 0, locals := 20 }, [])
def I_U_charAt : MI := (yJ0_charAt_5068e, cJ0_charAt_5068e, 2, some .char, { frames := 3, cells := 0, slots := 0, locals := 8 + 13 + 43 }, [])
theorem e_P_chk_0 : decode (mB I_P_chk) 0 = .ok (.iload_n 0, 1) := by decide +kernel
theorem e_P_chk_1 : decode (mB I_P_chk) 1 = .ok (.ifCond .lt 8, 3) := by decide +kernel
theorem e_P_chk_4 : decode (mB I_P_chk) 4 = .ok (.iload_n 0, 1) := by decide +kernel
theorem e_P_chk_5 : decode (mB I_P_chk) 5 = .ok (.iload_n 1, 1) := by decide +kernel
theorem e_P_chk_6 : decode (mB I_P_chk) 6 = .ok (.if_icmp .lt 10, 3) := by decide +kernel
theorem e_P_chk_16 : decode (mB I_P_chk) 16 = .ok (.iload_n 0, 1) := by decide +kernel
theorem e_P_chk_17 : decode (mB I_P_chk) 17 = .ok (.ireturn, 1) := by decide +kernel
theorem e_U_checkIndex_0 : decode (mB I_U_checkIndex) 0 = .ok (.iload_n 0, 1) := by decide +kernel
theorem e_U_checkIndex_1 : decode (mB I_U_checkIndex) 1 = .ok (.iload_n 1, 1) := by decide +kernel
theorem e_U_checkIndex_2 : decode (mB I_U_checkIndex) 2 = .ok (.getstatic 1053, 3) := by decide +kernel
theorem e_U_checkIndex_5 : decode (mB I_U_checkIndex) 5 = .ok (.invokestatic 1059, 3) := by decide +kernel
theorem e_U_checkIndex_8 : decode (mB I_U_checkIndex) 8 = .ok (.pop, 1) := by decide +kernel
theorem e_U_checkIndex_9 : decode (mB I_U_checkIndex) 9 = .ok (.return_, 1) := by decide +kernel
theorem e_U_coder_0 : decode (mB I_U_coder) 0 = .ok (.getstatic 38, 3) := by decide +kernel
theorem e_U_coder_3 : decode (mB I_U_coder) 3 = .ok (.ifCond .eq 10, 3) := by decide +kernel
theorem e_U_coder_6 : decode (mB I_U_coder) 6 = .ok (.aload_n 0, 1) := by decide +kernel
theorem e_U_coder_7 : decode (mB I_U_coder) 7 = .ok (.getfield 15, 3) := by decide +kernel
theorem e_U_coder_10 : decode (mB I_U_coder) 10 = .ok (.goto 4, 3) := by decide +kernel
theorem e_U_coder_13 : decode (mB I_U_coder) 13 = .ok (.iconst 1, 1) := by decide +kernel
theorem e_U_coder_14 : decode (mB I_U_coder) 14 = .ok (.ireturn, 1) := by decide +kernel
theorem e_U_isLatin1_0 : decode (mB I_U_isLatin1) 0 = .ok (.getstatic 38, 3) := by decide +kernel
theorem e_U_isLatin1_3 : decode (mB I_U_isLatin1) 3 = .ok (.ifCond .eq 14, 3) := by decide +kernel
theorem e_U_isLatin1_6 : decode (mB I_U_isLatin1) 6 = .ok (.aload_n 0, 1) := by decide +kernel
theorem e_U_isLatin1_7 : decode (mB I_U_isLatin1) 7 = .ok (.getfield 15, 3) := by decide +kernel
theorem e_U_isLatin1_10 : decode (mB I_U_isLatin1) 10 = .ok (.ifCond .ne 7, 3) := by decide +kernel
theorem e_U_isLatin1_13 : decode (mB I_U_isLatin1) 13 = .ok (.iconst 1, 1) := by decide +kernel
theorem e_U_isLatin1_14 : decode (mB I_U_isLatin1) 14 = .ok (.goto 4, 3) := by decide +kernel
theorem e_U_isLatin1_17 : decode (mB I_U_isLatin1) 17 = .ok (.iconst 0, 1) := by decide +kernel
theorem e_U_isLatin1_18 : decode (mB I_U_isLatin1) 18 = .ok (.ireturn, 1) := by decide +kernel
theorem e_V_charAt_0 : decode (mB I_V_charAt) 0 = .ok (.iload_n 1, 1) := by decide +kernel
theorem e_V_charAt_1 : decode (mB I_V_charAt) 1 = .ok (.aload_n 0, 1) := by decide +kernel
theorem e_V_charAt_2 : decode (mB I_V_charAt) 2 = .ok (.arraylength, 1) := by decide +kernel
theorem e_V_charAt_3 : decode (mB I_V_charAt) 3 = .ok (.invokestatic 9, 3) := by decide +kernel
theorem e_V_charAt_6 : decode (mB I_V_charAt) 6 = .ok (.aload_n 0, 1) := by decide +kernel
theorem e_V_charAt_7 : decode (mB I_V_charAt) 7 = .ok (.iload_n 1, 1) := by decide +kernel
theorem e_V_charAt_8 : decode (mB I_V_charAt) 8 = .ok (.baload, 1) := by decide +kernel
theorem e_V_charAt_9 : decode (mB I_V_charAt) 9 = .ok (.sipush 255, 3) := by decide +kernel
theorem e_V_charAt_12 : decode (mB I_V_charAt) 12 = .ok (.iand, 1) := by decide +kernel
theorem e_V_charAt_13 : decode (mB I_V_charAt) 13 = .ok (.i2c, 1) := by decide +kernel
theorem e_V_charAt_14 : decode (mB I_V_charAt) 14 = .ok (.ireturn, 1) := by decide +kernel
theorem e_U_length_0 : decode (mB I_U_length) 0 = .ok (.aload_n 0, 1) := by decide +kernel
theorem e_U_length_1 : decode (mB I_U_length) 1 = .ok (.getfield 9, 3) := by decide +kernel
theorem e_U_length_4 : decode (mB I_U_length) 4 = .ok (.arraylength, 1) := by decide +kernel
theorem e_U_length_5 : decode (mB I_U_length) 5 = .ok (.aload_n 0, 1) := by decide +kernel
theorem e_U_length_6 : decode (mB I_U_length) 6 = .ok (.invokevirtual 335, 3) := by decide +kernel
theorem e_U_length_9 : decode (mB I_U_length) 9 = .ok (.ishr, 1) := by decide +kernel
theorem e_U_length_10 : decode (mB I_U_length) 10 = .ok (.ireturn, 1) := by decide +kernel
theorem e_U_charAt_0 : decode (mB I_U_charAt) 0 = .ok (.aload_n 0, 1) := by decide +kernel
theorem e_U_charAt_1 : decode (mB I_U_charAt) 1 = .ok (.invokevirtual 492, 3) := by decide +kernel
theorem e_U_charAt_4 : decode (mB I_U_charAt) 4 = .ok (.ifCond .eq 12, 3) := by decide +kernel
theorem e_U_charAt_7 : decode (mB I_U_charAt) 7 = .ok (.aload_n 0, 1) := by decide +kernel
theorem e_U_charAt_8 : decode (mB I_U_charAt) 8 = .ok (.getfield 9, 3) := by decide +kernel
theorem e_U_charAt_11 : decode (mB I_U_charAt) 11 = .ok (.iload_n 1, 1) := by decide +kernel
theorem e_U_charAt_12 : decode (mB I_U_charAt) 12 = .ok (.invokestatic 495, 3) := by decide +kernel
theorem e_U_charAt_15 : decode (mB I_U_charAt) 15 = .ok (.ireturn, 1) := by decide +kernel
theorem md_P_chk : MDs I_P_chk 3 := ⟨tb_in (i := 247) (by decide +kernel) (by decide +kernel), rfl, ⟨tb_in (i := 38) (by decide +kernel) (by decide +kernel), tb_in (i := 248) (by decide +kernel) (by decide +kernel), ⟨by decide, by decide, by decide +kernel⟩⟩⟩
theorem md_U_checkIndex : MDs I_U_checkIndex 2 := ⟨tb_in (i := 242) (by decide +kernel) (by decide +kernel), rfl, ⟨tb_in (i := 36) (by decide +kernel) (by decide +kernel), tb_in (i := 243) (by decide +kernel) (by decide +kernel), ⟨by decide, by decide, by decide +kernel⟩⟩⟩
theorem md_V_charAt : MDs I_V_charAt 2 := ⟨tb_in (i := 239) (by decide +kernel) (by decide +kernel), rfl, ⟨tb_in (i := 37) (by decide +kernel) (by decide +kernel), tb_in (i := 240) (by decide +kernel) (by decide +kernel), ⟨by decide, by decide, by decide +kernel⟩⟩⟩
theorem md_U_coder : MDv I_U_coder 0 := ⟨tb_in (i := 225) (by decide +kernel) (by decide +kernel), tb_in (i := 226) (by decide +kernel) (by decide +kernel), rfl, ⟨tb_in (i := 36) (by decide +kernel) (by decide +kernel), tb_in (i := 227) (by decide +kernel) (by decide +kernel), ⟨by decide, by decide, by decide +kernel⟩⟩⟩
theorem md_U_isLatin1 : MDv I_U_isLatin1 0 := ⟨tb_in (i := 235) (by decide +kernel) (by decide +kernel), tb_in (i := 236) (by decide +kernel) (by decide +kernel), rfl, ⟨tb_in (i := 36) (by decide +kernel) (by decide +kernel), tb_in (i := 237) (by decide +kernel) (by decide +kernel), ⟨by decide, by decide, by decide +kernel⟩⟩⟩
theorem md_U_length : MDv I_U_length 0 := ⟨tb_in (i := 221) (by decide +kernel) (by decide +kernel), tb_in (i := 222) (by decide +kernel) (by decide +kernel), rfl, ⟨tb_in (i := 36) (by decide +kernel) (by decide +kernel), tb_in (i := 223) (by decide +kernel) (by decide +kernel), ⟨by decide, by decide, by decide +kernel⟩⟩⟩
theorem md_U_charAt : MDv I_U_charAt 1 := ⟨tb_in (i := 231) (by decide +kernel) (by decide +kernel), tb_in (i := 232) (by decide +kernel) (by decide +kernel), rfl, ⟨tb_in (i := 36) (by decide +kernel) (by decide +kernel), tb_in (i := 233) (by decide +kernel) (by decide +kernel), ⟨by decide, by decide, by decide +kernel⟩⟩⟩
theorem ml_U_1059 : Cond.methodLink RJ0 1059 yP_chk ∈ TB := tb_in (i := 246) (by decide +kernel) (by decide +kernel)
theorem ml_U_335 : Cond.methodLink RJ0 335 yJ0_coder_7d493 ∈ TB := tb_in (i := 224) (by decide +kernel) (by decide +kernel)
theorem ml_U_492 : Cond.methodLink RJ0 492 yJ0_isLatin1_aae02 ∈ TB := tb_in (i := 234) (by decide +kernel) (by decide +kernel)
theorem ml_U_495 : Cond.methodLink RJ0 495 yJ1_charAt_3b067 ∈ TB := tb_in (i := 238) (by decide +kernel) (by decide +kernel)
theorem ml_V_9 : Cond.methodLink RJ1 9 yJ0_checkIndex_df160 ∈ TB := tb_in (i := 241) (by decide +kernel) (by decide +kernel)
theorem fl_U_38 : Cond.fieldLink RJ0 38 "java/lang/String" "COMPACT_STRINGS" "Z" ∈ TB := tb_in (i := 228) (by decide +kernel) (by decide +kernel)
theorem fl_U_15 : Cond.fieldLink RJ0 15 "java/lang/String" "coder" "B" ∈ TB := tb_in (i := 1233) (by decide +kernel) (by decide +kernel)
theorem fl_U_9 : Cond.fieldLink RJ0 9 "java/lang/String" "value" "[B" ∈ TB := tb_in (i := 1232) (by decide +kernel) (by decide +kernel)
theorem fl_U_1053 : Cond.fieldLink RJ0 1053 "jdk/internal/util/Preconditions" "SIOOBE_FORMATTER" "Ljava/util/function/BiFunction;" ∈ TB := tb_in (i := 244) (by decide +kernel) (by decide +kernel)
theorem rm_U_checkIndex_P_chk : RMok I_P_chk I_U_checkIndex 0 0 := ⟨⟨by decide, by decide⟩, by decide, by decide⟩
theorem rm_V_charAt_U_checkIndex : RMok I_U_checkIndex I_V_charAt 0 0 := ⟨⟨by decide, by decide⟩, by decide, by decide⟩
theorem rm_U_length_U_coder : RMok I_U_coder I_U_length 0 0 := ⟨⟨by decide, by decide⟩, by decide, by decide⟩
theorem rm_U_charAt_U_isLatin1 : RMok I_U_isLatin1 I_U_charAt 0 0 := ⟨⟨by decide, by decide⟩, by decide, by decide⟩
theorem rm_U_charAt_V_charAt : RMok I_V_charAt I_U_charAt 0 0 := ⟨⟨by decide, by decide⟩, by decide, by decide⟩
theorem c_P_chk {G : Gt} (hG : GOK G) {φ : Ph} {M : Mm} {l0 l1 : Int32} {v : Value} (hv : v = .null ∨ v = .ref 2100) (h0 : ¬ l0 < 0) (h1 : l0 < l1) : CT G I_P_chk [.int l0, .int l1, v] M φ (.inl (some (.int l0))) M φ := by
  refine ct_of hG (by decide) (by rcases hv with rfl | rfl <;> exact Nat.le_of_ble_eq_true rfl) (fun B hB => ?_)
  show AW G I_P_chk B _ 0 0 0 [(0, .int l0), (1, .int l1), (2, v)] [] M φ
  refine a_iload_n (j := 0) hB e_P_chk_0 rfl rfl ?_
  refine a_if_lt (tgt := 9) hB e_P_chk_1 (by decide) (fun c => absurd c h0) (fun c => ?_)
  refine a_iload_n (j := 0) hB e_P_chk_4 rfl rfl ?_
  refine a_iload_n (j := 1) hB e_P_chk_5 rfl rfl ?_
  refine a_icmp_lt (tgt := 16) hB e_P_chk_6 (by decide) (fun c => ?_) (fun c => absurd h1 c)
  refine a_iload_n (j := 0) hB e_P_chk_16 rfl rfl ?_
  exact a_iret hB rfl e_P_chk_17 (by decide) (by decide)
theorem c_U_checkIndex {G : Gt} (hG : GOK G) {φ : Ph} {M : Mm} {l0 l1 : Int32} (h0 : ¬ l0 < 0) (h1 : l0 < l1) : CT G I_U_checkIndex [.int l0, .int l1] M φ (.inl none) M φ := by
  refine ct_of hG (by decide) (Nat.le_of_ble_eq_true rfl) (fun B hB => ?_)
  show AW G I_U_checkIndex B _ 0 0 0 [(0, .int l0), (1, .int l1)] [] M φ
  refine a_iload_n (j := 0) hB e_U_checkIndex_0 rfl rfl ?_
  refine a_iload_n (j := 1) hB e_U_checkIndex_1 rfl rfl ?_
  refine a_gsFmt hB fl_U_1053 e_U_checkIndex_2 (fun v hv => ?_)
  refine a_ret (v := (some (.int l0))) (M1 := M) (φ1 := φ) (st1 := [.int l0]) (j1 := 0) (j2 := 0) (ar_S (As := [.int l0, .int l1, v]) (rest := []) hB (c_P_chk hG hv h0 h1) ml_U_1059 md_P_chk rfl rfl (Nat.le_of_ble_eq_true rfl) rm_U_checkIndex_P_chk e_U_checkIndex_5) rfl rfl rfl ?_
  refine a_pop hB e_U_checkIndex_8 rfl ?_
  exact a_vret hB rfl e_U_checkIndex_9 (by decide) (by decide)
theorem c_U_coder {G : Gt} (hG : GOK G) {φ : Ph} {M : Mm} {w : Nat} (hw : w < 47) : CT G I_U_coder [.ref (1000 + w)] M φ (.inl (some (.int 0))) M φ := by
  refine ct_of hG (by decide) (Nat.le_of_ble_eq_true rfl) (fun B hB => ?_)
  show AW G I_U_coder B _ 0 0 0 [(0, .ref (1000 + w))] [] M φ
  refine a_gsCmp hB fl_U_38 e_U_coder_0 ?_
  refine a_if_eq (tgt := 13) hB e_U_coder_3 (by decide) (fun c => absurd c (by decide)) (fun c => ?_)
  refine a_aload_n (j := 0) hB e_U_coder_6 rfl rfl ?_
  refine a_strCod hB hw fl_U_15 e_U_coder_7 ?_
  refine a_goto (tgt := 14) hB e_U_coder_10 (by decide) ?_
  exact a_sret hB rfl rfl e_U_coder_14 (by decide) (by decide)
theorem c_U_isLatin1 {G : Gt} (hG : GOK G) {φ : Ph} {M : Mm} {w : Nat} (hw : w < 47) : CT G I_U_isLatin1 [.ref (1000 + w)] M φ (.inl (some (.int 1))) M φ := by
  refine ct_of hG (by decide) (Nat.le_of_ble_eq_true rfl) (fun B hB => ?_)
  show AW G I_U_isLatin1 B _ 0 0 0 [(0, .ref (1000 + w))] [] M φ
  refine a_gsCmp hB fl_U_38 e_U_isLatin1_0 ?_
  refine a_if_eq (tgt := 17) hB e_U_isLatin1_3 (by decide) (fun c => absurd c (by decide)) (fun c => ?_)
  refine a_aload_n (j := 0) hB e_U_isLatin1_6 rfl rfl ?_
  refine a_strCod hB hw fl_U_15 e_U_isLatin1_7 ?_
  refine a_if_ne (tgt := 17) hB e_U_isLatin1_10 (by decide) (fun c => absurd rfl c) (fun c => ?_)
  refine a_iconst (v := 1) hB e_U_isLatin1_13 (by decide) ?_
  refine a_goto (tgt := 18) hB e_U_isLatin1_14 (by decide) ?_
  exact a_zret hB rfl (Or.inr rfl) e_U_isLatin1_18 (by decide) (by decide)
theorem stB_small : ∀ w, w < 47 → (stB w).length < 256 ∧ ∀ k, k < (stB w).length → (((stB w).getD k 0 &&& 255).toUInt32 % 65536).toInt32 = (stB w).getD k 0 := by decide +kernel
theorem iin_of {l : Int32} {n : Nat} (hn : n < 256) (h : iin l n) : ¬ l < 0 ∧ l < Int32.ofNat n := by
  have h0 : ¬ l < 0 := fun q => h (Or.inl q)
  refine ⟨h0, ?_⟩
  have h1 : ix l < n := iin_lt h
  have h2 : 0 ≤ l.toInt := by
    have := Int32.lt_iff_toInt_lt (x := l) (y := 0)
    have z : (0 : Int32).toInt = 0 := by decide
    rw [z] at this
    rcases Int.lt_or_le l.toInt 0 with q | q
    · exact absurd (this.mpr q) h0
    · exact q
  have h3 : l.toInt = (ix l : Int) := by
    show l.toInt = ((l.toNatClampNeg : Nat) : Int)
    rw [Int32.toNatClampNeg]
    omega
  rw [Int32.lt_iff_toInt_lt, h3, Int32.toInt_ofNat_of_lt (by omega)]
  omega
theorem stB_nar : ∀ w, w < 47 → ∀ k, k < (stB w).length → narrow FieldType.char (.int ((stB w).getD k 0)) = .int ((stB w).getD k 0) := by decide +kernel
theorem c_V_charAt {G : Gt} (hG : GOK G) {φ : Ph} {M : Mm} {w : Nat} (hw : w < 47) {l1 : Int32} (hi : iin l1 (stB w).length) : CT G I_V_charAt [.ref (1200 + w), .int l1] M φ (.inl (some (.int ((stB w).getD (ix l1) 0)))) M φ := by
  refine ct_of hG (by decide) (Nat.le_of_ble_eq_true rfl) (fun B hB => ?_)
  show AW G I_V_charAt B _ 0 0 0 [(0, .ref (1200 + w)), (1, .int l1)] [] M φ
  have h01 := iin_of (stB_small w hw).1 hi
  refine a_iload_n (j := 1) hB e_V_charAt_0 rfl rfl ?_
  refine a_aload_n (j := 0) hB e_V_charAt_1 rfl rfl ?_
  refine a_alenE hB hw e_V_charAt_2 ?_
  refine a_ret (v := none) (M1 := M) (φ1 := φ) (st1 := []) (j1 := 0) (j2 := 0) (ar_S (As := [.int l1, .int (Int32.ofNat (stB w).length)]) (rest := []) hB (c_U_checkIndex hG h01.1 h01.2) ml_V_9 md_U_checkIndex rfl rfl (Nat.le_of_ble_eq_true rfl) rm_V_charAt_U_checkIndex e_V_charAt_3) rfl rfl rfl ?_
  refine a_aload_n (j := 0) hB e_V_charAt_6 rfl rfl ?_
  refine a_iload_n (j := 1) hB e_V_charAt_7 rfl rfl ?_
  refine a_baldE hB hw hi e_V_charAt_8 ?_
  refine a_sipush (v := 255) hB e_V_charAt_9 (by decide) ?_
  refine a_iand hB e_V_charAt_12 ?_
  refine a_i2c hB e_V_charAt_13 ?_
  rw [(stB_small w hw).2 _ (iin_lt hi)]
  exact a_sret hB rfl (stB_nar w hw _ (iin_lt hi)) e_V_charAt_14 (by decide) (by decide)
def f_U_length (w : Nat) : Option Int32 := some (Int32.ofNat (stB w).length)
def f_U_charAt (w : Nat) (l1 : Int32) : Option Int32 := chk (iin l1 (stB w).length) (some ((stB w).getD (ix l1) 0))
theorem shr0 (x : Int32) : x >>> ((0 : Int32) &&& 31) = x := by
  show x >>> (0 : Int32) = x
  exact Int32.shiftRight_zero
theorem c_U_length {G : Gt} (hG : GOK G) {φ : Ph} {M : Mm} {w : Nat} (hw : w < 47) {o : Int32} (h : f_U_length w = some o) : CT G I_U_length [.ref (1000 + w)] M φ (.inl (some (.int o))) M φ := by
  cases h
  refine ct_of hG (by decide) (Nat.le_of_ble_eq_true rfl) (fun B hB => ?_)
  show AW G I_U_length B _ 0 0 0 [(0, .ref (1000 + w))] [] M φ
  refine a_aload_n (j := 0) hB e_U_length_0 rfl rfl ?_
  refine a_strVal hB hw fl_U_9 e_U_length_1 ?_
  refine a_alenE hB hw e_U_length_4 ?_
  refine a_aload_n (j := 0) hB e_U_length_5 rfl rfl ?_
  refine a_ret (v := (some (.int 0))) (M1 := M) (φ1 := φ) (st1 := [.int 0, .int (Int32.ofNat (stB w).length)]) (j1 := 0) (j2 := 0) (ar_VS (As := []) (rest := [.int (Int32.ofNat (stB w).length)]) hB hw rfl (c_U_coder hG hw) ml_U_335 md_U_coder rfl rfl (Nat.le_of_ble_eq_true rfl) rm_U_length_U_coder e_U_length_6) rfl rfl rfl ?_
  refine a_ishr hB e_U_length_9 ?_
  rw [shr0]
  exact a_iret hB rfl e_U_length_10 (by decide) (by decide)
theorem c_U_charAt {G : Gt} (hG : GOK G) {φ : Ph} {M : Mm} {w : Nat} (hw : w < 47) {l1 o : Int32} (h : f_U_charAt w l1 = some o) : CT G I_U_charAt [.ref (1000 + w), .int l1] M φ (.inl (some (.int o))) M φ := by
  obtain ⟨hi, h⟩ := chk_i h
  cases h
  refine ct_of hG (by decide) (Nat.le_of_ble_eq_true rfl) (fun B hB => ?_)
  show AW G I_U_charAt B _ 0 0 0 [(0, .ref (1000 + w)), (1, .int l1)] [] M φ
  refine a_aload_n (j := 0) hB e_U_charAt_0 rfl rfl ?_
  refine a_ret (v := (some (.int 1))) (M1 := M) (φ1 := φ) (st1 := [.int 1]) (j1 := 0) (j2 := 0) (ar_VS (As := []) (rest := []) hB hw rfl (c_U_isLatin1 hG hw) ml_U_492 md_U_isLatin1 rfl rfl (Nat.le_of_ble_eq_true rfl) rm_U_charAt_U_isLatin1 e_U_charAt_1) rfl rfl rfl ?_
  refine a_if_eq (tgt := 16) hB e_U_charAt_4 (by decide) (fun c => absurd c (by decide)) (fun c => ?_)
  refine a_aload_n (j := 0) hB e_U_charAt_7 rfl rfl ?_
  refine a_strVal hB hw fl_U_9 e_U_charAt_8 ?_
  refine a_iload_n (j := 1) hB e_U_charAt_11 rfl rfl ?_
  refine a_ret (v := (some (.int ((stB w).getD (ix l1) 0)))) (M1 := M) (φ1 := φ) (st1 := [.int ((stB w).getD (ix l1) 0)]) (j1 := 0) (j2 := 0) (ar_S (As := [.ref (1200 + w), .int l1]) (rest := []) hB (c_V_charAt hG hw hi) ml_U_495 md_V_charAt rfl rfl (Nat.le_of_ble_eq_true rfl) rm_U_charAt_V_charAt e_U_charAt_12) rfl rfl rfl ?_
  exact a_sret hB rfl (stB_nar w hw _ (iin_lt hi)) e_U_charAt_15 (by decide) (by decide)
