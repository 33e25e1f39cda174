/-! the text of the law, built, told and written -/
def digs (w : Nat) : List Nat := if w < 10 then [48 + w] else if w < 100 then [48 + w / 10, 48 + w % 10] else [48 + w / 100, 48 + w / 10 % 10, 48 + w % 10]
theorem nm_a : ∀ w, w < 100 → (-100 : Int32) < -(oN w) ∧ iin (-(-(oN w))) 100 ∧ ix (-(-(oN w))) = w ∧ ((-9 : Int32) ≤ -(oN w) ↔ w < 10) ∧ (d1L.getD w 0).toInt8.toInt32 = oN (48 + w % 10) ∧ (d10L.getD w 0).toInt8.toInt32 = oN (48 + w / 10) := by decide +kernel
theorem nm_b : ∀ w, w < 1000 → 100 ≤ w → ¬ (-100 : Int32) < -(oN w) ∧ -(oN w) / 100 = -(oN (w / 100)) ∧ iin ((-(oN w) / (100 : Int32)) * (100 : Int32) - -(oN w)) 100 ∧ ix ((-(oN w) / (100 : Int32)) * (100 : Int32) - -(oN w)) = w % 100 := by decide +kernel
theorem nm_s : ∀ w, w < 1000 → f_N_stringSize (oN w) = some (oN (digs w).length) ∧ 0 ≤ oN w := by decide +kernel
theorem nm_c : ∀ n, n < 17 → oN n - ((16 : Int32) >>> ((0 : Int32) &&& 31)) ≤ 0 := by decide +kernel
theorem nm_u : ∀ c, c < 128 → (((oN c &&& (255 : Int32)).toUInt32 % 65536).toInt32 = oN c) ∧ ((oN c).toUInt32 % 65536).toInt32 = oN c := by decide +kernel
theorem lit_44 : stB 44 = [115, 117, 114, 118, 101, 121, 32].map oN := by decide +kernel
theorem lit_45 : stB 45 = [32].map oN := by decide +kernel
theorem lit_46 : stB 46 = [59].map oN := by decide +kernel
abbrev FRT : List (Nat × Nat × Nat) := [(134, 137, 0)]
theorem gD_l {l L : List Nat} {k : Nat} (h : k < l.length) : (l ++ L).getD k 0 = l.getD k 0 := by
  rw [List.getD_eq_getElem?_getD, List.getElem?_append_left h, List.getD_eq_getElem?_getD]
theorem gD_r {l L : List Nat} {k : Nat} (h : l.length ≤ k) : (l ++ L).getD k 0 = L.getD (k - l.length) 0 := by
  rw [List.getD_eq_getElem?_getD, List.getElem?_append_right h, List.getD_eq_getElem?_getD]
section SBD
variable {M : Mm} {l : List Nat} {w T : Nat}
/-- the buffer holds the bytes l -/
def SB (M : Mm) (l : List Nat) : Prop := M 134 1 = 0 ∧ M 134 3 = oN l.length ∧ ∀ k, k < l.length → M 135 k = oN (l.getD k 0)
theorem sb_init (M : Mm) : ∃ M1, f_B_init (zr M 134) = some M1 ∧ SB M1 [] ∧ Fr FRT M M1 := by
  unfold f_B_init f_A_init
  refine ⟨_, rfl, ⟨by simp [wr], by simp [wr, zr]; rfl, fun k hk => absurd hk (Nat.not_lt_zero k)⟩, ?_⟩
  intro b k h
  have hb : ¬ (134 ≤ b ∧ b ≤ 137) := by
    intro q
    rw [show inT FRT b k = true by simp [inT]; omega] at h
    cases h
  show wr (zr (zr M 134) 135) 134 1 0 b k = M b k
  rw [wr_n (by omega)]
  unfold zr
  rw [if_neg (by omega), if_neg (by omega)]
theorem sb_app {L : List Nat} (h : SB M l) (hL : stB w = L.map oN) (hl : l.length + L.length ≤ 16) : ∃ M1, f_B_append w M = some M1 ∧ SB M1 (l ++ L) ∧ Fr FRT M M1 := by
  obtain ⟨h1, h2, h3⟩ := h
  have e0 : (oN l.length <<< ((0 : Int32) &&& 31)) = oN l.length := by
    show oN l.length <<< (0 : Int32) = _
    exact Int32.shiftLeft_zero
  have hlen : (stB w).length = L.length := by rw [hL, List.length_map]
  have fr : Fr FRT M (cpyF M (fun j => (stB w).getD j 0) 0 135 l.length L.length) := by
    intro b k h
    unfold cpyF
    rw [if_neg]
    rintro ⟨rfl, -, -⟩
    rw [show inT FRT 135 k = true by simp [inT]] at h
    cases h
  have hc : SB (wr (cpyF M (fun j => (stB w).getD j 0) 0 135 l.length L.length) 134 3 (oN (l.length + L.length))) (l ++ L) := by
    refine ⟨?_, ?_, fun k hk => ?_⟩
    · rw [wr_n (by decide)]; exact h1
    · rw [wr_s, List.length_append]
    · rw [List.length_append] at hk
      rw [wr_n (by omega)]
      unfold cpyF
      by_cases c : k < l.length
      · rw [if_neg (by omega), h3 k c, gD_l c]
      · rw [if_pos ⟨rfl, by omega, by omega⟩, gD_r (by omega), hL, Nat.zero_add]
        show (L.map oN).getD (k - l.length) 0 = oN (L.getD (k - l.length) 0)
        rw [List.getD_eq_getElem?_getD, List.getElem?_map, List.getElem?_eq_getElem (by omega), List.getD_eq_getElem?_getD, List.getElem?_eq_getElem (by omega)]; rfl
  unfold f_B_append f_A_append f_U_length f_A_ensureCapacityInternal f_A_putStringAt f_A_inflateIfNeededFor f_A_inflateIfNeededFor_21 f_U_getBytes f_U_coder
  rw [bn_s, h1, h2, hlen, ← oN_add, if_pos (nm_c _ (by omega)), bn_s, h1, h2, bn_s, if_pos rfl, bn_s, bn_s, if_pos rfl, e0]
  have i0 : ix (0 : Int32) = 0 := rfl
  rw [chk_t ⟨⟨by decide, oN_nn (by omega), oN_nn (by omega)⟩, by rw [i0, oI (by omega)]; omega, by rw [oI (by omega), oI (by omega)]; omega⟩, bm_s, i0, oI (by omega), oI (by omega), bn_s, bn_s, bm_s, bn_s]
  have e3 : (cpyF M (fun j => (stB w).getD j 0) 0 135 l.length L.length) 134 3 = oN l.length := by
    unfold cpyF
    rw [if_neg (by omega)]; exact h2
  rw [e3, ← oN_add]
  exact ⟨_, rfl, hc, fr.tr (fr_wr rfl (by rfl))⟩
theorem gc_lo {f n v : Nat} (hv : v < 10) (hn : n < 16) : f_N_getChars_22 (f + 1) (-(oN v)) (oN (n + 1)) 0 M = some (oN n, wr M 135 n (oN (48 + v))) := by
  obtain ⟨a1, a2, a3, a4, a5, a6⟩ := nm_a v (by omega)
  rw [f_N_getChars_22, if_pos a1, chk_t a2, oN_pm (by omega), Nat.add_sub_cancel, chk_t ((iin_oN (by omega)).mpr hn), bm_s, oI (by omega), a3, a5, if_pos (a4.mpr hv), Nat.mod_eq_of_lt hv]
  unfold f_N_getChars_104 f_N_getChars_118
  rw [if_pos rfl]
theorem gc_mi {f n v : Nat} (h9 : 10 ≤ v) (hv : v < 100) (hn : n + 1 < 16) : f_N_getChars_22 (f + 1) (-(oN v)) (oN (n + 2)) 0 M = some (oN n, wr (wr M 135 (n + 1) (oN (48 + v % 10))) 135 n (oN (48 + v / 10))) := by
  obtain ⟨a1, a2, a3, a4, a5, a6⟩ := nm_a v (by omega)
  rw [f_N_getChars_22, if_pos a1, chk_t a2, oN_pm (n := n + 2) (by omega), show n + 2 - 1 = n + 1 from rfl, chk_t ((iin_oN (by omega)).mpr hn), bm_s, oI (by omega), a3, a5, if_neg (fun q => by have := a4.mp q; omega), oN_pm (by omega), Nat.add_sub_cancel, chk_t ((iin_oN (by omega)).mpr (by omega)), bm_s, oI (by omega), a6]
  unfold f_N_getChars_104 f_N_getChars_118
  rw [if_pos rfl]
theorem gc_hi {f n v : Nat} (h9 : 100 ≤ v) (hv : v < 1000) (hn : n + 2 < 16) : f_N_getChars_22 (f + 2) (-(oN v)) (oN (n + 3)) 0 M = some (oN n, wr (wr (wr M 135 (n + 2) (oN (48 + v % 10))) 135 (n + 1) (oN (48 + v / 10 % 10))) 135 n (oN (48 + v / 100))) := by
  obtain ⟨b1, b2, b3, b4⟩ := nm_b v hv h9
  obtain ⟨a1, a2, a3, a4, a5, a6⟩ := nm_a (v % 100) (Nat.mod_lt _ (by decide))
  rw [f_N_getChars_22, if_neg b1, chk_t b3, oN_pm (n := n + 3) (by omega), show n + 3 - 1 = n + 2 from rfl, chk_t ((iin_oN (by omega)).mpr hn), bm_s, oI (by omega), b4, a5, oN_pm (n := n + 2) (by omega), show n + 2 - 1 = n + 1 from rfl, chk_t ((iin_oN (by omega)).mpr (by omega)), bm_s, oI (by omega), a6, b2, gc_lo (by omega) (by omega)]
  rw [show v % 100 % 10 = v % 10 by omega, show v % 100 / 10 = v / 10 % 10 by omega]
theorem sb_num (h : SB M l) (hw : w < 1000) (hl : l.length + (digs w).length ≤ 16) : ∃ M1, f_B_appendI (oN w) M = some M1 ∧ SB M1 (l ++ digs w) ∧ Fr FRT M M1 := by
  obtain ⟨h1, h2, h3⟩ := h
  obtain ⟨s1, s2⟩ := nm_s w hw
  have key : ∃ M2 x, f_N_getChars (oN w) (oN (l.length + (digs w).length)) M = some (x, M2) ∧ (∀ k, k < l.length → M2 135 k = M 135 k) ∧ (∀ k, k < (digs w).length → M2 135 (l.length + k) = oN ((digs w).getD k 0)) ∧ Fr [(135, 135, 0)] M M2 := by
    unfold f_N_getChars f_N_getChars_12
    rw [if_pos s2, if_pos rfl]
    unfold digs at hl ⊢
    by_cases c : w < 10
    · rw [if_pos c] at hl ⊢
      have hl : l.length + 1 ≤ 16 := hl
      have e : f_N_getChars_22 fu (-(oN w)) (oN (l.length + 1)) 0 M = _ := gc_lo (f := 99999) c (by omega)
      refine ⟨_, _, e, fun k hk => wr_n (by omega), fun k hk => ?_, fr_wr rfl (by rfl)⟩
      obtain rfl : k = 0 := Nat.lt_one_iff.mp hk
      exact wr_s _ _ _ _
    · rw [if_neg c] at hl ⊢
      by_cases d : w < 100
      · rw [if_pos d] at hl ⊢
        have hl : l.length + 2 ≤ 16 := hl
        have e : f_N_getChars_22 fu (-(oN w)) (oN (l.length + 2)) 0 M = _ := gc_mi (f := 99999) (by omega) d (by omega)
        refine ⟨_, _, e, fun k hk => by rw [wr_n (by omega), wr_n (by omega)], fun k hk => ?_, (fr_wr rfl (by rfl)).tr (fr_wr rfl (by rfl))⟩
        match k, hk with
        | 0, _ => exact wr_s _ _ _ _
        | 1, _ => rw [wr_n (by omega), wr_s]; rfl
      · rw [if_neg d] at hl ⊢
        have hl : l.length + 3 ≤ 16 := hl
        have e : f_N_getChars_22 fu (-(oN w)) (oN (l.length + 3)) 0 M = _ := gc_hi (f := 99998) (by omega) hw (by omega)
        refine ⟨_, _, e, fun k hk => by rw [wr_n (by omega), wr_n (by omega), wr_n (by omega)], fun k hk => ?_, (fr_wr rfl (by rfl)).tr ((fr_wr rfl (by rfl)).tr (fr_wr rfl (by rfl)))⟩
        match k, hk with
        | 0, _ => exact wr_s _ _ _ _
        | 1, _ => rw [wr_n (by omega), wr_s]; rfl
        | 2, _ => rw [wr_n (by omega), wr_n (by omega), wr_s]; rfl
  obtain ⟨M2, x, k1, k2, k3, k4⟩ := key
  unfold f_B_appendI f_A_appendI f_A_ensureCapacityInternal f_A_isLatin1
  rw [s1, bn_s, h1, h2, ← oN_add, if_pos (nm_c _ (by omega)), bn_s, h1, if_pos rfl, bn_s, if_neg (by decide), k1, bn2_s, bm_s, bn_s]
  refine ⟨_, rfl, ⟨?_, ?_, fun k hk => ?_⟩, (k4.up (by rfl)).tr (fr_wr rfl (by rfl))⟩
  · rw [wr_n (by decide), k4 134 1 (by rfl)]; exact h1
  · rw [wr_s, List.length_append]
  · rw [List.length_append] at hk
    rw [wr_n (by omega)]
    by_cases c : k < l.length
    · rw [k2 k c, h3 k c, gD_l c]
    · have := k3 (k - l.length) (by omega)
      rw [Nat.add_sub_cancel' (by omega)] at this
      rw [this, gD_r (by omega)]
/-- the string of the bytes l -/
def XT (M : Mm) (T : Nat) (l : List Nat) : Prop := M 136 1 = 0 ∧ l.length = T ∧ T < 16 ∧ ∀ k, k < T → M 137 k = oN (l.getD k 0) ∧ l.getD k 0 < 128
theorem sb_str (h : SB M l) (hT : l.length = T) (h16 : T < 16) (hl : ∀ k, k < T → l.getD k 0 < 128) : ∃ M1, f_B_toString T M = some M1 ∧ XT M1 T l ∧ Fr FRT M M1 := by
  obtain ⟨h1, h2, h3⟩ := h
  have e1 : (zr M 136) 134 1 = 0 := h1
  have e3 : (wr (zr M 136) 136 1 0) 134 3 = oN T := by rw [← hT]; exact h2
  have z3 : (zr M 136) 134 3 = oN T := by rw [← hT]; exact h2
  have i0 : ix (0 : Int32) = 0 := rfl
  have hs : oN T - 0 = oN T := Int32.sub_zero _
  have hs6 : (16 : Int32) - 0 = oN 16 := rfl
  have hmin : (if oN T < oN 16 then oN T else oN 16) = oN T := if_pos ((oN_lt (by omega) (by omega)).mpr h16)
  unfold f_B_toString f_X_init f_X_init2 f_A_getValue f_B_length f_A_length f_A_isLatin1 f_R_copyOfRange f_R_copyOfRange_10 f_R_copyOfRangeByte f_R_checkLength
  rw [bm_s, bn_s, z3, bn_s, bn_s, e1, if_pos rfl, bn_s, if_neg (by decide), bm_s, if_pos rfl, if_neg (show ¬ oN T = 16 from fun q => by have := (oN_inj (b := 16) (by omega) (by omega)).mp q; omega), if_pos (oN_ge0 (by omega)), bn_s, hs, hs6, hmin, i0, oI (by omega), chk_t ⟨oN_nn (by omega), rfl, by omega⟩, bm_s]
  have h35 : ∀ j, j < T → (zr (wr (zr M 136) 136 1 0) 137) 135 j = oN (l.getD j 0) := fun j hj => by
    rw [← h3 j (by omega)]
    unfold zr
    rw [if_neg (by decide), wr_n (by omega), if_neg (by decide)]
  rw [chk_t ⟨⟨⟨by decide, by decide, oN_nn (by omega)⟩, by omega, by omega⟩, fun j hj => by rw [Nat.zero_add, h35 j hj, cl_d _ (hl j hj)]⟩, bm_s, bn_s, bn_s, bn_s, bn_s]
  refine ⟨_, rfl, ⟨?_, hT, h16, fun k hk => ⟨?_, hl k hk⟩⟩, ?_⟩
  · unfold cpyF
    rw [if_neg (by omega)]
    unfold zr
    rw [if_neg (by decide), wr_s]
  · unfold cpyF
    rw [if_pos ⟨rfl, by omega, by omega⟩, Nat.zero_add, Nat.sub_zero, h35 k hk]
  · intro b k h
    have hb : ¬ (134 ≤ b ∧ b ≤ 137) := by
      intro q
      rw [show inT FRT b k = true by simp [inT]; omega] at h
      cases h
    unfold cpyF zr
    rw [if_neg (by omega), if_neg (by omega), wr_n (by omega), if_neg (by omega)]
theorem XT.ag {M1 : Mm} (h : XT M T l) (f : Ag [(136, 137, 0)] M M1) : XT M1 T l := by
  obtain ⟨h1, h2, h3, h4⟩ := h
  exact ⟨(f 136 1 (by rfl)).trans h1, h2, h3, fun k hk => ⟨(f 137 k (by rfl)).trans (h4 k hk).1, (h4 k hk).2⟩⟩
theorem x_len (h : XT M T l) : f_X_length T M = some (oN T) := by
  unfold f_X_length f_X_coder
  rw [h.1, chk_t (by decide), bn_s, shr0]
theorem x_char (h : XT M T l) {k : Nat} (hk : k < T) : f_X_charAt T M (oN k) = some (oN (l.getD k 0)) := by
  obtain ⟨h1, h2, h3, h4⟩ := h
  obtain ⟨q1, q2⟩ := h4 k hk
  obtain ⟨u1, u2⟩ := nm_u _ q2
  unfold f_X_charAt f_X_isLatin1 f_Y_charAt f_U_checkIndex
  rw [h1, if_pos rfl, bn_s, if_neg (by decide), if_pos ⟨oN_nn (by omega), (oN_lt (by omega) (by omega)).mpr hk⟩, bn_s, chk_t ((iin_oN (by omega)).mpr hk), oI (by omega), q1, u1, chk_t u2, bn_s, chk_t u2]
theorem shl8 (n : Nat) : oN n <<< ((8 : Int32) &&& 31) = oN (n * 256) := by
  apply Int32.toBitVec_inj.mp
  show BitVec.ofNat 32 n <<< (BitVec.ofNat 32 8).smod 32 = BitVec.ofNat 32 (n * 256)
  have e : (BitVec.ofNat 32 8).smod 32 = BitVec.ofNat 32 8 := by decide
  rw [e]
  apply BitVec.eq_of_toNat_eq
  simp [BitVec.toNat_shiftLeft, Nat.shiftLeft_eq]
theorem or8 {n d : Nat} (hd : d < 256) : oN (n * 256) ||| oN d = oN (n * 256 + d) := by
  have e := Nat.two_pow_add_eq_or_of_lt (i := 8) (b := d) hd n
  have e2 : n * 256 + d = n * 256 ||| d := by rw [Nat.mul_comm n 256]; exact e
  rw [e2]
  exact oN_or _ _
theorem w_step (h : XT M T l) {i k f a : Nat} (hik : k < i + 4) (hi : i < 1000) : f_W_word_4 T M (f + 1) (oN i) (oN a) (oN k) = f_W_word_4 T M f (oN i) (oN (a * 256 + l.getD k 0)) (oN (k + 1)) := by
  have h16 := h.2.2.1
  rw [f_W_word_4, show oN i + (4 : Int32) = oN (i + 4) from (oN_add i 4).symm, if_neg (fun q => by have := (oN_le (by omega) (by omega)).mp q; omega), x_len h, bn_s]
  by_cases c : T ≤ k
  · have e : l.getD k 0 = 0 := by
      rw [List.getD_eq_getElem?_getD, List.getElem?_eq_none (by rw [h.2.1]; exact c)]; rfl
    unfold f_W_word_32
    rw [if_pos ((oN_le (by omega) (by omega)).mpr c), shl8, show (0 : Int32) = oN 0 from rfl, or8 (by decide), e, oN_S]
  · unfold f_W_word_32
    rw [if_neg (fun q => c ((oN_le (by omega) (by omega)).mp q)), x_char h (by omega), bn_s, shl8, or8 (by have := (h.2.2.2 k (by omega)).2; omega), oN_S]
def W4 (l : List Nat) (i : Nat) : Nat := (((l.getD i 0) * 256 + l.getD (i + 1) 0) * 256 + l.getD (i + 2) 0) * 256 + l.getD (i + 3) 0
theorem w_word (h : XT M T l) {i : Nat} (hi : i < 1000) : f_W_word T M (oN i) = some (oN (W4 l i)) := by
  unfold f_W_word
  rw [show fu = 99995 + 1 + 1 + 1 + 1 + 1 from rfl, show (0 : Int32) = oN 0 from rfl, w_step h (by omega) hi, w_step h (by omega) hi, w_step h (by omega) hi, w_step h (by omega) hi, f_W_word_4, show oN i + (4 : Int32) = oN (i + 4) from (oN_add i 4).symm, if_pos ((oN_le (by omega) (by omega)).mpr (by omega)), Nat.zero_mul, Nat.zero_add]
  rfl
theorem XT.g (h : XT M T l) (k : Nat) : l.getD k 0 < 128 := by
  by_cases c : k < T
  · exact (h.2.2.2 k c).2
  · rw [List.getD_eq_getElem?_getD, List.getElem?_eq_none (by rw [h.2.1]; omega)]; decide
theorem b_sh {n s : Nat} (hn : n < 2147483648) (hs : s = 0 ∨ s = 8 ∨ s = 16 ∨ s = 24) : oN n >>> (oN s &&& 31) = oN (n / 2 ^ s) := by
  have h1 : (oN n).toInt = n := oN_int hn
  have h2 : (oN (n / 2 ^ s)).toInt = (n / 2 ^ s : Nat) := oN_int (Nat.lt_of_le_of_lt (Nat.div_le_self _ _) hn)
  apply Int32.toInt_inj.mp
  rw [h2]
  have e : ((oN s &&& 31).toBitVec.smod 32).toNat = s := by
    rcases hs with rfl | rfl | rfl | rfl <;> decide
  show ((oN n).toBitVec.sshiftRight ((oN s &&& 31).toBitVec.smod 32).toNat).toInt = _
  rw [e, BitVec.toInt_sshiftRight]
  show (oN n).toInt >>> s = _
  rw [h1, Int.shiftRight_eq_div_pow]
  rfl
theorem b_lo (n : Nat) (h : n % 256 < 128) : (oN n).toInt8.toInt32.toInt8.toInt32 = oN (n % 256) := by
  have e : (oN n).toInt8 = (oN (n % 256)).toInt8 := by
    apply Int8.toBitVec_inj.mp
    show (BitVec.ofNat 32 n).signExtend 8 = (BitVec.ofNat 32 (n % 256)).signExtend 8
    rw [BitVec.signExtend_eq_setWidth_of_le _ (by decide), BitVec.signExtend_eq_setWidth_of_le _ (by decide)]
    apply BitVec.eq_of_toNat_eq
    simp only [BitVec.toNat_setWidth, BitVec.toNat_ofNat]
    omega
  rw [e]
  exact by_id _ h
end SBD
