/-! the row that the law draws from, the text that it makes, rows of bytes, calls of methods of the class above -/
section AWD
variable {G : Gt} {Y : MI} {B : Bag} {Qm : State → Prop} {k1 k2 pc : Nat} {ls : List (Nat × Value)} {st : List Value} {M : Mm} {φ : Ph}
/-- from here on nothing is made that is followed -/
theorem a_dirt (K : AW G Y B Qm k1 k2 pc ls st M (dirt φ)) : AW G Y B Qm k1 k2 pc ls st M φ :=
  fun H locs lsA hW hS hl => K H locs lsA (wh_dirt hW (Nat.le_refl _) (fun _ _ => rfl)) hS hl
theorem th_1999 {H : Heap} (hW : WH G M φ H) : th G 1999 = gb G := by rw [th_x (by omega)]; exact hW.2.2.2.2.1
theorem a_iaX (hB : BF G Y B) {i : Int32} (hdg : decode (mB Y) pc = .ok (.iaload, 1)) (hin : iin i 1) (K : AW G Y B Qm k1 k2 (pc + 1) ls (.int (M 1999 (ix i)) :: st) M φ) : AW G Y B Qm k1 k2 pc ls (.int i :: .ref 1999 :: st) M φ := by
  intro H locs lsA hW hS hl
  have h1 := hW.2.2.2.2.2
  have hP : va_P (gD G) clL [(gb G, .inl (gAr G 10, 1, .inl (M 1999)))] H := by
    intro j q hq
    match j, hq with
    | 0, hq => cases hq; exact h1
    | j + 1, hq => simp at hq
  have e : trS G (.int i :: .ref 1999 :: st) = Value.int i :: Value.ref (gb G) :: trS G st := congrArg (fun l => Value.int i :: l) (trS_n (th_1999 hW))
  rw [e]
  exact va_iald (D := gD G) (cl := clL) (tys := tyK G) hB.1 hB.2.1 (hK_of hB) hP 0 0 rfl rfl hin hdg (K H locs lsA hW hS hl)
theorem a_isX (hB : BF G Y B) {i x : Int32} (hdg : decode (mB Y) pc = .ok (.iastore, 1)) (hin : iin i 1) (K : AW G Y B Qm k1 k2 (pc + 1) ls st (wr M 1999 (ix i) x) φ) : AW G Y B Qm k1 k2 pc ls (.int x :: .int i :: .ref 1999 :: st) M φ := by
  intro H locs lsA hW hS hl
  have h1 := hW.2.2.2.2.2
  have e : trS G (.int x :: .int i :: .ref 1999 :: st) = Value.int x :: Value.int i :: Value.ref (gb G) :: trS G st := congrArg (fun l => Value.int x :: Value.int i :: l) (trS_n (th_1999 hW))
  rw [e]
  refine W.iast (a := gb G) (cell := vp_cell (gAr G 10) (1, .inl (M 1999))) hB.1 hB.2.1 h1 (((hK_of hB).2 0 _ rfl).1 1 (fun j => .int (M 1999 j))) (fun q => by cases q) (by show ¬ (i < 0 ∨ (arrV _ _ _).slots.size ≤ _); rw [arrV_size]; exact hin) rfl rfl hdg fun H1 e z oq => ?_
  have hWn : WH G (wr M 1999 (ix i) x) φ H1 := by
    refine ⟨fun a ha => ?_, fun q => by rw [z]; exact hW.2.1 q, hW.2.2.1, by rw [z]; exact hW.2.2.2.1, hW.2.2.2.2.1, ?_⟩
    · have hn : a ≠ 1999 := by have := hW.2.2.1; omega
      rw [cell_oth (M := M) (φ := φ) (fun j => wr_n (fun q => hn q.1)) (fun _ => rfl)]
      exact (hW.1 a ha).kept (oq _ (by show gb G + 1 + a ≠ gb G; omega))
    · show H1[gb G]? = some (vp_cell _ _)
      rw [e, vp_cell_i, vp_cell_i, arrV_store]
      congr 2
      funext q
      by_cases hq : q = i.toNatClampNeg
      · subst hq; simp [updV, wr]
      · simp [updV, wr, hq]
  exact K H1 _ lsA hWn (hS.put z oq (Nat.le_refl _)) hl
/-! fields that are no ints -/
theorem a_putN (hB : BF G Y B) {a idx k ci r : Nat} {ty : FieldType} (hdg : decode (mB Y) pc = .ok (.putfield idx, 3)) (hf : FW (mY Y).cls idx ci k ty) (hty : ty.isReference = true) (ha : a < φ.2.1) (hk : kd a = ci) (ht : tg a k = r + 1) (K : AW G Y B Qm k1 k2 (pc + 3) ls st M (nS φ a k)) : AW G Y B Qm k1 k2 pc ls (.ref r :: .ref a :: st) M φ :=
  a_putF hB hdg hf ha hk (by cases ty <;> first | rfl | cases hty) (by cases ty <;> first | rfl | cases hty) (fv_nS_s ht) (fun _ h => fv_nS_n h) (fun _ _ _ => rfl) nS_ob rfl K
theorem a_putB0 (hB : BF G Y B) {a idx k ci : Nat} (hdg : decode (mB Y) pc = .ok (.putfield idx, 3)) (hf : FW (mY Y).cls idx ci k .byte) (ha : a < φ.2.1) (hk : kd a = ci) (ht : tg a k = 0) (K : AW G Y B Qm k1 k2 (pc + 3) ls st (wr M a k 0) φ) : AW G Y B Qm k1 k2 pc ls (.int 0 :: .ref a :: st) M φ :=
  a_putF hB hdg hf ha hk rfl (show fits .byte (.int 0) = true from by decide) (fv_wr_s ht) (fun _ h => fv_wr_n h) wr_ob (fun _ _ _ => rfl) rfl K
theorem a_putBF0 (hB : BF G Y B) {a idx k ci : Nat} (hinit : (mY Y).name = "<init>") (hdg : decode (mB Y) pc = .ok (.putfield idx, 3)) (hf : FF (mY Y).cls idx ci k .byte) (ha : a < φ.2.1) (hk : kd a = ci) (ht : tg a k = 0) (K : AW G Y B Qm k1 k2 (pc + 3) ls st (wr M a k 0) φ) : AW G Y B Qm k1 k2 pc ls (.int 0 :: .ref a :: st) M φ :=
  a_putFinF hB hinit hdg hf ha hk rfl (show fits .byte (.int 0) = true from by decide) (fv_wr_s ht) (fun _ h => fv_wr_n h) wr_ob (fun _ _ _ => rfl) rfl K
/-! more instructions -/
theorem a_iushr (hB : BF G Y B) {x y : Int32} (hdg : decode (mB Y) pc = .ok (.iushr, 1)) (K : AW G Y B Qm k1 k2 (pc + 1) ls (.int (x.toUInt32 >>> (y.toUInt32 &&& Int32.toUInt32 31)).toInt32 :: st) M φ) : AW G Y B Qm k1 k2 pc ls (.int y :: .int x :: st) M φ :=
  fun H locs lsA hW hS hl => lv_iushr hB.1 hB.2.1 hdg rfl (K H locs lsA hW hS hl)
theorem a_null (hB : BF G Y B) (hdg : decode (mB Y) pc = .ok (.aconst_null, 1)) (K : AW G Y B Qm k1 k2 (pc + 1) ls (.null :: st) M φ) : AW G Y B Qm k1 k2 pc ls st M φ :=
  fun H locs lsA hW hS hl => lv_null hB.1 hB.2.1 hdg (K H locs lsA hW hS hl)
theorem a_ifnn (hB : BF G Y B) {a : Nat} {off : Int} {tgt : Nat} (hdg : decode (mB Y) pc = .ok (.ifnonnull off, 3)) (ht : (pc : Int) + off = (tgt : Int)) (K : AW G Y B Qm k1 k2 tgt ls st M φ) : AW G Y B Qm k1 k2 pc ls (.ref a :: st) M φ :=
  fun H locs lsA hW hS hl => lv_ifnonnull hB.1 hB.2.1 hdg ht (K H locs lsA hW hS hl)
/-! the text's row of bytes -/
theorem a_alenT (hB : BF G Y B) {a : Nat} (hdg : decode (mB Y) pc = .ok (.arraylength, 1)) (ha : a < φ.2.1) (hk : kd a = 15) (K : AW G Y B Qm k1 k2 (pc + 1) ls (.int (Int32.ofNat (gT G)) :: st) M φ) : AW G Y B Qm k1 k2 pc ls (.ref a :: st) M φ := by
  intro H locs lsA hW hS hl
  have h1 := wh_at hW ha
  rw [cell_str hk] at h1
  have hP : va_P (gD G) clL [(th G a, .inl (gAr G 11, gT G, .inl (M a)))] H := by
    intro j q hq
    match j, hq with
    | 0, hq => cases hq; exact h1
    | j + 1, hq => simp at hq
  exact va_alen (D := gD G) (cl := clL) (tys := tyK G) hB.1 hB.2.1 (hK_of hB) hP 0 1 rfl (ty := .byte) rfl rfl hdg (K H locs lsA hW hS hl)
theorem a_baldT (hB : BF G Y B) {a : Nat} {i : Int32} (hdg : decode (mB Y) pc = .ok (.baload, 1)) (ha : a < φ.2.1) (hk : kd a = 15) (hin : iin i (gT G)) (K : AW G Y B Qm k1 k2 (pc + 1) ls (.int (M a (ix i)) :: st) M φ) : AW G Y B Qm k1 k2 pc ls (.int i :: .ref a :: st) M φ := by
  intro H locs lsA hW hS hl
  have h1 := wh_at hW ha
  rw [cell_str hk] at h1
  have hP : va_P (gD G) clL [(th G a, .inl (gAr G 11, gT G, .inl (M a)))] H := by
    intro j q hq
    match j, hq with
    | 0, hq => cases hq; exact h1
    | j + 1, hq => simp at hq
  exact va_bald (D := gD G) (cl := clL) (tys := tyK G) hB.1 hB.2.1 (hK_of hB) hP 0 1 rfl rfl hin hdg (K H locs lsA hW hS hl)
theorem a_newT (hB : BF G Y B) {a j1 j2 L : Nat} {n : Int32} (hdg : decode (mB Y) pc = .ok (.newarray .byte, 2)) (hw : Cond.arrayClass .byte ∈ TB)
    (hc : φ.2.2 = true) (ha : φ.2.1 = a) (ha9 : a < 138) (hk : kd a = 15) (hn0 : ¬ n < 0) (hn : n.toNatClampNeg = gT G) (hbig : gT G ≤ L) (hL : L < 100000) (h1 : k1 + 1 = j1) (h2 : k2 + L = j2) (h3 : j1 ≤ (mRm Y).cells) (h4 : j2 ≤ (mRm Y).slots) (K : AW G Y B Qm j1 j2 (pc + 2) ls (.ref a :: st) (zr M a) (nA φ a)) : AW G Y B Qm k1 k2 pc ls (.int n :: st) M φ := by
  subst h1; subst h2
  intro H locs lsA hW hS hl
  have hwd : k2 ≤ k2 + (L - gT G) := Nat.le_add_right _ _
  have hcb : componentBytes (newarray.typeOf .byte) ≤ 4 := by decide
  refine W.widen (Nat.le_refl k1) hwd ?_
  refine va_newaK (atype := .byte) hB.1 hB.2.1 (bf_w hB _ hw) rfl hdg rfl hn0 hn (by have := Nat.mul_le_mul_left (gT G) hcb; omega) (by rw [bf_R hB]; exact h3) (by rw [bf_R hB]; omega) rfl fun H1 cA e1 z1 o1 hAr hNm => ?_
  have hte := th_new hW hc ha ha9
  have hcA : cA = gAr G 11 := Option.some.inj (hNm.symm.trans ((hK_of hB).2 1 _ rfl).2)
  subst hcA
  have hWn : WH G (zr M a) (nA φ a) H1 := by
    refine wh_push hW hc ha ha9 z1 o1 ?_
    rw [cell_str hk]
    show H1[gc G + a]? = some (vp_cell _ _)
    have hh : H.size = gc G + a := by rw [hW.2.1 hc, ha]
    rw [← hh, e1, vp_cell_i]
    have hz0 : zr M a a = fun _ => 0 := by funext j; simp [zr]
    rw [hz0]
    rfl
  have := K H1 locs lsA hWn (vs_push hS z1 o1) hl
  rw [trS_n hte] at this
  rw [show k2 + (L - gT G) + gT G = k2 + L by omega]
  exact this
/-! System.arraycopy of bytes -/
/-- the bytes of a literal, of a row -/
def cpyF (M : Mm) (f : Nat → Int32) (sp b dp n : Nat) : Mm := fun q j => if q = b ∧ dp ≤ j ∧ j < dp + n then f (sp + (j - dp)) else M q j
theorem a_cpyG (hB : BF G Y B) {b idx n0 lb sa : Nat} {sp dp n : Int32} {f : Nat → Int32} {src : Value} (hL : Cond.methodLink (mY Y).cls idx arraycopyName ∈ TB) (hnat : Cond.native arraycopyName ∈ TB) (hs9 : Cond.static arraycopyName ∈ TB) (hi : Cond.initialized "java/lang/System" ∈ TB) (hdg : decode (mB Y) pc = .ok (.invokestatic idx, 3))
    (hsa : tr G src = .ref sa) (hsrc : ∀ H : Heap, ∀ locs : List Loc, WH G M φ H → va_S (ga G) (bS B).heap H locs → ∃ cs : Cell, H[sa]? = some cs ∧ (bS B).isArrayOf cs .byte ∧ cs.vm ≠ .unknown ∧ n0 ≤ cs.slots.size ∧ ∀ j, j < n0 → cs.slots[j]? = some (.int (f j)))
    (hb : b < φ.2.1) (hlb : ∀ M : Mm, cellOf G M φ b = .inl (gAr G 11, lb, .inl (M b))) (h1 : ¬ sp < 0) (h2 : ¬ dp < 0) (h3 : ¬ n < 0) (h4 : ix sp + ix n ≤ n0) (h5 : ix dp + ix n ≤ lb) (hfit : ∀ j, j < ix n → fits .byte (.int (f (ix sp + j))) = true) (hf : 1 ≤ (mRm Y).frames) (hlo : (st.map fun v => v.category).sum + (nativeFrameWords "java/lang/System" "arraycopy" 5 + 11) ≤ (mRm Y).locals)
    (K : AW G Y B Qm k1 k2 (pc + 3) ls st (cpyF M f (ix sp) b (ix dp) (ix n)) φ) : AW G Y B Qm k1 k2 pc ls (.int n :: .int dp :: .ref b :: .int sp :: src :: st) M φ := by
  have nn : ∀ z : Int32, ¬ z < 0 → z.toInt = (z.toNatClampNeg : Int) := by
    intro z hz
    have hz0 : (0 : Int) ≤ z.toInt := by
      have := Int32.not_lt.mp hz
      simpa using Int32.le_iff_toInt_le.mp this
    show z.toInt = ((z.toInt.toNat : Nat) : Int)
    omega
  intro H locs lsA hW hS hl T hT X
  obtain ⟨cs, hc0, hs1, hs3, hs4, hs5⟩ := hsrc H locs hW hS
  have hc1 := wh_at hW hb
  rw [hlb M] at hc1
  have hc1 : H[th G b]? = some (vp_cell (gAr G 11) (lb, .inl (M b))) := hc1
  have hK := hK_of hB
  obtain ⟨hs6, k0, hk0, cm0, hkk0⟩ := hs1
  obtain ⟨-, k1', hk1, cm1, hkk1⟩ := (hK.2 1 _ rfl).1 lb (fun j => .int (M b j))
  have h4' : sp.toNatClampNeg + n.toNatClampNeg ≤ n0 := h4
  have h5' : dp.toNatClampNeg + n.toNatClampNeg ≤ lb := h5
  obtain ⟨vm', X', step⟩ := X.arraycopy hB.1 (bf_own hB) (bf_w hB _ hL) (bf_w hB _ hnat) (bf_w hB _ hs9) (bf_w hB _ hi) (src := sa) (dst := th G b) (cs := cs) (cd := vp_cell (gAr G 11) (lb, .inl (M b))) (srcPos := sp) (destPos := dp) (n := n) (by rw [hT]; exact hc0) (by rw [hT]; exact hc1)
    hs6 (fun _ h => by cases h) hs3 (fun h => by cases h) hk0 hk1 hkk0 hkk1 (by simp [refKind]) h1 h2 h3
    (by rw [nn sp h1, nn n h3]; omega)
    (by rw [nn dp h2, nn n h3]; show ¬ _ > ((arrV (gAr G 11) lb (fun j => .int (M b j))).slots.size : Int); rw [arrV_size]; omega)
    (fun vm₁ _ i hi => by
      have e : cs.slots.getD (sp.toNatClampNeg + i) .null = .int (f (sp.toNatClampNeg + i)) := by
        rw [Array.getD_eq_getD_getElem?, hs5 _ (by omega)]
        rfl
      refine ⟨?_, ?_⟩
      · rw [e]; exact hfit i hi
      · rw [e]; exact trivial)
    (g := F0 (bM B) pc lsA (trS G (.int n :: .int dp :: .ref b :: .int sp :: src :: st))) rfl (by rw [bf_len hB hl]) (rest := trS G st) (by
      show trS G (.int n :: .int dp :: .ref b :: .int sp :: src :: st) = _
      show Value.int n :: Value.int dp :: Value.ref (th G b) :: Value.int sp :: tr G src :: trS G st = _
      rw [hsa]) (by rw [hB.2.1]; exact hdg) (by rw [bf_R hB]; exact hf) (by
      rw [bf_R hB]
      have h9 := trS_cat G st
      show 2 * 0 + _ + _ ≤ _
      omega)
  have e1 : copied cs (vp_cell (gAr G 11) (lb, .inl (M b))) sp dp n = vp_cell (gAr G 11) (lb, .inl (va_cpy f (M b) sp.toNatClampNeg dp.toNatClampNeg n.toNatClampNeg)) := va_copiedX (fun z => .int z) cs (gAr G 11) f (M b) hs5 h4'
  rw [e1] at X' step
  have hl' : th G b < H.size := (Array.getElem?_eq_some_iff.mp hc1).1
  have hheap : ((T.setVm vm').setCell (th G b) (vp_cell (gAr G 11) (lb, .inl (va_cpy f (M b) sp.toNatClampNeg dp.toNatClampNeg n.toNatClampNeg)))).heap = H.setIfInBounds (th G b) (vp_cell (gAr G 11) (lb, .inl (va_cpy f (M b) sp.toNatClampNeg dp.toNatClampNeg n.toNatClampNeg))) := by rw [← hT]; rfl
  have oq : ∀ q : Nat, q ≠ th G b → (H.setIfInBounds (th G b) (vp_cell (gAr G 11) (lb, .inl (va_cpy f (M b) sp.toNatClampNeg dp.toNatClampNeg n.toNatClampNeg))))[q]? = H[q]? := fun q hq => by simp [Array.getElem?_setIfInBounds, Ne.symm hq]
  have hgb : ga G (th G b) := ga_in hW hb
  have hWn : WH G (cpyF M f (ix sp) b (ix dp) (ix n)) φ (H.setIfInBounds (th G b) (vp_cell (gAr G 11) (lb, .inl (va_cpy f (M b) sp.toNatClampNeg dp.toNatClampNeg n.toNatClampNeg)))) := by
    refine wh_set hW hb ?_ (by simp) oq (fun c hc j => by simp [cpyF, hc]) (fun _ _ _ => rfl) rfl
    rw [hlb]
    show (H.setIfInBounds (th G b) _)[th G b]? = some _
    have e3 : cpyF M f (ix sp) b (ix dp) (ix n) b = va_cpy f (M b) sp.toNatClampNeg dp.toNatClampNeg n.toNatClampNeg := by
      funext j
      simp [cpyF, va_cpy]
    rw [e3]
    simp [Array.getElem?_setIfInBounds, hl']
  have hSn : ∀ L : List Loc, (∀ q ∈ L, ga G q.base) → va_S (ga G) (bS B).heap (H.setIfInBounds (th G b) (vp_cell (gAr G 11) (lb, .inl (va_cpy f (M b) sp.toNatClampNeg dp.toNatClampNeg n.toNatClampNeg)))) (locs ++ L) := by
    refine fun L hL => ⟨by simp; exact hS.1, fun q g1 g2 => ?_, fun q hq => ?_⟩
    · rw [oq q (fun e => g2 (by rw [e]; exact hgb))]
      exact hS.2.1 q g1 g2
    · rcases List.mem_append.mp hq with h | h
      · exact hS.2.2 q h
      · exact hL q h
  obtain ⟨t, a1, b1⟩ := K _ _ lsA hWn (hSn _ (fun q h => by obtain ⟨z, -, hz⟩ := List.mem_map.mp h; rw [← hz]; exact hgb)) hl _ hheap X'
  exact ⟨t, step t a1, b1⟩
theorem stB_fit : ∀ w, w < 47 → ∀ k, k < (stB w).length → fits .byte (.int ((stB w).getD k 0)) = true := by decide +kernel
/-- out of a literal -/
theorem a_cpyS (hB : BF G Y B) {w b idx : Nat} {sp dp n : Int32} (hw : w < 47) (hL : Cond.methodLink (mY Y).cls idx arraycopyName ∈ TB) (hnat : Cond.native arraycopyName ∈ TB) (hs9 : Cond.static arraycopyName ∈ TB) (hi : Cond.initialized "java/lang/System" ∈ TB) (hdg : decode (mB Y) pc = .ok (.invokestatic idx, 3))
    (hb : b < φ.2.1) (hkb : kd b = 11) (h1 : ¬ sp < 0) (h2 : ¬ dp < 0) (h3 : ¬ n < 0) (h4 : ix sp + ix n ≤ (stB w).length) (h5 : ix dp + ix n ≤ ln b) (hf : 1 ≤ (mRm Y).frames) (hlo : (st.map fun v => v.category).sum + (nativeFrameWords "java/lang/System" "arraycopy" 5 + 11) ≤ (mRm Y).locals)
    (K : AW G Y B Qm k1 k2 (pc + 3) ls st (cpyF M (fun j => (stB w).getD j 0) (ix sp) b (ix dp) (ix n)) φ) : AW G Y B Qm k1 k2 pc ls (.int n :: .int dp :: .ref b :: .int sp :: .ref (1200 + w) :: st) M φ := by
  refine a_cpyG hB (n0 := (stB w).length) (lb := ln b) (sa := gE G (1200 + w)) (f := fun j => (stB w).getD j 0) hL hnat hs9 hi hdg (by show Value.ref (th G (1200 + w)) = _; rw [th_x (by omega)]) (fun H locs hW hS => ?_) hb (fun M => cell_int hkb (Or.inr (Or.inl rfl))) h1 h2 h3 h4 h5 (fun j hj => stB_fit w hw _ (by omega)) hf hlo K
  have hT : va_T .byte (gE G (1200 + w)) (stB w).length (fun j => .int ((stB w).getD j 0)) (ga G) (bS B) (bS B).heap := ((vk_of hB hw).1 0 (by decide)).2.2.2
  obtain ⟨cell, g1, g2, g3, g4, -, g6, g7⟩ := hT
  exact ⟨cell, by rw [hS.2.1 _ (Array.getElem?_eq_some_iff.mp g1).1 g7]; exact g1, g2, g3, g4, g6⟩
/-- out of the builder's row into the text's -/
theorem a_cpyT (hB : BF G Y B) {a b idx : Nat} {sp dp n : Int32} (hL : Cond.methodLink (mY Y).cls idx arraycopyName ∈ TB) (hnat : Cond.native arraycopyName ∈ TB) (hs9 : Cond.static arraycopyName ∈ TB) (hi : Cond.initialized "java/lang/System" ∈ TB) (hdg : decode (mB Y) pc = .ok (.invokestatic idx, 3))
    (ha : a < φ.2.1) (hka : kd a = 11) (hb : b < φ.2.1) (hkb : kd b = 15) (h1 : ¬ sp < 0) (h2 : ¬ dp < 0) (h3 : ¬ n < 0) (h4 : ix sp + ix n ≤ ln a) (h5 : ix dp + ix n ≤ gT G) (hfit : ∀ j, j < ix n → fits .byte (.int (M a (ix sp + j))) = true) (hf : 1 ≤ (mRm Y).frames) (hlo : (st.map fun v => v.category).sum + (nativeFrameWords "java/lang/System" "arraycopy" 5 + 11) ≤ (mRm Y).locals)
    (K : AW G Y B Qm k1 k2 (pc + 3) ls st (cpyF M (M a) (ix sp) b (ix dp) (ix n)) φ) : AW G Y B Qm k1 k2 pc ls (.int n :: .int dp :: .ref b :: .int sp :: .ref a :: st) M φ := by
  refine a_cpyG hB (n0 := ln a) (lb := gT G) (sa := th G a) (f := M a) hL hnat hs9 hi hdg rfl (fun H locs hW hS => ?_) hb (fun M => cell_str hkb) h1 h2 h3 h4 h5 hfit hf hlo K
  have h9 := wh_at hW ha
  rw [cell_int hka (Or.inr (Or.inl rfl))] at h9
  refine ⟨vp_cell (gAr G 11) (ln a, .inl (M a)), h9, ((hK_of hB).2 1 _ rfl).1 (ln a) (fun j => .int (M a j)), fun h => (by cases h), ?_, fun j hj => ?_⟩
  · show ln a ≤ (arrV _ _ _).slots.size
    rw [arrV_size]; exact Nat.le_refl _
  · exact arrV_read _ _ hj
/-! the digits -/
theorem a_gsD1 (hB : BF G Y B) {idx : Nat} (hL : Cond.fieldLink (mY Y).cls idx "java/lang/Integer" "DigitOnes" "[B" ∈ TB) (hdg : decode (mB Y) pc = .ok (.getstatic idx, 3)) (K : AW G Y B Qm k1 k2 (pc + 3) ls (.ref 1101 :: st) M φ) : AW G Y B Qm k1 k2 pc ls st M φ := by
  intro H locs lsA hW hS hl
  have := K H locs lsA hW hS hl
  rw [trS_x (a := 1101) (by omega)] at this
  exact va_gets hB.1 hB.2.1 (va_Z.kept (va_Z.moved (bf_E hB).1.alike (bf_G hB).2.2.2.2.2.2.2.2.2.2.2.1.1) (fun a h1 h2 => (bf_E hB).2.2 a h1)) hS (bf_own hB) (bf_w hB _ hL) (fun _ h => h) hdg this
theorem a_gsD10 (hB : BF G Y B) {idx : Nat} (hL : Cond.fieldLink (mY Y).cls idx "java/lang/Integer" "DigitTens" "[B" ∈ TB) (hdg : decode (mB Y) pc = .ok (.getstatic idx, 3)) (K : AW G Y B Qm k1 k2 (pc + 3) ls (.ref 1102 :: st) M φ) : AW G Y B Qm k1 k2 pc ls st M φ := by
  intro H locs lsA hW hS hl
  have := K H locs lsA hW hS hl
  rw [trS_x (a := 1102) (by omega)] at this
  exact va_gets hB.1 hB.2.1 (va_Z.kept (va_Z.moved (bf_E hB).1.alike (bf_G hB).2.2.2.2.2.2.2.2.2.2.2.2.1) (fun a h1 h2 => (bf_E hB).2.2 a h1)) hS (bf_own hB) (bf_w hB _ hL) (fun _ h => h) hdg this
theorem a_baldD1 (hB : BF G Y B) {j : Int32} (hin : iin j 100) (hdg : decode (mB Y) pc = .ok (.baload, 1)) (K : AW G Y B Qm k1 k2 (pc + 1) ls (.int (d1L.getD (ix j) 0) :: st) M φ) : AW G Y B Qm k1 k2 pc ls (.int j :: .ref 1101 :: st) M φ := by
  intro H locs lsA hW hS hl
  have := K H locs lsA hW hS hl
  rw [trS_ix (a := 1101) (by omega)]
  exact va_tb hB.1 hB.2.1 (va_T.kept (va_T.moved (bf_E hB).1.alike (bf_G hB).2.2.2.2.2.2.2.2.2.2.2.1.2) (fun a h1 h2 => (bf_E hB).2.2 a h1)) hS hin (v := .int (d1L.getD (ix j) 0)) rfl hdg this
theorem a_baldD10 (hB : BF G Y B) {j : Int32} (hin : iin j 100) (hdg : decode (mB Y) pc = .ok (.baload, 1)) (K : AW G Y B Qm k1 k2 (pc + 1) ls (.int (d10L.getD (ix j) 0) :: st) M φ) : AW G Y B Qm k1 k2 pc ls (.int j :: .ref 1102 :: st) M φ := by
  intro H locs lsA hW hS hl
  have := K H locs lsA hW hS hl
  rw [trS_ix (a := 1102) (by omega)]
  exact va_tb hB.1 hB.2.1 (va_T.kept (va_T.moved (bf_E hB).1.alike (bf_G hB).2.2.2.2.2.2.2.2.2.2.2.2.2) (fun a h1 h2 => (bf_E hB).2.2 a h1)) hS hin (v := .int (d10L.getD (ix j) 0)) rfl hdg this
/-! a row of bytes is answered -/
theorem a_aretA (hB : BF G Y B) {v : Nat} {ty : FieldType} (hr : mR Y = some (.array ty)) (hdg : decode (mB Y) pc = .ok (.areturn, 1)) (h1 : k1 ≤ (mRm Y).cells) (h2 : k2 ≤ (mRm Y).slots) : AW G Y B (QM G Y B (.inl (some (.ref v))) M φ) k1 k2 pc ls [.ref v] M φ :=
  fun H locs lsA hW hS hl => W.widen h1 h2 (vx_ret (W.aret (v := .ref (th G v)) hB.1 hB.2.1 (hB.2.2.2.1.trans hr) (Or.inr ⟨_, rfl⟩) (Or.inr ⟨_, rfl⟩) (fun t ht _ => ⟨⟨⟨_, rfl, rfl⟩, by rw [ht]; exact hW⟩, hS.F ht⟩) hS.2.2 hdg hB.2.2.2.2.1))
/-! methods of the class above: found by the receiver, or named by super -/
theorem rcvC {ci a : Nat} {C : String} {T : u_T} {N : Nat} {H : Heap} (hB : BF G Y B) (hW : WH G M φ H) (hc9 : ci < 10) (hcl : clL[ci]? = some (C, T, N)) (ha : a < φ.2.1) (hk : kd a = ci) : ∃ cellB : Cell, H[th G a]? = some cellB ∧ cellB.vm.isStatics = false ∧ (bS B).vm.findClass C = some cellB.cls := by
  have h1 := wh_at hW ha
  rw [cell_obj hk hc9] at h1
  have hP : va_P (gD G) clL [(th G a, .inr (ci, (List.range (nf ci)).map (fv G M φ a)))] H := by
    intro j q hq
    match j, hq with
    | 0, hq => cases hq; exact h1
    | j + 1, hq => simp at hq
  exact va_recv (hK_of hB) hP hcl (q0 := 0) rfl
/-- what an inherited method asks of the tables -/
def MDu (x : MethodName) (Y2 : MI) (C owner : String) (n : Nat) : Prop := Cond.sameMethod x.cls owner x.name x.desc ∈ TB ∧ Cond.selects C x (mY Y2) ∈ TB ∧ Cond.instanceMethod (mY Y2) ∈ TB ∧ (mH Y2).isEmpty = true ∧ Cond.initialized (mY Y2).cls ∈ TB ∧ cw Y2 ∈ TB ∧ (owner ≠ "java/lang/invoke/MethodHandle" ∧ owner ≠ "java/lang/invoke/VarHandle" ∧ (parseMethodDescriptor x.desc).map (fun d => d.parameters.length) = some n) ∧ (mY Y2 = ⟨owner, x.name, x.desc⟩ ∨ (Cond.instanceMethod ⟨owner, x.name, x.desc⟩ ∈ TB ∧ ∃ b0 m0 r0, Cond.code ⟨owner, x.name, x.desc⟩ b0 m0 r0 ∈ TB))
theorem ar_VU (hB : BF G Y B) {Y2 : MI} {x : MethodName} {C owner : String} {T : u_T} {N : Nat} {o : Ot} {M1 : Mm} {φ1 : Ph} {a ci n idx : Nat} {As st0 rest : List Value} (hC : CT G Y2 (.ref a :: As) M φ o M1 φ1) (hL : Cond.methodLink (mY Y).cls idx x ∈ TB) (hD : MDu x Y2 C owner n) (hc9 : ci < 10) (hcl : clL[ci]? = some (C, T, N)) (ha : a < φ.2.1) (hk : kd a = ci) (hn : As.length = n) (hst : st0 = As.reverse ++ .ref a :: rest) (hcat : (rest.map fun v => v.category).sum ≤ 8) (hR : RMok Y2 Y k1 k2) (hdg : decode (mB Y) pc = .ok (.invokevirtual idx, 3)) : AR G Y B k1 k2 Y2 pc st0 rest M φ o M1 φ1 := by
  intro H locs lsA hW hS hl
  obtain ⟨d1, d2, d3, d4, d5, d6, d7, d8⟩ := hD
  have hwd : wd Y2 = Cond.code (mY Y2) (mB Y2) (mL Y2) (mR Y2) :: TB := wd_eq d4
  have hGw : GoodIn TB (wd Y2) := tb_sub (fun w hw => by
    rcases List.mem_cons.mp hw with rfl | h
    · exact d6
    · exact h)
  have cw9 : va_CU (bR B) (bS B) (bA B) (mY Y).cls C owner idx x (mY Y2) (mB Y2) (mL Y2) (mR Y2) (wd Y2) (mRm Y2) (mRm Y2).cells (mRm Y2).slots n := by
    rcases d8 with e | ⟨e1, b0, m0, r0, e2⟩
    · refine va_cwU n (bf_w hB) (tb_sub (fun w hw => ?_)) hwd rfl rfl e d7 (by rw [bf_R hB]; exact hR.1)
      unfold va_wsU at hw
      rcases List.mem_append.mp hw with h | h
      · simp only [List.mem_cons, List.not_mem_nil, or_false] at h
        rcases h with rfl | rfl | rfl | rfl | rfl
        · exact hL
        · exact d1
        · exact d2
        · exact d3
        · exact d5
      · exact (hGw w h).1
    · refine va_cwO n (bf_w hB) (tb_sub (fun w hw => ?_)) hwd rfl rfl e2 d7 (by rw [bf_R hB]; exact hR.1)
      unfold va_wsO at hw
      rcases List.mem_append.mp hw with h | h
      · simp only [List.mem_cons, List.not_mem_nil, or_false] at h
        rcases h with rfl | rfl | rfl | rfl | rfl | rfl
        · exact hL
        · exact d1
        · exact e1
        · exact d2
        · exact d3
        · exact d5
      · exact (hGw w h).1
  exact ⟨_, vx_runU (C := C) (b := th G a) (As := trS G As) (n := n) (cc := mB Y) (nL := mL Y) (Ts := TB) ⟨hB.1, hB.2.1, hB.2.2.1, bf_own hB, bf_w hB⟩ hC cw9 ⟨wu_blind, rcvC hB hW hc9 hcl ha hk, fun U hU hWm => ⟨rfl, eo_of hB hS hU hWm, by rw [hU]; exact hW⟩⟩ rfl (by rw [trS_len]; exact hn) hl (trS_stack hst) (lv_room (by rw [trS_cat]; exact hcat)) hdg (by rw [bf_R hB]; exact hR.2)⟩
def MDp (own : String) (Y2 : MI) (n : Nat) : Prop := Cond.sameMethod (mY Y2).cls (mY Y2).cls (mY Y2).name (mY Y2).desc ∈ TB ∧ Cond.superclass own (mY Y2).cls ∈ TB ∧ Cond.instanceMethod (mY Y2) ∈ TB ∧ (mH Y2).isEmpty = true ∧ Cond.initialized (mY Y2).cls ∈ TB ∧ cw Y2 ∈ TB ∧ (mY Y2).name ≠ "<init>" ∧ (parseMethodDescriptor (mY Y2).desc).map (fun d => d.parameters.length) = some n
theorem ar_SU (hB : BF G Y B) {Y2 : MI} {C : String} {T : u_T} {N : Nat} {o : Ot} {M1 : Mm} {φ1 : Ph} {a ci n idx : Nat} {As st0 rest : List Value} (hC : CT G Y2 (.ref a :: As) M φ o M1 φ1) (hL : Cond.methodLink (mY Y).cls idx (mY Y2) ∈ TB) (hD : MDp (mY Y).cls Y2 n) (hc9 : ci < 10) (hcl : clL[ci]? = some (C, T, N)) (ha : a < φ.2.1) (hk : kd a = ci) (hn : As.length = n) (hst : st0 = As.reverse ++ .ref a :: rest) (hcat : (rest.map fun v => v.category).sum ≤ 8) (hR : RMok Y2 Y k1 k2) (hdg : decode (mB Y) pc = .ok (.invokespecial idx, 3)) : AR G Y B k1 k2 Y2 pc st0 rest M φ o M1 φ1 := by
  intro H locs lsA hW hS hl
  obtain ⟨d1, d2, d3, d4, d5, d6, d7, d8⟩ := hD
  have hwd : wd Y2 = Cond.code (mY Y2) (mB Y2) (mL Y2) (mR Y2) :: TB := wd_eq d4
  have hGw : GoodIn TB (wd Y2) := tb_sub (fun w hw => by
    rcases List.mem_cons.mp hw with rfl | h
    · exact d6
    · exact h)
  have hws : GoodIn TB (va_wsSU (mY Y).cls idx (mY Y2) (wd Y2)) := tb_sub (fun w hw => by
    unfold va_wsSU at hw
    rcases List.mem_append.mp hw with h | h
    · simp only [List.mem_cons, List.not_mem_nil, or_false] at h
      rcases h with rfl | rfl | rfl | rfl | rfl
      · exact hL
      · exact d1
      · exact d2
      · exact d3
      · exact d5
    · exact (hGw w h).1)
  exact ⟨_, vx_runSU (C := C) (b := th G a) (As := trS G As) (n := n) (cc := mB Y) (nL := mL Y) (Ts := TB) ((hK_of hB).1 ci _ hcl).2 ⟨hB.1, hB.2.1, hB.2.2.1, bf_own hB, bf_w hB⟩ hC (va_cwSU n (bf_w hB) hws hwd rfl rfl ⟨d7, d8⟩ (by rw [bf_R hB]; exact hR.1)) ⟨wu_blind, rcvC hB hW hc9 hcl ha hk, fun U hU hWm => ⟨rfl, eo_of hB hS hU hWm, by rw [hU]; exact hW⟩⟩ rfl (by rw [trS_len]; exact hn) hl (trS_stack hst) (lv_room (by rw [trS_cat]; exact hcat)) hdg (by rw [bf_R hB]; exact hR.2)⟩
end AWD
