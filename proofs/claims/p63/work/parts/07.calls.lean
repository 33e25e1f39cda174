/-! contracts, ends, calls, throws, what is made -/
def WU (G : Gt) (M : Mm) (φ : Ph) (U : State) : Prop := EO G U ∧ WH G M φ U.heap
abbrev Ot : Type := Option Value ⊕ String
def oQ (G : Gt) (o : Ot) (M : Mm) (φ : Ph) : Array Value → State → Outcome → State → Prop := fun _ st oc t => ((∃ v, o = .inl v ∧ oc = .returned (v.map (tr G))) ∧ WH G M φ t.heap) ∧ va_F (ga G) st t
def oX (G : Gt) (o : Ot) (M : Mm) (φ : Ph) : String → State → State → Prop := fun E st t => (o = .inr E ∧ WH G M φ t.heap) ∧ va_F (ga G) st t
def QM (G : Gt) (Y : MI) (B : Bag) (o : Ot) (M : Mm) (φ : Ph) : State → Prop := vx_MQ (bW B) (oQ G o M φ) (oX G o M φ) (bA B) (bS B) (mRm Y).cells (mRm Y).slots (ga G)
/-- A CONTRACT: from these ints and these arguments the method ends with o, the ints are M1 then -/
def CT (G : Gt) (Y : MI) (av : List Value) (M : Mm) (φ : Ph) (o : Ot) (M1 : Mm) (φ1 : Ph) : Prop :=
  vx_Met (gl G) (mY Y) (wd Y) (mRm Y) (va_Pc (trS G av) (WU G M φ)) (oQ G o M1 φ1) (oX G o M1 φ1) (mRm Y).cells (mRm Y).slots (ga G)
theorem lg_tr (G : Gt) (av : List Value) : (lg_sl (trS G av)).length = (lg_sl av).length := by
  induction av with
  | nil => rfl
  | cons v vs ih =>
    have e : trS G (v :: vs) = tr G v :: trS G vs := rfl
    rw [e]
    cases v <;> simp [lg_sl, tr, Value.category] at ih ⊢ <;> omega
theorem ct_of {G : Gt} {Y : MI} {av : List Value} {M M1 : Mm} {φ φ1 : Ph} {o : Ot} (hG : GOK G) (hy : plainName (mY Y).cls = true) (hn : (lg_sl av).length ≤ mL Y)
    (h : ∀ B, BF G Y B → AW G Y B (QM G Y B o M1 φ1) 0 0 0 (lv_args 0 av) [] M φ) : CT G Y av M φ o M1 φ1 := by
  by_cases hH : (mH Y).isEmpty = true
  · have hH0 : mH Y = [] := List.isEmpty_iff.mp hH
    refine vx_ofW (cc := mB Y) (maxL := mL Y) (ret := mR Y) (ws' := TB) hy (by unfold wd cw; rw [if_pos hH]) ?_
    intro p e s m args below meth c s₁ B hml hx hv
    obtain ⟨rfl, hE, hWH⟩ := hv
    have hts := atoms_spec (ws := wd Y) B.pre
    have hB : BF G Y (p, e, (headSpec (wd Y) (mRm Y)).room, s, m, (trS G av).toArray, below, meth, c) :=
      ⟨B.exec, B.bytes, hml, B.returns, B.notSynchronized, rfl, fun w hw => hts w (List.mem_cons_of_mem _ hw), findClass_of_methodNamed B.named, (name_of_methodNamed B.named B.method).1, fun x hx9 => absurd hx9 (fun q => hx x q), hE, hG, by
        rw [hH0]
        exact List.eq_nil_iff_forall_not_mem.mpr (fun x q => hx x q)⟩
    have hl := lv_entry (trS G av) (n := mL Y) (by rw [lg_tr]; exact hn)
    rw [lg_entry_eq]
    exact h _ hB s.heap [] _ hWH va_S.rf (by rw [← trL_args]; exact hl)
  · refine vx_ofWH (cc := mB Y) (maxL := mL Y) (ret := mR Y) (hh := mH Y) (ws' := TB) hy (by unfold wd cw; rw [if_neg hH]) ?_
    intro p e s m args below meth c s₁ B hml hv
    obtain ⟨rfl, hE, hWH⟩ := hv
    have hts := atoms_spec (ws := wd Y) B.pre
    have hcw : (Cond.codeWith (mY Y) (mB Y) (mL Y) (mR Y) (mH Y)).before (trS G av).toArray s = true := by
      have := hts (cw Y) List.mem_cons_self
      unfold cw at this
      rw [if_neg hH] at this
      exact this
    have htab := vx_table (x := mY Y) B hcw
    have hB : BF G Y (p, e, (headSpec (wd Y) (mRm Y)).room, s, m, (trS G av).toArray, below, meth, c) :=
      ⟨B.exec, B.bytes, hml, B.returns, B.notSynchronized, rfl, fun w hw => hts w (List.mem_cons_of_mem _ hw), findClass_of_methodNamed B.named, (name_of_methodNamed B.named B.method).1, fun x hx9 => by rw [← htab]; exact hx9, hE, hG, htab⟩
    have hl := lv_entry (trS G av) (n := mL Y) (by rw [lg_tr]; exact hn)
    rw [lg_entry_eq]
    exact h _ hB s.heap [] _ hWH va_S.rf (by rw [← trL_args]; exact hl)
section AWC
variable {G : Gt} {Y : MI} {B : Bag} {Qm : State → Prop} {k1 k2 pc : Nat} {ls : List (Nat × Value)} {st : List Value} {M : Mm} {φ : Ph}
theorem bf_R (hB : BF G Y B) : bR B = mRm Y := hB.2.2.2.2.2.1
theorem bf_w (hB : BF G Y B) : ∀ w ∈ TB, w.before (bA B) (bS B) = true := hB.2.2.2.2.2.2.1
theorem bf_own (hB : BF G Y B) : (bS B).vm.findClass (mY Y).cls = some (bM B).cls := hB.2.2.2.2.2.2.2.1
theorem bf_E (hB : BF G Y B) : EO G (bS B) := hB.2.2.2.2.2.2.2.2.2.2.1
theorem bf_G (hB : BF G Y B) : GOK G := hB.2.2.2.2.2.2.2.2.2.2.2.1
theorem b_cast (hB : BF G Y B) {E n : String} (h : Cond.castable E n ∈ lx_tbl) : (Cond.castable E n).before (bA B) (bS B) = true :=
  va_tabs rfl (rfl : ((gs G).setVm (bS B).vm).vm = (bS B).vm) (by rw [Cond.castable_setVm (bf_E hB).1.alike]; exact ((bf_G hB).2.2.2.1 _ h rfl rfl : va_Nw _ _))
theorem bf_T (hB : BF G Y B) : (bC B).exceptionTable.toList = tableOf (mH Y) := hB.2.2.2.2.2.2.2.2.2.2.2.2
theorem bf_locs {H0 H : Heap} {locs : List Loc} (hS : va_S (ga G) H0 H locs) : ∀ q ∈ locs, ga G q.base := hS.2.2
/-! ends -/
theorem a_iret (hB : BF G Y B) {v : Int32} (hr : mR Y = some .int) (hdg : decode (mB Y) pc = .ok (.ireturn, 1)) (h1 : k1 ≤ (mRm Y).cells) (h2 : k2 ≤ (mRm Y).slots) : AW G Y B (QM G Y B (.inl (some (.int v))) M φ) k1 k2 pc ls [.int v] M φ :=
  fun H locs lsA hW hS hl => W.widen h1 h2 (vx_ret (W.iret hB.1 hB.2.1 (hB.2.2.2.1.trans hr) (fun t ht _ => ⟨⟨⟨_, rfl, rfl⟩, by rw [ht]; exact hW⟩, hS.F ht⟩) hS.2.2 hdg hB.2.2.2.2.1))
theorem a_zret (hB : BF G Y B) {v : Int32} (hr : mR Y = some .boolean) (hz : isZ v) (hdg : decode (mB Y) pc = .ok (.ireturn, 1)) (h1 : k1 ≤ (mRm Y).cells) (h2 : k2 ≤ (mRm Y).slots) : AW G Y B (QM G Y B (.inl (some (.int v))) M φ) k1 k2 pc ls [.int v] M φ :=
  fun H locs lsA hW hS hl => W.widen h1 h2 (vx_ret (W.zret hB.1 hB.2.1 (hB.2.2.2.1.trans hr) (isZ_nar hz) (fun t ht _ => ⟨⟨⟨_, rfl, rfl⟩, by rw [ht]; exact hW⟩, hS.F ht⟩) hS.2.2 hdg hB.2.2.2.2.1))
theorem a_sret (hB : BF G Y B) {v : Int32} {ty : FieldType} (hr : mR Y = some ty) (hz : narrow ty (.int v) = .int v) (hdg : decode (mB Y) pc = .ok (.ireturn, 1)) (h1 : k1 ≤ (mRm Y).cells) (h2 : k2 ≤ (mRm Y).slots) : AW G Y B (QM G Y B (.inl (some (.int v))) M φ) k1 k2 pc ls [.int v] M φ :=
  fun H locs lsA hW hS hl => W.widen h1 h2 (vx_ret (W.zret hB.1 hB.2.1 (hB.2.2.2.1.trans hr) hz (fun t ht _ => ⟨⟨⟨_, rfl, rfl⟩, by rw [ht]; exact hW⟩, hS.F ht⟩) hS.2.2 hdg hB.2.2.2.2.1))
theorem a_lret (hB : BF G Y B) {v : Int64} (hr : mR Y = some .long) (hdg : decode (mB Y) pc = .ok (.lreturn, 1)) (h1 : k1 ≤ (mRm Y).cells) (h2 : k2 ≤ (mRm Y).slots) : AW G Y B (QM G Y B (.inl (some (.long v))) M φ) k1 k2 pc ls [.long v] M φ :=
  fun H locs lsA hW hS hl => W.widen h1 h2 (vx_ret (W.lret hB.1 hB.2.1 (hB.2.2.2.1.trans hr) (fun t ht _ => ⟨⟨⟨_, rfl, rfl⟩, by rw [ht]; exact hW⟩, hS.F ht⟩) hS.2.2 hdg hB.2.2.2.2.1))
theorem a_dret (hB : BF G Y B) {v : UInt64} (hr : mR Y = some .double) (hdg : decode (mB Y) pc = .ok (.dreturn, 1)) (h1 : k1 ≤ (mRm Y).cells) (h2 : k2 ≤ (mRm Y).slots) : AW G Y B (QM G Y B (.inl (some (.double v))) M φ) k1 k2 pc ls [.double v] M φ :=
  fun H locs lsA hW hS hl => W.widen h1 h2 (vx_ret (W.dret hB.1 hB.2.1 (hB.2.2.2.1.trans hr) (fun t ht _ => ⟨⟨⟨_, rfl, rfl⟩, by rw [ht]; exact hW⟩, hS.F ht⟩) hS.2.2 hdg hB.2.2.2.2.1))
theorem a_fret (hB : BF G Y B) {v : UInt32} (hr : mR Y = some .float) (hdg : decode (mB Y) pc = .ok (.freturn, 1)) (h1 : k1 ≤ (mRm Y).cells) (h2 : k2 ≤ (mRm Y).slots) : AW G Y B (QM G Y B (.inl (some (.float v))) M φ) k1 k2 pc ls [.float v] M φ :=
  fun H locs lsA hW hS hl => W.widen h1 h2 (vx_ret (W.fret hB.1 hB.2.1 (hB.2.2.2.1.trans hr) (fun t ht _ => ⟨⟨⟨_, rfl, rfl⟩, by rw [ht]; exact hW⟩, hS.F ht⟩) hS.2.2 hdg hB.2.2.2.2.1))
theorem a_aret (hB : BF G Y B) {v : Nat} {n : String} (hr : mR Y = some (.object n)) (hdg : decode (mB Y) pc = .ok (.areturn, 1)) (h1 : k1 ≤ (mRm Y).cells) (h2 : k2 ≤ (mRm Y).slots) : AW G Y B (QM G Y B (.inl (some (.ref v))) M φ) k1 k2 pc ls [.ref v] M φ :=
  fun H locs lsA hW hS hl => W.widen h1 h2 (vx_ret (W.aret (v := .ref (th G v)) hB.1 hB.2.1 (hB.2.2.2.1.trans hr) (Or.inl ⟨_, rfl⟩) (Or.inr ⟨_, rfl⟩) (fun t ht _ => ⟨⟨⟨_, rfl, rfl⟩, by rw [ht]; exact hW⟩, hS.F ht⟩) hS.2.2 hdg hB.2.2.2.2.1))
theorem a_vret (hB : BF G Y B) (hr : mR Y = none) (hdg : decode (mB Y) pc = .ok (.return_, 1)) (h1 : k1 ≤ (mRm Y).cells) (h2 : k2 ≤ (mRm Y).slots) : AW G Y B (QM G Y B (.inl none) M φ) k1 k2 pc ls [] M φ :=
  fun H locs lsA hW hS hl => W.widen h1 h2 (vx_ret (W.vret hB.1 hB.2.1 (hB.2.2.2.1.trans hr) (fun t ht _ => ⟨⟨⟨_, rfl, rfl⟩, by rw [ht]; exact hW⟩, hS.F ht⟩) hS.2.2 hdg hB.2.2.2.2.1))
/-! calls -/
def MDc (Y2 : MI) (n : Nat) : Prop := Cond.initialized (mY Y2).cls ∈ TB ∧ cw Y2 ∈ TB ∧ ((mY Y2).cls ≠ "java/lang/invoke/MethodHandle" ∧ (mY Y2).cls ≠ "java/lang/invoke/VarHandle" ∧ (parseMethodDescriptor (mY Y2).desc).map (fun d => d.parameters.length) = some n)
def MDv (Y2 : MI) (n : Nat) : Prop := Cond.instanceMethod (mY Y2) ∈ TB ∧ Cond.selects (mY Y2).cls (mY Y2) (mY Y2) ∈ TB ∧ (mH Y2).isEmpty = true ∧ MDc Y2 n
def MDs (Y2 : MI) (n : Nat) : Prop := Cond.static (mY Y2) ∈ TB ∧ (mH Y2).isEmpty = true ∧ MDc Y2 n
def MDx (Y2 : MI) (n : Nat) : Prop := Cond.static (mY Y2) ∈ TB ∧ (mH Y2).isEmpty = false ∧ MDc Y2 n
def MDi (Y2 : MI) (n : Nat) : Prop := Cond.instanceMethod (mY Y2) ∈ TB ∧ (mY Y2).name = "<init>" ∧ mR Y2 = none ∧ (mH Y2).isEmpty = true ∧ MDc Y2 n
def RC (ci : Nat) (Y2 : MI) : Prop := ci < 10 ∧ ∃ (T : u_T) (N : Nat), clL[ci]? = some ((mY Y2).cls, T, N)
def RMok (Y2 Y : MI) (k1 k2 : Nat) : Prop := ((mRm Y2).frames + 1 ≤ (mRm Y).frames ∧ 8 + (mL Y2 + 11) + (mRm Y2).locals ≤ (mRm Y).locals) ∧ k1 + (mRm Y2).cells ≤ (mRm Y).cells ∧ k2 + (mRm Y2).slots ≤ (mRm Y).slots
theorem tb_sub {ws : List Cond} (h : ∀ w ∈ ws, w ∈ TB) : GoodIn TB ws := fun w hw => ⟨h w hw, good_of_word (List.all_eq_true.mp tb_good w (h w hw))⟩
theorem wd_in {Y2 : MI} {n : Nat} (h : MDc Y2 n) : ∀ w ∈ wd Y2, w ∈ TB := fun w hw => by
  rcases List.mem_cons.mp hw with rfl | q
  · exact h.2.1
  · exact q
theorem wd_eq {Y2 : MI} (h : (mH Y2).isEmpty = true) : wd Y2 = Cond.code (mY Y2) (mB Y2) (mL Y2) (mR Y2) :: TB := by unfold wd cw; rw [if_pos h]
theorem wd_eqX {Y2 : MI} (h : (mH Y2).isEmpty = false) : wd Y2 = Cond.codeWith (mY Y2) (mB Y2) (mL Y2) (mR Y2) (mH Y2) :: TB := by unfold wd cw; rw [if_neg (by rw [h]; decide)]
theorem wu_blind {M : Mm} {φ : Ph} {av : List Value} : FrameBlind (va_Pc av (WU G M φ)) := fun a U g mk q => by
  obtain ⟨q1, q2, q3⟩ := q
  exact ⟨q1, q2, q3⟩
theorem eo_of (hB : BF G Y B) {H : Heap} {locs : List Loc} (hS : va_S (ga G) (bS B).heap H locs) {U : State} (hU : U.heap = H) (hW : (bS B).WarmedH U.vm) : EO G U := by
  obtain ⟨e1, e2, e3⟩ := bf_E hB
  refine ⟨State.WarmedH.trans e1 hW, by rw [hU]; exact Nat.le_trans e2 hS.1, fun q hq => ?_⟩
  rw [hU, hS.2.1 q (Nat.lt_of_lt_of_le hq e2) (by unfold ga; omega)]
  exact e3 q hq
def AR (G : Gt) (Y : MI) (B : Bag) (k1 k2 : Nat) (Y2 : MI) (pc : Nat) (st0 rest : List Value) (M : Mm) (φ : Ph) (o : Ot) (M1 : Mm) (φ1 : Ph) : Prop :=
  ∀ (H : Heap) (locs : List Loc) (lsA : Array Slot), WH G M φ H → va_S (ga G) (bS B).heap H locs → lsA.size = mL Y →
    ∃ av, vx_Run (bP B) (gl G) (bE B) (bR B) (bS B) (bM B) (bA B) (bW B) (bT B) (bC B) H locs k1 k2 (mRm Y2).cells (mRm Y2).slots (F0 (bM B) pc lsA (trS G st0)) (trS G rest) (oQ G o M1 φ1 av) (oX G o M1 φ1) (ga G)
theorem trS_stack {G : Gt} {As rest st0 : List Value} {a : Nat} (h : st0 = As.reverse ++ .ref a :: rest) : trS G st0 = (trS G As).reverse ++ .ref (th G a) :: trS G rest := by
  rw [h, trS_app, trS_rev]; rfl
theorem trS_stackS {G : Gt} {As rest st0 : List Value} (h : st0 = As.reverse ++ rest) : trS G st0 = (trS G As).reverse ++ trS G rest := by
  rw [h, trS_app, trS_rev]
theorem trS_len (G : Gt) (As : List Value) : (trS G As).length = As.length := by unfold trS; rw [List.length_map]
theorem rcv {ci a : Nat} {Y2 : MI} {H : Heap} {M : Mm} {φ : Ph} (hB : BF G Y B) (hW : WH G M φ H) (hrc : RC ci Y2) (ha : a < φ.2.1) (hk : kd a = ci) : ∃ cellB : Cell, H[th G a]? = some cellB ∧ cellB.vm.isStatics = false ∧ (bS B).vm.findClass (mY Y2).cls = some cellB.cls := by
  obtain ⟨h10, T, N, hc⟩ := hrc
  have h1 := wh_at hW ha
  rw [cell_obj hk h10] at h1
  have hP : va_P (gD G) clL [(th G a, .inr (ci, (List.range (nf ci)).map (fv G M φ a)))] H := by
    intro j q hq
    match j, hq with
    | 0, hq => cases hq; exact h1
    | j + 1, hq => simp at hq
  exact va_recv (hK_of hB) hP hc (q0 := 0) rfl
theorem ar_V (hB : BF G Y B) {Y2 : MI} {o : Ot} {M1 : Mm} {φ1 : Ph} {a ci n idx : Nat} {As st0 rest : List Value} (hC : CT G Y2 (.ref a :: As) M φ o M1 φ1) (hL : Cond.methodLink (mY Y).cls idx (mY Y2) ∈ TB) (hD : MDv Y2 n) (hrc : RC ci Y2) (ha : a < φ.2.1) (hk : kd a = ci) (hn : As.length = n) (hst : st0 = As.reverse ++ .ref a :: rest) (hcat : (rest.map fun v => v.category).sum ≤ 8) (hR : RMok Y2 Y k1 k2) (hdg : decode (mB Y) pc = .ok (.invokevirtual idx, 3)) : AR G Y B k1 k2 Y2 pc st0 rest M φ o M1 φ1 := by
  intro H locs lsA hW hS hl
  refine ⟨_, vx_runV (C := (mY Y2).cls) (b := th G a) (As := trS G As) (n := n) (cc := mB Y) (nL := mL Y) (Ts := TB) ⟨hB.1, hB.2.1, hB.2.2.1, bf_own hB, bf_w hB⟩ hC (cwV n (bf_w hB) (tb_sub ?_) (wd_eq hD.2.2.1) rfl rfl ⟨rfl, hD.2.2.2.2.2⟩ (by rw [bf_R hB]; exact hR.1)) ⟨wu_blind, rcv hB hW hrc ha hk, fun U hU hWm => ⟨rfl, eo_of hB hS hU hWm, by rw [hU]; exact hW⟩⟩ rfl (by rw [trS_len]; exact hn) hl (trS_stack hst) (lv_room (by rw [trS_cat]; exact hcat)) hdg (by rw [bf_R hB]; exact hR.2)⟩
  intro w hw
  unfold wsV at hw
  rcases List.mem_append.mp hw with h | h
  · simp only [List.mem_cons, List.not_mem_nil, or_false] at h
    rcases h with rfl | rfl | rfl | rfl
    · exact hL
    · exact hD.1
    · exact hD.2.1
    · exact hD.2.2.2.1
  · exact wd_in hD.2.2.2 w h
theorem ar_VN (hB : BF G Y B) {Y2 : MI} {o : Ot} {M1 : Mm} {φ1 : Ph} {a ci n idx : Nat} {host : String} {As st0 rest : List Value} (hC : CT G Y2 (.ref a :: As) M φ o M1 φ1) (hL : Cond.methodLinkNest (mY Y).cls idx (mY Y2) host ∈ lx_tbl) (hD : MDv Y2 n) (hrc : RC ci Y2) (ha : a < φ.2.1) (hk : kd a = ci) (hn : As.length = n) (hst : st0 = As.reverse ++ .ref a :: rest) (hcat : (rest.map fun v => v.category).sum ≤ 8) (hR : RMok Y2 Y k1 k2) (hdg : decode (mB Y) pc = .ok (.invokevirtual idx, 3)) : AR G Y B k1 k2 Y2 pc st0 rest M φ o M1 φ1 := by
  intro H locs lsA hW hS hl
  have hNw : va_Nw (.methodLinkNest (mY Y).cls idx (mY Y2) host) (bS B) := va_Nw.warmM (bf_E hB).1 ((bf_G hB).2.2.2.1 _ hL rfl rfl)
  exact ⟨_, vx_runVN (C := (mY Y2).cls) (b := th G a) (As := trS G As) (n := n) (cc := mB Y) (nL := mL Y) (Ts := TB) ⟨hB.1, hB.2.1, hB.2.2.1, bf_own hB, bf_w hB⟩ hC ⟨va_cnB n (bf_w hB) (tb_sub (wd_in hD.2.2.2)) (wd_eq hD.2.2.1) rfl rfl hNw (bf_w hB _ hD.2.2.2.1) hD.2.2.2.2.2 (by rw [bf_R hB]; exact hR.1), bf_w hB _ hD.1, bf_w hB _ hD.2.1⟩ ⟨wu_blind, rcv hB hW hrc ha hk, fun U hU hWm => ⟨rfl, eo_of hB hS hU hWm, by rw [hU]; exact hW⟩⟩ rfl (by rw [trS_len]; exact hn) hl (trS_stack hst) (lv_room (by rw [trS_cat]; exact hcat)) hdg (by rw [bf_R hB]; exact hR.2)⟩
theorem ar_S (hB : BF G Y B) {Y2 : MI} {o : Ot} {M1 : Mm} {φ1 : Ph} {n idx : Nat} {As st0 rest : List Value} (hC : CT G Y2 As M φ o M1 φ1) (hL : Cond.methodLink (mY Y).cls idx (mY Y2) ∈ TB) (hD : MDs Y2 n) (hn : As.length = n) (hst : st0 = As.reverse ++ rest) (hcat : (rest.map fun v => v.category).sum ≤ 8) (hR : RMok Y2 Y k1 k2) (hdg : decode (mB Y) pc = .ok (.invokestatic idx, 3)) : AR G Y B k1 k2 Y2 pc st0 rest M φ o M1 φ1 := by
  intro H locs lsA hW hS hl
  exact ⟨_, vx_runS (As := trS G As) (n := n) (cc := mB Y) (nL := mL Y) (Ts := TB) ⟨hB.1, hB.2.1, hB.2.2.1, bf_own hB, bf_w hB⟩ hC ⟨callB_of n (bf_w hB) (tb_sub (wd_in hD.2.2)) (wd_eq hD.2.1) rfl rfl (bf_w hB _ hD.2.2.1) (bf_w hB _ hL) hD.2.2.2.2 (by rw [bf_R hB]; exact hR.1), bf_w hB _ hD.1⟩ ⟨wu_blind, fun U hU hWm => ⟨rfl, eo_of hB hS hU hWm, by rw [hU]; exact hW⟩⟩ rfl (by rw [trS_len]; exact hn) hl (trS_stackS hst) (lv_room (by rw [trS_cat]; exact hcat)) hdg (by rw [bf_R hB]; exact hR.2)⟩
theorem ar_SN (hB : BF G Y B) {Y2 : MI} {o : Ot} {M1 : Mm} {φ1 : Ph} {n idx : Nat} {host : String} {As st0 rest : List Value} (hC : CT G Y2 As M φ o M1 φ1) (hL : Cond.methodLinkNest (mY Y).cls idx (mY Y2) host ∈ lx_tbl) (hD : MDs Y2 n) (hn : As.length = n) (hst : st0 = As.reverse ++ rest) (hcat : (rest.map fun v => v.category).sum ≤ 8) (hR : RMok Y2 Y k1 k2) (hdg : decode (mB Y) pc = .ok (.invokestatic idx, 3)) : AR G Y B k1 k2 Y2 pc st0 rest M φ o M1 φ1 := by
  intro H locs lsA hW hS hl
  have hNw : va_Nw (.methodLinkNest (mY Y).cls idx (mY Y2) host) (bS B) := va_Nw.warmM (bf_E hB).1 ((bf_G hB).2.2.2.1 _ hL rfl rfl)
  exact ⟨_, vx_runSN (As := trS G As) (n := n) (cc := mB Y) (nL := mL Y) (Ts := TB) ⟨hB.1, hB.2.1, hB.2.2.1, bf_own hB, bf_w hB⟩ hC ⟨va_cnB n (bf_w hB) (tb_sub (wd_in hD.2.2)) (wd_eq hD.2.1) rfl rfl hNw (bf_w hB _ hD.2.2.1) hD.2.2.2.2 (by rw [bf_R hB]; exact hR.1), bf_w hB _ hD.1, trivial⟩ ⟨wu_blind, fun U hU hWm => ⟨rfl, eo_of hB hS hU hWm, by rw [hU]; exact hW⟩⟩ rfl (by rw [trS_len]; exact hn) hl (trS_stackS hst) (lv_room (by rw [trS_cat]; exact hcat)) hdg (by rw [bf_R hB]; exact hR.2)⟩
theorem ar_SX (hB : BF G Y B) {Y2 : MI} {o : Ot} {M1 : Mm} {φ1 : Ph} {n idx : Nat} {As st0 rest : List Value} (hC : CT G Y2 As M φ o M1 φ1) (hL : Cond.methodLink (mY Y).cls idx (mY Y2) ∈ TB) (hD : MDx Y2 n) (hn : As.length = n) (hst : st0 = As.reverse ++ rest) (hcat : (rest.map fun v => v.category).sum ≤ 8) (hR : RMok Y2 Y k1 k2) (hdg : decode (mB Y) pc = .ok (.invokestatic idx, 3)) : AR G Y B k1 k2 Y2 pc st0 rest M φ o M1 φ1 := by
  intro H locs lsA hW hS hl
  refine ⟨_, vx_runSX (As := trS G As) (n := n) (cc := mB Y) (nL := mL Y) (Ts := TB) ⟨hB.1, hB.2.1, hB.2.2.1, bf_own hB, bf_w hB⟩ hC (vx_cwSW n (bf_w hB) (tb_sub ?_) (wd_eqX hD.2.1) rfl rfl hD.2.2.2.2 (by rw [bf_R hB]; exact hR.1)) ⟨wu_blind, fun U hU hWm => ⟨rfl, eo_of hB hS hU hWm, by rw [hU]; exact hW⟩⟩ rfl (by rw [trS_len]; exact hn) hl (trS_stackS hst) (lv_room (by rw [trS_cat]; exact hcat)) hdg (by rw [bf_R hB]; exact hR.2)⟩
  intro w hw
  unfold va_wsS at hw
  rcases List.mem_append.mp hw with h | h
  · simp only [List.mem_cons, List.not_mem_nil, or_false] at h
    rcases h with rfl | rfl | rfl
    · exact hL
    · exact hD.1
    · exact hD.2.2.1
  · exact wd_in hD.2.2 w h
theorem ar_I (hB : BF G Y B) {Y2 : MI} {o : Ot} {M1 : Mm} {φ1 : Ph} {a n idx : Nat} {As st0 rest : List Value} (hC : CT G Y2 (.ref a :: As) M φ o M1 φ1) (hL : Cond.methodLink (mY Y).cls idx (mY Y2) ∈ TB) (hD : MDi Y2 n) (hn : As.length = n) (hst : st0 = As.reverse ++ .ref a :: rest) (hcat : (rest.map fun v => v.category).sum ≤ 8) (hR : RMok Y2 Y k1 k2) (hdg : decode (mB Y) pc = .ok (.invokespecial idx, 3)) : AR G Y B k1 k2 Y2 pc st0 rest M φ o M1 φ1 := by
  intro H locs lsA hW hS hl
  exact ⟨_, vx_runI (b := th G a) (As := trS G As) (n := n) (cc := mB Y) (nL := mL Y) (Ts := TB) ⟨hB.1, hB.2.1, hB.2.2.1, bf_own hB, bf_w hB⟩ hC (cwI n (bf_w hB) (tb_sub (wd_in hD.2.2.2.2)) (by rw [wd_eq hD.2.2.2.1, hD.2.2.1]) rfl rfl (bf_w hB _ hD.2.2.2.2.1) (bf_w hB _ hL) (bf_w hB _ hD.1) hD.2.1 hD.2.2.2.2.2.2 (by rw [bf_R hB]; exact hR.1)) ⟨wu_blind, fun U hU hWm => ⟨rfl, eo_of hB hS hU hWm, by rw [hU]; exact hW⟩⟩ rfl (by rw [trS_len]; exact hn) hl (trS_stack hst) (lv_room (by rw [trS_cat]; exact hcat)) hdg (by rw [bf_R hB]; exact hR.2)⟩
theorem ar_IN (hB : BF G Y B) {Y2 : MI} {o : Ot} {M1 : Mm} {φ1 : Ph} {a n idx : Nat} {host : String} {As st0 rest : List Value} (hC : CT G Y2 (.ref a :: As) M φ o M1 φ1) (hL : Cond.methodLinkNest (mY Y).cls idx (mY Y2) host ∈ lx_tbl) (hD : MDi Y2 n) (hn : As.length = n) (hst : st0 = As.reverse ++ .ref a :: rest) (hcat : (rest.map fun v => v.category).sum ≤ 8) (hR : RMok Y2 Y k1 k2) (hdg : decode (mB Y) pc = .ok (.invokespecial idx, 3)) : AR G Y B k1 k2 Y2 pc st0 rest M φ o M1 φ1 := by
  intro H locs lsA hW hS hl
  have hNw : va_Nw (.methodLinkNest (mY Y).cls idx (mY Y2) host) (bS B) := va_Nw.warmM (bf_E hB).1 ((bf_G hB).2.2.2.1 _ hL rfl rfl)
  exact ⟨_, vx_runIN (b := th G a) (As := trS G As) (n := n) (cc := mB Y) (nL := mL Y) (Ts := TB) ⟨hB.1, hB.2.1, hB.2.2.1, bf_own hB, bf_w hB⟩ hC ⟨va_cnB n (bf_w hB) (tb_sub (wd_in hD.2.2.2.2)) (by rw [wd_eq hD.2.2.2.1, hD.2.2.1]) rfl rfl hNw (bf_w hB _ hD.2.2.2.2.1) hD.2.2.2.2.2.2 (by rw [bf_R hB]; exact hR.1), hD.2.1, bf_w hB _ hD.1⟩ ⟨wu_blind, fun U hU hWm => ⟨rfl, eo_of hB hS hU hWm, by rw [hU]; exact hW⟩⟩ rfl (by rw [trS_len]; exact hn) hl (trS_stack hst) (lv_room (by rw [trS_cat]; exact hcat)) hdg (by rw [bf_R hB]; exact hR.2)⟩
/-! behind a call -/
theorem a_ret {Y2 : MI} {v : Option Value} {M1 : Mm} {φ1 : Ph} {st0 rest st1 : List Value} {j1 j2 : Nat} (hA : AR G Y B k1 k2 Y2 pc st0 rest M φ (.inl v) M1 φ1) (hj1 : k1 + (mRm Y2).cells = j1) (hj2 : k2 + (mRm Y2).slots = j2) (hs1 : v.toList ++ rest = st1) (K : AW G Y B Qm j1 j2 (pc + 3) ls st1 M1 φ1) : AW G Y B Qm k1 k2 pc ls st0 M φ := by
  subst hj1; subst hj2; subst hs1
  intro H locs lsA hW hS hl T hT X
  obtain ⟨av, hr⟩ := hA H locs lsA hW hS hl.1
  rcases hr T hT X with ⟨v', st₀, t, T', L, h0, X', hL, e1, e2, ⟨⟨⟨w, hw, hoc⟩, hWH⟩, hF⟩, hg⟩ | ⟨q, st₀, t, T', L, E, ce, h0, X', hL, e1, e2, ⟨⟨hw, _⟩, _⟩, _⟩
  · obtain ⟨k3, k4, k5⟩ := vx_keep (A0 := ga G) (A1 := ga G) (H0 := (bS B).heap) (free := ga G) h0 e1 hS (fun _ _ h => h) (fun _ h => h) hL hF
    cases hw
    cases hoc
    have e3 : trS G (v.toList ++ rest) = (v.map (tr G)).toList ++ trS G rest := by cases v <;> rfl
    obtain ⟨t2, a1, b1⟩ := K T'.heap (locs ++ L) lsA (by rw [e1]; exact hWH) k5 hl T' rfl X'
    rw [e3] at a1
    exact ⟨t2, hg t2 a1, b1⟩
  · cases hw
theorem a_thr {Y2 : MI} {E : String} {M1 : Mm} {φ1 : Ph} {st0 rest : List Value} (hB : BF G Y B) (hA : AR G Y B k1 k2 Y2 pc st0 rest M φ (.inr E) M1 φ1) (hH : mH Y = []) (h1 : k1 + (mRm Y2).cells ≤ (mRm Y).cells) (h2 : k2 + (mRm Y2).slots ≤ (mRm Y).slots) : AW G Y B (QM G Y B (.inr E) M1 φ1) k1 k2 pc ls st0 M φ := by
  intro H locs lsA hW hS hl T hT X
  obtain ⟨av, hr⟩ := hA H locs lsA hW hS hl.1
  rcases hr T hT X with ⟨v', st₀, t, T', L, h0, X', hL, e1, e2, ⟨⟨⟨w, hw, hoc⟩, hWH⟩, hF⟩, hg⟩ | ⟨q, st₀, t, T', L, E', ce, h0, X', hL, e1, e2, ⟨⟨hw, hWH⟩, hF⟩, hce, hcv, hcl, hg⟩
  · cases hw
  · cases hw
    obtain ⟨k3, k4, k5⟩ := vx_keep (A0 := ga G) (A1 := ga G) (H0 := (bS B).heap) (free := ga G) h0 e1 hS (fun _ _ h => h) (fun _ h => h) hL hF
    have hX : vx_W (bP B) (gl G) (bE B) (bR B) (bS B) (bM B) (bA B) (bW B) (bT B) (bC B) T'.heap (locs ++ L) (k1 + (mRm Y2).cells) (k2 + (mRm Y2).slots) (QM G Y B (.inr E) M1 φ1) (F0 (bM B) pc lsA (trS G rest)) q :=
      vx_out (E := E) (by rw [bf_T hB, hH]; intro x hx; cases hx) hB.2.2.2.2.1 (by rw [e1]; exact hce) hcv hcl (fun t9 ht9 _ => ⟨⟨rfl, by rw [ht9, e1]; exact hWH⟩, k5.F ht9⟩) k5.2.2 h1 h2
    obtain ⟨t2, a1, b1⟩ := hX T' rfl X'
    exact ⟨t2, hg.trans a1, b1⟩
theorem a_catN {Y2 : MI} {E nm : String} {M1 : Mm} {φ1 : Ph} {st0 rest : List Value} {j1 j2 : Nat} {k : Fin 4} {pc1 : Nat} (hB : BF G Y B) (hA : AR G Y B k1 k2 Y2 pc st0 rest M φ (.inr E) M1 φ1) (hj1 : k1 + (mRm Y2).cells = j1) (hj2 : k2 + (mRm Y2).slots = j2)
    (pre : List ExceptionTableEntry) (x : ExceptionTableEntry) (suf : List ExceptionTableEntry) (hsplit : tableOf (mH Y) = pre ++ x :: suf) (hpass : ∀ z ∈ pre, covers z pc = false ∨ (z.catchType ≠ 0 ∧ ∃ n9 : String, Cond.classLink (mY Y).cls z.catchType n9 ∈ TB ∧ va_Nc E n9 (gs G))) (hx : covers x pc = true) (h0 : x.catchType ≠ 0) (hlink : Cond.classLink (mY Y).cls x.catchType nm ∈ TB) (hcast : Cond.castable E nm ∈ lx_tbl)
    (hst : decode (mB Y) x.handlerPc = .ok (.astore_n k, 1)) (hk : (k : Nat) < mL Y) (hp1 : x.handlerPc + 1 = pc1) (K : AW G Y B Qm j1 j2 pc1 [] [] M1 φ1) : AW G Y B Qm k1 k2 pc ls st0 M φ := by
  subst hj1; subst hj2; subst hp1
  intro H locs lsA hW hS hl T hT X
  obtain ⟨av, hr⟩ := hA H locs lsA hW hS hl.1
  rcases hr T hT X with ⟨v', st₀, t, T', L, h0, X', hL, e1, e2, ⟨⟨⟨w, hw, hoc⟩, hWH⟩, hF⟩, hg⟩ | ⟨q, st₀, t, T', L, E', ce, h0', X', hL, e1, e2, ⟨⟨hw, hWH⟩, hF⟩, hce, hcv, hcl, hg⟩
  · cases hw
  · cases hw
    obtain ⟨k3, k4, k5⟩ := vx_keep (A0 := ga G) (A1 := ga G) (H0 := (bS B).heap) (free := ga G) h0' e1 hS (fun _ _ h => h) (fun _ h => h) hL hF
    have hX : vx_W (bP B) (gl G) (bE B) (bR B) (bS B) (bM B) (bA B) (bW B) (bT B) (bC B) T'.heap (locs ++ L) (k1 + (mRm Y2).cells) (k2 + (mRm Y2).slots) Qm (F0 (bM B) pc lsA (trS G rest)) q := by
      refine vx_catch (E := E) (name := nm) (bf_own hB) pre x suf (by rw [bf_T hB]; exact hsplit) (fun z hz => ?_) hx h0 (bf_w hB _ hlink) (b_cast hB hcast) (by rw [e1]; exact hce) hcv hcl ?_
      · rcases hpass z hz with h | ⟨h9, n9, g1, g2⟩
        · exact Or.inl h
        · exact Or.inr ⟨h9, n9, bf_w hB _ g1, va_Nc.moved (bf_E hB).1.alike g2⟩
      · refine lv_astore_n (i := (k : Nat)) (nL := mL Y) (lv := trL G ls) hB.1 hB.2.1 hst rfl hl hk rfl (fun ls1 hl1 => ?_)
        exact K T'.heap (locs ++ L) ls1 (by rw [e1]; exact hWH) k5 (lv_sub hl1 [] rfl)
    obtain ⟨t2, a1, b1⟩ := hX T' rfl X'
    exact ⟨t2, hg.trans a1, b1⟩
theorem a_cat {Y2 : MI} {E nm : String} {M1 : Mm} {φ1 : Ph} {st0 rest : List Value} {j1 j2 i : Nat} {pc1 : Nat} (hB : BF G Y B) (hA : AR G Y B k1 k2 Y2 pc st0 rest M φ (.inr E) M1 φ1) (hj1 : k1 + (mRm Y2).cells = j1) (hj2 : k2 + (mRm Y2).slots = j2)
    (pre : List ExceptionTableEntry) (x : ExceptionTableEntry) (suf : List ExceptionTableEntry) (hsplit : tableOf (mH Y) = pre ++ x :: suf) (hpass : ∀ z ∈ pre, covers z pc = false ∨ (z.catchType ≠ 0 ∧ ∃ n9 : String, Cond.classLink (mY Y).cls z.catchType n9 ∈ TB ∧ va_Nc E n9 (gs G))) (hx : covers x pc = true) (h0 : x.catchType ≠ 0) (hlink : Cond.classLink (mY Y).cls x.catchType nm ∈ TB) (hcast : Cond.castable E nm ∈ lx_tbl)
    (hst : decode (mB Y) x.handlerPc = .ok (.astore i, 2)) (hk : i < mL Y) (hp1 : x.handlerPc + 2 = pc1) (K : AW G Y B Qm j1 j2 pc1 [] [] M1 φ1) : AW G Y B Qm k1 k2 pc ls st0 M φ := by
  subst hj1; subst hj2; subst hp1
  intro H locs lsA hW hS hl T hT X
  obtain ⟨av, hr⟩ := hA H locs lsA hW hS hl.1
  rcases hr T hT X with ⟨v', st₀, t, T', L, h0, X', hL, e1, e2, ⟨⟨⟨w, hw, hoc⟩, hWH⟩, hF⟩, hg⟩ | ⟨q, st₀, t, T', L, E', ce, h0', X', hL, e1, e2, ⟨⟨hw, hWH⟩, hF⟩, hce, hcv, hcl, hg⟩
  · cases hw
  · cases hw
    obtain ⟨k3, k4, k5⟩ := vx_keep (A0 := ga G) (A1 := ga G) (H0 := (bS B).heap) (free := ga G) h0' e1 hS (fun _ _ h => h) (fun _ h => h) hL hF
    have hX : vx_W (bP B) (gl G) (bE B) (bR B) (bS B) (bM B) (bA B) (bW B) (bT B) (bC B) T'.heap (locs ++ L) (k1 + (mRm Y2).cells) (k2 + (mRm Y2).slots) Qm (F0 (bM B) pc lsA (trS G rest)) q := by
      refine vx_catch (E := E) (name := nm) (bf_own hB) pre x suf (by rw [bf_T hB]; exact hsplit) (fun z hz => ?_) hx h0 (bf_w hB _ hlink) (b_cast hB hcast) (by rw [e1]; exact hce) hcv hcl ?_
      · rcases hpass z hz with h | ⟨h9, n9, g1, g2⟩
        · exact Or.inl h
        · exact Or.inr ⟨h9, n9, bf_w hB _ g1, va_Nc.moved (bf_E hB).1.alike g2⟩
      · refine lv_astore (i := i) (nL := mL Y) (lv := trL G ls) hB.1 hB.2.1 hst hl hk rfl (fun ls1 hl1 => ?_)
        exact K T'.heap (locs ++ L) ls1 (by rw [e1]; exact hWH) k5 (lv_sub hl1 [] rfl)
    obtain ⟨t2, a1, b1⟩ := hX T' rfl X'
    exact ⟨t2, hg.trans a1, b1⟩
end AWC
