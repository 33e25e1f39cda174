/-! THE CLAIM OUT OF ONE WALK OF THE LAW'S BODY. Your part is whole_start (and what it stands on); all else here is the same for every law, but numbers. -/
def R_law : String := "ChainSurveyLaw"
def lw_P (b : Addr) (xs : List Int32) (args : Array Value) (s : State) : Prop := args = #[.ref b] ∧ s.IntsAt b xs ∧ xs.length ≤ 3072 ∧ (Jvm.Cond.and given_1 narrow_1).before args s = true
/-- what a walk over the start with the record d0 says of its end, said of the start itself -/
theorem lw_closed {s t : State} {o : Outcome} {d0 : Drawn} {L : List Loc} {k n : Nat} (hd0 : s.drawn.sameBut d0 lw_cs) (hv : ∃ v, o = .returned v) (hW : (s.setDrawn d0).WarmedH t.vm) (hs : (s.setDrawn d0).sameButNew ({ t with vm := s.vm } : State) L k n) : State.butDraws s t lw_cs (fun t1 => Framed s o t1 L k n) := by
  have h2 : t.drawn = d0 := congrArg State.drawn hs.1
  refine ⟨⟨hv, hW, State.sameButNew.setDrawn hs s.drawn⟩, ?_, by decide⟩
  rw [h2]
  exact hd0
def lw_Q (_ : Array Value) (s : State) (o : Outcome) (t : State) : Prop := o = .returned (some (.int 1)) ∧ State.butDraws s t lw_cs (fun t1 => Framed s o t1 [] 601024 7293034)
def lw_Z (below : List Frame) (a : Array Value) (s : State) : State → Prop := fun t => ∃ o, t.status = .running ∧ Ended t below o ∧ lw_Q a s o t
/-- the law's own end, with 1 on the stack, nothing written that was there before, its room as the claim has it; d0: the record of draws at this point (at the entry s.drawn: begin with 'refine W.base ?_' and 'have hd0 := Drawn.sameBut.refl s.drawn lw_cs') -/
theorem lw_ret {p : Program} {l : Launch} {e : Env} {s : State} {m : MethodId} {below : List Frame} {meth : Method} {c : Code} {b : Nat} {d0 : Drawn} (hd0 : s.drawn.sameBut d0 lw_cs) (hx : p.tables.exec = Jvm.exec) (hb : c.code = code) (hr : meth.sig.returnType = ret) (hlocks : meth.locks = false) {pc : Nat} {H : Heap} {ls : Array Slot} (hdg : decode code pc = .ok (.ireturn, 1)) : W p l e room_1 (s.setDrawn d0) m #[Value.ref b] below meth c H [] 601024 7293034 (lw_Z below #[Value.ref b] s) (F0 m pc ls [.int 1]) := by
  intro T hT X
  obtain ⟨fs, hret, hrun, hended, hW, hframe⟩ := X.leave (v := some (.int 1)) (hlocks := hlocks) (fun h => by rw [hr] at h; cases h)
  have hmeth' : T.vm.method? m = some meth := X.method'
  refine ⟨T.setFrames fs, ?_, .returned (some (.int 1)), hrun, hended, rfl, lw_closed hd0 ⟨_, rfl⟩ hW hframe⟩
  jvm_step X.here [X.here.top, hx, hb, hdg, hmeth', hr, ret, narrow_b1]
  (try refine ⟨rfl, ?_⟩); (try refine ⟨rfl, ?_⟩)
  first | (intro acts; rw [hret _ acts rfl rfl rfl]) | rw [hret _ _ rfl rfl rfl]
  exact Steps.refl _
/-- what holds at the law's entry: the machine, the code, the tables' words (any of lw_tbl by 'hts w (by decide +kernel)'), the script of L ints xs at the cell b, what the Statement gives of the start (any of its parts by flat_of_before) -/
def lw_At (p : Program) (s : State) (m : MethodId) (meth : Method) (c : Code) (b L : Nat) (xs : Nat → Int32) : Prop :=
  p.tables.exec = Jvm.exec ∧ c.code = code ∧ meth.sig.returnType = ret ∧ c.maxLocals = 9 ∧ s.vm.findClass R_law = some m.cls ∧ (∀ w ∈ lw_tbl, w.before #[Value.ref b] s = true) ∧ va_X b L xs s s.heap ∧ b < s.heap.size ∧ meth.locks = false ∧ (Jvm.Cond.and given_1 narrow_1).before #[Value.ref b] s = true
/-! the start: what the table's words and the given words say of it -/
def stTm (i : Nat) : Term := .string (stW.getD i ("", 0, "")).1 (stW.getD i ("", 0, "")).2.1
def stVl (i : Nat) : Term := .field (stTm i) "java/lang/String" "value" "[B"
def stCs (i : Nat) : List Cond := .exactly (stTm i) "java/lang/String" :: .eq (.field (stTm i) "java/lang/String" "coder" "B") (.int 0) :: .arrayOf (stVl i) .byte :: .eq (.length (stVl i)) (.int (Int32.ofNat (stB i).length)) :: (List.range (stB i).length).map (fun j => .eq (.elem (stVl i) (.int (Int32.ofNat j))) (.int ((stB i).getD j 0)))
def stPos : List Nat := [45, 155, 165, 172, 183, 191, 197, 204, 212, 221, 229, 237, 247, 254, 262, 292, 334, 355, 378, 424, 450, 487, 518, 537, 565, 593, 623, 651, 683, 713, 824, 835, 843, 855, 864, 871, 879, 888, 898, 907, 916, 925, 936]
theorem stPos_ok : ∀ i, i < 43 → ((flatC (Jvm.Cond.and given_1 narrow_1)).drop (stPos.getD i 0)).take (stCs i).length = stCs i := by decide +kernel
theorem st_in {i : Nat} (h : i < 43) : ∀ w ∈ stCs i, w ∈ flatC (Jvm.Cond.and given_1 narrow_1) := fun w hw => by
  rw [← stPos_ok i h] at hw
  exact List.mem_of_mem_drop (List.mem_of_mem_take hw)
theorem stLen_ok : ∀ i, i < 43 → (stB i).length < 2 ^ 31 := by decide +kernel
theorem st_ref : ∀ q ∈ stW, Cond.stringRef q.1 q.2.1 q.2.2 ∈ lw_tbl := by decide +kernel
theorem stW_lt {i : Nat} {q : String × Nat × String} (h : stW[i]? = some q) : i < 43 := (List.getElem?_eq_some_iff.mp h).1
theorem cl_in : ∀ q ∈ clL, (∀ w ∈ u_ws q.1 q.2.1 q.2.2, w ∈ lw_tbl) ∧ (Cond.instantiable q.1 q.2.2 ∈ lw_tbl ∨ Cond.instantiable q.1 6 ∈ lw_tbl) := by decide +kernel
theorem st_kn {s : State} {args : Array Value} (hts : ∀ w ∈ lw_tbl, w.before args s = true) : ∃ (dC : Nat → ClassId) (dI : Nat → Nat → Nat), ∀ (k : Nat) (q : vw_C), clL[k]? = some q → u_Kn s q.1 q.2.1 q.2.2 (dC k) (dI k) := by
  have h : ∀ k : Nat, ∃ r : ClassId × (Nat → Nat), ∀ q : vw_C, clL[k]? = some q → u_Kn s q.1 q.2.1 q.2.2 r.1 r.2 := by
    intro k
    cases hq : clL[k]? with
    | none => exact ⟨(0, fun _ => 0), fun q h => by cases h⟩
    | some q =>
      obtain ⟨h1, h2⟩ := cl_in q (List.mem_of_getElem? hq)
      rcases h2 with h2 | h2
      · obtain ⟨cC, iS, h3⟩ := u_known hts h1 (hts _ h2)
        exact ⟨(cC, iS), fun q' h => by cases h; exact h3⟩
      · obtain ⟨cC, iS, h3⟩ := u_known hts h1 (hts _ h2)
        exact ⟨(cC, iS), fun q' h => by cases h; exact h3⟩
  exact ⟨fun k => (h k).choose.1, fun k => (h k).choose.2, fun k => (h k).choose_spec⟩
theorem st_arr {s : State} {args : Array Value} (hts : ∀ w ∈ lw_tbl, w.before args s = true) {ty : FieldType} (hw : Cond.arrayClass ty ∈ lw_tbl) (hp : ty = .int ∨ ty = .byte ∨ ty = .boolean ∨ ty = .long) : ∃ c, ArrOfT s c ty ∧ va_RA s c ty := by
  obtain ⟨c, k, comp, h1, h2, h3⟩ := Cond.arrayClass_spec (hts _ hw)
  refine ⟨c, fun N z => ⟨fun k h => (by cases h), k, h2, comp, h3⟩, ?_⟩
  rcases hp with h | h | h | h <;> subst h <;> exact h1
theorem st_arrO {s : State} {args : Array Value} (hts : ∀ w ∈ lw_tbl, w.before args s = true) {C : String} (hw : Cond.arrayOver (.object C) ∈ lw_tbl) : ∃ c, ArrOfT s c (.object C) ∧ va_RA s c (.object C) := by
  obtain ⟨comp, c, k, h1, h2, h3, h4, h5⟩ := Cond.arrayOver_spec (hts _ hw)
  exact ⟨c, fun N z => ⟨fun k h => (by cases h), k, h3, comp, h4⟩, k, comp, h3, h4, h1, h5⟩
theorem st_lit {s : State} {args : Array Value} (hts : ∀ w ∈ lw_tbl, w.before args s = true) {A : Nat → Prop} (hgv : (Jvm.Cond.and given_1 narrow_1).before args s = true) (hA : ∀ a : Nat, a < s.heap.size → ¬ A a) : ∃ aK aV : Nat → Nat, (∀ i q, stW[i]? = some q → vk_R q.1 q.2.1 q.2.2 (aK i) s) ∧ (∀ i, i < 43 → vk_S 1 [(stB i).length] [stB i] (fun _ => aK i) (fun _ => aV i) A s s.heap) := by
  have hn := flat_of_before _ hgv
  have h : ∀ i : Nat, ∃ r : Nat × Nat, i < 43 → vk_S 1 [(stB i).length] [stB i] (fun _ => r.1) (fun _ => r.2) A s s.heap ∧ (stTm i).eval args s none [] s = some (.ref r.1) := by
    intro i
    by_cases hi : i < 43
    · have hc : ∀ w ∈ stCs i, w.before args s = true := fun w hw => hn w (st_in hi w hw)
      obtain ⟨aK, aV, h1, h2⟩ := vk_Sof (N := 1) (tm := fun _ => stTm i) (len := [(stB i).length]) (byt := [stB i]) (A := A) (args := args) (s := s)
        (fun j hj => by rw [show j = 0 by omega]; exact stLen_ok i hi)
        (fun j hj => hc _ List.mem_cons_self)
        (fun j hj => hc _ (List.mem_cons_of_mem _ List.mem_cons_self))
        (fun j hj => hc _ (List.mem_cons_of_mem _ (List.mem_cons_of_mem _ List.mem_cons_self)))
        (fun j hj => by rw [show j = 0 by omega]; exact hc _ (List.mem_cons_of_mem _ (List.mem_cons_of_mem _ (List.mem_cons_of_mem _ List.mem_cons_self))))
        (fun j hj k hk => by
          have hj0 : j = 0 := by omega
          subst hj0
          exact hc _ (List.mem_cons_of_mem _ (List.mem_cons_of_mem _ (List.mem_cons_of_mem _ (List.mem_cons_of_mem _ (List.mem_map.mpr ⟨k, List.mem_range.mpr hk, rfl⟩))))))
        (fun j k hj hk hne => absurd (by omega) hne) hA
      refine ⟨(aK 0, aV 0), fun _ => ⟨⟨fun j hj => ?_, fun j k hj hk _ => by omega⟩, h2 0 (by omega)⟩⟩
      have h3 := h1.1 j hj
      rw [show j = 0 by omega] at h3 ⊢
      exact h3
    · exact ⟨(0, 0), fun h => absurd h hi⟩
  refine ⟨fun i => (h i).choose.1, fun i => (h i).choose.2, fun i q hq => ?_, fun i hi => ((h i).choose_spec hi).1⟩
  have hi := stW_lt hq
  have h2 := ((h i).choose_spec hi).2
  have he : stW.getD i ("", 0, "") = q := by simp [List.getD, hq]
  have ht : stTm i = .string q.1 q.2.1 := by unfold stTm; rw [he]
  exact vk_R.of (hts _ (st_ref q (List.mem_of_getElem? hq))) ((congrArg (fun t => Term.eval args s none [] s t) ht).symm.trans h2)
theorem eq_eval {args : Array Value} {s : State} {tm : Term} {z : Int32} (h : (Cond.eq tm (.int z)).before args s = true) : tm.eval args s none [] s = some (.int z) := by
  cases hv : tm.eval args s none [] s with
  | none => simp [Cond.before, Cond.holds, Cond.value, hv] at h
  | some w =>
    have hz : (Term.int z).eval args s none [] s = some (.int z) := rfl
    simp only [Cond.before, Cond.holds, Cond.value, hv, hz] at h
    cases w <;> simp_all
theorem ex_in : ∀ x ∈ exL, ∀ y ∈ exL, x ≠ y → Cond.not (.castable x y) ∈ flatC (Jvm.Cond.and given_1 narrow_1) := by decide +kernel
def cosT : Term := .static "ChainSurvey" "COSINES" "[I"
theorem cos_in : (Cond.arrayOf cosT .int ∈ flatC (Jvm.Cond.and given_1 narrow_1) ∧ Cond.eq (.length cosT) (.int 7) ∈ flatC (Jvm.Cond.and given_1 narrow_1)) ∧ (∀ j, j < 7 → Cond.eq (.elem cosT (.int (Int32.ofNat j))) (.int (cosL.getD j 0)) ∈ flatC (Jvm.Cond.and given_1 narrow_1)) := by decide +kernel
theorem ty_in : Cond.arrayClass .int ∈ lw_tbl ∧ Cond.arrayClass .byte ∈ lw_tbl ∧ Cond.arrayClass .boolean ∈ lw_tbl ∧ Cond.arrayClass .long ∈ lw_tbl ∧ Cond.arrayOver (.object RX2) ∈ lw_tbl := by decide +kernel
/-- the map of what lies before -/
def gEof (b tC tS : Nat) (aK aV : Nat → Nat) : Nat → Nat := fun q => if q = 2000 then b else if q = 1100 then tC else if q = 2100 then tS else if q < 1100 then aK (q - 1000) else aV (q - 1200)
theorem gEof_K {b tC tS : Nat} {aK aV : Nat → Nat} {i : Nat} (h : i < 43) : gEof b tC tS aK aV (1000 + i) = aK i := by
  unfold gEof
  rw [if_neg (by omega), if_neg (by omega), if_neg (by omega), if_pos (by omega), Nat.add_sub_cancel_left]
theorem gEof_V {b tC tS : Nat} {aK aV : Nat → Nat} {i : Nat} (h : i < 43) : gEof b tC tS aK aV (1200 + i) = aV i := by
  unfold gEof
  rw [if_neg (by omega), if_neg (by omega), if_neg (by omega), if_neg (by omega), Nat.add_sub_cancel_left]
theorem st_GOK (l : Launch) (hflags : l.flags = flags0) {s : State} {b L : Nat} {xs : Nat → Int32} (hL : L ≤ 3072) (hts : ∀ w ∈ lw_tbl, w.before #[Value.ref b] s = true) (hX : va_X b L xs s s.heap) (hbl : b < s.heap.size) (hgv : (Jvm.Cond.and given_1 narrow_1).before #[Value.ref b] s = true) :
    ∃ (D : va_G) (ar : Nat → ClassId) (E : Nat → Nat), E 2000 = b ∧ GOK (l, s, D, ar, E, L, xs) := by
  have hn := flat_of_before _ hgv
  have hA : ∀ a : Nat, a < s.heap.size → ¬ (s.heap.size ≤ a) := fun a h => Nat.not_le.mpr h
  obtain ⟨dC, dI, hK⟩ := st_kn hts
  obtain ⟨c0, k0⟩ := st_arr hts ty_in.1 (Or.inl rfl)
  obtain ⟨c1, k1⟩ := st_arr hts ty_in.2.1 (Or.inr (Or.inl rfl))
  obtain ⟨c2, k2⟩ := st_arr hts ty_in.2.2.1 (Or.inr (Or.inr (Or.inl rfl)))
  obtain ⟨c3, k3⟩ := st_arr hts ty_in.2.2.2.1 (Or.inr (Or.inr (Or.inr rfl)))
  obtain ⟨c4, k4⟩ := st_arrO hts ty_in.2.2.2.2
  obtain ⟨aK, aV, hR, hV⟩ := st_lit (A := fun a => s.heap.size ≤ a) hts hgv hA
  obtain ⟨tC, hC1, hC2⟩ := va_Tof (s := s) (args := #[Value.ref b]) (tm := cosT) (ty := .int) (N := 7) (f := fun j => .int (cosL.getD j 0)) (A := fun a => s.heap.size ≤ a) (by decide) (hn _ cos_in.1.1) (eq_eval (hn _ cos_in.1.2)) (fun j hj => eq_eval (hn _ (cos_in.2 j hj))) hA
  have hZc : va_Z RX4 "COSINES" "[I" (.ref tC) (fun a => s.heap.size ≤ a) s s.heap := va_Zref (hts _ (by decide +kernel)) (hts _ (by decide +kernel)) hC1 hA
  have hZs : va_Z "java/lang/String" "COMPACT_STRINGS" "Z" (.int 1) (fun a => s.heap.size ≤ a) s s.heap := va_Zof (hts _ (by decide +kernel)) (hts _ (by decide +kernel)) (va_eqi (hn _ (by decide +kernel))) hA
  have hF : ∃ tS : Nat, va_Z "jdk/internal/util/Preconditions" "SIOOBE_FORMATTER" "Ljava/util/function/BiFunction;" .null (fun a => s.heap.size ≤ a) s s.heap ∨ va_Z "jdk/internal/util/Preconditions" "SIOOBE_FORMATTER" "Ljava/util/function/BiFunction;" (.ref tS) (fun a => s.heap.size ≤ a) s s.heap := by
    rcases va_Zqof (C := "jdk/internal/util/Preconditions") (n := "SIOOBE_FORMATTER") (d := "Ljava/util/function/BiFunction;") (A := fun a => s.heap.size ≤ a) (hts _ (by decide +kernel)) (hts _ (by decide +kernel)) (hn _ (by decide +kernel)) hA with h | ⟨t, h⟩
    · exact ⟨0, Or.inl h⟩
    · exact ⟨t, Or.inr h⟩
  obtain ⟨tS, hF⟩ := hF
  refine ⟨(dC, dI), fun t => if t = 10 then c0 else if t = 11 then c1 else if t = 12 then c2 else if t = 13 then c3 else c4, gEof b tC tS aK aV, rfl, ⟨hK, fun k q hq => ?_⟩, ?_, ⟨hX, hbl, hL⟩, fun w hw _ ho => va_tabs ho rfl (hts w hw), ⟨?_, ?_⟩, fun i q hq => ?_, fun i hi => ?_, ⟨hZc, hC2, hZs⟩, fun x hx y hy hne => va_Nc.of (hn _ (ex_in x hx y hy hne)), va_AO.of (hts _ ty_in.2.2.2.2), hF⟩
  · match k, hq with
    | 0, hq => cases hq; exact k0
    | 1, hq => cases hq; exact k1
    | 2, hq => cases hq; exact k2
    | 3, hq => cases hq; exact k3
    | 4, hq => cases hq; exact k4
    | k + 5, hq => simp [tyK] at hq
  · show (!l.flags.contains noTraceFlag) = false
    rw [hflags]
    decide +kernel
  · exact vx_Zqof (hts _ (by decide +kernel)) (hts _ (by decide +kernel)) (hn _ (by decide +kernel)) hA
  · exact vx_Zqof (hts _ (by decide +kernel)) (hts _ (by decide +kernel)) (hn _ (by decide +kernel)) hA
  · show vk_R q.1 q.2.1 q.2.2 (gEof b tC tS aK aV (1000 + i)) s
    rw [gEof_K (stW_lt hq)]
    exact hR i q hq
  · show vk_S 1 [(stB i).length] [stB i] (fun _ => gEof b tC tS aK aV (1000 + i)) (fun _ => gEof b tC tS aK aV (1200 + i)) _ s s.heap
    rw [gEof_K hi, gEof_V hi]
    exact hV i hi
theorem table_of (L : List ExceptionTableEntry) : ∃ hh, L = tableOf hh := ⟨L.map (fun x => (x.startPc, x.endPc, x.handlerPc, x.catchType)), by
  unfold tableOf
  rw [List.map_map]
  conv => lhs; rw [← List.map_id L]
  rfl⟩
set_option maxHeartbeats 4000000 in
/-- THE LAW, from its entry -/
theorem whole_start {p : Program} {e : Env} {s : State} {m : MethodId} {below : List Frame} {meth : Method} {c : Code} (l : Launch) (hflags : l.flags = flags0) {b L : Nat} {xs : Nat → Int32} (hL : L ≤ 3072) (C0 : lw_At p s m meth c b L xs) : W p l e room_1 s m #[Value.ref b] below meth c s.heap [] 0 0 (lw_Z below #[Value.ref b] s) (entryFrame m ([Value.ref b] : List Value).toArray 9) := by
  obtain ⟨hx, hb, hr, hml, hown, hts, hX, hbl, hlocks, hgv⟩ := id C0
  obtain ⟨D, ar, E, hE, hG⟩ := st_GOK l hflags hL hts hX hbl hgv
  obtain ⟨hh, hT⟩ := table_of c.exceptionTable.toList
  obtain ⟨M9, hM⟩ := law_ok L xs hL
  have hB : BF (l, s, D, ar, E, L, xs) (I_W_law meth.name hh) (p, e, room_1, s, m, #[Value.ref b], below, meth, c) :=
    ⟨hx, hb, hml, hr, hlocks, rfl, fun w hw => hts w (List.mem_filter.mp hw).1, hown, rfl, fun x h => hT ▸ h, ⟨State.WarmedH.refl _, Nat.le_refl _, fun _ _ => rfl⟩, hG, hT⟩
  have hend : ∀ (k1 k2 pc : Nat) (ls : List (Nat × Value)) (M : Mm) (φ : Ph), decode (mB (I_W_law meth.name hh)) pc = .ok (.ireturn, 1) → k1 ≤ 601024 → k2 ≤ 7293034 → AW (l, s, D, ar, E, L, xs) (I_W_law meth.name hh) (p, e, room_1, s, m, #[Value.ref b], below, meth, c) (lw_Z below #[Value.ref b] s) k1 k2 pc ls [.int 1] M φ := by
    intro k1 k2 pc ls M φ hdg h1 h2 H locs lsA hW hS hl
    exact va_forget (fun q hq => hS.2.2 q hq) (W.widen h1 h2 (W.base (lw_ret (Drawn.sameBut.refl s.drawn lw_cs) hx hb hr hlocks hdg)))
  have hgo := t_W_law hB hend rfl rfl hM
  have hl := lv_entry ([.ref b]) (n := 9) (Nat.le_of_ble_eq_true rfl)
  rw [lg_entry_eq]
  generalize (lg_sl ([.ref b]) ++ List.replicate (9 - (lg_sl ([.ref b])).length) Slot.unset).toArray = ls at hl ⊢
  have hl : lv_has ls 9 [(0, .ref b)] := hl
  have hWH : WH (l, s, D, ar, E, L, xs) (fun _ _ => 0) (ph [] 0) s.heap := ⟨fun a ha => absurd ha (Nat.not_lt_zero a), fun _ => rfl, Nat.zero_le _, Nat.le_refl _⟩
  refine hgo s.heap [] ls hWH va_S.rf ?_
  show lv_has ls 9 [(0, .ref (E 2000))]
  rw [hE]
  exact hl
set_option maxHeartbeats 4000000 in
theorem lw_walk (l : Launch) (hflags : l.flags = flags0) (b : Addr) (xs : List Int32) : MetFree l x (headSpec (Jvm.Cond.code x code maxLocals ret :: tables_1) room_1) (lw_P b xs) (fun _ _ _ _ _ => True) lw_Q := by
  refine MetFree.of_bodyS (code := code) (maxLocals := maxLocals) (ret := ret) (by decide) ?_ ?_
  · intro args s m h hn
    obtain ⟨meth, c, h1, h2, h3, h4, h5, h6, -, -⟩ := Cond.code_spec hn (atoms_spec (ws := Jvm.Cond.code x code maxLocals ret :: tables_1) h _ List.mem_cons_self)
    exact ⟨meth, c, h1, h2, h3, h4, h5, h6⟩
  · intro p e s m args below meth c s₁ B hml0 hP _
    obtain ⟨rfl, hx, hbd, hgv⟩ := hP
    obtain ⟨scr, harrAt, hlist, hof, hsmall⟩ := hx
    obtain ⟨hcb, hkn, -, -⟩ := State.arrayAt?_spec harrAt
    have hown : s.vm.findClass R_law = some m.cls := findClass_of_methodNamed B.named
    have hts0 : ∀ c ∈ (Jvm.Cond.code x code maxLocals ret :: tables_1), c.before #[Value.ref b] s = true := atoms_spec (ws := Jvm.Cond.code x code maxLocals ret :: tables_1) B.pre
    have hts : ∀ w ∈ lw_tbl, w.before #[Value.ref b] s = true := k2_hts_sels lw_privs (fun w hw => hts0 w (List.mem_cons_of_mem _ hw)) lw_privs_ok
    have hml : c.maxLocals = 9 := B.maxLocals_eq (hts0 _ List.mem_cons_self)
    have X₀ : Stand p l e room_1 s m #[Value.ref b] below meth c s₁ [] 0 0 := Stand.of_body B
    have hh0 : s₁.heap = s.heap := by rw [B.state]; rfl
    have hsz : scr.slots.size = xs.length := by rw [← Array.length_toList, hlist, List.length_map]
    have hval : ∀ j : Nat, j < xs.length → scr.slots[j]? = some (.int (xs.getD j 0)) := fun j hj => by
      rw [← Array.getElem?_toList, hlist]
      simp [hj]
    have hbl : b < s.heap.size := (Array.getElem?_eq_some_iff.mp hcb).1
    have hX : va_X b xs.length (fun j => xs.getD j 0) s s.heap := ⟨scr, hcb, hof, hkn, hsz, hval⟩
    have K : W p l e room_1 s m #[Value.ref b] below meth c s₁.heap [] 0 0 (lw_Z below #[Value.ref b] s) (entryFrame m ([Value.ref b] : List Value).toArray 9) := by
      rw [hh0]
      exact whole_start l hflags hbd ⟨B.exec, B.bytes, B.returns, hml, hown, hts, hX, hbl, B.notSynchronized, hgv⟩
    obtain ⟨t, a1, o, b1, b2, b3⟩ := K s₁ rfl X₀
    exact ⟨t, o, a1, b1, b2, b3⟩
theorem lw_pre_spec {args : Array Value} {s : State} (h : (Jvm.Cond.and given_1 narrow_1).before args s = true) (hr : rest_1_c.before args s = true) : ∃ (b : Addr) (xs : List Int32), lw_P b xs args s := by
  have hs := flat_of_before _ h
  have hq := flat_of_before _ hr
  have hc : (Cond.count 1).before args s = true := hs _ (by decide +kernel)
  have harr : (Cond.arrayOf (.arg 0) .int).before args s = true := hs _ (by decide +kernel)
  have hle : (Cond.le (.length (.arg 0)) (.int 3072)).before args s = true := hs _ (by decide +kernel)
  have hlen : (Cond.isInt (.length (.arg 0))).before args s = true := hq _ (by decide +kernel)
  have hall : (Cond.all (.arg 0) (.isInt (.elem (.arg 0) (.index 0)))).before args s = true := hq _ (by decide +kernel)
  obtain ⟨b, xs, hb, hx⟩ := State.ints_of_pre rfl harr hlen hall
  have hsm : xs.length < 2 ^ 31 := hx.choose_spec.2.2.2
  have hev : (Term.length (.arg 0)).eval args s none [] s = some (.int xs.length.toInt32) := hx.length_eval hb
  have hv := Cond.le_ints hev (show (Term.int 3072).eval args s none [] s = some (.int 3072) from rfl)
  have hd : xs.length.toInt32 ≤ 3072 := by
    simpa [Cond.before, Cond.holds, hv] using hle
  have hN : xs.length ≤ 3072 := (Int32.ofNat_le_ofNat hsm (by decide)).mp (show Int32.ofNat xs.length ≤ Int32.ofNat 3072 from hd)
  exact ⟨b, xs, Cond.one_arg hc (show args[0]? = some (.ref b) from hb), hx, hN, h⟩
theorem lw_comes (l : Launch) (hflags : l.flags = flags0) : Comes l x (Jvm.Cond.code x code maxLocals ret :: tables_1) room_1 (fun tb e args s => Calls_1 tb e args s ∧ rest_1 tb e args s ∧ Pre_1 tb e args s)
    (fun _ _ args s o t => lw_Q args s o t) := by
  intro p e ha hc hk s m args below hf hfit hheap happ hpre
  obtain ⟨b, xs, hP⟩ := lw_pre_spec hpre.2.2 hpre.2.1
  obtain ⟨k, o, h1, h2, h3, hQ⟩ := lw_walk l hflags b xs p e ha hc hk s m args below hf ((Spec.applies_iff_loose hf).mp happ).1 hP trivial
  exact ⟨k, o, h1, h2, h3, hQ⟩
theorem lw_frame {s t : State} {o : Outcome} {args : Array Value} (h : State.butDraws s t lw_cs (fun t1 => Framed s o t1 [] 601024 7293034)) :
    State.butDraws s t [Jvm.Choice.named "NaN.bits"] (fun t1 => Framed s o t1 (fieldLocs frame_1_writes args s ++ arrayLocs frame_1_arrays args s ++ staticLocs frame_1_statics s) 601024 7293034) := h
theorem lw_limb (L : Cond) (hL : ∀ (args : Array Value) (s t : State), L.after args s (.returned (some (.int 1))) t = true) :
    ArmFor flags0 classFile x code maxLocals ret World_1 tables_1 room_1 Calls_1 rest_1 Pre_1
      (fun tb e a s o t => postC L tb e a s o t ∧ State.butDraws s t [Jvm.Choice.named "NaN.bits"] (fun t1 => Framed s o t1 (fieldLocs frame_1_writes a s ++ arrayLocs frame_1_arrays a s ++ staticLocs frame_1_statics s) 601024 7293034)) := by
  intro l hflags _ _ p e ha hc hk s m args below hf hfit hheap happ hpre
  obtain ⟨k, o, h1, h2, h3, rfl, hF⟩ := lw_comes l hflags p e ha hc hk s m args below hf hfit hheap happ hpre
  exact ⟨k, _, h1, h2, h3, hL args s _, lw_frame hF⟩
theorem i_vc : Claimed_1_1 ∧ Claimed_1_2 := ⟨lw_limb limb_1_1 (fun args s t => by simp [limb_1_1, Cond.after, Cond.holds, Cond.value]), lw_limb limb_1_2 (fun args s t => Cond.after_iff.mpr (by
  first | (rw [show limb_1_2 = Cond.eq .result (.int 1) from rfl, Cond.eq_ints (x := 1) (y := 1) rfl rfl]; simp; done) | (simp [limb_1_2, Cond.value, Term.eval]; done)))⟩
