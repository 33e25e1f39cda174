/-! THE CLAIM OUT OF ONE WALK OF THE LAW'S BODY -/
def R_law : String := "ChainSurveyLaw"
def lw_P (b : Addr) (xs : List Int32) (args : Array Value) (s : State) : Prop := args = #[.ref b] ∧ s.IntsAt b xs ∧ xs.length ≤ 260 ∧ (Jvm.Cond.and given_1 narrow_1).before args s = true
def lw_Q (_ : Array Value) (s : State) (o : Outcome) (t : State) : Prop := o = .returned (some (.int 1)) ∧ Framed s o t [] 600086 7301441
def lw_Z (below : List Frame) (a : Array Value) (s : State) : State → Prop := fun t => ∃ o, t.status = .running ∧ Ended t below o ∧ lw_Q a s o t
/-- the law's own end, with 1 on the stack, nothing written that was there before, its room as the claim has it -/
theorem lw_ret {p : Program} {l : Launch} {e : Env} {s : State} {m : MethodId} {below : List Frame} {meth : Method} {c : Code} {b : Nat} (hx : p.tables.exec = Jvm.exec) (hb : c.code = code) (hr : meth.sig.returnType = ret) (hlocks : meth.locks = false) {pc : Nat} {H : Heap} {ls : Array Slot} (hdg : decode code pc = .ok (.ireturn, 1)) : W p l e room_1 s m #[Value.ref b] below meth c H [] 600086 7301441 (lw_Z below #[Value.ref b] s) (F0 m pc ls [.int 1]) := by
  intro T hT X
  obtain ⟨fs, hret, hrun, hended, hW, hframe⟩ := X.leave (v := some (.int 1)) (hlocks := hlocks) (fun h => by rw [hr] at h; cases h)
  have hmeth' : T.vm.method? m = some meth := X.method'
  refine ⟨T.setFrames fs, ?_, .returned (some (.int 1)), hrun, hended, rfl, ⟨_, rfl⟩, hW, hframe⟩
  jvm_step X.here [X.here.top, hx, hb, hdg, hmeth', hr, ret, narrow_b1]
  (try refine ⟨rfl, ?_⟩); (try refine ⟨rfl, ?_⟩)
  first | (intro acts; rw [hret _ acts rfl rfl rfl]) | rw [hret _ _ rfl rfl rfl]
  exact Steps.refl _
/-- what holds at the law's entry: the machine, the code, the tables' words (any of lw_tbl by 'hts w (by decide +kernel)'), the script of L ints xs at the cell b, what the Statement gives of the start (any of its parts by flat_of_before) -/
def lw_At (p : Program) (s : State) (m : MethodId) (meth : Method) (c : Code) (b L : Nat) (xs : Nat → Int32) : Prop :=
  p.tables.exec = Jvm.exec ∧ c.code = code ∧ meth.sig.returnType = ret ∧ c.maxLocals = 9 ∧ s.vm.findClass R_law = some m.cls ∧ (∀ w ∈ lw_tbl, w.before #[Value.ref b] s = true) ∧ va_X b L xs s s.heap ∧ b < s.heap.size ∧ meth.locks = false ∧ (Jvm.Cond.and given_1 narrow_1).before #[Value.ref b] s = true
/-! the start: what the table's words and the given words say of it -/
def stTm (i : Nat) : Term := .string (stW.getD i ("", 0, "")).1 (stW.getD i ("", 0, "")).2.1
def stVl (i : Nat) : Term := .field (stTm i) "java/lang/String" "value" "[B"
def stCs (i : Nat) : List Cond := .exactly (stTm i) "java/lang/String" :: .eq (.field (stTm i) "java/lang/String" "coder" "B") (.int 0) :: .arrayOf (stVl i) .byte :: .eq (.length (stVl i)) (.int (Int32.ofNat (stB i).length)) :: (List.range (stB i).length).map (fun j => .eq (.elem (stVl i) (.int (Int32.ofNat j))) (.int ((stB i).getD j 0)))
def stPos : List Nat := [254, 364, 374, 381, 392, 400, 406, 413, 421, 430, 438, 446, 456, 463, 501, 587, 629, 650, 673, 561, 719, 756, 843, 815, 787, 471, 254, 254, 531, 254, 364, 374, 381, 392, 400, 406, 413, 421, 430, 438, 463, 446, 456, 862, 869, 880, 885]
theorem stPos_ok : ∀ i, i < 47 → ((flatC (Jvm.Cond.and given_1 narrow_1)).drop (stPos.getD i 0)).take (stCs i).length = stCs i := by decide +kernel
theorem st_in {i : Nat} (h : i < 47) : ∀ w ∈ stCs i, w ∈ flatC (Jvm.Cond.and given_1 narrow_1) := fun w hw => by
  rw [← stPos_ok i h] at hw
  exact List.mem_of_mem_drop (List.mem_of_mem_take hw)
theorem stLen_ok : ∀ i, i < 47 → (stB i).length < 2 ^ 31 := by decide +kernel
theorem st_ref : ∀ q ∈ stW, Cond.stringRef q.1 q.2.1 q.2.2 ∈ lw_tbl := by decide +kernel
theorem stW_lt {i : Nat} {q : String × Nat × String} (h : stW[i]? = some q) : i < 47 := (List.getElem?_eq_some_iff.mp h).1
theorem cl_in : ∀ q ∈ clL, (∀ w ∈ u_ws q.1 q.2.1 q.2.2, w ∈ lw_tbl) ∧ (Cond.instantiable q.1 q.2.2 ∈ lw_tbl ∨ Cond.instantiable q.1 6 ∈ lw_tbl) := by decide +kernel
theorem st_kn {s : State} {args : Array Value} (hts : ∀ w ∈ lw_tbl, w.before args s = true) : ∃ (dC : Nat → ClassId) (dI : Nat → Nat → Nat), ∀ (k : Nat) (q : vw_C), clL[k]? = some q → u_Kn s q.1 q.2.1 q.2.2 (dC k) (dI k) := by
  have h : ∀ k : Nat, ∃ r : ClassId × (Nat → Nat), ∀ q : vw_C, clL[k]? = some q → u_Kn s q.1 q.2.1 q.2.2 r.1 r.2 := by
    intro k
    cases hq : clL[k]? with
    | none => exact ⟨(0, fun _ => 0), fun q h => by cases h⟩
    | some q =>
      obtain ⟨h1, h2⟩ := cl_in q (List.mem_of_getElem? hq)
      rcases h2 with h2 | h2
      · obtain ⟨cC, iS, h3⟩ := u_known hts h1 (hts _ h2)
        exact ⟨(cC, iS), fun q' h => by cases h; exact h3⟩
      · obtain ⟨cC, iS, h3⟩ := u_known hts h1 (hts _ h2)
        exact ⟨(cC, iS), fun q' h => by cases h; exact h3⟩
  exact ⟨fun k => (h k).choose.1, fun k => (h k).choose.2, fun k => (h k).choose_spec⟩
theorem st_arr {s : State} {args : Array Value} (hts : ∀ w ∈ lw_tbl, w.before args s = true) {ty : FieldType} (hw : Cond.arrayClass ty ∈ lw_tbl) (hp : ty = .int ∨ ty = .byte ∨ ty = .boolean ∨ ty = .long) : ∃ c, ArrOfT s c ty ∧ va_RA s c ty := by
  obtain ⟨c, k, comp, h1, h2, h3⟩ := Cond.arrayClass_spec (hts _ hw)
  refine ⟨c, fun N z => ⟨fun k h => (by cases h), k, h2, comp, h3⟩, ?_⟩
  rcases hp with h | h | h | h <;> subst h <;> exact h1
theorem st_arrO {s : State} {args : Array Value} (hts : ∀ w ∈ lw_tbl, w.before args s = true) {C : String} (hw : Cond.arrayOver (.object C) ∈ lw_tbl) : ∃ c, ArrOfT s c (.object C) ∧ va_RA s c (.object C) := by
  obtain ⟨comp, c, k, h1, h2, h3, h4, h5⟩ := Cond.arrayOver_spec (hts _ hw)
  exact ⟨c, fun N z => ⟨fun k h => (by cases h), k, h3, comp, h4⟩, k, comp, h3, h4, h1, h5⟩
theorem st_lit {s : State} {args : Array Value} (hts : ∀ w ∈ lw_tbl, w.before args s = true) {A : Nat → Prop} (hgv : (Jvm.Cond.and given_1 narrow_1).before args s = true) (hA : ∀ a : Nat, a < s.heap.size → ¬ A a) : ∃ aK aV : Nat → Nat, (∀ i q, stW[i]? = some q → vk_R q.1 q.2.1 q.2.2 (aK i) s) ∧ (∀ i, i < 47 → vk_S 1 [(stB i).length] [stB i] (fun _ => aK i) (fun _ => aV i) A s s.heap) := by
  have hn := flat_of_before _ hgv
  have h : ∀ i : Nat, ∃ r : Nat × Nat, i < 47 → vk_S 1 [(stB i).length] [stB i] (fun _ => r.1) (fun _ => r.2) A s s.heap ∧ (stTm i).eval args s none [] s = some (.ref r.1) := by
    intro i
    by_cases hi : i < 47
    · have hc : ∀ w ∈ stCs i, w.before args s = true := fun w hw => hn w (st_in hi w hw)
      obtain ⟨aK, aV, h1, h2⟩ := vk_Sof (N := 1) (tm := fun _ => stTm i) (len := [(stB i).length]) (byt := [stB i]) (A := A) (args := args) (s := s)
        (fun j hj => by rw [show j = 0 by omega]; exact stLen_ok i hi)
        (fun j hj => hc _ List.mem_cons_self)
        (fun j hj => hc _ (List.mem_cons_of_mem _ List.mem_cons_self))
        (fun j hj => hc _ (List.mem_cons_of_mem _ (List.mem_cons_of_mem _ List.mem_cons_self)))
        (fun j hj => by rw [show j = 0 by omega]; exact hc _ (List.mem_cons_of_mem _ (List.mem_cons_of_mem _ (List.mem_cons_of_mem _ List.mem_cons_self))))
        (fun j hj k hk => by
          have hj0 : j = 0 := by omega
          subst hj0
          exact hc _ (List.mem_cons_of_mem _ (List.mem_cons_of_mem _ (List.mem_cons_of_mem _ (List.mem_cons_of_mem _ (List.mem_map.mpr ⟨k, List.mem_range.mpr hk, rfl⟩))))))
        (fun j k hj hk hne => absurd (by omega) hne) hA
      refine ⟨(aK 0, aV 0), fun _ => ⟨⟨fun j hj => ?_, fun j k hj hk _ => by omega⟩, h2 0 (by omega)⟩⟩
      have h3 := h1.1 j hj
      rw [show j = 0 by omega] at h3 ⊢
      exact h3
    · exact ⟨(0, 0), fun h => absurd h hi⟩
  refine ⟨fun i => (h i).choose.1, fun i => (h i).choose.2, fun i q hq => ?_, fun i hi => ((h i).choose_spec hi).1⟩
  have hi := stW_lt hq
  have h2 := ((h i).choose_spec hi).2
  have he : stW.getD i ("", 0, "") = q := by simp [List.getD, hq]
  have ht : stTm i = .string q.1 q.2.1 := by unfold stTm; rw [he]
  exact vk_R.of (hts _ (st_ref q (List.mem_of_getElem? hq))) ((congrArg (fun t => Term.eval args s none [] s t) ht).symm.trans h2)
theorem eq_eval {args : Array Value} {s : State} {tm : Term} {z : Int32} (h : (Cond.eq tm (.int z)).before args s = true) : tm.eval args s none [] s = some (.int z) := by
  cases hv : tm.eval args s none [] s with
  | none => simp [Cond.before, Cond.holds, Cond.value, hv] at h
  | some w =>
    have hz : (Term.int z).eval args s none [] s = some (.int z) := rfl
    simp only [Cond.before, Cond.holds, Cond.value, hv, hz] at h
    cases w <;> simp_all
theorem ex_in : ∀ x ∈ exL, ∀ y ∈ exL, x ≠ y → Cond.not (.castable x y) ∈ flatC (Jvm.Cond.and given_1 narrow_1) := by decide +kernel
def cosT : Term := .static "ChainSurvey" "COSINES" "[I"
theorem cos_in : (Cond.arrayOf cosT .int ∈ flatC (Jvm.Cond.and given_1 narrow_1) ∧ Cond.eq (.length cosT) (.int 7) ∈ flatC (Jvm.Cond.and given_1 narrow_1)) ∧ (∀ j, j < 7 → Cond.eq (.elem cosT (.int (Int32.ofNat j))) (.int (cosL.getD j 0)) ∈ flatC (Jvm.Cond.and given_1 narrow_1)) := by decide +kernel
def digT (n : String) : Term := .static "java/lang/Integer" n "[B"
theorem dig_in : (Cond.arrayOf (digT "DigitOnes") .byte ∈ flatC (Jvm.Cond.and given_1 narrow_1) ∧ Cond.eq (.length (digT "DigitOnes")) (.int 100) ∈ flatC (Jvm.Cond.and given_1 narrow_1)) ∧ (Cond.arrayOf (digT "DigitTens") .byte ∈ flatC (Jvm.Cond.and given_1 narrow_1) ∧ Cond.eq (.length (digT "DigitTens")) (.int 100) ∈ flatC (Jvm.Cond.and given_1 narrow_1)) := by decide +kernel
theorem dg_1 : ((flatC (Jvm.Cond.and given_1 narrow_1)).drop 24).take 100 = (List.range 100).map (fun j => Cond.eq (.elem (digT "DigitOnes") (.int (Int32.ofNat j))) (.int (d1L.getD j 0))) := by decide +kernel
theorem dg_2 : ((flatC (Jvm.Cond.and given_1 narrow_1)).drop 127).take 100 = (List.range 100).map (fun j => Cond.eq (.elem (digT "DigitTens") (.int (Int32.ofNat j))) (.int (d10L.getD j 0))) := by decide +kernel
theorem dig1 {j : Nat} (h : j < 100) : Cond.eq (.elem (digT "DigitOnes") (.int (Int32.ofNat j))) (.int (d1L.getD j 0)) ∈ flatC (Jvm.Cond.and given_1 narrow_1) := by
  have h2 : Cond.eq (.elem (digT "DigitOnes") (.int (Int32.ofNat j))) (.int (d1L.getD j 0)) ∈ (List.range 100).map (fun j => Cond.eq (.elem (digT "DigitOnes") (.int (Int32.ofNat j))) (.int (d1L.getD j 0))) := List.mem_map.mpr ⟨j, List.mem_range.mpr h, rfl⟩
  rw [← dg_1] at h2
  exact List.mem_of_mem_drop (List.mem_of_mem_take h2)
theorem dig2 {j : Nat} (h : j < 100) : Cond.eq (.elem (digT "DigitTens") (.int (Int32.ofNat j))) (.int (d10L.getD j 0)) ∈ flatC (Jvm.Cond.and given_1 narrow_1) := by
  have h2 : Cond.eq (.elem (digT "DigitTens") (.int (Int32.ofNat j))) (.int (d10L.getD j 0)) ∈ (List.range 100).map (fun j => Cond.eq (.elem (digT "DigitTens") (.int (Int32.ofNat j))) (.int (d10L.getD j 0))) := List.mem_map.mpr ⟨j, List.mem_range.mpr h, rfl⟩
  rw [← dg_2] at h2
  exact List.mem_of_mem_drop (List.mem_of_mem_take h2)
theorem ty_in : Cond.arrayClass .int ∈ lw_tbl ∧ Cond.arrayClass .byte ∈ lw_tbl ∧ Cond.arrayClass .boolean ∈ lw_tbl ∧ Cond.arrayOver (.object RX2) ∈ lw_tbl := by decide +kernel
/-- the map of what lies before -/
def gEof (b tC tS t1 t2 sz T : Nat) (aK aV : Nat → Nat) : Nat → Nat := fun q => if q = 2000 then b else if q = 1100 then tC else if q = 2100 then tS else if q = 1101 then t1 else if q = 1102 then t2 else if q = 1999 then sz else if q = 1998 then T else if q < 1100 then aK (q - 1000) else aV (q - 1200)
theorem gEof_K {b tC tS t1 t2 sz T : Nat} {aK aV : Nat → Nat} {i : Nat} (h : i < 47) : gEof b tC tS t1 t2 sz T aK aV (1000 + i) = aK i := by
  unfold gEof
  rw [if_neg (by omega), if_neg (by omega), if_neg (by omega), if_neg (by omega), if_neg (by omega), if_neg (by omega), if_neg (by omega), if_pos (by omega), Nat.add_sub_cancel_left]
theorem gEof_V {b tC tS t1 t2 sz T : Nat} {aK aV : Nat → Nat} {i : Nat} (h : i < 47) : gEof b tC tS t1 t2 sz T aK aV (1200 + i) = aV i := by
  unfold gEof
  rw [if_neg (by omega), if_neg (by omega), if_neg (by omega), if_neg (by omega), if_neg (by omega), if_neg (by omega), if_neg (by omega), if_neg (by omega), Nat.add_sub_cancel_left]
theorem st_GOK (l : Launch) (hflags : l.flags = flags0) {s : State} {b L : Nat} {xs : Nat → Int32} (T : Nat) (hL : L ≤ 3072) (hts : ∀ w ∈ lw_tbl, w.before #[Value.ref b] s = true) (hX : va_X b L xs s s.heap) (hbl : b < s.heap.size) (hgv : (Jvm.Cond.and given_1 narrow_1).before #[Value.ref b] s = true) :
    ∃ (D : va_G) (ar : Nat → ClassId) (E : Nat → Nat), E 2000 = b ∧ E 1999 = s.heap.size ∧ E 1998 = T ∧ GOK (l, s, D, ar, E, L, xs) := by
  have hn := flat_of_before _ hgv
  have hA : ∀ a : Nat, a < s.heap.size → ¬ (s.heap.size ≤ a) := fun a h => Nat.not_le.mpr h
  obtain ⟨dC, dI, hK⟩ := st_kn hts
  obtain ⟨c0, k0⟩ := st_arr hts ty_in.1 (Or.inl rfl)
  obtain ⟨c1, k1⟩ := st_arr hts ty_in.2.1 (Or.inr (Or.inl rfl))
  obtain ⟨c2, k2⟩ := st_arr hts ty_in.2.2.1 (Or.inr (Or.inr (Or.inl rfl)))
  obtain ⟨c4, k4⟩ := st_arrO hts ty_in.2.2.2
  obtain ⟨aK, aV, hR, hV⟩ := st_lit (A := fun a => s.heap.size ≤ a) hts hgv hA
  obtain ⟨tC, hC1, hC2⟩ := va_Tof (s := s) (args := #[Value.ref b]) (tm := cosT) (ty := .int) (N := 7) (f := fun j => .int (cosL.getD j 0)) (A := fun a => s.heap.size ≤ a) (by decide) (hn _ cos_in.1.1) (eq_eval (hn _ cos_in.1.2)) (fun j hj => eq_eval (hn _ (cos_in.2 j hj))) hA
  obtain ⟨t1, hD1, hD2⟩ := va_Tof (s := s) (args := #[Value.ref b]) (tm := digT "DigitOnes") (ty := .byte) (N := 100) (f := fun j => .int (d1L.getD j 0)) (A := fun a => s.heap.size ≤ a) (by decide) (hn _ dig_in.1.1) (eq_eval (hn _ dig_in.1.2)) (fun j hj => eq_eval (hn _ (dig1 hj))) hA
  obtain ⟨t2, hE1, hE2⟩ := va_Tof (s := s) (args := #[Value.ref b]) (tm := digT "DigitTens") (ty := .byte) (N := 100) (f := fun j => .int (d10L.getD j 0)) (A := fun a => s.heap.size ≤ a) (by decide) (hn _ dig_in.2.1) (eq_eval (hn _ dig_in.2.2)) (fun j hj => eq_eval (hn _ (dig2 hj))) hA
  have hZc : va_Z RX4 "COSINES" "[I" (.ref tC) (fun a => s.heap.size ≤ a) s s.heap := va_Zref (hts _ (by decide +kernel)) (hts _ (by decide +kernel)) hC1 hA
  have hZ1 : va_Z "java/lang/Integer" "DigitOnes" "[B" (.ref t1) (fun a => s.heap.size ≤ a) s s.heap := va_Zref (hts _ (by decide +kernel)) (hts _ (by decide +kernel)) hD1 hA
  have hZ2 : va_Z "java/lang/Integer" "DigitTens" "[B" (.ref t2) (fun a => s.heap.size ≤ a) s s.heap := va_Zref (hts _ (by decide +kernel)) (hts _ (by decide +kernel)) hE1 hA
  have hZs : va_Z "java/lang/String" "COMPACT_STRINGS" "Z" (.int 1) (fun a => s.heap.size ≤ a) s s.heap := va_Zof (hts _ (by decide +kernel)) (hts _ (by decide +kernel)) (va_eqi (hn _ (by decide +kernel))) hA
  have hF : ∃ tS : Nat, va_Z "jdk/internal/util/Preconditions" "SIOOBE_FORMATTER" "Ljava/util/function/BiFunction;" .null (fun a => s.heap.size ≤ a) s s.heap ∨ va_Z "jdk/internal/util/Preconditions" "SIOOBE_FORMATTER" "Ljava/util/function/BiFunction;" (.ref tS) (fun a => s.heap.size ≤ a) s s.heap := by
    rcases va_Zqof (C := "jdk/internal/util/Preconditions") (n := "SIOOBE_FORMATTER") (d := "Ljava/util/function/BiFunction;") (A := fun a => s.heap.size ≤ a) (hts _ (by decide +kernel)) (hts _ (by decide +kernel)) (hn _ (by decide +kernel)) hA with h | ⟨t, h⟩
    · exact ⟨0, Or.inl h⟩
    · exact ⟨t, Or.inr h⟩
  obtain ⟨tS, hF⟩ := hF
  refine ⟨(dC, dI), fun t => if t = 10 then c0 else if t = 11 then c1 else if t = 12 then c2 else c4, gEof b tC tS t1 t2 s.heap.size T aK aV, rfl, rfl, rfl, ⟨hK, fun k q hq => ?_⟩, ?_, ⟨hX, hbl, hL⟩, fun w hw _ ho => va_tabs ho rfl (lx_hts hts w hw), ⟨?_, ?_⟩, fun i q hq => ?_, fun i hi => ?_, ⟨hZc, hC2, hZs⟩, fun x hx y hy hne => va_Nc.of (hn _ (ex_in x hx y hy hne)), va_AO.of (hts _ ty_in.2.2.2), hF, ⟨hZ1, hD2⟩, hZ2, hE2⟩
  · match k, hq with
    | 0, hq => cases hq; exact k0
    | 1, hq => cases hq; exact k1
    | 2, hq => cases hq; exact k2
    | 3, hq => cases hq; exact k2
    | 4, hq => cases hq; exact k4
    | k + 5, hq => simp [tyK] at hq
  · show (!l.flags.contains noTraceFlag) = false
    rw [hflags]
    decide +kernel
  · exact vx_Zqof (hts _ (by decide +kernel)) (hts _ (by decide +kernel)) (hn _ (by decide +kernel)) hA
  · exact vx_Zqof (hts _ (by decide +kernel)) (hts _ (by decide +kernel)) (hn _ (by decide +kernel)) hA
  · show vk_R q.1 q.2.1 q.2.2 (gEof b tC tS t1 t2 s.heap.size T aK aV (1000 + i)) s
    rw [gEof_K (stW_lt hq)]
    exact hR i q hq
  · show vk_S 1 [(stB i).length] [stB i] (fun _ => gEof b tC tS t1 t2 s.heap.size T aK aV (1000 + i)) (fun _ => gEof b tC tS t1 t2 s.heap.size T aK aV (1200 + i)) _ s s.heap
    rw [gEof_K hi, gEof_V hi]
    exact hV i hi
theorem table_of (L : List ExceptionTableEntry) : ∃ hh, L = tableOf hh := ⟨L.map (fun x => (x.startPc, x.endPc, x.handlerPc, x.catchType)), by
  unfold tableOf
  rw [List.map_map]
  conv => lhs; rw [← List.map_id L]
  rfl⟩
