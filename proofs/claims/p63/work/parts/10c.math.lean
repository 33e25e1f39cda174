/-! a method of a class that the machine overrides in part, when it has no row for the method -/
section MFW
variable {l : Launch}
theorem mf_ofW {y : MethodName} {ws ws' : List Cond} {rm : Room} {Pc : Array Value → State → Prop} {Qc : Array Value → State → Outcome → State → Prop} {XC : String → State → State → Prop} {mc ms : Nat} {free : Addr → Prop} {cc : ByteArray} {maxL : Nat} {ret : Option FieldType}
    (hy : plainFor y = true) (hw : ws = Cond.code y cc maxL ret :: ws')
    (body : ∀ p e s m args below meth c s₁, BodyLoose p l y (headSpec ws rm) cc maxL ret e s m args below meth c s₁ → c.maxLocals = maxL → (∀ x ∈ c.exceptionTable.toList, False) → Pc args s →
      W p l e (headSpec ws rm).room s m args below meth c s.heap [] 0 0 (vx_MQ below Qc XC args s mc ms free) (entryFrame m args maxL)) : vx_Met l y ws rm Pc Qc XC mc ms free := by
  refine MetFree.of_bodySF (code := cc) (maxLocals := maxL) (ret := ret) hy ?_ ?_
  · intro args s m h hn
    obtain ⟨meth, c, h1, h2, h3, h4, h5, h6, -, -⟩ := Cond.code_spec hn (atoms_spec (ws := ws) h _ (by rw [hw]; exact List.mem_cons_self))
    exact ⟨meth, c, h1, h2, h3, h4, h5, h6⟩
  · intro p e s m args below meth c s₁ B hml hP _
    have hh0 : s₁.heap = s.heap := by rw [B.state]; rfl
    have ht : ∀ x ∈ c.exceptionTable.toList, False := by
      obtain ⟨meth9, c9, h1, h2, -, -, -, -, h7, -⟩ := Cond.code_spec B.named (atoms_spec (ws := ws) B.pre _ (by rw [hw]; exact List.mem_cons_self))
      cases Option.some.inj (h1.symm.trans B.method)
      cases Option.some.inj (h2.symm.trans (Stand.of_body B).code)
      intro x hx
      rw [Array.isEmpty_iff.mp h7] at hx
      cases hx
    obtain ⟨t, a1, o, b1, b2, b3⟩ := body p e s m args below meth c s₁ B hml ht hP s₁ hh0 (Stand.of_body B)
    exact ⟨t, o, a1, b1, b2, b3⟩
end MFW
theorem ct_ofF {G : Gt} {Y : MI} {av : List Value} {M M1 : Mm} {φ φ1 : Ph} {o : Ot} (hG : GOK G) (hH0 : mH Y = []) (hy : plainFor (mY Y) = true) (hn : (lg_sl av).length ≤ mL Y)
    (h : ∀ B, BF G Y B → AW G Y B (QM G Y B o M1 φ1) 0 0 0 (lv_args 0 av) [] M φ) : CT G Y av M φ o M1 φ1 := by
  · have hH : (mH Y).isEmpty = true := by rw [hH0]; rfl
    refine mf_ofW (cc := mB Y) (maxL := mL Y) (ret := mR Y) (ws' := TB) hy (by unfold wd cw; rw [if_pos hH]) ?_
    intro p e s m args below meth c s₁ B hml hx hv
    obtain ⟨rfl, hE, hWH⟩ := hv
    have hts := atoms_spec (ws := wd Y) B.pre
    have hB : BF G Y (p, e, (headSpec (wd Y) (mRm Y)).room, s, m, (trS G av).toArray, below, meth, c) :=
      ⟨B.exec, B.bytes, hml, B.returns, B.notSynchronized, rfl, fun w hw => hts w (List.mem_cons_of_mem _ hw), findClass_of_methodNamed B.named, (name_of_methodNamed B.named B.method).1, fun x hx9 => absurd hx9 (fun q => hx x q), hE, hG, by
        rw [hH0]
        exact List.eq_nil_iff_forall_not_mem.mpr (fun x q => hx x q)⟩
    have hl := lv_entry (trS G av) (n := mL Y) (by rw [lg_tr]; exact hn)
    rw [lg_entry_eq]
    exact h _ hB s.heap [] _ hWH va_S.rf (by rw [← trL_args]; exact hl)
