/-! the law's first rows, and the law from its entry -/
theorem e_W_law_0 : decode code 0 = .ok (.iconst 0, 1) := by decide +kernel
theorem e_W_law_1 : decode code 1 = .ok (.istore_n 1, 1) := by decide +kernel
theorem e_W_law_13 : decode code 13 = .ok (.iconst 1, 1) := by decide +kernel
theorem e_W_law_14 : decode code 14 = .ok (.newarray .int, 2) := by decide +kernel
theorem e_W_law_16 : decode code 16 = .ok (.dup, 1) := by decide +kernel
theorem e_W_law_17 : decode code 17 = .ok (.iconst 0, 1) := by decide +kernel
theorem e_W_law_18 : decode code 18 = .ok (.aload_n 0, 1) := by decide +kernel
theorem e_W_law_19 : decode code 19 = .ok (.iload_n 1, 1) := by decide +kernel
theorem e_W_law_20 : decode code 20 = .ok (.iaload, 1) := by decide +kernel
theorem e_W_law_21 : decode code 21 = .ok (.iastore, 1) := by decide +kernel
set_option maxHeartbeats 4000000 in
/-- THE LAW, from its entry -/
theorem whole_start {p : Program} {e : Env} {s : State} {m : MethodId} {below : List Frame} {meth : Method} {c : Code} (l : Launch) (hflags : l.flags = flags0) {b L : Nat} {xs : Nat → Int32} (hL : L ≤ 260) (C0 : lw_At p s m meth c b L xs) : W p l e room_1 s m #[Value.ref b] below meth c s.heap [] 0 0 (lw_Z below #[Value.ref b] s) (entryFrame m ([Value.ref b] : List Value).toArray 9) := by
  obtain ⟨hx, hb, hr, hml, hown, hts, hX, hbl, hlocks, hgv⟩ := id C0
  obtain ⟨T, hT14, hlaw⟩ := law_ok (M := wr (fun _ _ => 0) 1999 0 (xs 0)) (fun b k hb => by rw [wr_n (by omega)])
  obtain ⟨M9, hM⟩ := hlaw L
  obtain ⟨D, ar, E, hE, hE1, hE2, hG⟩ := st_GOK l hflags T (by omega) hts hX hbl hgv
  obtain ⟨hh, hT⟩ := table_of c.exceptionTable.toList
  have hB : BF (l, s, D, ar, E, L, xs) (I_W_law meth.name hh) (p, e, room_1, s, m, #[Value.ref b], below, meth, c) :=
    ⟨hx, hb, hml, hr, hlocks, rfl, fun w hw => lx_hts hts w (List.mem_filter.mp hw).1, hown, rfl, fun x h => hT ▸ h, ⟨State.WarmedH.refl _, Nat.le_refl _, fun _ _ => rfl⟩, hG, hT⟩
  have hend : ∀ (k1 k2 pc : Nat) (ls : List (Nat × Value)) (M : Mm) (φ : Ph), decode (mB (I_W_law meth.name hh)) pc = .ok (.ireturn, 1) → k1 ≤ 600086 → k2 ≤ 7301441 → AW (l, s, D, ar, E, L, xs) (I_W_law meth.name hh) (p, e, room_1, s, m, #[Value.ref b], below, meth, c) (lw_Z below #[Value.ref b] s) k1 k2 pc ls [.int 1] M φ := by
    intro k1 k2 pc ls M φ hdg h1 h2 H locs lsA hW hS hl
    exact va_forget (fun q hq => hS.2.2 q hq) (W.widen h1 h2 (lw_ret hx hb hr hlocks hdg))
  have hgo := t_W_law hB hend hE2 rfl hM
  have hl := lv_entry ([.ref b]) (n := 9) (Nat.le_of_ble_eq_true rfl)
  rw [lg_entry_eq]
  generalize (lg_sl ([.ref b]) ++ List.replicate (9 - (lg_sl ([.ref b])).length) Slot.unset).toArray = ls at hl ⊢
  have hl : lv_has ls 9 [(0, .ref b)] := hl
  refine lv_iconst (v := 0) hx hb e_W_law_0 ic_0 ?_
  refine lv_istore_n (lv' := [(1, .int 0), (0, .ref b)]) hx hb e_W_law_1 rfl hl (by decide) rfl (fun ls1 hl1 => ?_)
  refine lv_iload_n hx hb e_W_law_2 rfl (lv_at hl1 0 rfl) ?_
  refine lv_aload_n hx hb e_W_law_3 rfl (lv_at hl1 1 rfl) ?_
  refine va_slen (A := fun a => s.heap.size ≤ a) hx hb hX hbl (Nat.not_le.mpr hbl) va_S.rf e_W_law_4 ?_
  refine lv_icmp_ge (tgt := 262) hx hb e_W_law_5 (by decide) (fun z => ?_) (fun z => ?_)
  · refine lv_iconst (v := 1) hx hb e_W_law_262 ic_1 ?_
    exact W.widen (Nat.zero_le _) (Nat.zero_le _) (lw_ret hx hb hr hlocks e_W_law_263)
  have hL0 : 0 < L := Nat.pos_of_ne_zero (fun q => z (by rw [q]; decide))
  have hgo : AW (l, s, D, ar, E, L, xs) (I_W_law meth.name hh) (p, e, room_1, s, m, #[Value.ref b], below, meth, c) (lw_Z below #[Value.ref b] s) 1 1 16 [(0, .ref 2000), (1, .int 0)] [.ref 1999] (fun _ _ => 0) (ph [] 0) := by
    refine a_dup hB e_W_law_16 rfl ?_
    refine a_iconst (v := 0) hB e_W_law_17 ic_0 ?_
    refine a_aload_n (j := 0) hB e_W_law_18 rfl rfl ?_
    refine a_iload_n (j := 1) hB e_W_law_19 rfl rfl ?_
    refine a_sld hB (fun q => q.elim (by decide) (fun q => absurd (show L ≤ 0 from q) (by omega))) e_W_law_20 ?_
    refine a_isX hB e_W_law_21 (by decide) ?_
    exact hgo
  refine lv_iload_n hx hb e_W_law_8 rfl (lv_at hl1 0 rfl) ?_
  refine lv_iconst (v := 1) hx hb e_W_law_9 ic_1 ?_
  refine lv_icmp_ge (tgt := 262) hx hb e_W_law_10 (by decide) (fun z => absurd z (by decide)) (fun z => ?_)
  refine lv_iconst (v := 1) hx hb e_W_law_13 ic_1 ?_
  refine va_newaK (atype := .int) (N := 1) hx hb (hts _ ty_in.1) rfl e_W_law_14 rfl (by decide) rfl (by decide) (Nat.le_of_ble_eq_true rfl) (Nat.le_of_ble_eq_true rfl) rfl (fun H1 cA e1 z1 o1 hAr hNm => ?_)
  have hcA : cA = ar 10 := Option.some.inj (hNm.symm.trans ((hK_of hB).2 0 _ rfl).2)
  subst hcA
  have hWH : WH (l, s, D, ar, E, L, xs) (fun _ _ => 0) (ph [] 0) H1 := by
    refine ⟨fun a ha => absurd ha (Nat.not_lt_zero a), fun _ => z1, Nat.zero_le _, Nat.le_of_eq z1.symm, hE1, ?_⟩
    show H1[s.heap.size]? = some (vp_cell _ _)
    rw [e1, vp_cell_i] <;> rfl
  have hS : va_S (fun a => s.heap.size ≤ a) s.heap H1 [] := vs_push (G := (l, s, D, ar, E, L, xs)) va_S.rf z1 o1
  have hl2 : lv_has ls1 9 (trL (l, s, D, ar, E, L, xs) [(0, .ref 2000), (1, .int 0)]) := by
    show lv_has ls1 9 [(0, .ref (E 2000)), (1, .int 0)]
    rw [hE]
    exact lv_sub hl1 [1, 0] rfl
  have h9 := hgo H1 [] ls1 hWH hS hl2
  have e9 : trS (l, s, D, ar, E, L, xs) [.ref 1999] = [.ref s.heap.size] := by
    show [Value.ref (E 1999)] = _
    rw [hE1]
  rw [e9] at h9
  exact h9
