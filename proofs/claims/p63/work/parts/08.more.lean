/-! what is made, what is thrown, literals, the script, statics -/
section AWM
variable {G : Gt} {Y : MI} {B : Bag} {Qm : State → Prop} {k1 k2 pc : Nat} {ls : List (Nat × Value)} {st : List Value} {M : Mm} {φ : Ph}
theorem bf_len (hB : BF G Y B) {lsA : Array Slot} {l9 : List (Nat × Value)} (hl : lv_has lsA (mL Y) l9) : (bC B).maxLocals = lsA.size := by rw [hB.2.2.1, hl.1]
theorem th_x {a : Nat} (h : 1000 ≤ a) : th G a = gE G a := if_neg (by omega)
theorem trS_n {a z : Nat} (h : th G a = z) : trS G (.ref a :: st) = Value.ref z :: trS G st := by subst h; rfl
theorem trS_x {a : Nat} (h : 1000 ≤ a) : trS G (.ref a :: st) = Value.ref (gE G a) :: trS G st := trS_n (th_x h)
theorem trS_ix {a : Nat} {j : Int32} (h : 1000 ≤ a) : trS G (.int j :: .ref a :: st) = Value.int j :: Value.ref (gE G a) :: trS G st := congrArg (fun l => Value.int j :: l) (trS_x h)
theorem a_objInit (hB : BF G Y B) {a idx : Nat} (hL : Cond.methodLink (mY Y).cls idx Lib.objectInit ∈ TB) (hI : Cond.instanceMethod Lib.objectInit ∈ TB) (hC : Cond.code Lib.objectInit ⟨#[0xb1]⟩ 1 none ∈ TB) (hdg : decode (mB Y) pc = .ok (.invokespecial idx, 3)) (hf : 1 ≤ (mRm Y).frames) (hlo : (st.map fun v => v.category).sum + 12 ≤ (mRm Y).locals) (K : AW G Y B Qm k1 k2 (pc + 3) ls st M φ) : AW G Y B Qm k1 k2 pc ls (.ref a :: st) M φ := by
  intro H locs lsA hW hS hl
  refine W.objInit hB.1 hB.2.1 (bf_own hB) (bf_w hB _ hL) (bf_w hB _ hI) (bf_w hB _ hC) rfl (bf_len hB hl).symm rfl hdg (by rw [bf_R hB]; exact hf) ?_ (K H locs lsA hW hS hl)
  rw [bf_R hB]
  have h0 : (F0 (bM B) pc lsA (trS G (.ref a :: st))).monitorRoom = 0 := rfl
  rw [h0]
  have h9 := trS_cat G st
  unfold trS at h9
  omega
/-- the phase behind the making of a cell -/
def nA (φ : Ph) (a : Nat) : Ph := (fun b j => if b = a then false else φ.1 b j, φ.2.1 + 1, φ.2.2)
theorem wh_push {H H' : Heap} {a : Nat} (hW : WH G M φ H) (hc : φ.2.2 = true) (ha : φ.2.1 = a) (ha9 : a < 138) (hz : H'.size = H.size + 1) (ho : ∀ q, q < H.size → H'[q]? = H[q]?) (hn : va_at (gD G) clL (gc G + a, cellOf G (zr M a) (nA φ a) a) H') : WH G (zr M a) (nA φ a) H' := by
  have hs := hW.2.1 hc
  refine ⟨fun b hb => ?_, fun _ => ?_, ?_, ?_, hW.2.2.2.2.1, ?_⟩
  · have hb' : b < φ.2.1 + 1 := hb
    by_cases e : b = a
    · subst e; exact hn
    · rw [cell_oth (M := M) (φ := φ) (fun j => by simp [zr, e]) (fun j => by simp [nA, e])]
      exact (hW.1 b (by omega)).kept (ho _ (by show gc G + b < H.size; omega))
  · show H'.size = gc G + (φ.2.1 + 1); omega
  · show φ.2.1 + 1 ≤ 138; omega
  · show gc G + (φ.2.1 + 1) ≤ H'.size; omega
  · have h9 : zr M a 1999 = M 1999 := funext fun j => by unfold zr; rw [if_neg (by omega)]
    rw [h9]; exact hW.2.2.2.2.2.kept (ho _ hW.2.2.2.2.2.lt)
theorem vs_push {H0 H H' : Heap} {locs : List Loc} (hS : va_S (ga G) H0 H locs) (hz : H'.size = H.size + 1) (ho : ∀ q, q < H.size → H'[q]? = H[q]?) : va_S (ga G) H0 H' locs :=
  ⟨Nat.le_trans hS.1 (by omega), fun x h1 h2 => (ho x (Nat.lt_of_lt_of_le h1 hS.1)).trans (hS.2.1 x h1 h2), hS.2.2⟩
theorem th_new {H : Heap} {a : Nat} (hW : WH G M φ H) (hc : φ.2.2 = true) (ha : φ.2.1 = a) (ha9 : a < 138) : th G a = H.size := by
  rw [hW.2.1 hc, ha]; exact if_pos (by omega)
theorem a_new (hB : BF G Y B) {a idx ci N j1 j2 : Nat} {C : String} {T : u_T} {ty0 : Nat → FieldType} (hdg : decode (mB Y) pc = .ok (.new idx, 3)) (hck : CK ci C T N ty0) (hcl : Cond.classLink (mY Y).cls idx C ∈ TB) (hins : Cond.instantiable C N ∈ TB) (hini : Cond.initialized C ∈ TB) (hc : φ.2.2 = true) (ha : φ.2.1 = a) (ha9 : a < 138) (hk : kd a = ci)
    (hdef : ∀ j, j < N → defaultValue (ty0 j) = if tg a j = 0 then .int 0 else .null) (h1 : k1 + 1 = j1) (h2 : k2 + N = j2) (h3 : j1 ≤ (mRm Y).cells) (h4 : j2 ≤ (mRm Y).slots) (K : AW G Y B Qm j1 j2 (pc + 3) ls (.ref a :: st) (zr M a) (nA φ a)) : AW G Y B Qm k1 k2 pc ls st M φ := by
  subst h1; subst h2
  intro H locs lsA hW hS hl
  obtain ⟨c1, c2, c3, c4, c5, c6⟩ := hck
  have hKs := hK_of hB
  have hKn := hKs.1 ci _ c1
  refine W.newcK hB.1 hB.2.1 (bf_own hB) (bf_w hB _ hcl) (bf_w hB _ hins) (bf_w hB _ hini) rfl hdg (by rw [bf_R hB]; exact h3) (by rw [bf_R hB]; exact h4) hKn.2.1 rfl fun H1 kC hkC e1 z1 o1 => ?_
  have hte := th_new hW hc ha ha9
  have hWn : WH G (zr M a) (nA φ a) H1 := by
    refine wh_push hW hc ha ha9 z1 o1 ?_
    rw [cell_obj hk c3]
    refine ⟨_, c1, ?_⟩
    have hh : H.size = gc G + a := by rw [hW.2.1 hc, ha]
    have hb := u_born ty0 (bf_w hB) c4 hKn hkC e1 c5
    rw [hh] at hb
    refine hb.to (fun j hj => ?_)
    have hj' : j < nf ci := by rw [← c2]; exact hj
    unfold vp_V
    rw [List.getD_eq_getElem?_getD, List.getElem?_map, List.getElem?_range hj', Option.map_some, Option.getD_some, hdef j hj]
    unfold fv
    by_cases h0 : tg a j = 0
    · rw [if_pos h0, if_pos h0]; simp [zr]
    · rw [if_neg h0, if_neg h0]; simp [nA]
  have := K H1 locs lsA hWn (vs_push hS z1 o1) hl
  rw [trS_n hte] at this
  exact this
/-- a new row of ints, bytes, booleans -/
theorem a_newa (hB : BF G Y B) {a t t0 j1 j2 : Nat} {n : Int32} {atype : ArrayType} {ty : FieldType} (hdg : decode (mB Y) pc = .ok (.newarray atype, 2)) (hty : newarray.typeOf atype = ty) (hw : Cond.arrayClass ty ∈ TB) (ht0 : (tyK G)[t0]? = some (gAr G t, ty)) (h32 : ty = .int ∨ ty = .byte ∨ ty = .boolean) (hct : t = 10 ∨ t = 11 ∨ t = 12)
    (hc : φ.2.2 = true) (ha : φ.2.1 = a) (ha9 : a < 138) (hk : kd a = t) (hn0 : ¬ n < 0) (hn : n.toNatClampNeg = ln a) (hbig : ln a < 100000) (h1 : k1 + 1 = j1) (h2 : k2 + ln a = j2) (h3 : j1 ≤ (mRm Y).cells) (h4 : j2 ≤ (mRm Y).slots) (K : AW G Y B Qm j1 j2 (pc + 2) ls (.ref a :: st) (zr M a) (nA φ a)) : AW G Y B Qm k1 k2 pc ls (.int n :: st) M φ := by
  subst h1; subst h2; subst hty
  intro H locs lsA hW hS hl
  have hcb : componentBytes (newarray.typeOf atype) ≤ 4 := by rcases h32 with h | h | h <;> rw [h] <;> decide
  refine va_newaK hB.1 hB.2.1 (bf_w hB _ hw) rfl hdg rfl hn0 hn (by have := Nat.mul_le_mul_left (ln a) hcb; omega) (by rw [bf_R hB]; exact h3) (by rw [bf_R hB]; exact h4) rfl fun H1 cA e1 z1 o1 hAr hNm => ?_
  have hte := th_new hW hc ha ha9
  have hcA : cA = gAr G t := by
    have h9 := ((hK_of hB).2 t0 _ ht0).2
    have h8 : (bS B).vm.findClass ("[" ++ (newarray.typeOf atype).toString) = some (gAr G t) := by rcases h32 with h | h | h <;> rw [h] at h9 ⊢ <;> exact h9
    exact Option.some.inj (hNm.symm.trans h8)
  subst hcA
  have hWn : WH G (zr M a) (nA φ a) H1 := by
    refine wh_push hW hc ha ha9 z1 o1 ?_
    rw [cell_int hk hct]
    show H1[gc G + a]? = some (vp_cell _ _)
    have hh : H.size = gc G + a := by rw [hW.2.1 hc, ha]
    rw [← hh, e1, vp_cell_i]
    have hd : defaultValue (newarray.typeOf atype) = .int 0 := by rcases h32 with h | h | h <;> rw [h] <;> rfl
    rw [hd]
    have hz0 : zr M a a = fun _ => 0 := by funext j; simp [zr]
    rw [hz0]
  have := K H1 locs lsA hWn (vs_push hS z1 o1) hl
  rw [trS_n hte] at this
  exact this
theorem a_newq (hB : BF G Y B) {a idx j1 j2 : Nat} {n : Int32} (hdg : decode (mB Y) pc = .ok (.anewarray idx, 3)) (hcl : Cond.classLink (mY Y).cls idx RX2 ∈ TB) (hc : φ.2.2 = true) (ha : φ.2.1 = a) (ha9 : a < 138) (hk : kd a = 14) (hn0 : ¬ n < 0) (hn : n.toNatClampNeg = ln a) (hbig : ln a < 100000) (h1 : k1 + 1 = j1) (h2 : k2 + ln a = j2) (h3 : j1 ≤ (mRm Y).cells) (h4 : j2 ≤ (mRm Y).slots) (K : AW G Y B Qm j1 j2 (pc + 3) ls (.ref a :: st) (zr M a) (nA φ a)) : AW G Y B Qm k1 k2 pc ls (.int n :: st) M φ := by
  subst h1; subst h2
  intro H locs lsA hW hS hl
  have hao : va_AO RX2 (bS B) := va_AO.moved (bf_E hB).1.alike (bf_G hB).2.2.2.2.2.2.2.2.2.1
  refine W.anew hB.1 hB.2.1 (bf_own hB) (bf_w hB _ hcl) (va_AO.use hao) rfl hdg rfl hn0 (by rw [hn]; omega) (by rw [bf_R hB]; exact h3) (by rw [bf_R hB, hn]; exact h4) fun cA kA comp f1 f2 f3 f4 => ?_
  rw [hn]
  generalize hH1 : H.push ({ cls := cA, slots := Array.replicate (ln a) .null, vm := .none } : Cell) = H1
  have z1 : H1.size = H.size + 1 := by rw [← hH1, Array.size_push]
  have e1 : H1[H.size]? = some (arrV cA (ln a) (fun _ => .null)) := by rw [← hH1, Array.getElem?_push_size, ← arrV_new]
  have o1 : ∀ q : Nat, q < H.size → H1[q]? = H[q]? := fun q hq => by rw [← hH1, Array.getElem?_push, if_neg (Nat.ne_of_lt hq)]
  have hte := th_new hW hc ha ha9
  have hcA : cA = gAr G 14 := by
    obtain ⟨kA', comp', g1, g2, g3, g4⟩ := ((hK_of hB).2 4 _ rfl).2
    exact Option.some.inj (f1.symm.trans g4)
  subst hcA
  have hWn : WH G (zr M a) (nA φ a) H1 := by
    refine wh_push hW hc ha ha9 z1 o1 ?_
    rw [cell_ref hk]
    show H1[gc G + a]? = some (vp_cell _ _)
    have hh : H.size = gc G + a := by rw [hW.2.1 hc, ha]
    rw [← hh, e1, vp_cell_q]
    congr 2
    funext j
    simp [nA, va_rf]
  have := K H1 locs lsA hWn (vs_push hS z1 o1) hl
  rw [trS_n hte] at this
  exact this
theorem a_aast (hB : BF G Y B) {a r : Nat} {i : Int32} (hdg : decode (mB Y) pc = .ok (.aastore, 1)) (ha : a < φ.2.1) (hk : kd a = 14) (hr : r < φ.2.1) (hkr : kd r = 2) (hin : iin i (ln a)) (ht : tg a (ix i) = r + 1) (K : AW G Y B Qm k1 k2 (pc + 1) ls st M (nS φ a (ix i))) : AW G Y B Qm k1 k2 pc ls (.ref r :: .int i :: .ref a :: st) M φ := by
  intro H locs lsA hW hS hl
  have hKs := hK_of hB
  have hlt : i.toNatClampNeg < ln a := Nat.not_le.mp fun q => hin (Or.inr q)
  have h0 : ¬ i < 0 := fun q => hin (Or.inl q)
  have hA := wh_at hW ha
  rw [cell_ref hk] at hA
  have hR := wh_at hW hr
  rw [cell_obj hkr (by decide)] at hR
  obtain ⟨r', hr', cellV, g1, g2, g3, -⟩ := hR
  cases Option.some.inj (hr'.symm.trans (rfl : clL[2]? = some (RX2, TX2, 13)))
  have hcls := (hKs.1 2 (RX2, TX2, 13) rfl).2
  obtain ⟨kA, comp, q1, q2, q3, -⟩ := (hKs.2 4 _ rfl).2
  have hcomp : comp = (gD G).1 2 := Option.some.inj (q3.symm.trans hcls.1)
  subst hcomp
  obtain ⟨kC, hkC, -⟩ := hcls.2
  refine W.aast (a := th G a) (v := th G r) hB.1 hB.2.1 hA (fun q h => by cases h) (fun h => by cases h) q1 q2 rfl hkC ⟨h0, by show _ < (arrV _ _ _).slots.size; rw [arrV_size]; exact hlt⟩ g1 (fun q h => by rw [g3] at h; cases h) (by rw [g2]; exact hkC) (by rw [g2]; exact va_assign hcls) rfl rfl hdg fun H1 e z oq => ?_
  refine K H1 _ lsA (wh_set hW ha ?_ z oq (fun _ _ _ => rfl) nS_ob rfl) (hS.put z oq (ga_in hW ha)) hl
  rw [cell_ref hk]
  show H1[th G a]? = some (vp_cell _ _)
  rw [e, vp_cell_q, vp_cell_q, arrV_store]
  congr 2
  funext q
  by_cases hq : q = i.toNatClampNeg
  · subst hq
    have ht' : tg a i.toNatClampNeg = r + 1 := ht
    simp [updV, nS, va_rf, ht']
  · simp [updV, nS, hq]
/-! throws -/
def dirt (φ : Ph) : Ph := (φ.1, φ.2.1, false)
theorem wh_dirt {H H1 : Heap} (hW : WH G M φ H) (hz : H.size ≤ H1.size) (ho : ∀ q, q < H.size → H1[q]? = H[q]?) : WH G M (dirt φ) H1 :=
  ⟨fun a ha => by
    have h9 : cellOf G M (dirt φ) a = cellOf G M φ a := cell_oth (fun _ => rfl) (fun _ => rfl)
    rw [h9]
    exact (hW.1 a ha).kept (ho _ (hW.1 a ha).lt), fun h => absurd h (by simp [dirt]), hW.2.2.1, Nat.le_trans hW.2.2.2.1 hz, hW.2.2.2.2.1, hW.2.2.2.2.2.kept (ho _ hW.2.2.2.2.2.lt)⟩
def exN : List String := ["java/lang/RuntimeException", "java/lang/Exception"]
theorem zq_of (hB : BF G Y B) {C n d : String} (h : vx_Zq C n d (ga G) (gs G) (gs G).heap) : vx_Zq C n d (ga G) (bS B) (bS B).heap :=
  vx_Zq.kept (vx_Zq.moved (bf_E hB).1.alike h) (fun a h1 h2 => (bf_E hB).2.2 a h1)
/-- a word of a throw's list -/
def AT (w : Cond) : Prop := w ∈ TB ∨ (∃ x, w = .declares x ∧ w ∈ lx_tbl) ∨ ∃ x y, w = .castable x y ∧ w ∈ lx_tbl
theorem at_g {w : Cond} (h : AT w) : vx_ot w = true := by
  rcases h with h | ⟨x, rfl, h⟩ | ⟨x, y, rfl, h⟩
  · unfold vx_ot; rw [List.all_eq_true.mp tb_good w h, Bool.or_true]
  · rfl
  · rfl
theorem at_b (hB : BF G Y B) {w : Cond} (h : AT w) : w.before (bA B) (bS B) = true := by
  rcases h with h | ⟨x, rfl, h⟩ | ⟨x, y, rfl, h⟩
  · exact bf_w hB w h
  · exact va_Nw.use rfl (va_Nw.warmD (bf_E hB).1 ((bf_G hB).2.2.2.1 _ h rfl rfl))
  · exact b_cast hB h
theorem a_throwS (hB : BF G Y B) {E text : String} {ik is ic i : Nat} (hE : Bundle.fit E = true) (hk : Cond.classLink (mY Y).cls ik E ∈ TB) (hini : Cond.initialized E ∈ TB) (hs9 : stW[i]? = some ((mY Y).cls, is, text)) (hat : ∀ w ∈ vx_atS (mY Y).cls ic E exN, AT w) (hH : mH Y = [])
    (d0 : decode (mB Y) pc = .ok (.new ik, 3)) (d3 : decode (mB Y) (pc + 3) = .ok (.dup, 1)) (d4 : decode (mB Y) (pc + 4) = .ok (.ldc is, 2)) (d6 : decode (mB Y) (pc + 6) = .ok (.invokespecial ic, 3)) (d9 : decode (mB Y) (pc + 9) = .ok (.athrow, 1))
    (hf : 5 < (mRm Y).frames) (hlo : 82 ≤ (mRm Y).locals) (h1 : k1 + 1 ≤ (mRm Y).cells) (h2 : k2 + 6 ≤ (mRm Y).slots) : AW G Y B (QM G Y B (.inr E) M (dirt φ)) k1 k2 pc ls [] M φ := by
  intro H locs lsA hW hS hl
  refine vx_throwS (A := ga G) (names := exN) (text := text) (sa := gE G (1000 + i)) hB.1 hB.2.1 (bf_G hB).2.1 (bf_own hB) hE (by decide) (bf_w hB _ hk) (bf_w hB _ hini) (vk_R.warm (bf_E hB).1 ((bf_G hB).2.2.2.2.2.1 i _ hs9)) (fun w hw => at_b hB (hat w hw)) (fun w hw => ?_) (zq_of hB (bf_G hB).2.2.2.2.1.1) (zq_of hB (bf_G hB).2.2.2.2.1.2) hS (bf_len hB hl).symm d0 d3 d4 d6 d9 (by rw [bf_T hB, hH]; intro x hx; cases hx) (by rw [bf_R hB]; exact hf) (by rw [bf_R hB]; exact hlo) (by rw [bf_R hB]; exact h1) (by rw [bf_R hB]; exact h2) hB.2.2.2.2.1 (fun t ht hz ho => ⟨⟨rfl, wh_dirt hW hz ho⟩, ⟨Nat.le_trans hS.1 hz, fun q g1 g2 => (ho q (Nat.lt_of_lt_of_le g1 hS.1)).trans (hS.2.1 q g1 g2)⟩⟩) hS.2.2 h1 h2
  have hg : ∀ w ∈ TB, vx_ot w = true := fun w hw => by unfold vx_ot; rw [List.all_eq_true.mp tb_good w hw, Bool.or_true]
  rcases List.mem_cons.mp hw with rfl | hw
  · exact hg _ hk
  · rcases List.mem_cons.mp hw with rfl | hw
    · exact hg _ hini
    · exact at_g (hat w hw)
theorem a_throwSW (hB : BF G Y B) {E text : String} {ik is ic i : Nat} (hE : Bundle.fit E = true) (hk : Cond.classLink (mY Y).cls ik E ∈ TB) (hini : Cond.initialized E ∈ TB) (hs9 : stW[i]? = some ((mY Y).cls, is, text)) (hat : ∀ w ∈ vx_atS (mY Y).cls ic E exN, AT w) (hH : mH Y = [])
    (d0 : decode (mB Y) pc = .ok (.new ik, 3)) (d3 : decode (mB Y) (pc + 3) = .ok (.dup, 1)) (d4 : decode (mB Y) (pc + 4) = .ok (.ldc_w is, 3)) (d7 : decode (mB Y) (pc + 7) = .ok (.invokespecial ic, 3)) (d10 : decode (mB Y) (pc + 10) = .ok (.athrow, 1))
    (hf : 5 < (mRm Y).frames) (hlo : 82 ≤ (mRm Y).locals) (h1 : k1 + 1 ≤ (mRm Y).cells) (h2 : k2 + 6 ≤ (mRm Y).slots) : AW G Y B (QM G Y B (.inr E) M (dirt φ)) k1 k2 pc ls [] M φ := by
  intro H locs lsA hW hS hl
  refine vx_throwSW (A := ga G) (names := exN) (text := text) (sa := gE G (1000 + i)) hB.1 hB.2.1 (bf_G hB).2.1 (bf_own hB) hE (by decide) (bf_w hB _ hk) (bf_w hB _ hini) (vk_R.warm (bf_E hB).1 ((bf_G hB).2.2.2.2.2.1 i _ hs9)) (fun w hw => at_b hB (hat w hw)) (fun w hw => ?_) (zq_of hB (bf_G hB).2.2.2.2.1.1) (zq_of hB (bf_G hB).2.2.2.2.1.2) hS (bf_len hB hl).symm d0 d3 d4 d7 d10 (by rw [bf_T hB, hH]; intro x hx; cases hx) (by rw [bf_R hB]; exact hf) (by rw [bf_R hB]; exact hlo) (by rw [bf_R hB]; exact h1) (by rw [bf_R hB]; exact h2) hB.2.2.2.2.1 (fun t ht hz ho => ⟨⟨rfl, wh_dirt hW hz ho⟩, ⟨Nat.le_trans hS.1 hz, fun q g1 g2 => (ho q (Nat.lt_of_lt_of_le g1 hS.1)).trans (hS.2.1 q g1 g2)⟩⟩) hS.2.2 h1 h2
  have hg : ∀ w ∈ TB, vx_ot w = true := fun w hw => by unfold vx_ot; rw [List.all_eq_true.mp tb_good w hw, Bool.or_true]
  rcases List.mem_cons.mp hw with rfl | hw
  · exact hg _ hk
  · rcases List.mem_cons.mp hw with rfl | hw
    · exact hg _ hini
    · exact at_g (hat w hw)
/-! literals: the i-th is the cell 1000 + i, its bytes the cell 1200 + i -/
theorem a_ldcS (hB : BF G Y B) {is i : Nat} {text : String} (hs9 : stW[i]? = some ((mY Y).cls, is, text)) (hdg : decode (mB Y) pc = .ok (.ldc is, 2)) (K : AW G Y B Qm k1 k2 (pc + 2) ls (.ref (1000 + i) :: st) M φ) : AW G Y B Qm k1 k2 pc ls st M φ := by
  intro H locs lsA hW hS hl
  have := K H locs lsA hW hS hl
  refine va_ldcS hB.1 hB.2.1 (bf_own hB) (vk_R.warm (bf_E hB).1 ((bf_G hB).2.2.2.2.2.1 i _ hs9)) hdg ?_
  rw [trS_x (a := (1000 + i)) (by omega)] at this
  exact this
theorem a_ldcSW (hB : BF G Y B) {is i : Nat} {text : String} (hs9 : stW[i]? = some ((mY Y).cls, is, text)) (hdg : decode (mB Y) pc = .ok (.ldc_w is, 3)) (K : AW G Y B Qm k1 k2 (pc + 3) ls (.ref (1000 + i) :: st) M φ) : AW G Y B Qm k1 k2 pc ls st M φ := by
  intro H locs lsA hW hS hl T hT X
  obtain ⟨t, a1, b1⟩ := K H locs lsA hW hS hl T hT X
  have hv := vk_R.warm (bf_E hB).1 ((bf_G hB).2.2.2.2.2.1 i _ hs9)
  rw [trS_x (a := (1000 + i)) (by omega)] at a1
  exact ⟨t, X.ldcStringW hB.1 (bf_own hB) (text := text) (index := is) (a := gE G (1000 + i)) hv.1 hv.2 (g := F0 (bM B) pc lsA (trS G st)) rfl (by rw [hB.2.1]; exact hdg) t a1, b1⟩
theorem vk_of (hB : BF G Y B) {i : Nat} (hi : i < 47) : vk_S 1 [(stB i).length] [stB i] (fun _ => gE G (1000 + i)) (fun _ => gE G (1200 + i)) (ga G) (bS B) (bS B).heap :=
  vk_S.kept (vk_S.moved (bf_E hB).1.alike ((bf_G hB).2.2.2.2.2.2.1 i hi)) (fun a h1 h2 => (bf_E hB).2.2 a h1)
theorem a_strVal (hB : BF G Y B) {i idx : Nat} (hi : i < 47) (hL : Cond.fieldLink (mY Y).cls idx "java/lang/String" "value" "[B" ∈ TB) (hdg : decode (mB Y) pc = .ok (.getfield idx, 3)) (K : AW G Y B Qm k1 k2 (pc + 3) ls (.ref (1200 + i) :: st) M φ) : AW G Y B Qm k1 k2 pc ls (.ref (1000 + i) :: st) M φ := by
  intro H locs lsA hW hS hl
  have := K H locs lsA hW hS hl
  rw [trS_x (a := (1200 + i)) (by omega)] at this
  rw [trS_x (a := (1000 + i)) (by omega)]
  exact vk_getf hB.1 hB.2.1 ((vk_of hB hi).1 0 (by decide)).2.2.1 hS (bf_own hB) (bf_w hB _ hL) (fun _ h => h) hdg this
theorem a_strCod (hB : BF G Y B) {i idx : Nat} (hi : i < 47) (hL : Cond.fieldLink (mY Y).cls idx "java/lang/String" "coder" "B" ∈ TB) (hdg : decode (mB Y) pc = .ok (.getfield idx, 3)) (K : AW G Y B Qm k1 k2 (pc + 3) ls (.int 0 :: st) M φ) : AW G Y B Qm k1 k2 pc ls (.ref (1000 + i) :: st) M φ := by
  intro H locs lsA hW hS hl
  have := K H locs lsA hW hS hl
  rw [trS_x (a := (1000 + i)) (by omega)]
  exact vk_getf hB.1 hB.2.1 ((vk_of hB hi).1 0 (by decide)).2.1 hS (bf_own hB) (bf_w hB _ hL) (fun _ h => h) hdg this
theorem a_baldE (hB : BF G Y B) {i : Nat} {j : Int32} (hi : i < 47) (hin : iin j (stB i).length) (hdg : decode (mB Y) pc = .ok (.baload, 1)) (K : AW G Y B Qm k1 k2 (pc + 1) ls (.int ((stB i).getD (ix j) 0) :: st) M φ) : AW G Y B Qm k1 k2 pc ls (.int j :: .ref (1200 + i) :: st) M φ := by
  intro H locs lsA hW hS hl
  have := K H locs lsA hW hS hl
  rw [trS_ix (a := (1200 + i)) (by omega)]
  exact va_tb hB.1 hB.2.1 ((vk_of hB hi).1 0 (by decide)).2.2.2 hS hin (v := .int ((stB i).getD (ix j) 0)) rfl hdg this
theorem a_alenE (hB : BF G Y B) {i : Nat} (hi : i < 47) (hdg : decode (mB Y) pc = .ok (.arraylength, 1)) (K : AW G Y B Qm k1 k2 (pc + 1) ls (.int (Int32.ofNat (stB i).length) :: st) M φ) : AW G Y B Qm k1 k2 pc ls (.ref (1200 + i) :: st) M φ := by
  intro H locs lsA hW hS hl
  have := K H locs lsA hW hS hl
  rw [trS_x (a := (1200 + i)) (by omega)]
  exact va_tlen hB.1 hB.2.1 ((vk_of hB hi).1 0 (by decide)).2.2.2 hS rfl hdg this
theorem ar_VS (hB : BF G Y B) {Y2 : MI} {o : Ot} {M1 : Mm} {φ1 : Ph} {i n idx : Nat} {As st0 rest : List Value} (hi : i < 47) (hcls : (mY Y2).cls = "java/lang/String") (hC : CT G Y2 (.ref (1000 + i) :: As) M φ o M1 φ1) (hL : Cond.methodLink (mY Y).cls idx (mY Y2) ∈ TB) (hD : MDv Y2 n) (hn : As.length = n) (hst : st0 = As.reverse ++ .ref (1000 + i) :: rest) (hcat : (rest.map fun v => v.category).sum ≤ 8) (hR : RMok Y2 Y k1 k2) (hdg : decode (mB Y) pc = .ok (.invokevirtual idx, 3)) : AR G Y B k1 k2 Y2 pc st0 rest M φ o M1 φ1 := by
  intro H locs lsA hW hS hl
  have hrv := vk_recv (i := 0) (vk_of hB hi) (by decide) hS
  refine ⟨_, vx_runV (C := (mY Y2).cls) (b := th G (1000 + i)) (As := trS G As) (n := n) (cc := mB Y) (nL := mL Y) (Ts := TB) ⟨hB.1, hB.2.1, hB.2.2.1, bf_own hB, bf_w hB⟩ hC (cwV n (bf_w hB) (tb_sub ?_) (wd_eq hD.2.2.1) rfl rfl ⟨rfl, hD.2.2.2.2.2⟩ (by rw [bf_R hB]; exact hR.1)) ⟨wu_blind, by rw [hcls, th_x (by omega)]; exact hrv, fun U hU hWm => ⟨rfl, eo_of hB hS hU hWm, by rw [hU]; exact hW⟩⟩ rfl (by rw [trS_len]; exact hn) hl (trS_stack hst) (lv_room (by rw [trS_cat]; exact hcat)) hdg (by rw [bf_R hB]; exact hR.2)⟩
  intro w hw
  unfold wsV at hw
  rcases List.mem_append.mp hw with h | h
  · simp only [List.mem_cons, List.not_mem_nil, or_false] at h
    rcases h with rfl | rfl | rfl | rfl
    · exact hL
    · exact hD.1
    · exact hD.2.1
    · exact hD.2.2.2.1
  · exact wd_in hD.2.2.2 w h
/-! the script: the cell 2000 -/
theorem vX_of (hB : BF G Y B) : va_X (gE G 2000) (gN G) (gX G) (bS B) (bS B).heap :=
  va_X.kept (va_X.moved (bf_E hB).1.alike (bf_G hB).2.2.1.1) ((bf_E hB).2.2 _ (bf_G hB).2.2.1.2.1)
theorem a_sld (hB : BF G Y B) {j : Int32} (hin : iin j (gN G)) (hdg : decode (mB Y) pc = .ok (.iaload, 1)) (K : AW G Y B Qm k1 k2 (pc + 1) ls (.int (gX G (ix j)) :: st) M φ) : AW G Y B Qm k1 k2 pc ls (.int j :: .ref 2000 :: st) M φ := by
  intro H locs lsA hW hS hl
  have := K H locs lsA hW hS hl
  rw [trS_ix (a := 2000) (by omega)]
  exact va_sld hB.1 hB.2.1 (vX_of hB) (Nat.lt_of_lt_of_le (bf_G hB).2.2.1.2.1 (bf_E hB).2.1) (Nat.not_le.mpr (bf_G hB).2.2.1.2.1) hS hin hdg this
theorem a_slen (hB : BF G Y B) (hdg : decode (mB Y) pc = .ok (.arraylength, 1)) (K : AW G Y B Qm k1 k2 (pc + 1) ls (.int (Int32.ofNat (gN G)) :: st) M φ) : AW G Y B Qm k1 k2 pc ls (.ref 2000 :: st) M φ := by
  intro H locs lsA hW hS hl
  have := K H locs lsA hW hS hl
  rw [trS_x (a := 2000) (by omega)]
  exact va_slen hB.1 hB.2.1 (vX_of hB) (Nat.lt_of_lt_of_le (bf_G hB).2.2.1.2.1 (bf_E hB).2.1) (Nat.not_le.mpr (bf_G hB).2.2.1.2.1) hS hdg this
/-! statics -/
theorem a_gsCos (hB : BF G Y B) {idx : Nat} (hL : Cond.fieldLink (mY Y).cls idx RX4 "COSINES" "[I" ∈ TB) (hdg : decode (mB Y) pc = .ok (.getstatic idx, 3)) (K : AW G Y B Qm k1 k2 (pc + 3) ls (.ref 1100 :: st) M φ) : AW G Y B Qm k1 k2 pc ls st M φ := by
  intro H locs lsA hW hS hl
  have := K H locs lsA hW hS hl
  rw [trS_x (a := 1100) (by omega)] at this
  exact va_gets hB.1 hB.2.1 (va_Z.kept (va_Z.moved (bf_E hB).1.alike (bf_G hB).2.2.2.2.2.2.2.1.1) (fun a h1 h2 => (bf_E hB).2.2 a h1)) hS (bf_own hB) (bf_w hB _ hL) (fun _ h => h) hdg this
theorem a_ialdC (hB : BF G Y B) {j : Int32} (hin : iin j 7) (hdg : decode (mB Y) pc = .ok (.iaload, 1)) (K : AW G Y B Qm k1 k2 (pc + 1) ls (.int (cosL.getD (ix j) 0) :: st) M φ) : AW G Y B Qm k1 k2 pc ls (.int j :: .ref 1100 :: st) M φ := by
  intro H locs lsA hW hS hl
  have := K H locs lsA hW hS hl
  rw [trS_ix (a := 1100) (by omega)]
  exact va_ti hB.1 hB.2.1 (va_T.kept (va_T.moved (bf_E hB).1.alike (bf_G hB).2.2.2.2.2.2.2.1.2.1) (fun a h1 h2 => (bf_E hB).2.2 a h1)) hS hin (v := .int (cosL.getD (ix j) 0)) rfl hdg this
theorem a_gsCmp (hB : BF G Y B) {idx : Nat} (hL : Cond.fieldLink (mY Y).cls idx "java/lang/String" "COMPACT_STRINGS" "Z" ∈ TB) (hdg : decode (mB Y) pc = .ok (.getstatic idx, 3)) (K : AW G Y B Qm k1 k2 (pc + 3) ls (.int 1 :: st) M φ) : AW G Y B Qm k1 k2 pc ls st M φ := by
  intro H locs lsA hW hS hl
  have := K H locs lsA hW hS hl
  exact va_gets hB.1 hB.2.1 (va_Z.kept (va_Z.moved (bf_E hB).1.alike (bf_G hB).2.2.2.2.2.2.2.1.2.2) (fun a h1 h2 => (bf_E hB).2.2 a h1)) hS (bf_own hB) (bf_w hB _ hL) (fun _ h => h) hdg this
/-- the formatter of StringIndexOutOfBoundsException: null, or an object that nobody looks at -/
theorem a_gsFmt (hB : BF G Y B) {idx : Nat} (hL : Cond.fieldLink (mY Y).cls idx "jdk/internal/util/Preconditions" "SIOOBE_FORMATTER" "Ljava/util/function/BiFunction;" ∈ TB) (hdg : decode (mB Y) pc = .ok (.getstatic idx, 3)) (K : ∀ v : Value, v = .null ∨ v = .ref 2100 → AW G Y B Qm k1 k2 (pc + 3) ls (v :: st) M φ) : AW G Y B Qm k1 k2 pc ls st M φ := by
  intro H locs lsA hW hS hl
  rcases (bf_G hB).2.2.2.2.2.2.2.2.2.2.1 with h | h
  · have := K .null (Or.inl rfl) H locs lsA hW hS hl
    exact va_gets hB.1 hB.2.1 (va_Z.kept (va_Z.moved (bf_E hB).1.alike h) (fun a h1 h2 => (bf_E hB).2.2 a h1)) hS (bf_own hB) (bf_w hB _ hL) (fun _ h => h) hdg this
  · have := K (.ref 2100) (Or.inr rfl) H locs lsA hW hS hl
    rw [trS_x (a := 2100) (by omega)] at this
    exact va_gets hB.1 hB.2.1 (va_Z.kept (va_Z.moved (bf_E hB).1.alike h) (fun a h1 h2 => (bf_E hB).2.2 a h1)) hS (bf_own hB) (bf_w hB _ hL) (fun _ h => h) hdg this
/-! Math.min, max, abs -/
theorem a_min (hB : BF G Y B) {idx : Nat} {x y : Int32} (hL : Cond.methodLink (mY Y).cls idx Lib.Math.min.name ∈ TB) (hs9 : Cond.static Lib.Math.min.name ∈ TB) (hi : Cond.initialized "java/lang/Math" ∈ TB) (hc : Cond.code Lib.Math.min.name Lib.Math.min.code 2 (some .int) ∈ TB) (hf : 1 ≤ (mRm Y).frames) (hlo : (st.map fun v => v.category).sum + 13 ≤ (mRm Y).locals) (h1 : k1 ≤ (mRm Y).cells) (h2 : k2 ≤ (mRm Y).slots) (hdg : decode (mB Y) pc = .ok (.invokestatic idx, 3)) (K : AW G Y B Qm k1 k2 (pc + 3) ls (.int (if y < x then y else x) :: st) M φ) : AW G Y B Qm k1 k2 pc ls (.int y :: .int x :: st) M φ :=
  fun H locs lsA hW hS hl => va_mmin hB.1 hB.2.1 (bf_len hB hl) (bf_own hB) (bf_w hB _ hL) (bf_w hB _ hs9) (bf_w hB _ hi) (bf_w hB _ hc) (by rw [bf_R hB]; exact hf) (by rw [bf_R hB]; exact Nat.le_trans (Nat.le_of_eq (congrArg (· + 13) (trS_cat G st))) hlo) (by rw [bf_R hB]; exact h1) (by rw [bf_R hB]; exact h2) hdg (K H locs lsA hW hS hl)
theorem a_max (hB : BF G Y B) {idx : Nat} {x y : Int32} (hL : Cond.methodLink (mY Y).cls idx Lib.Math.max.name ∈ TB) (hs9 : Cond.static Lib.Math.max.name ∈ TB) (hi : Cond.initialized "java/lang/Math" ∈ TB) (hc : Cond.code Lib.Math.max.name Lib.Math.max.code 2 (some .int) ∈ TB) (hf : 1 ≤ (mRm Y).frames) (hlo : (st.map fun v => v.category).sum + 13 ≤ (mRm Y).locals) (h1 : k1 ≤ (mRm Y).cells) (h2 : k2 ≤ (mRm Y).slots) (hdg : decode (mB Y) pc = .ok (.invokestatic idx, 3)) (K : AW G Y B Qm k1 k2 (pc + 3) ls (.int (if x < y then y else x) :: st) M φ) : AW G Y B Qm k1 k2 pc ls (.int y :: .int x :: st) M φ :=
  fun H locs lsA hW hS hl => va_mmax hB.1 hB.2.1 (bf_len hB hl) (bf_own hB) (bf_w hB _ hL) (bf_w hB _ hs9) (bf_w hB _ hi) (bf_w hB _ hc) (by rw [bf_R hB]; exact hf) (by rw [bf_R hB]; exact Nat.le_trans (Nat.le_of_eq (congrArg (· + 13) (trS_cat G st))) hlo) (by rw [bf_R hB]; exact h1) (by rw [bf_R hB]; exact h2) hdg (K H locs lsA hW hS hl)
theorem a_abs (hB : BF G Y B) {idx : Nat} {x : Int32} (hL : Cond.methodLink (mY Y).cls idx Lib.Math.abs.name ∈ TB) (hs9 : Cond.static Lib.Math.abs.name ∈ TB) (hi : Cond.initialized "java/lang/Math" ∈ TB) (hc : Cond.code Lib.Math.abs.name Lib.Math.abs.code 1 (some .int) ∈ TB) (hf : 1 ≤ (mRm Y).frames) (hlo : (st.map fun v => v.category).sum + 13 ≤ (mRm Y).locals) (h1 : k1 ≤ (mRm Y).cells) (h2 : k2 ≤ (mRm Y).slots) (hdg : decode (mB Y) pc = .ok (.invokestatic idx, 3)) (K : AW G Y B Qm k1 k2 (pc + 3) ls (.int (if 0 ≤ x then x else 0 - x) :: st) M φ) : AW G Y B Qm k1 k2 pc ls (.int x :: st) M φ :=
  fun H locs lsA hW hS hl => va_mabs hB.1 hB.2.1 (bf_len hB hl) (bf_own hB) (bf_w hB _ hL) (bf_w hB _ hs9) (bf_w hB _ hi) (bf_w hB _ hc) (by rw [bf_R hB]; exact hf) (by rw [bf_R hB]; exact Nat.le_trans (Nat.le_of_eq (congrArg (· + 13) (trS_cat G st))) hlo) (by rw [bf_R hB]; exact h1) (by rw [bf_R hB]; exact h2) hdg (K H locs lsA hW hS hl)
theorem a_absJ (hB : BF G Y B) {idx : Nat} {x : Int64} (hL : Cond.methodLink (mY Y).cls idx Lib.MathLoose.abs_long.x ∈ TB) (hs9 : Cond.static Lib.MathLoose.abs_long.x ∈ TB) (hi : Cond.initialized "java/lang/Math" ∈ TB) (hc : Cond.code Lib.MathLoose.abs_long.x Lib.MathLoose.abs_long.code 2 (some .long) ∈ TB) (hf : 1 ≤ (mRm Y).frames) (hlo : (st.map fun v => v.category).sum + 13 ≤ (mRm Y).locals) (h1 : k1 ≤ (mRm Y).cells) (h2 : k2 ≤ (mRm Y).slots) (hdg : decode (mB Y) pc = .ok (.invokestatic idx, 3)) (K : AW G Y B Qm k1 k2 (pc + 3) ls (.long (if 0 < x then x else -x) :: st) M φ) : AW G Y B Qm k1 k2 pc ls (.long x :: st) M φ :=
  fun H locs lsA hW hS hl => va_mabs_long hB.1 hB.2.1 (bf_len hB hl) (bf_own hB) (bf_w hB _ hL) (bf_w hB _ hs9) (bf_w hB _ hi) (bf_w hB _ hc) (by rw [bf_R hB]; exact hf) (by rw [bf_R hB]; exact Nat.le_trans (Nat.le_of_eq (congrArg (· + 13) (trS_cat G st))) hlo) (by rw [bf_R hB]; exact h1) (by rw [bf_R hB]; exact h2) hdg (K H locs lsA hW hS hl)
end AWM
