/-! reads and writes of the system's own cells -/
def CK (ci : Nat) (C : String) (T : u_T) (N : Nat) (ty0 : Nat → FieldType) : Prop :=
  clL[ci]? = some (C, T, N) ∧ N = nf ci ∧ ci < 10 ∧ (∀ w ∈ u_ws C T N, w ∈ TB) ∧ (∀ k, k < N → parseFieldDescriptor (T k).2.2.1 = some (ty0 k)) ∧ (∀ a, a < N → ∀ b, b < N → a ≠ b → (T a).2.1 ≠ (T b).2.1)
/-- a field's place by the pool of a class -/
def FL (own : String) (idx ci k : Nat) : Prop := ∃ (C : String) (T : u_T) (N : Nat) (ty0 : Nat → FieldType), CK ci C T N ty0 ∧ k < N ∧ Cond.fieldLink own idx (T k).1 (T k).2.1 (T k).2.2.1 ∈ TB
def FW (own : String) (idx ci k : Nat) (ty : FieldType) : Prop := ∃ (C : String) (T : u_T) (N : Nat) (ty0 : Nat → FieldType), CK ci C T N ty0 ∧ k < N ∧ Cond.fieldLink own idx (T k).1 (T k).2.1 (T k).2.2.1 ∈ TB ∧ (T k).2.2.2 = false ∧ parseFieldDescriptor (T k).2.2.1 = some ty
def FF (own : String) (idx ci k : Nat) (ty : FieldType) : Prop := ∃ (C : String) (T : u_T) (N : Nat) (ty0 : Nat → FieldType), CK ci C T N ty0 ∧ k < N ∧ Cond.fieldLink own idx (T k).1 (T k).2.1 (T k).2.2.1 ∈ TB ∧ (T k).2.2.2 = true ∧ parseFieldDescriptor (T k).2.2.1 = some ty ∧ (T k).1 = own
theorem th_in {G : Gt} {M : Mm} {φ : Ph} {H : Heap} {a : Nat} (hW : WH G M φ H) (ha : a < φ.2.1) : th G a = gc G + a := if_pos (by have := hW.2.2.1; omega)
theorem ga_in {G : Gt} {M : Mm} {φ : Ph} {H : Heap} {a : Nat} (hW : WH G M φ H) (ha : a < φ.2.1) : ga G (th G a) := by
  rw [th_in hW ha]; show gb G ≤ gb G + 1 + a; omega
theorem wh_at {G : Gt} {M : Mm} {φ : Ph} {H : Heap} {a : Nat} (hW : WH G M φ H) (ha : a < φ.2.1) : va_at (gD G) clL (th G a, cellOf G M φ a) H := by
  rw [th_in hW ha]; exact hW.1 a ha
theorem cell_obj {G : Gt} {M : Mm} {φ : Ph} {a ci : Nat} (hk : kd a = ci) (hc : ci < 10) : cellOf G M φ a = .inr (ci, (List.range (nf ci)).map (fv G M φ a)) := by
  subst hk; unfold cellOf; rw [if_pos hc]
theorem cell_str {G : Gt} {M : Mm} {φ : Ph} {a : Nat} (hk : kd a = 15) : cellOf G M φ a = .inl (gAr G 11, gT G, .inl (M a)) := by
  unfold cellOf; rw [if_neg (by omega), if_neg (by omega), if_neg (by omega), if_pos hk]
theorem cell_int {G : Gt} {M : Mm} {φ : Ph} {a t : Nat} (hk : kd a = t) (hc : t = 10 ∨ t = 11 ∨ t = 12) : cellOf G M φ a = .inl (gAr G t, ln a, .inl (M a)) := by
  subst hk; unfold cellOf; rw [if_neg (by omega), if_neg (by omega), if_neg (by omega), if_neg (by omega)]
theorem cell_long {G : Gt} {M : Mm} {φ : Ph} {a : Nat} (hk : kd a = 13) : cellOf G M φ a = .inl (gAr G 13, ln a, .inr (.inl (fun _ => rdJ M a))) := by
  unfold cellOf; rw [if_neg (by omega), if_pos hk]
theorem cell_ref {G : Gt} {M : Mm} {φ : Ph} {a : Nat} (hk : kd a = 14) : cellOf G M φ a = .inl (gAr G 14, ln a, .inr (.inr (.inr (.inr (fun j => if φ.1 a j = true then some (th G (tg a j - 1)) else none))))) := by
  unfold cellOf; rw [if_neg (by omega), if_neg (by omega), if_pos hk]
theorem cell_oth {G : Gt} {M M' : Mm} {φ φ' : Ph} {a : Nat} (h : ∀ j, M' a j = M a j) (h2 : ∀ j, φ'.1 a j = φ.1 a j) : cellOf G M' φ' a = cellOf G M φ a := by
  have e : M' a = M a := funext h
  have e2 : φ'.1 a = φ.1 a := funext h2
  unfold cellOf fv rdJ
  rw [e, e2]
/-- one cell is written -/
theorem wh_set {G : Gt} {M M' : Mm} {φ φ' : Ph} {H H' : Heap} {a : Nat} (hW : WH G M φ H) (ha : a < φ.2.1) (h0 : va_at (gD G) clL (th G a, cellOf G M' φ' a) H') (hz : H'.size = H.size) (ho : ∀ q, q ≠ th G a → H'[q]? = H[q]?) (hM : ∀ b, b ≠ a → ∀ j, M' b j = M b j) (hN : ∀ b, b ≠ a → ∀ j, φ'.1 b j = φ.1 b j) (hφ : φ'.2 = φ.2) : WH G M' φ' H' := by
  have ht := th_in hW ha
  refine ⟨fun b hb => ?_, ?_, by rw [hφ]; exact hW.2.2.1, by rw [hφ, hz]; exact hW.2.2.2.1, hW.2.2.2.2.1, ?_⟩
  · rw [hφ] at hb
    by_cases e : b = a
    · subst e; rw [← ht]; exact h0
    · rw [cell_oth (hM b e) (hN b e)]
      exact (hW.1 b hb).kept (ho _ (by rw [ht]; show gc G + b ≠ gc G + a; omega))
  · rw [hφ, hz]; exact hW.2.1
  · have h9 : M' 1999 = M 1999 := funext fun j => hM 1999 (by have := hW.2.2.1; omega) j
    rw [h9]; exact hW.2.2.2.2.2.kept (ho _ (by rw [ht]; show gb G ≠ gb G + 1 + a; omega))
section AWH
variable {G : Gt} {Y : MI} {B : Bag} {Qm : State → Prop} {k1 k2 pc : Nat} {ls : List (Nat × Value)} {st : List Value} {M : Mm} {φ : Ph}
theorem hK_of (hB : BF G Y B) : va_K (gD G) clL (tyK G) (bS B) := va_K.moved hB.2.2.2.2.2.2.2.2.2.2.1.1.alike hB.2.2.2.2.2.2.2.2.2.2.2.1.1
theorem a_getF (hB : BF G Y B) {a idx k ci : Nat} {v : Value} (hdg : decode (mB Y) pc = .ok (.getfield idx, 3)) (hf : FL (mY Y).cls idx ci k) (ha : a < φ.2.1) (hk : kd a = ci) (hv : fv G M φ a k = tr G v) (K : AW G Y B Qm k1 k2 (pc + 3) ls (v :: st) M φ) : AW G Y B Qm k1 k2 pc ls (.ref a :: st) M φ := by
  intro H locs lsA hW hS hl
  obtain ⟨C, T, N, ty0, ⟨c1, c2, c3, c4, c5, c6⟩, hk9, hlink⟩ := hf
  have h1 := wh_at hW ha
  rw [cell_obj hk c3] at h1
  have hP : va_P (gD G) clL [(th G a, .inr (ci, (List.range (nf ci)).map (fv G M φ a)))] H := by
    intro j q hq
    match j, hq with
    | 0, hq => cases hq; exact h1
    | j + 1, hq => simp at hq
  refine va_get (D := gD G) (cl := clL) (tys := tyK G) (C := C) (T := T) (N := N) (ci := ci) (ref := (T k).1) (a := th G a) hB.1 hB.2.1 hB.2.2.2.2.2.2.1 c4 hB.2.2.2.2.2.2.2.1 (hK_of hB) hP 0 rfl c1 k hk9 (hB.2.2.2.2.2.2.1 _ hlink) (fun _ h => h) (v := tr G v) ?_ hdg (K H locs lsA hW hS hl)
  rw [List.getElem?_map, List.getElem?_range (by rw [← c2]; exact hk9), Option.map_some, hv]
theorem a_getI (hB : BF G Y B) {a idx k ci : Nat} (hdg : decode (mB Y) pc = .ok (.getfield idx, 3)) (hf : FL (mY Y).cls idx ci k) (ha : a < φ.2.1) (hk : kd a = ci) (ht : tg a k = 0) (K : AW G Y B Qm k1 k2 (pc + 3) ls (.int (M a k) :: st) M φ) : AW G Y B Qm k1 k2 pc ls (.ref a :: st) M φ :=
  a_getF hB hdg hf ha hk (v := .int (M a k)) (by unfold fv; rw [if_pos ht]; rfl) K
theorem a_getR (hB : BF G Y B) {a idx k ci r : Nat} (hdg : decode (mB Y) pc = .ok (.getfield idx, 3)) (hf : FL (mY Y).cls idx ci k) (ha : a < φ.2.1) (hk : kd a = ci) (ht : tg a k = r + 1) (hN : φ.1 a k = true) (K : AW G Y B Qm k1 k2 (pc + 3) ls (.ref r :: st) M φ) : AW G Y B Qm k1 k2 pc ls (.ref a :: st) M φ :=
  a_getF hB hdg hf ha hk (v := .ref r) (by unfold fv; rw [if_neg (by omega), if_pos hN, ht]; rfl) K
theorem a_putF (hB : BF G Y B) {a idx k ci : Nat} {v : Value} {ty : FieldType} {M' : Mm} {φ' : Ph} (hdg : decode (mB Y) pc = .ok (.putfield idx, 3)) (hf : FW (mY Y).cls idx ci k ty) (ha : a < φ.2.1) (hk : kd a = ci) (hn : narrow ty (tr G v) = tr G v) (hfit : fits ty (tr G v) = true)
    (hv : fv G M' φ' a k = tr G v) (ho : ∀ j, j ≠ k → fv G M' φ' a j = fv G M φ a j) (hM : ∀ b, b ≠ a → ∀ j, M' b j = M b j) (hN : ∀ b, b ≠ a → ∀ j, φ'.1 b j = φ.1 b j) (hφ : φ'.2 = φ.2)
    (K : AW G Y B Qm k1 k2 (pc + 3) ls st M' φ') : AW G Y B Qm k1 k2 pc ls (v :: .ref a :: st) M φ := by
  intro H locs lsA hW hS hl
  obtain ⟨C, T, N, ty0, ⟨c1, c2, c3, c4, c5, c6⟩, hk9, hlink, hfin, hd⟩ := hf
  have h1 := wh_at hW ha
  rw [cell_obj hk c3] at h1
  have hKs := hK_of hB
  have hap := va_apart (own := (mY Y).cls) hB.2.2.2.2.2.2.1 c4 ty0 c5 c6 hKs c1
  obtain ⟨r, h2, cell, q1, q2, q3, q4⟩ := h1
  have hr : r = (C, T, N) := Option.some.inj (h2.symm.trans c1)
  subst hr
  obtain ⟨hSl, hfc, kC, hkC, hkind⟩ := hKs.1 ci _ c1
  obtain ⟨cf, kf, fi, f, hi, hsl⟩ := hSl k hk9
  have hlay := hB.2.2.2.2.2.2.1 _ (c4 _ (u_in_lay hk9))
  unfold u_lay at hlay
  rw [if_neg (by rw [hfin]; decide)] at hlay
  have hst := (u_facts hfc hkC (u_lays hB.2.2.2.2.2.2.1 c4 hk9) hi).1
  have h6 := u_store hfc hkC hkind hlay hi hd hn hfit
  refine W.putK (ref := (T k).1) hB.1 hB.2.1 (f := f) ⟨hB.2.2.2.2.2.2.2.1, hB.2.2.2.2.2.2.1 _ hlink, ⟨_, _, _, hi⟩, hst⟩ (by rw [q2]; exact h6) q1 q3 (by rw [hsl]; exact k2_hasslot (q4 k hk9)) rfl rfl hdg fun H' e1 e2 e3 => ?_
  rw [hsl] at e1 ⊢
  have hWn : WH G M' φ' H' := by
    refine wh_set hW ha ?_ e2 e3 hM hN hφ
    rw [cell_obj hk c3]
    refine ⟨_, c1, t_OB.to (V := updV (vp_V ((List.range (nf ci)).map (fv G M φ a))) k (tr G v)) ⟨_, e1, q2, q3, t_set q4 hap hk9 (tr G v)⟩ (fun j hj => ?_)⟩
    have hj' : j < nf ci := by rw [← c2]; exact hj
    unfold updV vp_V
    by_cases e : j = k
    · subst e
      rw [if_pos rfl, List.getD_eq_getElem?_getD, List.getElem?_map, List.getElem?_range hj', Option.map_some, Option.getD_some, hv]
    · rw [if_neg e, List.getD_eq_getElem?_getD, List.getElem?_map, List.getElem?_range hj', List.getD_eq_getElem?_getD, List.getElem?_map, List.getElem?_range hj']
      simp only [Option.map_some, Option.getD_some]
      rw [ho j e]
  exact K H' _ lsA hWn (hS.put e2 e3 (ga_in hW ha)) hl
theorem a_putFinF (hB : BF G Y B) {a idx k ci : Nat} {v : Value} {ty : FieldType} {M' : Mm} {φ' : Ph} (hinit : (mY Y).name = "<init>") (hdg : decode (mB Y) pc = .ok (.putfield idx, 3)) (hf : FF (mY Y).cls idx ci k ty) (ha : a < φ.2.1) (hk : kd a = ci) (hn : narrow ty (tr G v) = tr G v) (hfit : fits ty (tr G v) = true)
    (hv : fv G M' φ' a k = tr G v) (ho : ∀ j, j ≠ k → fv G M' φ' a j = fv G M φ a j) (hM : ∀ b, b ≠ a → ∀ j, M' b j = M b j) (hN : ∀ b, b ≠ a → ∀ j, φ'.1 b j = φ.1 b j) (hφ : φ'.2 = φ.2)
    (K : AW G Y B Qm k1 k2 (pc + 3) ls st M' φ') : AW G Y B Qm k1 k2 pc ls (v :: .ref a :: st) M φ := by
  intro H locs lsA hW hS hl
  obtain ⟨C, T, N, ty0, ⟨c1, c2, c3, c4, c5, c6⟩, hk9, hlink, hfin, hd, hdecl⟩ := hf
  have h1 := wh_at hW ha
  rw [cell_obj hk c3] at h1
  have hKs := hK_of hB
  have hap := va_apart (own := (mY Y).cls) hB.2.2.2.2.2.2.1 c4 ty0 c5 c6 hKs c1
  obtain ⟨r, h2, cell, q1, q2, q3, q4⟩ := h1
  have hr : r = (C, T, N) := Option.some.inj (h2.symm.trans c1)
  subst hr
  obtain ⟨hSl, hfc, kC, hkC, hkind⟩ := hKs.1 ci _ c1
  obtain ⟨cf, kf, fi, f, hi, hsl⟩ := hSl k hk9
  have hlay := hB.2.2.2.2.2.2.1 _ (c4 _ (u_in_lay hk9))
  unfold u_lay at hlay
  rw [if_pos hfin] at hlay
  have hst := (u_facts hfc hkC (u_lays hB.2.2.2.2.2.2.1 c4 hk9) hi).1
  have hcf : (bM B).cls = cf := by
    obtain ⟨_, _, c', _, _, _, -, -, hf', -, -, -, hown2, -⟩ := Cond.laysFinal_spec hlay
    have e1 : c' = cf := by have := hi.symm.trans hf'; simp at this; exact this.1.symm
    rw [hdecl] at hown2
    rw [← e1]; exact Option.some.inj (hB.2.2.2.2.2.2.2.1.symm.trans hown2)
  have h6 := u_fits hfc hkC hkind (Or.inr hlay) hi hd hn hfit
  refine W.putFinK hB.1 hB.2.1 hB.2.2.2.2.2.2.2.1 (hB.2.2.2.2.2.2.1 _ hlink) hi hst hcf (hB.2.2.2.2.2.2.2.2.1.trans hinit) (by rw [q2]; exact h6) q1 q3 (by rw [hsl]; exact k2_hasslot (q4 k hk9)) rfl rfl hdg fun H' e1 e2 e3 => ?_
  rw [hsl] at e1 ⊢
  have hWn : WH G M' φ' H' := by
    refine wh_set hW ha ?_ e2 e3 hM hN hφ
    rw [cell_obj hk c3]
    refine ⟨_, c1, t_OB.to (V := updV (vp_V ((List.range (nf ci)).map (fv G M φ a))) k (tr G v)) ⟨_, e1, q2, q3, t_set q4 hap hk9 (tr G v)⟩ (fun j hj => ?_)⟩
    have hj' : j < nf ci := by rw [← c2]; exact hj
    unfold updV vp_V
    by_cases e : j = k
    · subst e
      rw [if_pos rfl, List.getD_eq_getElem?_getD, List.getElem?_map, List.getElem?_range hj', Option.map_some, Option.getD_some, hv]
    · rw [if_neg e, List.getD_eq_getElem?_getD, List.getElem?_map, List.getElem?_range hj', List.getD_eq_getElem?_getD, List.getElem?_map, List.getElem?_range hj']
      simp only [Option.map_some, Option.getD_some]
      rw [ho j e]
  exact K H' _ lsA hWn (hS.put e2 e3 (ga_in hW ha)) hl
theorem fv_wr_s {G : Gt} {M : Mm} {φ : Ph} {a k : Nat} {x : Int32} (ht : tg a k = 0) : fv G (wr M a k x) φ a k = .int x := by unfold fv; rw [if_pos ht, wr_s]
theorem fv_wr_n {G : Gt} {M : Mm} {φ : Ph} {a k j : Nat} {x : Int32} (h : j ≠ k) : fv G (wr M a k x) φ a j = fv G M φ a j := by unfold fv; rw [wr_n (fun q => h q.2)]
theorem wr_ob {M : Mm} {a k : Nat} {x : Int32} (b : Nat) (h : b ≠ a) (j : Nat) : wr M a k x b j = M b j := wr_n (fun q => h q.1)
theorem a_putI (hB : BF G Y B) {a idx k ci : Nat} {x : Int32} (hdg : decode (mB Y) pc = .ok (.putfield idx, 3)) (hf : FW (mY Y).cls idx ci k .int) (ha : a < φ.2.1) (hk : kd a = ci) (ht : tg a k = 0) (K : AW G Y B Qm k1 k2 (pc + 3) ls st (wr M a k x) φ) : AW G Y B Qm k1 k2 pc ls (.int x :: .ref a :: st) M φ :=
  a_putF hB hdg hf ha hk rfl rfl (fv_wr_s ht) (fun _ h => fv_wr_n h) wr_ob (fun _ _ _ => rfl) rfl K
theorem isZ_nar {x : Int32} (h : isZ x) : narrow .boolean (.int x) = .int x := by rcases h with rfl | rfl <;> decide +kernel
theorem isZ_fit {x : Int32} (h : isZ x) : fits .boolean (.int x) = true := by rcases h with rfl | rfl <;> decide +kernel
theorem a_putZ (hB : BF G Y B) {a idx k ci : Nat} {x : Int32} (hdg : decode (mB Y) pc = .ok (.putfield idx, 3)) (hf : FW (mY Y).cls idx ci k .boolean) (ha : a < φ.2.1) (hk : kd a = ci) (ht : tg a k = 0) (hz : isZ x) (K : AW G Y B Qm k1 k2 (pc + 3) ls st (wr M a k x) φ) : AW G Y B Qm k1 k2 pc ls (.int x :: .ref a :: st) M φ :=
  a_putF hB hdg hf ha hk (isZ_nar hz) (isZ_fit hz) (fv_wr_s ht) (fun _ h => fv_wr_n h) wr_ob (fun _ _ _ => rfl) rfl K
/-- a reference that is set -/
def nS (φ : Ph) (a k : Nat) : Ph := (fun b j => if b = a ∧ j = k then true else φ.1 b j, φ.2)
theorem fv_nS_s {G : Gt} {M : Mm} {φ : Ph} {a k r : Nat} (ht : tg a k = r + 1) : fv G M (nS φ a k) a k = .ref (th G r) := by
  unfold fv; rw [if_neg (by omega), ht, if_pos (by simp [nS])]; rfl
theorem fv_nS_n {G : Gt} {M : Mm} {φ : Ph} {a k j : Nat} (h : j ≠ k) : fv G M (nS φ a k) a j = fv G M φ a j := by unfold fv nS; simp [h]
theorem nS_ob {φ : Ph} {a k : Nat} (b : Nat) (h : b ≠ a) (j : Nat) : (nS φ a k).1 b j = φ.1 b j := by simp [nS, h]
theorem a_putR (hB : BF G Y B) {a idx k ci r : Nat} {ty : FieldType} (hinit : (mY Y).name = "<init>") (hdg : decode (mB Y) pc = .ok (.putfield idx, 3)) (hf : FF (mY Y).cls idx ci k ty) (hty : ty.isReference = true) (ha : a < φ.2.1) (hk : kd a = ci) (ht : tg a k = r + 1) (K : AW G Y B Qm k1 k2 (pc + 3) ls st M (nS φ a k)) : AW G Y B Qm k1 k2 pc ls (.ref r :: .ref a :: st) M φ :=
  a_putFinF hB hinit hdg hf ha hk (by cases ty <;> first | rfl | cases hty) (by cases ty <;> first | rfl | cases hty) (fv_nS_s ht) (fun _ h => fv_nS_n h) (fun _ _ _ => rfl) nS_ob rfl K
/-! arrays -/
theorem a_iald (hB : BF G Y B) {a : Nat} {i : Int32} (hdg : decode (mB Y) pc = .ok (.iaload, 1)) (ha : a < φ.2.1) (hk : kd a = 10) (hin : iin i (ln a)) (K : AW G Y B Qm k1 k2 (pc + 1) ls (.int (M a (ix i)) :: st) M φ) : AW G Y B Qm k1 k2 pc ls (.int i :: .ref a :: st) M φ := by
  intro H locs lsA hW hS hl
  have h1 := wh_at hW ha
  rw [cell_int hk (Or.inl rfl)] at h1
  have hP : va_P (gD G) clL [(th G a, .inl (gAr G 10, ln a, .inl (M a)))] H := by
    intro j q hq
    match j, hq with
    | 0, hq => cases hq; exact h1
    | j + 1, hq => simp at hq
  exact va_iald (D := gD G) (cl := clL) (tys := tyK G) hB.1 hB.2.1 (hK_of hB) hP 0 0 rfl rfl hin hdg (K H locs lsA hW hS hl)
theorem a_bald (hB : BF G Y B) {a : Nat} {i : Int32} (hdg : decode (mB Y) pc = .ok (.baload, 1)) (ha : a < φ.2.1) (hk : kd a = 11) (hin : iin i (ln a)) (K : AW G Y B Qm k1 k2 (pc + 1) ls (.int (M a (ix i)) :: st) M φ) : AW G Y B Qm k1 k2 pc ls (.int i :: .ref a :: st) M φ := by
  intro H locs lsA hW hS hl
  have h1 := wh_at hW ha
  rw [cell_int hk (Or.inr (Or.inl rfl))] at h1
  have hP : va_P (gD G) clL [(th G a, .inl (gAr G 11, ln a, .inl (M a)))] H := by
    intro j q hq
    match j, hq with
    | 0, hq => cases hq; exact h1
    | j + 1, hq => simp at hq
  exact va_bald (D := gD G) (cl := clL) (tys := tyK G) hB.1 hB.2.1 (hK_of hB) hP 0 1 rfl rfl hin hdg (K H locs lsA hW hS hl)
theorem a_zald (hB : BF G Y B) {a : Nat} {i : Int32} (hdg : decode (mB Y) pc = .ok (.baload, 1)) (ha : a < φ.2.1) (hk : kd a = 12) (hin : iin i (ln a)) (K : AW G Y B Qm k1 k2 (pc + 1) ls (.int (M a (ix i)) :: st) M φ) : AW G Y B Qm k1 k2 pc ls (.int i :: .ref a :: st) M φ := by
  intro H locs lsA hW hS hl
  have h1 := wh_at hW ha
  rw [cell_int hk (Or.inr (Or.inr rfl))] at h1
  have hP : va_P (gD G) clL [(th G a, .inl (gAr G 12, ln a, .inl (M a)))] H := by
    intro j q hq
    match j, hq with
    | 0, hq => cases hq; exact h1
    | j + 1, hq => simp at hq
  exact va_zald (D := gD G) (cl := clL) (tys := tyK G) hB.1 hB.2.1 (hK_of hB) hP 0 2 rfl rfl hin hdg (K H locs lsA hW hS hl)
theorem a_aald (hB : BF G Y B) {a r : Nat} {i : Int32} (hdg : decode (mB Y) pc = .ok (.aaload, 1)) (ha : a < φ.2.1) (hk : kd a = 14) (hin : iin i (ln a)) (hN : φ.1 a (ix i) = true) (ht : tg a (ix i) = r + 1) (K : AW G Y B Qm k1 k2 (pc + 1) ls (.ref r :: st) M φ) : AW G Y B Qm k1 k2 pc ls (.int i :: .ref a :: st) M φ := by
  intro H locs lsA hW hS hl
  have h1 := wh_at hW ha
  rw [cell_ref hk] at h1
  have hP : va_P (gD G) clL [(th G a, .inl (gAr G 14, ln a, .inr (.inr (.inr (.inr (fun j => if φ.1 a j = true then some (th G (tg a j - 1)) else none))))))] H := by
    intro j q hq
    match j, hq with
    | 0, hq => cases hq; exact h1
    | j + 1, hq => simp at hq
  refine va_aldq (D := gD G) (cl := clL) (tys := tyK G) hB.1 hB.2.1 (hK_of hB) hP 0 4 rfl rfl hin hdg ?_
  have e : va_rf (if φ.1 a i.toNatClampNeg = true then some (th G (tg a i.toNatClampNeg - 1)) else none) = .ref (th G r) := by
    rw [if_pos hN, ht]; rfl
  show W _ _ _ _ _ _ _ _ _ _ H locs _ _ Qm (F0 _ _ lsA (va_rf (if φ.1 a i.toNatClampNeg = true then some (th G (tg a i.toNatClampNeg - 1)) else none) :: trS G st))
  rw [e]
  exact K H locs lsA hW hS hl
theorem a_iast (hB : BF G Y B) {a : Nat} {i x : Int32} (hdg : decode (mB Y) pc = .ok (.iastore, 1)) (ha : a < φ.2.1) (hk : kd a = 10) (hin : iin i (ln a)) (K : AW G Y B Qm k1 k2 (pc + 1) ls st (wr M a (ix i) x) φ) : AW G Y B Qm k1 k2 pc ls (.int x :: .int i :: .ref a :: st) M φ := by
  intro H locs lsA hW hS hl
  have h1 := wh_at hW ha
  rw [cell_int hk (Or.inl rfl)] at h1
  refine W.iast (a := th G a) (cell := vp_cell (gAr G 10) (ln a, .inl (M a))) hB.1 hB.2.1 h1 (((hK_of hB).2 0 _ rfl).1 (ln a) (fun j => .int (M a j))) (fun q => by cases q) (by show ¬ (i < 0 ∨ (arrV _ _ _).slots.size ≤ _); rw [arrV_size]; exact hin) rfl rfl hdg fun H1 e z oq => ?_
  refine K H1 _ lsA (wh_set hW ha ?_ z oq wr_ob (fun _ _ _ => rfl) rfl) (hS.put z oq (ga_in hW ha)) hl
  rw [cell_int hk (Or.inl rfl)]
  show H1[th G a]? = some (vp_cell _ _)
  rw [e, vp_cell_i, vp_cell_i, arrV_store]
  congr 2
  funext q
  by_cases hq : q = i.toNatClampNeg
  · subst hq; simp [updV, wr]
  · simp [updV, wr, hq]
theorem a_bast (hB : BF G Y B) {a : Nat} {i x : Int32} (hdg : decode (mB Y) pc = .ok (.bastore, 1)) (ha : a < φ.2.1) (hk : kd a = 11) (hin : iin i (ln a)) (K : AW G Y B Qm k1 k2 (pc + 1) ls st (wr M a (ix i) x.toInt8.toInt32) φ) : AW G Y B Qm k1 k2 pc ls (.int x :: .int i :: .ref a :: st) M φ := by
  intro H locs lsA hW hS hl
  have h1 := wh_at hW ha
  rw [cell_int hk (Or.inr (Or.inl rfl))] at h1
  refine W.bast (a := th G a) (cell := vp_cell (gAr G 11) (ln a, .inl (M a))) hB.1 hB.2.1 h1 (((hK_of hB).2 1 _ rfl).1 (ln a) (fun j => .int (M a j))) (fun q => by cases q) (by show ¬ (i < 0 ∨ (arrV _ _ _).slots.size ≤ _); rw [arrV_size]; exact hin) rfl rfl hdg fun H1 e z oq => ?_
  refine K H1 _ lsA (wh_set hW ha ?_ z oq wr_ob (fun _ _ _ => rfl) rfl) (hS.put z oq (ga_in hW ha)) hl
  rw [cell_int hk (Or.inr (Or.inl rfl))]
  show H1[th G a]? = some (vp_cell _ _)
  rw [e, vp_cell_i, vp_cell_i, arrV_store]
  congr 2
  funext q
  by_cases hq : q = i.toNatClampNeg
  · subst hq
    simp [updV, wr]
    try rfl
  · simp [updV, wr, hq]
theorem a_zast (hB : BF G Y B) {a : Nat} {i x : Int32} (hdg : decode (mB Y) pc = .ok (.bastore, 1)) (ha : a < φ.2.1) (hk : kd a = 12) (hin : iin i (ln a)) (hz : isZ x) (K : AW G Y B Qm k1 k2 (pc + 1) ls st (wr M a (ix i) x) φ) : AW G Y B Qm k1 k2 pc ls (.int x :: .int i :: .ref a :: st) M φ := by
  intro H locs lsA hW hS hl
  have h1 := wh_at hW ha
  rw [cell_int hk (Or.inr (Or.inr rfl))] at h1
  refine W.zast (a := th G a) (cell := vp_cell (gAr G 12) (ln a, .inl (M a))) hB.1 hB.2.1 h1 (((hK_of hB).2 2 _ rfl).1 (ln a) (fun j => .int (M a j))) (fun q => by cases q) (by show ¬ (i < 0 ∨ (arrV _ _ _).slots.size ≤ _); rw [arrV_size]; exact hin) rfl rfl hdg fun H1 e z oq => ?_
  refine K H1 _ lsA (wh_set hW ha ?_ z oq wr_ob (fun _ _ _ => rfl) rfl) (hS.put z oq (ga_in hW ha)) hl
  rw [cell_int hk (Or.inr (Or.inr rfl))]
  show H1[th G a]? = some (vp_cell _ _)
  rw [e, vp_cell_i, vp_cell_i, arrV_store]
  congr 2
  funext q
  by_cases hq : q = i.toNatClampNeg
  · subst hq
    have hnz := isZ_nar hz
    simp [updV, wr]
    try exact hnz
  · simp [updV, wr, hq]
end AWH
