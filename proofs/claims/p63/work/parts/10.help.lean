/-! what the printed functions are made of, and what their proofs lean on -/
def chk {α : Type} (p : Prop) [Decidable p] (k : Option α) : Option α := if p then k else none
def bn {α β : Type} (x : Option α) (k : α → Option β) : Option β := match x with
  | some a => k a
  | none => none
def bn2 {α β : Type} (x : Option (α × Mm)) (k : α → Mm → Option β) : Option β := match x with
  | some (a, M) => k a M
  | none => none
def bt {α β : Type} (x : Option (Nat ⊕ α)) (k : α → Option (Nat ⊕ β)) : Option (Nat ⊕ β) := match x with
  | some (.inl e) => some (.inl e)
  | some (.inr a) => k a
  | none => none
def bti {α β : Type} (x : Option (Nat ⊕ α)) (M : Mm) (k : α → Option ((Nat ⊕ β) × Mm)) : Option ((Nat ⊕ β) × Mm) := match x with
  | some (.inl e) => some (.inl e, M)
  | some (.inr a) => k a
  | none => none
def bc {α β : Type} (x : Option (Nat ⊕ α)) (t : Nat → Option β) (k : α → Option β) : Option β := match x with
  | some (.inl e) => t e
  | some (.inr a) => k a
  | none => none
def bc2 {α β : Type} (x : Option ((Nat ⊕ α) × Mm)) (t : Nat → Mm → Option β) (k : α → Mm → Option β) : Option β := match x with
  | some (.inl e, M) => t e M
  | some (.inr a, M) => k a M
  | none => none
def bm {β : Type} (m : Mm) (k : Mm → Option β) : Option β := k m
theorem bm_i {β : Type} {m : Mm} {k : Mm → Option β} {o : β} (h : bm m k = some o) : ∃ M, M = m ∧ k M = some o := ⟨m, rfl, h⟩
/-- how often a loop may turn at most -/
def fu : Nat := 100000
theorem chk_i {α : Type} {p : Prop} [Decidable p] {k : Option α} {o : α} (h : chk p k = some o) : p ∧ k = some o := by
  unfold chk at h
  by_cases c : p
  · rw [if_pos c] at h; exact ⟨c, h⟩
  · rw [if_neg c] at h; cases h
noncomputable def chkC {α : Type} (p : Prop) (k : Option α) : Option α := @ite _ p (Classical.propDecidable p) k none
theorem chkC_i {α : Type} {p : Prop} {k : Option α} {o : α} (h : chkC p k = some o) : p ∧ k = some o := by
  unfold chkC at h
  by_cases c : p
  · rw [if_pos c] at h; exact ⟨c, h⟩
  · rw [if_neg c] at h; cases h
theorem chkC_p {α : Type} {p : Prop} {k : Option α} (h : p) : chkC p k = k := by unfold chkC; rw [if_pos h]
theorem bn_i {α β : Type} {x : Option α} {k : α → Option β} {o : β} (h : bn x k = some o) : ∃ a, x = some a ∧ k a = some o := by
  cases x with
  | none => cases h
  | some a => exact ⟨a, rfl, h⟩
theorem bn2_i {α β : Type} {x : Option (α × Mm)} {k : α → Mm → Option β} {o : β} (h : bn2 x k = some o) : ∃ a M, x = some (a, M) ∧ k a M = some o := by
  cases x with
  | none => cases h
  | some a => exact ⟨a.1, a.2, rfl, h⟩
theorem bt_i {α β : Type} {x : Option (Nat ⊕ α)} {k : α → Option (Nat ⊕ β)} {o : Nat ⊕ β} (h : bt x k = some o) : (∃ e, x = some (.inl e) ∧ o = .inl e) ∨ ∃ a, x = some (.inr a) ∧ k a = some o := by
  match x, h with
  | some (.inl e), h => cases h; exact Or.inl ⟨e, rfl, rfl⟩
  | some (.inr a), h => exact Or.inr ⟨a, rfl, h⟩
theorem bti_i {α β : Type} {x : Option (Nat ⊕ α)} {M M9 : Mm} {k : α → Option ((Nat ⊕ β) × Mm)} {o : Nat ⊕ β} (h : bti x M k = some (o, M9)) : (∃ e, x = some (.inl e) ∧ o = .inl e ∧ M9 = M) ∨ ∃ a, x = some (.inr a) ∧ k a = some (o, M9) := by
  match x, h with
  | some (.inl e), h => cases h; exact Or.inl ⟨e, rfl, rfl, rfl⟩
  | some (.inr a), h => exact Or.inr ⟨a, rfl, h⟩
theorem bc_i {α β : Type} {x : Option (Nat ⊕ α)} {t : Nat → Option β} {k : α → Option β} {o : β} (h : bc x t k = some o) : (∃ e, x = some (.inl e) ∧ t e = some o) ∨ ∃ a, x = some (.inr a) ∧ k a = some o := by
  match x, h with
  | some (.inl e), h => exact Or.inl ⟨e, rfl, h⟩
  | some (.inr a), h => exact Or.inr ⟨a, rfl, h⟩
theorem bc2_i {α β : Type} {x : Option ((Nat ⊕ α) × Mm)} {t : Nat → Mm → Option β} {k : α → Mm → Option β} {o : β} (h : bc2 x t k = some o) : (∃ e M, x = some (.inl e, M) ∧ t e M = some o) ∨ ∃ a M, x = some (.inr a, M) ∧ k a M = some o := by
  match x, h with
  | some (.inl e, M), h => exact Or.inl ⟨e, M, rfl, h⟩
  | some (.inr a, M), h => exact Or.inr ⟨a, M, rfl, h⟩
theorem ip {α : Type} {p : Prop} [Decidable p] {a b : Option α} {o : α} (c : p) (h : (if p then a else b) = some o) : a = some o := by rw [if_pos c] at h; exact h
theorem iq {α : Type} {p : Prop} [Decidable p] {a b : Option α} {o : α} (c : ¬ p) (h : (if p then a else b) = some o) : b = some o := by rw [if_neg c] at h; exact h
/-- everything that refers is set, and so many cells are made -/
def SF (n : Nat) (φ : Ph) : Prop := (∀ a k, φ.1 a k = true) ∧ n ≤ φ.2.1
theorem sf_lt {n : Nat} {φ : Ph} (h : SF n φ) {a : Nat} (ha : a < n) : a < φ.2.1 := Nat.lt_of_lt_of_le ha h.2
theorem sf_lt2 {n m : Nat} {φ : Ph} (h : SF n φ) {a : Nat} (ha : a < m) (hm : m ≤ n) : a < φ.2.1 := Nat.lt_of_lt_of_le ha (Nat.le_trans hm h.2)
theorem sf_m {n m : Nat} {φ : Ph} (h : SF n φ) (hm : m ≤ n) : SF m φ := ⟨h.1, Nat.le_trans hm h.2⟩
theorem sf_d {n : Nat} {φ : Ph} (h : SF n φ) : SF n (dirt φ) := h
theorem sv_kd {a : Nat} (h : isSv a) : kd a = 2 := (isSv_k a h).1
theorem sv_t {a : Nat} (h : isSv a) (k : Nat) (hk : k < 9) : tg a k = a + 1 + k + 1 := (isSv_k a h).2.1 k hk
theorem sv_t0 {a : Nat} (h : isSv a) (k : Nat) (hk : k < 4) : tg a (9 + k) = 0 := (isSv_k a h).2.2.1 k hk
theorem sv_ln {a : Nat} (h : isSv a) (k : Nat) (hk : k < 9) : ln (a + 1 + k) = 20 := ((isSv_k a h).2.2.2.1 k hk).2
theorem sv_kz {a : Nat} (h : isSv a) : kd (a + 1 + 2) = 12 := ((isSv_k a h).2.2.2.1 2 (by decide)).1
theorem sv_ki {a : Nat} (h : isSv a) (k : Nat) (hk : k < 9) (h2 : k ≠ 2) : kd (a + 1 + k) = 10 := by rw [((isSv_k a h).2.2.2.1 k hk).1, if_neg h2]
theorem sv_lt {a n : Nat} {φ : Ph} (h : isSv a) (hF : SF n φ) (hn : 134 ≤ n) : a < φ.2.1 := by have := (isSv_k a h).2.2.2.2; have := hF.2; omega
theorem sv_la {a n : Nat} {φ : Ph} (h : isSv a) (hF : SF n φ) (hn : 134 ≤ n) (k : Nat) (hk : k < 9) : a + 1 + k < φ.2.1 := by have := (isSv_k a h).2.2.2.2; have := hF.2; omega
theorem past_all : ∀ j, j < 8 → isSv (34 + 10 * j) ∧ tg 31 j = 34 + 10 * j + 1 := by unfold isSv; decide +kernel
theorem saved_all : ∀ j, j < 2 → isSv (114 + 10 * j) ∧ tg 32 j = 114 + 10 * j + 1 := by unfold isSv; decide +kernel
theorem iin_lt {i : Int32} {n : Nat} (h : iin i n) : ix i < n := Nat.not_le.mp fun q => h (Or.inr q)
theorem sv_past {i : Int32} (h : iin i 8) : isSv (34 + 10 * ix i) := (past_all _ (iin_lt h)).1
theorem tg_past {i : Int32} (h : iin i 8) : tg 31 (ix i) = 34 + 10 * ix i + 1 := (past_all _ (iin_lt h)).2
theorem sv_saved {i : Int32} (h : iin i 2) : isSv (114 + 10 * ix i) := (saved_all _ (iin_lt h)).1
theorem tg_saved {i : Int32} (h : iin i 2) : tg 32 (ix i) = 114 + 10 * ix i + 1 := (saved_all _ (iin_lt h)).2
/-! outcomes -/
def exS (e : Nat) : String := if e = 1 then "java/lang/IllegalArgumentException" else if e = 2 then "java/lang/IllegalStateException" else "java/lang/IndexOutOfBoundsException"
def oSi : Nat ⊕ Int32 → Ot
  | .inl e => .inr (exS e)
  | .inr v => .inl (some (.int v))
def oSv : Nat ⊕ Unit → Ot
  | .inl e => .inr (exS e)
  | .inr _ => .inl none
def pS {α : Type} : Nat ⊕ α → Ph → Ph
  | .inl _, φ => dirt φ
  | .inr _, φ => φ
/-- the phase behind a wrapper that answers r -/
def pK (r : Int32) (φ : Ph) : Ph := if r = 0 then φ else dirt φ
theorem pK_0 (φ : Ph) : pK 0 φ = φ := if_pos rfl
theorem pK_1 (φ : Ph) : pK 1 φ = dirt φ := if_neg (by decide)
theorem pK_2 (φ : Ph) : pK 2 φ = dirt φ := if_neg (by decide)
theorem sf_K {n : Nat} {φ : Ph} (h : SF n φ) (r : Int32) : SF n (pK r φ) := by unfold pK; split <;> exact h
section AWP
variable {G : Gt} {Y : MI} {B : Bag} {Qm : State → Prop} {k1 k2 pc : Nat} {ls : List (Nat × Value)} {st : List Value} {M : Mm} {φ : Ph}
theorem a_mem {M1 : Mm} (h : M1 = M) (K : AW G Y B Qm k1 k2 pc ls st M1 φ) : AW G Y B Qm k1 k2 pc ls st M φ := by subst h; exact K
theorem a_wd {j1 j2 : Nat} (h1 : k1 ≤ j1) (h2 : k2 ≤ j2) (K : AW G Y B Qm j1 j2 pc ls st M φ) : AW G Y B Qm k1 k2 pc ls st M φ :=
  fun H locs lsA hW hS hl => W.widen h1 h2 (K H locs lsA hW hS hl)
theorem a_iald' (hB : BF G Y B) {a L : Nat} {i : Int32} (hdg : decode (mB Y) pc = .ok (.iaload, 1)) (ha : a < φ.2.1) (hk : kd a = 10) (hL : ln a = L) (hin : iin i L) (K : AW G Y B Qm k1 k2 (pc + 1) ls (.int (M a (ix i)) :: st) M φ) : AW G Y B Qm k1 k2 pc ls (.int i :: .ref a :: st) M φ := a_iald hB hdg ha hk (by rw [hL]; exact hin) K
theorem a_bald' (hB : BF G Y B) {a L : Nat} {i : Int32} (hdg : decode (mB Y) pc = .ok (.baload, 1)) (ha : a < φ.2.1) (hk : kd a = 11) (hL : ln a = L) (hin : iin i L) (K : AW G Y B Qm k1 k2 (pc + 1) ls (.int (M a (ix i)) :: st) M φ) : AW G Y B Qm k1 k2 pc ls (.int i :: .ref a :: st) M φ := a_bald hB hdg ha hk (by rw [hL]; exact hin) K
theorem a_zald' (hB : BF G Y B) {a L : Nat} {i : Int32} (hdg : decode (mB Y) pc = .ok (.baload, 1)) (ha : a < φ.2.1) (hk : kd a = 12) (hL : ln a = L) (hin : iin i L) (K : AW G Y B Qm k1 k2 (pc + 1) ls (.int (M a (ix i)) :: st) M φ) : AW G Y B Qm k1 k2 pc ls (.int i :: .ref a :: st) M φ := a_zald hB hdg ha hk (by rw [hL]; exact hin) K
theorem a_aald' (hB : BF G Y B) {a r L : Nat} {i : Int32} (hdg : decode (mB Y) pc = .ok (.aaload, 1)) (ha : a < φ.2.1) (hk : kd a = 14) (hL : ln a = L) (hin : iin i L) (hN : φ.1 a (ix i) = true) (ht : tg a (ix i) = r + 1) (K : AW G Y B Qm k1 k2 (pc + 1) ls (.ref r :: st) M φ) : AW G Y B Qm k1 k2 pc ls (.int i :: .ref a :: st) M φ := a_aald hB hdg ha hk (by rw [hL]; exact hin) hN ht K
theorem a_iast' (hB : BF G Y B) {a L : Nat} {i x : Int32} (hdg : decode (mB Y) pc = .ok (.iastore, 1)) (ha : a < φ.2.1) (hk : kd a = 10) (hL : ln a = L) (hin : iin i L) (K : AW G Y B Qm k1 k2 (pc + 1) ls st (wr M a (ix i) x) φ) : AW G Y B Qm k1 k2 pc ls (.int x :: .int i :: .ref a :: st) M φ := a_iast hB hdg ha hk (by rw [hL]; exact hin) K
theorem a_bast' (hB : BF G Y B) {a L : Nat} {i x : Int32} (hdg : decode (mB Y) pc = .ok (.bastore, 1)) (ha : a < φ.2.1) (hk : kd a = 11) (hL : ln a = L) (hin : iin i L) (K : AW G Y B Qm k1 k2 (pc + 1) ls st (wr M a (ix i) x.toInt8.toInt32) φ) : AW G Y B Qm k1 k2 pc ls (.int x :: .int i :: .ref a :: st) M φ := a_bast hB hdg ha hk (by rw [hL]; exact hin) K
theorem a_zast' (hB : BF G Y B) {a L : Nat} {i x : Int32} (hdg : decode (mB Y) pc = .ok (.bastore, 1)) (ha : a < φ.2.1) (hk : kd a = 12) (hL : ln a = L) (hin : iin i L) (hz : isZ x) (K : AW G Y B Qm k1 k2 (pc + 1) ls st (wr M a (ix i) x) φ) : AW G Y B Qm k1 k2 pc ls (.int x :: .int i :: .ref a :: st) M φ := a_zast hB hdg ha hk (by rw [hL]; exact hin) hz K
theorem a_copy' (hB : BF G Y B) {a b idx L L2 : Nat} {sp dp n : Int32} (hL : Cond.methodLink (mY Y).cls idx arraycopyName ∈ TB) (hnat : Cond.native arraycopyName ∈ TB) (hs9 : Cond.static arraycopyName ∈ TB) (hi : Cond.initialized "java/lang/System" ∈ TB) (hdg : decode (mB Y) pc = .ok (.invokestatic idx, 3))
    (ha : a < φ.2.1) (hb : b < φ.2.1) (hka : kd a = 10) (hkb : kd b = 10) (hla : ln a = L) (hlb : ln b = L2) (h1 : ¬ sp < 0) (h2 : ¬ dp < 0) (h3 : ¬ n < 0) (h4 : ix sp + ix n ≤ L) (h5 : ix dp + ix n ≤ L2) (hf : 1 ≤ (mRm Y).frames) (hlo : (st.map fun v => v.category).sum + (nativeFrameWords "java/lang/System" "arraycopy" 5 + 11) ≤ (mRm Y).locals)
    (K : AW G Y B Qm k1 k2 (pc + 3) ls st (cpy M a (ix sp) b (ix dp) (ix n)) φ) : AW G Y B Qm k1 k2 pc ls (.int n :: .int dp :: .ref b :: .int sp :: .ref a :: st) M φ :=
  a_copy hB hL hnat hs9 hi hdg ha hb hka hkb h1 h2 h3 (by rw [hla]; exact h4) (by rw [hlb]; exact h5) hf hlo K
theorem a_alen (hB : BF G Y B) {a t L : Nat} {v : Int32} (hdg : decode (mB Y) pc = .ok (.arraylength, 1)) (ha : a < φ.2.1) (hk : kd a = t) (ht : t = 10 ∨ t = 11 ∨ t = 12) (hL : ln a = L) (hv : Int32.ofNat L = v) (K : AW G Y B Qm k1 k2 (pc + 1) ls (.int v :: st) M φ) : AW G Y B Qm k1 k2 pc ls (.ref a :: st) M φ := by
  intro H locs lsA hW hS hl
  have h1 := wh_at hW ha
  rw [cell_int hk ht] at h1
  have hP : va_P (gD G) clL [(th G a, .inl (gAr G t, ln a, .inl (M a)))] H := by
    intro j q hq
    match j, hq with
    | 0, hq => cases hq; exact h1
    | j + 1, hq => simp at hq
  have hv' : Int32.ofNat (ln a) = v := by rw [hL]; exact hv
  rcases ht with rfl | rfl | rfl
  · exact va_alen (D := gD G) (cl := clL) (tys := tyK G) hB.1 hB.2.1 (hK_of hB) hP 0 0 rfl (ty := .int) rfl hv' hdg (K H locs lsA hW hS hl)
  · exact va_alen (D := gD G) (cl := clL) (tys := tyK G) hB.1 hB.2.1 (hK_of hB) hP 0 1 rfl (ty := .byte) rfl hv' hdg (K H locs lsA hW hS hl)
  · exact va_alen (D := gD G) (cl := clL) (tys := tyK G) hB.1 hB.2.1 (hK_of hB) hP 0 2 rfl (ty := .boolean) rfl hv' hdg (K H locs lsA hW hS hl)
theorem a_ixor (hB : BF G Y B) {x y : Int32} (hdg : decode (mB Y) pc = .ok (.ixor, 1)) (K : AW G Y B Qm k1 k2 (pc + 1) ls (.int (x ^^^ y) :: st) M φ) : AW G Y B Qm k1 k2 pc ls (.int y :: .int x :: st) M φ :=
  fun H locs lsA hW hS hl => lv_ixor hB.1 hB.2.1 hdg (K H locs lsA hW hS hl)
theorem a_i2c (hB : BF G Y B) {x : Int32} (hdg : decode (mB Y) pc = .ok (.i2c, 1)) (K : AW G Y B Qm k1 k2 (pc + 1) ls (.int (x.toUInt32 % 65536).toInt32 :: st) M φ) : AW G Y B Qm k1 k2 pc ls (.int x :: st) M φ :=
  fun H locs lsA hW hS hl => lv_i2c hB.1 hB.2.1 hdg rfl (K H locs lsA hW hS hl)
end AWP
theorem uws_in {C : String} {T : u_T} {N : Nat} (is : List Nat) (h : ∀ k, k < N → lx_tbl[30 + is.getD k 0]? = some (u_lay C T k) ∧ goodWord (u_lay C T k) = true) : ∀ w ∈ u_ws C T N, w ∈ TB := by
  intro w hw
  unfold u_ws at hw
  obtain ⟨k, hk, rfl⟩ := List.mem_map.mp hw
  have := h k (List.mem_range.mp hk)
  exact tb_in this.1 this.2
def isD : Cond → Bool
  | .declares _ => true
  | .castable _ _ => true
  | _ => false
theorem at_of {ws : List Cond} (h : ws.all (fun w => lx_tbl.elem w && (goodWord w || isD w)) = true) : ∀ w ∈ ws, AT w := by
  intro w hw
  have h1 := List.all_eq_true.mp h w hw
  rw [Bool.and_eq_true, Bool.or_eq_true] at h1
  rcases h1.2 with g | g
  · exact Or.inl (List.mem_filter.mpr ⟨List.elem_iff.mp h1.1, g⟩)
  · cases w <;> first | exact Or.inr (Or.inl ⟨_, rfl, List.elem_iff.mp h1.1⟩) | exact Or.inr (Or.inr ⟨_, _, rfl, List.elem_iff.mp h1.1⟩) | cases g
