/-! System.arraycopy between rows of ints -/
section AWN
variable {G : Gt} {Y : MI} {B : Bag} {Qm : State → Prop} {k1 k2 pc : Nat} {ls : List (Nat × Value)} {st : List Value} {M : Mm} {φ : Ph}
theorem a_copy (hB : BF G Y B) {a b idx : Nat} {sp dp n : Int32} (hL : Cond.methodLink (mY Y).cls idx arraycopyName ∈ TB) (hnat : Cond.native arraycopyName ∈ TB) (hs9 : Cond.static arraycopyName ∈ TB) (hi : Cond.initialized "java/lang/System" ∈ TB) (hdg : decode (mB Y) pc = .ok (.invokestatic idx, 3))
    (ha : a < φ.2.1) (hb : b < φ.2.1) (hka : kd a = 10) (hkb : kd b = 10) (h1 : ¬ sp < 0) (h2 : ¬ dp < 0) (h3 : ¬ n < 0) (h4 : sp.toNatClampNeg + n.toNatClampNeg ≤ ln a) (h5 : dp.toNatClampNeg + n.toNatClampNeg ≤ ln b) (hf : 1 ≤ (mRm Y).frames) (hlo : (st.map fun v => v.category).sum + (nativeFrameWords "java/lang/System" "arraycopy" 5 + 11) ≤ (mRm Y).locals)
    (K : AW G Y B Qm k1 k2 (pc + 3) ls st (cpy M a (ix sp) b (ix dp) (ix n)) φ) : AW G Y B Qm k1 k2 pc ls (.int n :: .int dp :: .ref b :: .int sp :: .ref a :: st) M φ := by
  have nn : ∀ z : Int32, ¬ z < 0 → z.toInt = (z.toNatClampNeg : Int) := by
    intro z hz
    have hz0 : (0 : Int) ≤ z.toInt := by
      have := Int32.not_lt.mp hz
      simpa using Int32.le_iff_toInt_le.mp this
    show z.toInt = ((z.toInt.toNat : Nat) : Int)
    omega
  intro H locs lsA hW hS hl T hT X
  have hc0 := wh_at hW ha
  rw [cell_int hka (Or.inl rfl)] at hc0
  have hc1 := wh_at hW hb
  rw [cell_int hkb (Or.inl rfl)] at hc1
  have hc0 : H[th G a]? = some (vp_cell (gAr G 10) (ln a, .inl (M a))) := hc0
  have hc1 : H[th G b]? = some (vp_cell (gAr G 10) (ln b, .inl (M b))) := hc1
  have hK := hK_of hB
  obtain ⟨-, k0, hk0, cm0, hkk0⟩ := (hK.2 0 _ rfl).1 (ln a) (fun j => .int (M a j))
  obtain ⟨-, k1', hk1, cm1, hkk1⟩ := (hK.2 0 _ rfl).1 (ln b) (fun j => .int (M b j))
  obtain ⟨vm', X', step⟩ := X.arraycopy hB.1 (bf_own hB) (bf_w hB _ hL) (bf_w hB _ hnat) (bf_w hB _ hs9) (bf_w hB _ hi) (src := th G a) (dst := th G b) (cs := vp_cell (gAr G 10) (ln a, .inl (M a))) (cd := vp_cell (gAr G 10) (ln b, .inl (M b))) (srcPos := sp) (destPos := dp) (n := n) (by rw [hT]; exact hc0) (by rw [hT]; exact hc1)
    (fun _ h => by cases h) (fun _ h => by cases h) (fun h => by cases h) (fun h => by cases h) hk0 hk1 hkk0 hkk1 (by simp [refKind]) h1 h2 h3
    (by rw [nn sp h1, nn n h3]; show ¬ _ > ((arrV (gAr G 10) (ln a) (fun j => .int (M a j))).slots.size : Int); rw [arrV_size]; omega)
    (by rw [nn dp h2, nn n h3]; show ¬ _ > ((arrV (gAr G 10) (ln b) (fun j => .int (M b j))).slots.size : Int); rw [arrV_size]; omega)
    (fun vm₁ _ i hi => by
      have e : (vp_cell (gAr G 10) (ln a, .inl (M a))).slots.getD (sp.toNatClampNeg + i) .null = .int (M a (sp.toNatClampNeg + i)) := by
        show (arrV (gAr G 10) (ln a) (fun j => .int (M a j))).slots.getD _ _ = _
        rw [Array.getD_eq_getD_getElem?, arrV_read _ _ (by omega)]
        rfl
      refine ⟨?_, ?_⟩
      · rw [e]; rfl
      · rw [e]; exact trivial)
    (g := F0 (bM B) pc lsA (trS G (.int n :: .int dp :: .ref b :: .int sp :: .ref a :: st))) rfl (by rw [bf_len hB hl]) (rest := trS G st) rfl (by rw [hB.2.1]; exact hdg) (by rw [bf_R hB]; exact hf) (by
      rw [bf_R hB]
      have h9 := trS_cat G st
      show 2 * 0 + _ + _ ≤ _
      omega)
  have e1 : copied (vp_cell (gAr G 10) (ln a, .inl (M a))) (vp_cell (gAr G 10) (ln b, .inl (M b))) sp dp n = vp_cell (gAr G 10) (ln b, .inl (va_cpy (M a) (M b) sp.toNatClampNeg dp.toNatClampNeg n.toNatClampNeg)) := va_copied (fun z => .int z) (gAr G 10) (gAr G 10) (M a) (M b) h4
  rw [e1] at X' step
  have hl' : th G b < H.size := (Array.getElem?_eq_some_iff.mp hc1).1
  have hheap : ((T.setVm vm').setCell (th G b) (vp_cell (gAr G 10) (ln b, .inl (va_cpy (M a) (M b) sp.toNatClampNeg dp.toNatClampNeg n.toNatClampNeg)))).heap = H.setIfInBounds (th G b) (vp_cell (gAr G 10) (ln b, .inl (va_cpy (M a) (M b) sp.toNatClampNeg dp.toNatClampNeg n.toNatClampNeg))) := by rw [← hT]; rfl
  have oq : ∀ q : Nat, q ≠ th G b → (H.setIfInBounds (th G b) (vp_cell (gAr G 10) (ln b, .inl (va_cpy (M a) (M b) sp.toNatClampNeg dp.toNatClampNeg n.toNatClampNeg))))[q]? = H[q]? := fun q hq => by simp [Array.getElem?_setIfInBounds, Ne.symm hq]
  have hgb : ga G (th G b) := ga_in hW hb
  have hWn : WH G (cpy M a (ix sp) b (ix dp) (ix n)) φ (H.setIfInBounds (th G b) (vp_cell (gAr G 10) (ln b, .inl (va_cpy (M a) (M b) sp.toNatClampNeg dp.toNatClampNeg n.toNatClampNeg)))) := by
    refine wh_set hW hb ?_ (by simp) oq (fun c hc j => by simp [cpy, hc]) (fun _ _ _ => rfl) rfl
    rw [cell_int hkb (Or.inl rfl)]
    show (H.setIfInBounds (th G b) _)[th G b]? = some _
    have e3 : cpy M a (ix sp) b (ix dp) (ix n) b = va_cpy (M a) (M b) sp.toNatClampNeg dp.toNatClampNeg n.toNatClampNeg := by
      funext j
      simp [cpy, va_cpy]
    rw [e3]
    simp [Array.getElem?_setIfInBounds, hl']
  have hSn : ∀ L : List Loc, (∀ q ∈ L, ga G q.base) → va_S (ga G) (bS B).heap (H.setIfInBounds (th G b) (vp_cell (gAr G 10) (ln b, .inl (va_cpy (M a) (M b) sp.toNatClampNeg dp.toNatClampNeg n.toNatClampNeg)))) (locs ++ L) := by
    refine fun L hL => ⟨by simp; exact hS.1, fun q g1 g2 => ?_, fun q hq => ?_⟩
    · rw [oq q (fun e => g2 (by rw [e]; exact hgb))]
      exact hS.2.1 q g1 g2
    · rcases List.mem_append.mp hq with h | h
      · exact hS.2.2 q h
      · exact hL q h
  obtain ⟨t, a1, b1⟩ := K _ _ lsA hWn (hSn _ (fun q h => by obtain ⟨z, -, hz⟩ := List.mem_map.mp h; rw [← hz]; exact hgb)) hl _ hheap X'
  exact ⟨t, step t a1, b1⟩
end AWN
