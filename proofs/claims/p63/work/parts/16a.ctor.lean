/-! constructors: which references are set -/
def ph (L : List (Nat × Nat)) (n : Nat) : Ph := (fun b j => L.all (fun q => !(q.1 == b && Nat.ble q.2 j)), n, true)
theorem ph_lt {L : List (Nat × Nat)} {n a : Nat} (h : a < n) : a < (ph L n).2.1 := h
theorem ph_sf {n m : Nat} (h : m ≤ n) : SF m (ph [] n) := ⟨fun _ _ => rfl, h⟩
theorem tg_14 : ∀ a, a < 138 → kd a = 14 → ∀ j, j < ln a → tg a j ≠ 0 := by decide +kernel
theorem ph_nA {L : List (Nat × Nat)} {n a : Nat} : ∀ b j, tg b j ≠ 0 → (ph ((a, 0) :: L) (n + 1)).1 b j = (nA (ph L n) a).1 b j := by
  intro b j _
  show ((!(a == b && Nat.ble 0 j)) && (L.all fun q => !(q.1 == b && Nat.ble q.2 j))) = if b = a then false else L.all fun q => !(q.1 == b && Nat.ble q.2 j)
  by_cases h : b = a
  · subst h; rw [Nat.ble_eq_true_of_le (Nat.zero_le j)]; simp
  · have h' : (a == b) = false := by simp [Ne.symm h]
    rw [if_neg h, h']; rfl
theorem ph_nA0 {L : List (Nat × Nat)} {n a : Nat} (h0 : ∀ j, tg a j = 0) : ∀ b j, tg b j ≠ 0 → (ph L (n + 1)).1 b j = (nA (ph L n) a).1 b j := by
  intro b j hb
  show L.all _ = if b = a then false else L.all _
  have h : b ≠ a := fun q => hb (by rw [q]; exact h0 j)
  rw [if_neg h]
theorem ph_other {L : List (Nat × Nat)} {a : Nat} (hL : ∀ q ∈ L, q.1 ≠ a) (j : Nat) : (L.all fun q => !(q.1 == a && Nat.ble q.2 j)) = true := by
  rw [List.all_eq_true]
  intro q hq
  have : (q.1 == a) = false := by simp [hL q hq]
  rw [this]; rfl
theorem ph_nS {L : List (Nat × Nat)} {n a k k' : Nat} (hL : ∀ q ∈ L, q.1 ≠ a) (hgap : ∀ j, j < k' → k ≤ j → tg a j = 0) (hk : k ≤ k') : ∀ b j, tg b j ≠ 0 → (ph ((a, k' + 1) :: L) n).1 b j = (nS (ph ((a, k) :: L) n) a k').1 b j := by
  intro b j hb
  show ((!(a == b && Nat.ble (k' + 1) j)) && (L.all fun q => !(q.1 == b && Nat.ble q.2 j))) = if b = a ∧ j = k' then true else ((!(a == b && Nat.ble k j)) && (L.all fun q => !(q.1 == b && Nat.ble q.2 j)))
  by_cases h : b = a
  · subst h
    rw [ph_other hL]
    by_cases h2 : j = k'
    · rw [if_pos ⟨rfl, h2⟩]
      have : Nat.ble (k' + 1) j = false := by rw [Bool.eq_false_iff]; intro q; have := Nat.le_of_ble_eq_true q; omega
      rw [this]; simp
    · rw [if_neg (fun q => h2 q.2)]
      have e : Nat.ble (k' + 1) j = Nat.ble k j := by
        by_cases h3 : k' < j
        · rw [Nat.ble_eq_true_of_le (by omega : k' + 1 ≤ j), Nat.ble_eq_true_of_le (by omega : k ≤ j)]
        · have h4 : j < k := by
            apply Nat.not_le.mp
            intro q
            exact hb (hgap j (by omega) q)
          have e1 : Nat.ble (k' + 1) j = false := by rw [Bool.eq_false_iff]; intro q; have := Nat.le_of_ble_eq_true q; omega
          have e2 : Nat.ble k j = false := by rw [Bool.eq_false_iff]; intro q; have := Nat.le_of_ble_eq_true q; omega
          rw [e1, e2]
      rw [e]
  · have h' : (a == b) = false := by simp [Ne.symm h]
    rw [if_neg (fun q => h q.1), h']; rfl
theorem ph_done {L : List (Nat × Nat)} {n a K : Nat} (hK : ∀ j, K ≤ j → tg a j = 0) : ∀ b j, tg b j ≠ 0 → (ph L n).1 b j = (ph ((a, K) :: L) n).1 b j := by
  intro b j hb
  show L.all _ = ((!(a == b && Nat.ble K j)) && L.all _)
  by_cases h : b = a
  · subst h
    have e2 : Nat.ble K j = false := by rw [Bool.eq_false_iff]; intro q; exact hb (hK j (Nat.le_of_ble_eq_true q))
    rw [e2]; simp
  · have h' : (a == b) = false := by simp [Ne.symm h]
    rw [h']; rfl
theorem tg_ge {a K : Nat} (h : (lyT.getD a []).length ≤ K) : ∀ j, K ≤ j → tg a j = 0 := by
  intro j hj
  unfold tg
  rw [List.getD_eq_getElem?_getD, List.getElem?_eq_none (by omega)]; rfl
theorem tg_tl {a K : Nat} (hl : (lyT.getD a []).length ≤ 26) (h : ∀ j, j < 26 → K ≤ j → tg a j = 0) : ∀ j, K ≤ j → tg a j = 0 := by
  intro j hj
  by_cases c : j < 26
  · exact h j c hj
  · exact tg_ge hl j (by omega)
theorem no_t (a : Nat) (h : lyT.getD a [] = []) : ∀ j, tg a j = 0 := by
  intro j; unfold tg; rw [h]; rfl
theorem sv_len : ∀ a, isSv a → (lyT.getD a []).length = 9 ∧ ∀ j, j < 9 → lyT.getD (a + 1 + j) [] = [] := by
  intro a h
  revert a
  show ∀ a ∈ [4, 15, 34, 44, 54, 64, 74, 84, 94, 104, 114, 124], _
  decide +kernel
theorem no_sv {a : Nat} (hs : isSv a) (j : Nat) (hj : j < 9) : ∀ k, tg (a + 1 + j) k = 0 := no_t _ ((sv_len a hs).2 j hj)
theorem dn_sv {a K : Nat} (hs : isSv a) (h : 9 ≤ K) : ∀ j, K ≤ j → tg a j = 0 := tg_ge (by rw [(sv_len a hs).1]; exact h)
theorem gap_sv {a k k' : Nat} (hs : isSv a) (h : k' ≤ k) : ∀ j, j < k' → k ≤ j → tg a j = 0 := fun j h1 h2 => by omega
theorem arrV_cg {cI : ClassId} {N : Nat} {f g : Nat → Value} (h : ∀ j, j < N → f j = g j) : arrV cI N f = arrV cI N g := by
  have e : (fun j : Fin N => f j.val) = fun j : Fin N => g j.val := funext fun j => h j.1 j.2
  unfold arrV; rw [e]
section AWC
variable {G : Gt} {Y : MI} {B : Bag} {Qm : State → Prop} {k1 k2 pc : Nat} {ls : List (Nat × Value)} {st : List Value} {M : Mm} {φ : Ph}
theorem fv_ph {φ' : Ph} {a j : Nat} (h : tg a j ≠ 0 → φ'.1 a j = φ.1 a j) : fv G M φ' a j = fv G M φ a j := by
  unfold fv
  by_cases h0 : tg a j = 0
  · rw [if_pos h0, if_pos h0]
  · rw [if_neg h0, if_neg h0, h h0]
theorem at_ph {φ' : Ph} {a : Nat} {H : Heap} (ha : a < 138) (h : ∀ j, tg a j ≠ 0 → φ'.1 a j = φ.1 a j) (hat : va_at (gD G) clL (gc G + a, cellOf G M φ a) H) : va_at (gD G) clL (gc G + a, cellOf G M φ' a) H := by
  unfold cellOf at hat ⊢
  by_cases k1 : kd a < 10
  · rw [if_pos k1] at hat ⊢
    rw [List.map_congr_left (fun j _ => fv_ph (h j))]
    exact hat
  · rw [if_neg k1] at hat ⊢
    by_cases k2 : kd a = 13
    · rw [if_pos k2] at hat ⊢; exact hat
    · rw [if_neg k2] at hat ⊢
      by_cases k3 : kd a = 14
      · rw [if_pos k3] at hat ⊢
        have hj := tg_14 a ha k3
        have hat' : H[gc G + a]? = some (vp_cell _ _) := hat
        show H[gc G + a]? = some (vp_cell _ _)
        rw [hat', vp_cell_q, vp_cell_q]
        congr 1
        exact arrV_cg (fun j hj' => by show va_rf _ = va_rf _; rw [h j (hj j hj')])
      · rw [if_neg k3] at hat ⊢
        by_cases k4 : kd a = 15
        · rw [if_pos k4] at hat ⊢; exact hat
        · rw [if_neg k4] at hat ⊢; exact hat
theorem a_ph {φ' : Ph} (h : ∀ b j, tg b j ≠ 0 → φ'.1 b j = φ.1 b j) (h2 : φ'.2 = φ.2) (K : AW G Y B Qm k1 k2 pc ls st M φ') : AW G Y B Qm k1 k2 pc ls st M φ := by
  intro H locs lsA hW hS hl
  refine K H locs lsA ⟨fun a ha => ?_, ?_, ?_, ?_, hW.2.2.2.2⟩ hS hl
  · rw [h2] at ha
    exact at_ph (Nat.lt_of_lt_of_le ha hW.2.2.1) (fun j => h a j) (hW.1 a ha)
  · rw [h2]; exact hW.2.1
  · rw [h2]; exact hW.2.2.1
  · rw [h2]; exact hW.2.2.2.1
end AWC
