/-! the builder's two cells; the text's length by its number; a literal's coder, an index that is looked at -/
def SBw (φ : Ph) : Prop := φ.1 134 0 = true ∧ 136 ≤ φ.2.1
theorem sb_lt {φ : Ph} {a : Nat} (h : SBw φ) (ha : a < 136) : a < φ.2.1 := Nat.lt_of_lt_of_le ha h.2
theorem sb_of {φ : Ph} {n : Nat} (h : SF n φ) (hn : 136 ≤ n) : SBw φ := ⟨h.1 _ _, Nat.le_trans hn h.2⟩
theorem nar_B {x : Int32} (h : x.toInt8.toInt32 = x) : narrow .byte (.int x) = .int x := by rw [narrow_byte, h]
theorem nar_C {x : Int32} (h : (x.toUInt32 % 65536).toInt32 = x) : narrow .char (.int x) = .int x := congrArg Value.int h
theorem fit_B {x : Int32} (h : x.toInt8.toInt32 = x) : fits .byte (.int x) = true := by
  rw [← h]
  have g : ∀ y : Int8, fits .byte (.int y.toInt32) = true := by
    intro y
    have e : y.toInt32.toInt = y.toInt := Int8.toInt_toInt32 y
    have h1 : -128 ≤ y.toInt32.toInt := by rw [e]; exact y.le_toInt
    have h2 : y.toInt32.toInt < 128 := by rw [e]; exact y.toInt_lt
    generalize y.toInt32 = z at h1 h2
    simp only [fits]
    simp
    have a1 : (-128 : Int32).toInt = -128 := by decide
    have a2 : (127 : Int32).toInt = 127 := by decide
    refine ⟨?_, ?_⟩ <;> first | omega | (rw [Int32.le_iff_toInt_le]; omega) | (apply Int32.le_iff_toInt_le.mpr; omega)
  exact g _
section AWE
variable {G : Gt} {Y : MI} {B : Bag} {Qm : State → Prop} {k1 k2 pc : Nat} {ls : List (Nat × Value)} {st : List Value} {M : Mm} {φ : Ph}
theorem a_alenT' (hB : BF G Y B) {a T : Nat} (hT : gT G = T) (hdg : decode (mB Y) pc = .ok (.arraylength, 1)) (ha : a < φ.2.1) (hk : kd a = 15) (K : AW G Y B Qm k1 k2 (pc + 1) ls (.int (Int32.ofNat T) :: st) M φ) : AW G Y B Qm k1 k2 pc ls (.ref a :: st) M φ := by
  subst hT; exact a_alenT hB hdg ha hk K
theorem a_baldT' (hB : BF G Y B) {a T : Nat} {i : Int32} (hT : gT G = T) (hdg : decode (mB Y) pc = .ok (.baload, 1)) (ha : a < φ.2.1) (hk : kd a = 15) (hin : iin i T) (K : AW G Y B Qm k1 k2 (pc + 1) ls (.int (M a (ix i)) :: st) M φ) : AW G Y B Qm k1 k2 pc ls (.int i :: .ref a :: st) M φ := by
  subst hT; exact a_baldT hB hdg ha hk hin K
theorem a_newT' (hB : BF G Y B) {a j1 j2 T : Nat} {n : Int32} (hT : gT G = T) (hdg : decode (mB Y) pc = .ok (.newarray .byte, 2)) (hw : Cond.arrayClass .byte ∈ TB)
    (hc : φ.2.2 = true) (ha : φ.2.1 = a) (ha9 : a < 138) (hk : kd a = 15) (hn0 : ¬ n < 0) (hn : ix n = T) (hbig : T ≤ 16) (h1 : k1 + 1 = j1) (h2 : k2 + 16 = j2) (h3 : j1 ≤ (mRm Y).cells) (h4 : j2 ≤ (mRm Y).slots) (K : AW G Y B Qm j1 j2 (pc + 2) ls (.ref a :: st) (zr M a) (nA φ a)) : AW G Y B Qm k1 k2 pc ls (.int n :: st) M φ := by
  subst hT; exact a_newT hB (L := 16) hdg hw hc ha ha9 hk hn0 hn hbig (by decide) h1 h2 h3 h4 K
end AWE
def f_U_coder (w : Nat) : Option Int32 := some 0
theorem c_U_coderF {G : Gt} (hG : GOK G) {φ : Ph} {M : Mm} {w : Nat} (hw : w < 47) {o : Int32} (h : f_U_coder w = some o) : CT G I_U_coder [.ref (1000 + w)] M φ (.inl (some (.int o))) M φ := by
  unfold f_U_coder at h
  cases h
  exact c_U_coder hG hw
def f_U_checkIndex (l0 l1 : Int32) : Option Unit := if ¬ l0 < 0 ∧ l0 < l1 then some () else none
theorem c_U_checkIndexF {G : Gt} (hG : GOK G) {φ : Ph} {M : Mm} {l0 l1 : Int32} {o : Unit} (h : f_U_checkIndex l0 l1 = some o) : CT G I_U_checkIndex [.int l0, .int l1] M φ (.inl none) M φ := by
  unfold f_U_checkIndex at h
  by_cases c : ¬ l0 < 0 ∧ l0 < l1
  · exact c_U_checkIndex hG c.1 c.2
  · rw [if_neg c] at h; cases h
