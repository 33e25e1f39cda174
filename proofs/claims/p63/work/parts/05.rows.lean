/-! the heap's shape: kinds (0 to 5 objects by class, 10 int, 11 byte, 12 boolean, 13 long, 14 Survey arrays), lengths, targets of references (+ 1) -/
def lyK : List Nat := [4, 0, 1, 11, 2, 10, 10, 12, 10, 10, 10, 10, 10, 10, 11, 2, 10, 10, 12, 10, 10, 10, 10, 10, 10, 3, 10, 10, 10, 10, 10, 14, 14, 12, 2, 10, 10, 12, 10, 10, 10, 10, 10, 10, 2, 10, 10, 12, 10, 10, 10, 10, 10, 10, 2, 10, 10, 12, 10, 10, 10, 10, 10, 10, 2, 10, 10, 12, 10, 10, 10, 10, 10, 10, 2, 10, 10, 12, 10, 10, 10, 10, 10, 10, 2, 10, 10, 12, 10, 10, 10, 10, 10, 10, 2, 10, 10, 12, 10, 10, 10, 10, 10, 10, 2, 10, 10, 12, 10, 10, 10, 10, 10, 10, 2, 10, 10, 12, 10, 10, 10, 10, 10, 10, 2, 10, 10, 12, 10, 10, 10, 10, 10, 10, 5, 11, 9, 15]
def lyN : List Nat := [0, 0, 0, 900, 0, 20, 20, 20, 20, 20, 20, 20, 20, 20, 512, 0, 20, 20, 20, 20, 20, 20, 20, 20, 20, 0, 21, 21, 21, 21, 21, 8, 2, 2, 0, 20, 20, 20, 20, 20, 20, 20, 20, 20, 0, 20, 20, 20, 20, 20, 20, 20, 20, 20, 0, 20, 20, 20, 20, 20, 20, 20, 20, 20, 0, 20, 20, 20, 20, 20, 20, 20, 20, 20, 0, 20, 20, 20, 20, 20, 20, 20, 20, 20, 0, 20, 20, 20, 20, 20, 20, 20, 20, 20, 0, 20, 20, 20, 20, 20, 20, 20, 20, 20, 0, 20, 20, 20, 20, 20, 20, 20, 20, 20, 0, 20, 20, 20, 20, 20, 20, 20, 20, 20, 0, 20, 20, 20, 20, 20, 20, 20, 20, 20, 0, 16, 0, 0]
def lyT : List (List Nat) := [[2, 4, 0, 0, 0, 15, 0, 16, 5, 26, 32, 0, 0, 33, 34], [3, 5], [4], [], [6, 7, 8, 9, 10, 11, 12, 13, 14], [], [], [], [], [], [], [], [], [], [], [17, 18, 19, 20, 21, 22, 23, 24, 25], [], [], [], [], [], [], [], [], [], [27, 28, 29, 30, 31], [], [], [], [], [], [35, 45, 55, 65, 75, 85, 95, 105], [115, 125], [], [36, 37, 38, 39, 40, 41, 42, 43, 44], [], [], [], [], [], [], [], [], [], [46, 47, 48, 49, 50, 51, 52, 53, 54], [], [], [], [], [], [], [], [], [], [56, 57, 58, 59, 60, 61, 62, 63, 64], [], [], [], [], [], [], [], [], [], [66, 67, 68, 69, 70, 71, 72, 73, 74], [], [], [], [], [], [], [], [], [], [76, 77, 78, 79, 80, 81, 82, 83, 84], [], [], [], [], [], [], [], [], [], [86, 87, 88, 89, 90, 91, 92, 93, 94], [], [], [], [], [], [], [], [], [], [96, 97, 98, 99, 100, 101, 102, 103, 104], [], [], [], [], [], [], [], [], [], [106, 107, 108, 109, 110, 111, 112, 113, 114], [], [], [], [], [], [], [], [], [], [116, 117, 118, 119, 120, 121, 122, 123, 124], [], [], [], [], [], [], [], [], [], [126, 127, 128, 129, 130, 131, 132, 133, 134], [], [], [], [], [], [], [], [], [], [136, 0, 0, 0], [], [138, 0, 0, 0], []]
def kd (a : Nat) : Nat := lyK.getD a 99
def ln (a : Nat) : Nat := lyN.getD a 0
def tg (a k : Nat) : Nat := (lyT.getD a []).getD k 0
def nfL : List Nat := [5, 6, 13, 6, 15, 4, 0, 0, 0, 4]
def nf (c : Nat) : Nat := nfL.getD c 0
/-- one of the twelve surveys -/
def isSv (a : Nat) : Prop := a ∈ [4, 15, 34, 44, 54, 64, 74, 84, 94, 104, 114, 124]
theorem isSv_k : ∀ a, isSv a → kd a = 2 ∧ (∀ k, k < 9 → tg a k = a + 1 + k + 1) ∧ (∀ k, k < 4 → tg a (9 + k) = 0) ∧ (∀ k, k < 9 → kd (a + 1 + k) = (if k = 2 then 12 else 10) ∧ ln (a + 1 + k) = 20) ∧ a + 10 ≤ 134 := by
  intro a h
  revert a
  show ∀ a ∈ [4, 15, 34, 44, 54, 64, 74, 84, 94, 104, 114, 124], _
  decide +kernel
/-- a place in an array of n -/
abbrev iin (i : Int32) (n : Nat) : Prop := ¬ (i < 0 ∨ n ≤ i.toNatClampNeg)
abbrev ix (i : Int32) : Nat := i.toNatClampNeg
/-- a boolean -/
abbrev isZ (x : Int32) : Prop := x = 0 ∨ x = 1
def wr (M : Mm) (a k : Nat) (x : Int32) : Mm := fun b j => if b = a ∧ j = k then x else M b j
theorem wr_s (M : Mm) (a k : Nat) (x : Int32) : wr M a k x a k = x := by simp [wr]
theorem wr_n {M : Mm} {a k b j : Nat} {x : Int32} (h : ¬ (b = a ∧ j = k)) : wr M a k x b j = M b j := by simp [wr, h]
/-- an array's places dp .. dp + n are those of another -/
def cpy (M : Mm) (a sp b dp n : Nat) : Mm := fun q j => if q = b ∧ dp ≤ j ∧ j < dp + n then M a (sp + (j - dp)) else M q j
/-- a cell made anew -/
def zr (M : Mm) (a : Nat) : Mm := fun b j => if b = a then 0 else M b j
def cmb (lo hi : Int32) : Int64 := ⟨⟨hi.toBitVec ++ lo.toBitVec⟩⟩
def lw (x : Int64) : Int32 := ⟨⟨x.toBitVec.extractLsb' 0 32⟩⟩
def hw (x : Int64) : Int32 := ⟨⟨x.toBitVec.extractLsb' 32 32⟩⟩
theorem cmb_lh (x : Int64) : cmb (lw x) (hw x) = x := by
  apply Int64.toBitVec_inj.mp
  show x.toBitVec.extractLsb' 32 32 ++ x.toBitVec.extractLsb' 0 32 = x.toBitVec
  ext i hi
  simp only [BitVec.getElem_append, BitVec.getElem_extractLsb']
  by_cases h : i < 32
  · simp [h, BitVec.getLsbD_eq_getElem (show i < 64 by omega)]
  · simp only [h, dite_false]
    rw [show 32 + (i - 32) = i by omega]
    simp [BitVec.getLsbD_eq_getElem (show i < 64 by omega)]
/-- a store into the law's row of one long -/
def wrJ (M : Mm) (a : Nat) (x : Int64) : Mm := wr (wr M a 0 (lw x)) a 1 (hw x)
def rdJ (M : Mm) (a : Nat) : Int64 := cmb (M a 0) (M a 1)
theorem wrJ_s (M : Mm) (a : Nat) (x : Int64) : rdJ (wrJ M a x) a = x := by
  unfold rdJ wrJ
  rw [wr_s, wr_n (by simp), wr_s, cmb_lh]
theorem wrJ_n {M : Mm} {a b j : Nat} {x : Int64} (h : b ≠ a) : wrJ M a x b j = M b j := by
  unfold wrJ
  rw [wr_n (by simp [h]), wr_n (by simp [h])]
def fv (G : Gt) (M : Mm) (φ : Ph) (a j : Nat) : Value := if tg a j = 0 then .int (M a j) else if φ.1 a j = true then .ref (th G (tg a j - 1)) else .null
def cellOf (G : Gt) (M : Mm) (φ : Ph) (a : Nat) : va_E :=
  if kd a < 10 then .inr (kd a, (List.range (nf (kd a))).map (fv G M φ a))
  else if kd a = 13 then .inl (gAr G 13, ln a, .inr (.inl (fun _ => rdJ M a)))
  else if kd a = 14 then .inl (gAr G 14, ln a, .inr (.inr (.inr (.inr (fun j => if φ.1 a j = true then some (th G (tg a j - 1)) else none)))))
  else if kd a = 15 then .inl (gAr G 11, gT G, .inl (M a))
  else .inl (gAr G (kd a), ln a, .inl (M a))
def TE0 : u_T := fun _ => ("", "", "", false)
def clL : List vw_C := [(RX0, TX0, 5), (RX1, TX1, 6), (RX2, TX2, 13), (RX3, TX3, 6), (RX4, TX4, 15), (RJ4, TJ4, 4), ("java/lang/IllegalArgumentException", TE0, 0), ("java/lang/IllegalStateException", TE0, 0), ("java/lang/IndexOutOfBoundsException", TE0, 0), (RJ0, TJ0, 4)]
def tyK (G : Gt) : List (ClassId × FieldType) := [(gAr G 10, .int), (gAr G 11, .byte), (gAr G 12, .boolean), (gAr G 12, .boolean), (gAr G 14, .object RX2)]
/-- the system's cells in a heap -/
def WH (G : Gt) (M : Mm) (φ : Ph) (H : Heap) : Prop :=
  (∀ a, a < φ.2.1 → va_at (gD G) clL (gc G + a, cellOf G M φ a) H) ∧ (φ.2.2 = true → H.size = gc G + φ.2.1) ∧ φ.2.1 ≤ 138 ∧ gc G + φ.2.1 ≤ H.size ∧ (gE G 1999 = gb G ∧ va_at (gD G) clL (gb G, .inl (gAr G 10, 1, .inl (M 1999))) H)
/-- what is told of the literals: own class, place in its pool, text; then the array of its bytes -/
def stW : List (String × Nat × String) := [("ChainSurvey", 67, "survey 25 300; leg oak 90 4 0; leg mill 0 3 0 dropped 1; leg barn 270 4 5 at 25; bog reed 180 130; adjust;"), ("ChainSurvey$Interpreter", 42, "survey"), ("ChainSurvey$Interpreter", 73, "leg"), ("ChainSurvey$Interpreter", 118, "dropped"), ("ChainSurvey$Interpreter", 123, "rise"), ("ChainSurvey$Interpreter", 125, "at"), ("ChainSurvey$Interpreter", 78, "bog"), ("ChainSurvey$Interpreter", 83, "drop"), ("ChainSurvey$Interpreter", 89, "found"), ("ChainSurvey$Interpreter", 91, "wear"), ("ChainSurvey$Interpreter", 93, "pace"), ("ChainSurvey$Interpreter", 95, "adjust"), ("ChainSurvey$Interpreter", 100, "raw"), ("ChainSurvey$Interpreter", 102, "back"), ("ChainSurvey", 106, "the length is out of range"), ("ChainSurvey", 137, "a parameter of the leg is out of range"), ("ChainSurvey", 154, "there are 20 legs"), ("ChainSurvey", 161, "a leg has this name"), ("ChainSurvey", 146, "a parameter of the bog leg is out of range"), ("ChainSurvey", 338, "the leg does not exist"), ("ChainSurvey", 169, "no pin can be dropped on this leg"), ("ChainSurvey", 178, "the leg has no dropped pins"), ("ChainSurvey", 180, "there is no leg"), ("ChainSurvey", 182, "the wear is out of range"), ("ChainSurvey", 187, "the pace is out of range"), ("ChainSurvey", 199, "there is no change to undo"), ("ChainSurvey", 67, "survey 25 300; leg oak 90 4 0; leg mill 0 3 0 dropped 1; leg barn 270 4 5 at 25; bog reed 180 130; adjust;"), ("ChainSurvey", 67, "survey 25 300; leg oak 90 4 0; leg mill 0 3 0 dropped 1; leg barn 270 4 5 at 25; bog reed 180 130; adjust;"), ("ChainSurvey", 341, "the station does not exist"), ("ChainSurvey", 67, "survey 25 300; leg oak 90 4 0; leg mill 0 3 0 dropped 1; leg barn 270 4 5 at 25; bog reed 180 130; adjust;"), ("ChainSurvey$Interpreter", 42, "survey"), ("ChainSurvey$Interpreter", 73, "leg"), ("ChainSurvey$Interpreter", 118, "dropped"), ("ChainSurvey$Interpreter", 123, "rise"), ("ChainSurvey$Interpreter", 125, "at"), ("ChainSurvey$Interpreter", 78, "bog"), ("ChainSurvey$Interpreter", 83, "drop"), ("ChainSurvey$Interpreter", 89, "found"), ("ChainSurvey$Interpreter", 91, "wear"), ("ChainSurvey$Interpreter", 93, "pace"), ("ChainSurvey$Interpreter", 102, "back"), ("ChainSurvey$Interpreter", 95, "adjust"), ("ChainSurvey$Interpreter", 100, "raw"), ("java/util/Arrays", 337, " > "), ("ChainSurveyLaw", 262, "survey "), ("ChainSurveyLaw", 270, " "), ("ChainSurveyLaw", 272, ";")]
/-- a literal's text -/
def stT (i : Nat) : String := (stW.getD i ("", 0, "")).2.2
/-- its bytes -/
def stBL : List (List Int32) := [[115, 117, 114, 118, 101, 121, 32, 50, 53, 32, 51, 48, 48, 59, 32, 108, 101, 103, 32, 111, 97, 107, 32, 57, 48, 32, 52, 32, 48, 59, 32, 108, 101, 103, 32, 109, 105, 108, 108, 32, 48, 32, 51, 32, 48, 32, 100, 114, 111, 112, 112, 101, 100, 32, 49, 59, 32, 108, 101, 103, 32, 98, 97, 114, 110, 32, 50, 55, 48, 32, 52, 32, 53, 32, 97, 116, 32, 50, 53, 59, 32, 98, 111, 103, 32, 114, 101, 101, 100, 32, 49, 56, 48, 32, 49, 51, 48, 59, 32, 97, 100, 106, 117, 115, 116, 59], [115, 117, 114, 118, 101, 121], [108, 101, 103], [100, 114, 111, 112, 112, 101, 100], [114, 105, 115, 101], [97, 116], [98, 111, 103], [100, 114, 111, 112], [102, 111, 117, 110, 100], [119, 101, 97, 114], [112, 97, 99, 101], [97, 100, 106, 117, 115, 116], [114, 97, 119], [98, 97, 99, 107], [116, 104, 101, 32, 108, 101, 110, 103, 116, 104, 32, 105, 115, 32, 111, 117, 116, 32, 111, 102, 32, 114, 97, 110, 103, 101], [97, 32, 112, 97, 114, 97, 109, 101, 116, 101, 114, 32, 111, 102, 32, 116, 104, 101, 32, 108, 101, 103, 32, 105, 115, 32, 111, 117, 116, 32, 111, 102, 32, 114, 97, 110, 103, 101], [116, 104, 101, 114, 101, 32, 97, 114, 101, 32, 50, 48, 32, 108, 101, 103, 115], [97, 32, 108, 101, 103, 32, 104, 97, 115, 32, 116, 104, 105, 115, 32, 110, 97, 109, 101], [97, 32, 112, 97, 114, 97, 109, 101, 116, 101, 114, 32, 111, 102, 32, 116, 104, 101, 32, 98, 111, 103, 32, 108, 101, 103, 32, 105, 115, 32, 111, 117, 116, 32, 111, 102, 32, 114, 97, 110, 103, 101], [116, 104, 101, 32, 108, 101, 103, 32, 100, 111, 101, 115, 32, 110, 111, 116, 32, 101, 120, 105, 115, 116], [110, 111, 32, 112, 105, 110, 32, 99, 97, 110, 32, 98, 101, 32, 100, 114, 111, 112, 112, 101, 100, 32, 111, 110, 32, 116, 104, 105, 115, 32, 108, 101, 103], [116, 104, 101, 32, 108, 101, 103, 32, 104, 97, 115, 32, 110, 111, 32, 100, 114, 111, 112, 112, 101, 100, 32, 112, 105, 110, 115], [116, 104, 101, 114, 101, 32, 105, 115, 32, 110, 111, 32, 108, 101, 103], [116, 104, 101, 32, 119, 101, 97, 114, 32, 105, 115, 32, 111, 117, 116, 32, 111, 102, 32, 114, 97, 110, 103, 101], [116, 104, 101, 32, 112, 97, 99, 101, 32, 105, 115, 32, 111, 117, 116, 32, 111, 102, 32, 114, 97, 110, 103, 101], [116, 104, 101, 114, 101, 32, 105, 115, 32, 110, 111, 32, 99, 104, 97, 110, 103, 101, 32, 116, 111, 32, 117, 110, 100, 111], [115, 117, 114, 118, 101, 121, 32, 50, 53, 32, 51, 48, 48, 59, 32, 108, 101, 103, 32, 111, 97, 107, 32, 57, 48, 32, 52, 32, 48, 59, 32, 108, 101, 103, 32, 109, 105, 108, 108, 32, 48, 32, 51, 32, 48, 32, 100, 114, 111, 112, 112, 101, 100, 32, 49, 59, 32, 108, 101, 103, 32, 98, 97, 114, 110, 32, 50, 55, 48, 32, 52, 32, 53, 32, 97, 116, 32, 50, 53, 59, 32, 98, 111, 103, 32, 114, 101, 101, 100, 32, 49, 56, 48, 32, 49, 51, 48, 59, 32, 97, 100, 106, 117, 115, 116, 59], [115, 117, 114, 118, 101, 121, 32, 50, 53, 32, 51, 48, 48, 59, 32, 108, 101, 103, 32, 111, 97, 107, 32, 57, 48, 32, 52, 32, 48, 59, 32, 108, 101, 103, 32, 109, 105, 108, 108, 32, 48, 32, 51, 32, 48, 32, 100, 114, 111, 112, 112, 101, 100, 32, 49, 59, 32, 108, 101, 103, 32, 98, 97, 114, 110, 32, 50, 55, 48, 32, 52, 32, 53, 32, 97, 116, 32, 50, 53, 59, 32, 98, 111, 103, 32, 114, 101, 101, 100, 32, 49, 56, 48, 32, 49, 51, 48, 59, 32, 97, 100, 106, 117, 115, 116, 59], [116, 104, 101, 32, 115, 116, 97, 116, 105, 111, 110, 32, 100, 111, 101, 115, 32, 110, 111, 116, 32, 101, 120, 105, 115, 116], [115, 117, 114, 118, 101, 121, 32, 50, 53, 32, 51, 48, 48, 59, 32, 108, 101, 103, 32, 111, 97, 107, 32, 57, 48, 32, 52, 32, 48, 59, 32, 108, 101, 103, 32, 109, 105, 108, 108, 32, 48, 32, 51, 32, 48, 32, 100, 114, 111, 112, 112, 101, 100, 32, 49, 59, 32, 108, 101, 103, 32, 98, 97, 114, 110, 32, 50, 55, 48, 32, 52, 32, 53, 32, 97, 116, 32, 50, 53, 59, 32, 98, 111, 103, 32, 114, 101, 101, 100, 32, 49, 56, 48, 32, 49, 51, 48, 59, 32, 97, 100, 106, 117, 115, 116, 59], [115, 117, 114, 118, 101, 121], [108, 101, 103], [100, 114, 111, 112, 112, 101, 100], [114, 105, 115, 101], [97, 116], [98, 111, 103], [100, 114, 111, 112], [102, 111, 117, 110, 100], [119, 101, 97, 114], [112, 97, 99, 101], [98, 97, 99, 107], [97, 100, 106, 117, 115, 116], [114, 97, 119], [32, 62, 32], [115, 117, 114, 118, 101, 121, 32], [32], [59]]
def stB (i : Nat) : List Int32 := stBL.getD i []
def cosL : List Int32 := [10000, 9659, 8660, 7071, 5000, 2588, 0]
def d1L : List Int32 := [48, 49, 50, 51, 52, 53, 54, 55, 56, 57, 48, 49, 50, 51, 52, 53, 54, 55, 56, 57, 48, 49, 50, 51, 52, 53, 54, 55, 56, 57, 48, 49, 50, 51, 52, 53, 54, 55, 56, 57, 48, 49, 50, 51, 52, 53, 54, 55, 56, 57, 48, 49, 50, 51, 52, 53, 54, 55, 56, 57, 48, 49, 50, 51, 52, 53, 54, 55, 56, 57, 48, 49, 50, 51, 52, 53, 54, 55, 56, 57, 48, 49, 50, 51, 52, 53, 54, 55, 56, 57, 48, 49, 50, 51, 52, 53, 54, 55, 56, 57]
def d10L : List Int32 := [48, 48, 48, 48, 48, 48, 48, 48, 48, 48, 49, 49, 49, 49, 49, 49, 49, 49, 49, 49, 50, 50, 50, 50, 50, 50, 50, 50, 50, 50, 51, 51, 51, 51, 51, 51, 51, 51, 51, 51, 52, 52, 52, 52, 52, 52, 52, 52, 52, 52, 53, 53, 53, 53, 53, 53, 53, 53, 53, 53, 54, 54, 54, 54, 54, 54, 54, 54, 54, 54, 55, 55, 55, 55, 55, 55, 55, 55, 55, 55, 56, 56, 56, 56, 56, 56, 56, 56, 56, 56, 57, 57, 57, 57, 57, 57, 57, 57, 57, 57]
def exL : List String := ["java/lang/IllegalArgumentException", "java/lang/IllegalStateException", "java/lang/IndexOutOfBoundsException"]
/-- what the start tells, and what no step of ours touches -/
def GOK (G : Gt) : Prop :=
  va_K (gD G) clL (tyK G) (gs G) ∧ (gl G).stackTraces = false ∧
  (va_X (gE G 2000) (gN G) (gX G) (gs G) (gs G).heap ∧ gE G 2000 < gb G ∧ gN G ≤ 3072) ∧
  (∀ w ∈ lx_tbl, goodWord w = false → w.onTables = true → va_Nw w (gs G)) ∧
  (vx_Zq Bundle.tN "UNASSIGNED_STACK" Bundle.steD (ga G) (gs G) (gs G).heap ∧ vx_Zq Bundle.tN "SUPPRESSED_SENTINEL" Bundle.listD (ga G) (gs G) (gs G).heap) ∧
  (∀ i q, stW[i]? = some q → vk_R q.1 q.2.1 q.2.2 (gE G (1000 + i)) (gs G)) ∧
  (∀ i, i < 47 → vk_S 1 [(stB i).length] [stB i] (fun _ => gE G (1000 + i)) (fun _ => gE G (1200 + i)) (ga G) (gs G) (gs G).heap) ∧
  (va_Z RX4 "COSINES" "[I" (.ref (gE G 1100)) (ga G) (gs G) (gs G).heap ∧ va_T .int (gE G 1100) 7 (fun j => .int (cosL.getD j 0)) (ga G) (gs G) (gs G).heap ∧ va_Z "java/lang/String" "COMPACT_STRINGS" "Z" (.int 1) (ga G) (gs G) (gs G).heap) ∧
  (∀ x ∈ exL, ∀ y ∈ exL, x ≠ y → va_Nc x y (gs G)) ∧ va_AO RX2 (gs G) ∧
  ((va_Z "jdk/internal/util/Preconditions" "SIOOBE_FORMATTER" "Ljava/util/function/BiFunction;" .null (ga G) (gs G) (gs G).heap ∨ va_Z "jdk/internal/util/Preconditions" "SIOOBE_FORMATTER" "Ljava/util/function/BiFunction;" (.ref (gE G 2100)) (ga G) (gs G) (gs G).heap) ∧ (va_Z "java/lang/Integer" "DigitOnes" "[B" (.ref (gE G 1101)) (ga G) (gs G) (gs G).heap ∧ va_T .byte (gE G 1101) 100 (fun j => .int (d1L.getD j 0)) (ga G) (gs G) (gs G).heap) ∧ va_Z "java/lang/Integer" "DigitTens" "[B" (.ref (gE G 1102)) (ga G) (gs G) (gs G).heap ∧ va_T .byte (gE G 1102) 100 (fun j => .int (d10L.getD j 0)) (ga G) (gs G) (gs G).heap)
def BF (G : Gt) (Y : MI) (B : Bag) : Prop :=
  (bP B).tables.exec = Jvm.exec ∧ (bC B).code = mB Y ∧ (bC B).maxLocals = mL Y ∧ (bT B).sig.returnType = mR Y ∧ (bT B).locks = false ∧ bR B = mRm Y ∧ (∀ w ∈ TB, w.before (bA B) (bS B) = true) ∧ (bS B).vm.findClass (mY Y).cls = some (bM B).cls ∧ (bT B).name = (mY Y).name ∧ (∀ x ∈ (bC B).exceptionTable.toList, x ∈ tableOf (mH Y)) ∧ EO G (bS B) ∧ GOK G ∧ (bC B).exceptionTable.toList = tableOf (mH Y)
/-- THE JUDGEMENT: from here, with these known locals, this stack, these ints, the machine comes to Qm -/
def AW (G : Gt) (Y : MI) (B : Bag) (Qm : State → Prop) (k1 k2 pc : Nat) (ls : List (Nat × Value)) (st : List Value) (M : Mm) (φ : Ph) : Prop :=
  ∀ (H : Heap) (locs : List Loc) (lsA : Array Slot), WH G M φ H → va_S (ga G) (bS B).heap H locs → lv_has lsA (mL Y) (trL G ls) →
    W (bP B) (gl G) (bE B) (bR B) (bS B) (bM B) (bA B) (bW B) (bT B) (bC B) H locs k1 k2 Qm (F0 (bM B) pc lsA (trS G st))
section AWR
variable {G : Gt} {Y : MI} {B : Bag} {Qm : State → Prop} {k1 k2 pc : Nat} {ls : List (Nat × Value)} {st : List Value} {M : Mm} {φ : Ph}
theorem a_ls (ks : List Nat) {ls' : List (Nat × Value)} (h : lv_pick ls ks = ls') (K : AW G Y B Qm k1 k2 pc ls' st M φ) : AW G Y B Qm k1 k2 pc ls st M φ :=
  fun H locs lsA hW hS hl => K H locs lsA hW hS (lv_sub hl ks (trL_pick h))
theorem a_M {M' : Mm} (h : M' = M) (K : AW G Y B Qm k1 k2 pc ls st M' φ) : AW G Y B Qm k1 k2 pc ls st M φ := h ▸ K
theorem a_iconst (hB : BF G Y B) {n : Int} {v : Int32} (hdg : decode (mB Y) pc = .ok (.iconst n, 1)) (hv : Int32.ofInt n = v) (K : AW G Y B Qm k1 k2 (pc + 1) ls (.int v :: st) M φ) : AW G Y B Qm k1 k2 pc ls (st) M φ :=
  fun H locs lsA hW hS hl => lv_iconst hB.1 hB.2.1 hdg hv (K H locs lsA hW hS hl)
theorem a_bipush (hB : BF G Y B) {n : Int} {v : Int32} (hdg : decode (mB Y) pc = .ok (.bipush n, 2)) (hv : (Int8.ofInt n).toInt32 = v) (K : AW G Y B Qm k1 k2 (pc + 2) ls (.int v :: st) M φ) : AW G Y B Qm k1 k2 pc ls (st) M φ :=
  fun H locs lsA hW hS hl => lv_bipush hB.1 hB.2.1 hdg hv (K H locs lsA hW hS hl)
theorem a_sipush (hB : BF G Y B) {n : Int} {v : Int32} (hdg : decode (mB Y) pc = .ok (.sipush n, 3)) (hv : (Int16.ofInt n).toInt32 = v) (K : AW G Y B Qm k1 k2 (pc + 3) ls (.int v :: st) M φ) : AW G Y B Qm k1 k2 pc ls (st) M φ :=
  fun H locs lsA hW hS hl => lv_sipush hB.1 hB.2.1 hdg hv (K H locs lsA hW hS hl)
theorem a_lconst (hB : BF G Y B) {n : Fin 2} {v : Int64} (hdg : decode (mB Y) pc = .ok (.lconst n, 1)) (hv : Int64.ofNat (n : Nat) = v) (K : AW G Y B Qm k1 k2 (pc + 1) ls (.long v :: st) M φ) : AW G Y B Qm k1 k2 pc ls (st) M φ :=
  fun H locs lsA hW hS hl => lv_lconst hB.1 hB.2.1 hdg hv (K H locs lsA hW hS hl)
theorem a_fconst0 (hB : BF G Y B)  (hdg : decode (mB Y) pc = .ok (.fconst 0, 1))  (K : AW G Y B Qm k1 k2 (pc + 1) ls (.float 0 :: st) M φ) : AW G Y B Qm k1 k2 pc ls (st) M φ :=
  fun H locs lsA hW hS hl => lv_fconst0 hB.1 hB.2.1 hdg  (K H locs lsA hW hS hl)
theorem a_dconst0 (hB : BF G Y B)  (hdg : decode (mB Y) pc = .ok (.dconst 0, 1))  (K : AW G Y B Qm k1 k2 (pc + 1) ls (.double 0 :: st) M φ) : AW G Y B Qm k1 k2 pc ls (st) M φ :=
  fun H locs lsA hW hS hl => lv_dconst0 hB.1 hB.2.1 hdg  (K H locs lsA hW hS hl)
theorem a_iload_n (hB : BF G Y B) {k : Fin 4} {i j : Nat} {x : Int32} (hdg : decode (mB Y) pc = .ok (.iload_n k, 1)) (hi : (k : Nat) = i) (hj : ls[j]? = some (i, .int x)) (K : AW G Y B Qm k1 k2 (pc + 1) ls (.int x :: st) M φ) : AW G Y B Qm k1 k2 pc ls (st) M φ :=
  fun H locs lsA hW hS hl => lv_iload_n hB.1 hB.2.1 hdg hi (lv_at hl j (trL_get hj)) (K H locs lsA hW hS hl)
theorem a_iload (hB : BF G Y B) {i j : Nat} {x : Int32} (hdg : decode (mB Y) pc = .ok (.iload i, 2)) (hj : ls[j]? = some (i, .int x)) (K : AW G Y B Qm k1 k2 (pc + 2) ls (.int x :: st) M φ) : AW G Y B Qm k1 k2 pc ls (st) M φ :=
  fun H locs lsA hW hS hl => lv_iload hB.1 hB.2.1 hdg (lv_at hl j (trL_get hj)) (K H locs lsA hW hS hl)
theorem a_lload_n (hB : BF G Y B) {k : Fin 4} {i j : Nat} {x : Int64} (hdg : decode (mB Y) pc = .ok (.lload_n k, 1)) (hi : (k : Nat) = i) (hj : ls[j]? = some (i, .long x)) (K : AW G Y B Qm k1 k2 (pc + 1) ls (.long x :: st) M φ) : AW G Y B Qm k1 k2 pc ls (st) M φ :=
  fun H locs lsA hW hS hl => lv_lload_n hB.1 hB.2.1 hdg hi (lv_at hl j (trL_get hj)) (K H locs lsA hW hS hl)
theorem a_lload (hB : BF G Y B) {i j : Nat} {x : Int64} (hdg : decode (mB Y) pc = .ok (.lload i, 2)) (hj : ls[j]? = some (i, .long x)) (K : AW G Y B Qm k1 k2 (pc + 2) ls (.long x :: st) M φ) : AW G Y B Qm k1 k2 pc ls (st) M φ :=
  fun H locs lsA hW hS hl => lv_lload hB.1 hB.2.1 hdg (lv_at hl j (trL_get hj)) (K H locs lsA hW hS hl)
theorem a_dload_n (hB : BF G Y B) {k : Fin 4} {i j : Nat} {x : UInt64} (hdg : decode (mB Y) pc = .ok (.dload_n k, 1)) (hi : (k : Nat) = i) (hj : ls[j]? = some (i, .double x)) (K : AW G Y B Qm k1 k2 (pc + 1) ls (.double x :: st) M φ) : AW G Y B Qm k1 k2 pc ls (st) M φ :=
  fun H locs lsA hW hS hl => lv_dload_n hB.1 hB.2.1 hdg hi (lv_at hl j (trL_get hj)) (K H locs lsA hW hS hl)
theorem a_dload (hB : BF G Y B) {i j : Nat} {x : UInt64} (hdg : decode (mB Y) pc = .ok (.dload i, 2)) (hj : ls[j]? = some (i, .double x)) (K : AW G Y B Qm k1 k2 (pc + 2) ls (.double x :: st) M φ) : AW G Y B Qm k1 k2 pc ls (st) M φ :=
  fun H locs lsA hW hS hl => lv_dload hB.1 hB.2.1 hdg (lv_at hl j (trL_get hj)) (K H locs lsA hW hS hl)
theorem a_aload_n (hB : BF G Y B) {k : Fin 4} {i j x : Nat} (hdg : decode (mB Y) pc = .ok (.aload_n k, 1)) (hi : (k : Nat) = i) (hj : ls[j]? = some (i, .ref x)) (K : AW G Y B Qm k1 k2 (pc + 1) ls (.ref x :: st) M φ) : AW G Y B Qm k1 k2 pc ls (st) M φ :=
  fun H locs lsA hW hS hl => lv_aload_n hB.1 hB.2.1 hdg hi (lv_at hl j (trL_get hj)) (K H locs lsA hW hS hl)
theorem a_aload (hB : BF G Y B) {i j x : Nat} (hdg : decode (mB Y) pc = .ok (.aload i, 2)) (hj : ls[j]? = some (i, .ref x)) (K : AW G Y B Qm k1 k2 (pc + 2) ls (.ref x :: st) M φ) : AW G Y B Qm k1 k2 pc ls (st) M φ :=
  fun H locs lsA hW hS hl => lv_aload hB.1 hB.2.1 hdg (lv_at hl j (trL_get hj)) (K H locs lsA hW hS hl)
theorem a_iadd (hB : BF G Y B) {x y : Int32} (hdg : decode (mB Y) pc = .ok (.iadd, 1))  (K : AW G Y B Qm k1 k2 (pc + 1) ls (.int (x + y) :: st) M φ) : AW G Y B Qm k1 k2 pc ls (.int y :: .int x :: st) M φ :=
  fun H locs lsA hW hS hl => lv_iadd hB.1 hB.2.1 hdg  (K H locs lsA hW hS hl)
theorem a_isub (hB : BF G Y B) {x y : Int32} (hdg : decode (mB Y) pc = .ok (.isub, 1))  (K : AW G Y B Qm k1 k2 (pc + 1) ls (.int (x - y) :: st) M φ) : AW G Y B Qm k1 k2 pc ls (.int y :: .int x :: st) M φ :=
  fun H locs lsA hW hS hl => lv_isub hB.1 hB.2.1 hdg  (K H locs lsA hW hS hl)
theorem a_imul (hB : BF G Y B) {x y : Int32} (hdg : decode (mB Y) pc = .ok (.imul, 1))  (K : AW G Y B Qm k1 k2 (pc + 1) ls (.int (x * y) :: st) M φ) : AW G Y B Qm k1 k2 pc ls (.int y :: .int x :: st) M φ :=
  fun H locs lsA hW hS hl => lv_imul hB.1 hB.2.1 hdg  (K H locs lsA hW hS hl)
theorem a_iand (hB : BF G Y B) {x y : Int32} (hdg : decode (mB Y) pc = .ok (.iand, 1))  (K : AW G Y B Qm k1 k2 (pc + 1) ls (.int (x &&& y) :: st) M φ) : AW G Y B Qm k1 k2 pc ls (.int y :: .int x :: st) M φ :=
  fun H locs lsA hW hS hl => lv_iand hB.1 hB.2.1 hdg  (K H locs lsA hW hS hl)
theorem a_ior (hB : BF G Y B) {x y : Int32} (hdg : decode (mB Y) pc = .ok (.ior, 1))  (K : AW G Y B Qm k1 k2 (pc + 1) ls (.int (x ||| y) :: st) M φ) : AW G Y B Qm k1 k2 pc ls (.int y :: .int x :: st) M φ :=
  fun H locs lsA hW hS hl => lv_ior hB.1 hB.2.1 hdg  (K H locs lsA hW hS hl)
theorem a_ishl (hB : BF G Y B) {x y : Int32} (hdg : decode (mB Y) pc = .ok (.ishl, 1))  (K : AW G Y B Qm k1 k2 (pc + 1) ls (.int (x <<< (y &&& 31)) :: st) M φ) : AW G Y B Qm k1 k2 pc ls (.int y :: .int x :: st) M φ :=
  fun H locs lsA hW hS hl => lv_ishl hB.1 hB.2.1 hdg  (K H locs lsA hW hS hl)
theorem a_ishr (hB : BF G Y B) {x y : Int32} (hdg : decode (mB Y) pc = .ok (.ishr, 1))  (K : AW G Y B Qm k1 k2 (pc + 1) ls (.int (x >>> (y &&& 31)) :: st) M φ) : AW G Y B Qm k1 k2 pc ls (.int y :: .int x :: st) M φ :=
  fun H locs lsA hW hS hl => lv_ishr hB.1 hB.2.1 hdg  (K H locs lsA hW hS hl)
theorem a_idiv (hB : BF G Y B) {x y : Int32} (hdg : decode (mB Y) pc = .ok (.idiv, 1)) (hne : ¬ y = 0) (K : AW G Y B Qm k1 k2 (pc + 1) ls (.int (x / y) :: st) M φ) : AW G Y B Qm k1 k2 pc ls (.int y :: .int x :: st) M φ :=
  fun H locs lsA hW hS hl => lv_idiv hB.1 hB.2.1 hdg hne (K H locs lsA hW hS hl)
theorem a_irem (hB : BF G Y B) {x y : Int32} (hdg : decode (mB Y) pc = .ok (.irem, 1)) (hne : ¬ y = 0) (K : AW G Y B Qm k1 k2 (pc + 1) ls (.int (x - x / y * y) :: st) M φ) : AW G Y B Qm k1 k2 pc ls (.int y :: .int x :: st) M φ :=
  fun H locs lsA hW hS hl => lv_irem hB.1 hB.2.1 hdg hne (K H locs lsA hW hS hl)
theorem a_ineg (hB : BF G Y B) {x : Int32} (hdg : decode (mB Y) pc = .ok (.ineg, 1))  (K : AW G Y B Qm k1 k2 (pc + 1) ls (.int (-x) :: st) M φ) : AW G Y B Qm k1 k2 pc ls (.int x :: st) M φ :=
  fun H locs lsA hW hS hl => lv_ineg hB.1 hB.2.1 hdg  (K H locs lsA hW hS hl)
theorem a_ladd (hB : BF G Y B) {x y : Int64} (hdg : decode (mB Y) pc = .ok (.ladd, 1))  (K : AW G Y B Qm k1 k2 (pc + 1) ls (.long (x + y) :: st) M φ) : AW G Y B Qm k1 k2 pc ls (.long y :: .long x :: st) M φ :=
  fun H locs lsA hW hS hl => lv_ladd hB.1 hB.2.1 hdg  (K H locs lsA hW hS hl)
theorem a_lsub (hB : BF G Y B) {x y : Int64} (hdg : decode (mB Y) pc = .ok (.lsub, 1))  (K : AW G Y B Qm k1 k2 (pc + 1) ls (.long (x - y) :: st) M φ) : AW G Y B Qm k1 k2 pc ls (.long y :: .long x :: st) M φ :=
  fun H locs lsA hW hS hl => lv_lsub hB.1 hB.2.1 hdg  (K H locs lsA hW hS hl)
theorem a_lmul (hB : BF G Y B) {x y : Int64} (hdg : decode (mB Y) pc = .ok (.lmul, 1))  (K : AW G Y B Qm k1 k2 (pc + 1) ls (.long (x * y) :: st) M φ) : AW G Y B Qm k1 k2 pc ls (.long y :: .long x :: st) M φ :=
  fun H locs lsA hW hS hl => lv_lmul hB.1 hB.2.1 hdg  (K H locs lsA hW hS hl)
theorem a_ldiv (hB : BF G Y B) {x y : Int64} (hdg : decode (mB Y) pc = .ok (.ldiv, 1)) (hne : ¬ y = 0) (K : AW G Y B Qm k1 k2 (pc + 1) ls (.long (x / y) :: st) M φ) : AW G Y B Qm k1 k2 pc ls (.long y :: .long x :: st) M φ :=
  fun H locs lsA hW hS hl => lv_ldiv hB.1 hB.2.1 hdg hne (K H locs lsA hW hS hl)
theorem a_lshr (hB : BF G Y B) {x : Int64} {y : Int32} (hdg : decode (mB Y) pc = .ok (.lshr, 1))  (K : AW G Y B Qm k1 k2 (pc + 1) ls (.long (x >>> (y.toInt64 &&& 63)) :: st) M φ) : AW G Y B Qm k1 k2 pc ls (.int y :: .long x :: st) M φ :=
  fun H locs lsA hW hS hl => lv_lshr hB.1 hB.2.1 hdg rfl (K H locs lsA hW hS hl)
theorem a_lcmp (hB : BF G Y B) {x y : Int64} (hdg : decode (mB Y) pc = .ok (.lcmp, 1))  (K : AW G Y B Qm k1 k2 (pc + 1) ls (.int (lg_cmp x y) :: st) M φ) : AW G Y B Qm k1 k2 pc ls (.long y :: .long x :: st) M φ :=
  fun H locs lsA hW hS hl => W.lcmp hB.1 hB.2.1 hdg  (K H locs lsA hW hS hl)
theorem a_i2l (hB : BF G Y B) {x : Int32} (hdg : decode (mB Y) pc = .ok (.i2l, 1))  (K : AW G Y B Qm k1 k2 (pc + 1) ls (.long x.toInt64 :: st) M φ) : AW G Y B Qm k1 k2 pc ls (.int x :: st) M φ :=
  fun H locs lsA hW hS hl => lv_i2l hB.1 hB.2.1 hdg rfl (K H locs lsA hW hS hl)
theorem a_l2i (hB : BF G Y B) {x : Int64} (hdg : decode (mB Y) pc = .ok (.l2i, 1))  (K : AW G Y B Qm k1 k2 (pc + 1) ls (.int x.toInt32 :: st) M φ) : AW G Y B Qm k1 k2 pc ls (.long x :: st) M φ :=
  fun H locs lsA hW hS hl => lv_l2i hB.1 hB.2.1 hdg rfl (K H locs lsA hW hS hl)
theorem a_i2b (hB : BF G Y B) {x : Int32} (hdg : decode (mB Y) pc = .ok (.i2b, 1))  (K : AW G Y B Qm k1 k2 (pc + 1) ls (.int x.toInt8.toInt32 :: st) M φ) : AW G Y B Qm k1 k2 pc ls (.int x :: st) M φ :=
  fun H locs lsA hW hS hl => lv_i2b hB.1 hB.2.1 hdg rfl (K H locs lsA hW hS hl)
theorem a_i2d (hB : BF G Y B) {x : Int32} (hdg : decode (mB Y) pc = .ok (.i2d, 1))  (K : AW G Y B Qm k1 k2 (pc + 1) ls (.double (FP.i2d x) :: st) M φ) : AW G Y B Qm k1 k2 pc ls (.int x :: st) M φ :=
  fun H locs lsA hW hS hl => lv_i2d hB.1 hB.2.1 hdg  (K H locs lsA hW hS hl)
theorem a_i2f (hB : BF G Y B) {x : Int32} (hdg : decode (mB Y) pc = .ok (.i2f, 1))  (K : AW G Y B Qm k1 k2 (pc + 1) ls (.float (FP.i2f x) :: st) M φ) : AW G Y B Qm k1 k2 pc ls (.int x :: st) M φ :=
  fun H locs lsA hW hS hl => lv_i2f hB.1 hB.2.1 hdg  (K H locs lsA hW hS hl)
theorem a_f2d (hB : BF G Y B) {x : UInt32} (hdg : decode (mB Y) pc = .ok (.f2d, 1)) (hne : vf_n64 (FP.f2d x)) (K : AW G Y B Qm k1 k2 (pc + 1) ls (.double (FP.f2d x) :: st) M φ) : AW G Y B Qm k1 k2 pc ls (.float x :: st) M φ :=
  fun H locs lsA hW hS hl => lv_f2d hB.1 hB.2.1 hdg hne (K H locs lsA hW hS hl)
theorem a_fdiv (hB : BF G Y B) {x y : UInt32} (hdg : decode (mB Y) pc = .ok (.fdiv, 1)) (hne : vf_n32 (FP.fdiv x y)) (K : AW G Y B Qm k1 k2 (pc + 1) ls (.float (FP.fdiv x y) :: st) M φ) : AW G Y B Qm k1 k2 pc ls (.float y :: .float x :: st) M φ :=
  fun H locs lsA hW hS hl => lv_fdiv hB.1 hB.2.1 hdg hne (K H locs lsA hW hS hl)
theorem a_ddiv (hB : BF G Y B) {x y : UInt64} (hdg : decode (mB Y) pc = .ok (.ddiv, 1)) (hne : vf_n64 (FP.ddiv x y)) (K : AW G Y B Qm k1 k2 (pc + 1) ls (.double (FP.ddiv x y) :: st) M φ) : AW G Y B Qm k1 k2 pc ls (.double y :: .double x :: st) M φ :=
  fun H locs lsA hW hS hl => lv_ddiv hB.1 hB.2.1 hdg hne (K H locs lsA hW hS hl)
theorem a_dcmp (hB : BF G Y B) {x y : UInt64} {op : CmpOp} (hdg : decode (mB Y) pc = .ok (.dcmp op, 1))  (K : AW G Y B Qm k1 k2 (pc + 1) ls (.int (Op.cmpValue (FP.dcmp x y) op) :: st) M φ) : AW G Y B Qm k1 k2 pc ls (.double y :: .double x :: st) M φ :=
  fun H locs lsA hW hS hl => lv_dcmp hB.1 hB.2.1 hdg  (K H locs lsA hW hS hl)
theorem a_dup (hB : BF G Y B) {v : Value} (hdg : decode (mB Y) pc = .ok (.dup, 1)) (hva : v.category = 1) (K : AW G Y B Qm k1 k2 (pc + 1) ls (v :: v :: st) M φ) : AW G Y B Qm k1 k2 pc ls (v :: st) M φ :=
  fun H locs lsA hW hS hl => lv_dup hB.1 hB.2.1 hdg ((tr_cat G v).trans hva) (K H locs lsA hW hS hl)
theorem a_pop (hB : BF G Y B) {v : Value} (hdg : decode (mB Y) pc = .ok (.pop, 1)) (hva : v.category = 1) (K : AW G Y B Qm k1 k2 (pc + 1) ls (st) M φ) : AW G Y B Qm k1 k2 pc ls (v :: st) M φ :=
  fun H locs lsA hW hS hl => lv_pop hB.1 hB.2.1 hdg ((tr_cat G v).trans hva) (K H locs lsA hW hS hl)
theorem a_dup2 (hB : BF G Y B) {v w : Value} (hdg : decode (mB Y) pc = .ok (.dup2, 1)) (hva : v.category = 1) (hvb : w.category = 1) (K : AW G Y B Qm k1 k2 (pc + 1) ls (v :: w :: v :: w :: st) M φ) : AW G Y B Qm k1 k2 pc ls (v :: w :: st) M φ :=
  fun H locs lsA hW hS hl => lv_dup2_11 hB.1 hB.2.1 hdg ((tr_cat G v).trans hva) ((tr_cat G w).trans hvb) (K H locs lsA hW hS hl)
theorem a_istore_n (hB : BF G Y B) {k : Fin 4} {i : Nat} {x : Int32} {ls' : List (Nat × Value)} (hdg : decode (mB Y) pc = .ok (.istore_n k, 1)) (hi : (k : Nat) = i) (hn : i < mL Y) (hl' : stL1 i (.int x) ls = ls') (K : AW G Y B Qm k1 k2 (pc + 1) ls' st M φ) : AW G Y B Qm k1 k2 pc ls (.int x :: st) M φ :=
  fun H locs lsA hW hS hl => lv_istore_n hB.1 hB.2.1 hdg hi hl hn ((trL_st1 G i (.int x) ls).trans (congrArg (trL G) hl')) (fun ls1 hl1 => K H locs ls1 hW hS hl1)
theorem a_istore (hB : BF G Y B) {i : Nat} {x : Int32} {ls' : List (Nat × Value)} (hdg : decode (mB Y) pc = .ok (.istore i, 2))  (hn : i < mL Y) (hl' : stL1 i (.int x) ls = ls') (K : AW G Y B Qm k1 k2 (pc + 2) ls' st M φ) : AW G Y B Qm k1 k2 pc ls (.int x :: st) M φ :=
  fun H locs lsA hW hS hl => lv_istore hB.1 hB.2.1 hdg  hl hn ((trL_st1 G i (.int x) ls).trans (congrArg (trL G) hl')) (fun ls1 hl1 => K H locs ls1 hW hS hl1)
theorem a_lstore_n (hB : BF G Y B) {k : Fin 4} {i : Nat} {x : Int64} {ls' : List (Nat × Value)} (hdg : decode (mB Y) pc = .ok (.lstore_n k, 1)) (hi : (k : Nat) = i) (hn : i + 1 < mL Y) (hl' : stL2 i (.long x) ls = ls') (K : AW G Y B Qm k1 k2 (pc + 1) ls' st M φ) : AW G Y B Qm k1 k2 pc ls (.long x :: st) M φ :=
  fun H locs lsA hW hS hl => lv_lstore_n hB.1 hB.2.1 hdg hi hl hn ((trL_st2 G i (.long x) ls).trans (congrArg (trL G) hl')) (fun ls1 hl1 => K H locs ls1 hW hS hl1)
theorem a_lstore (hB : BF G Y B) {i : Nat} {x : Int64} {ls' : List (Nat × Value)} (hdg : decode (mB Y) pc = .ok (.lstore i, 2))  (hn : i + 1 < mL Y) (hl' : stL2 i (.long x) ls = ls') (K : AW G Y B Qm k1 k2 (pc + 2) ls' st M φ) : AW G Y B Qm k1 k2 pc ls (.long x :: st) M φ :=
  fun H locs lsA hW hS hl => lv_lstore hB.1 hB.2.1 hdg  hl hn ((trL_st2 G i (.long x) ls).trans (congrArg (trL G) hl')) (fun ls1 hl1 => K H locs ls1 hW hS hl1)
theorem a_dstore_n (hB : BF G Y B) {k : Fin 4} {i : Nat} {x : UInt64} {ls' : List (Nat × Value)} (hdg : decode (mB Y) pc = .ok (.dstore_n k, 1)) (hi : (k : Nat) = i) (hn : i + 1 < mL Y) (hl' : stL2 i (.double x) ls = ls') (K : AW G Y B Qm k1 k2 (pc + 1) ls' st M φ) : AW G Y B Qm k1 k2 pc ls (.double x :: st) M φ :=
  fun H locs lsA hW hS hl => lv_dstore_n hB.1 hB.2.1 hdg hi hl hn ((trL_st2 G i (.double x) ls).trans (congrArg (trL G) hl')) (fun ls1 hl1 => K H locs ls1 hW hS hl1)
theorem a_dstore (hB : BF G Y B) {i : Nat} {x : UInt64} {ls' : List (Nat × Value)} (hdg : decode (mB Y) pc = .ok (.dstore i, 2))  (hn : i + 1 < mL Y) (hl' : stL2 i (.double x) ls = ls') (K : AW G Y B Qm k1 k2 (pc + 2) ls' st M φ) : AW G Y B Qm k1 k2 pc ls (.double x :: st) M φ :=
  fun H locs lsA hW hS hl => lv_dstore hB.1 hB.2.1 hdg  hl hn ((trL_st2 G i (.double x) ls).trans (congrArg (trL G) hl')) (fun ls1 hl1 => K H locs ls1 hW hS hl1)
theorem a_astore_n (hB : BF G Y B) {k : Fin 4} {i x : Nat} {ls' : List (Nat × Value)} (hdg : decode (mB Y) pc = .ok (.astore_n k, 1)) (hi : (k : Nat) = i) (hn : i < mL Y) (hl' : stL1 i (.ref x) ls = ls') (K : AW G Y B Qm k1 k2 (pc + 1) ls' st M φ) : AW G Y B Qm k1 k2 pc ls (.ref x :: st) M φ :=
  fun H locs lsA hW hS hl => lv_astore_n hB.1 hB.2.1 hdg hi hl hn ((trL_st1 G i (.ref x) ls).trans (congrArg (trL G) hl')) (fun ls1 hl1 => K H locs ls1 hW hS hl1)
theorem a_astore (hB : BF G Y B) {i x : Nat} {ls' : List (Nat × Value)} (hdg : decode (mB Y) pc = .ok (.astore i, 2))  (hn : i < mL Y) (hl' : stL1 i (.ref x) ls = ls') (K : AW G Y B Qm k1 k2 (pc + 2) ls' st M φ) : AW G Y B Qm k1 k2 pc ls (.ref x :: st) M φ :=
  fun H locs lsA hW hS hl => lv_astore hB.1 hB.2.1 hdg  hl hn ((trL_st1 G i (.ref x) ls).trans (congrArg (trL G) hl')) (fun ls1 hl1 => K H locs ls1 hW hS hl1)
theorem a_iinc (hB : BF G Y B) {i j : Nat} {n : Int} {x v : Int32} {ls' : List (Nat × Value)} (hdg : decode (mB Y) pc = .ok (.iinc i n, 3)) (hj : ls[j]? = some (i, .int x)) (hv : x + Int32.ofInt n = v) (hn : i < mL Y) (hl' : stL1 i (.int v) ls = ls') (K : AW G Y B Qm k1 k2 (pc + 3) ls' st M φ) : AW G Y B Qm k1 k2 pc ls st M φ :=
  fun H locs lsA hW hS hl => lv_iinc hB.1 hB.2.1 hdg hl (trL_get hj) hv hn ((trL_st1 G i (.int v) ls).trans (congrArg (trL G) hl')) (fun ls1 hl1 => K H locs ls1 hW hS hl1)
theorem a_if_eq (hB : BF G Y B) {x : Int32} {off : Int} {tgt : Nat} (hdg : decode (mB Y) pc = .ok (.ifCond .eq off, 3)) (ht : (pc : Int) + off = (tgt : Int)) (kt : x = 0 → AW G Y B Qm k1 k2 tgt ls st M φ) (kf : ¬ x = 0 → AW G Y B Qm k1 k2 (pc + 3) ls st M φ) : AW G Y B Qm k1 k2 pc ls (.int x :: st) M φ :=
  fun H locs lsA hW hS hl => lv_if_eq hB.1 hB.2.1 hdg ht (fun h => kt h H locs lsA hW hS hl) (fun h => kf h H locs lsA hW hS hl)
theorem a_if_ne (hB : BF G Y B) {x : Int32} {off : Int} {tgt : Nat} (hdg : decode (mB Y) pc = .ok (.ifCond .ne off, 3)) (ht : (pc : Int) + off = (tgt : Int)) (kt : ¬ x = 0 → AW G Y B Qm k1 k2 tgt ls st M φ) (kf : x = 0 → AW G Y B Qm k1 k2 (pc + 3) ls st M φ) : AW G Y B Qm k1 k2 pc ls (.int x :: st) M φ :=
  fun H locs lsA hW hS hl => lv_if_ne hB.1 hB.2.1 hdg ht (fun h => kt h H locs lsA hW hS hl) (fun h => kf h H locs lsA hW hS hl)
theorem a_if_lt (hB : BF G Y B) {x : Int32} {off : Int} {tgt : Nat} (hdg : decode (mB Y) pc = .ok (.ifCond .lt off, 3)) (ht : (pc : Int) + off = (tgt : Int)) (kt : x < 0 → AW G Y B Qm k1 k2 tgt ls st M φ) (kf : ¬ x < 0 → AW G Y B Qm k1 k2 (pc + 3) ls st M φ) : AW G Y B Qm k1 k2 pc ls (.int x :: st) M φ :=
  fun H locs lsA hW hS hl => lv_if_lt hB.1 hB.2.1 hdg ht (fun h => kt h H locs lsA hW hS hl) (fun h => kf h H locs lsA hW hS hl)
theorem a_if_ge (hB : BF G Y B) {x : Int32} {off : Int} {tgt : Nat} (hdg : decode (mB Y) pc = .ok (.ifCond .ge off, 3)) (ht : (pc : Int) + off = (tgt : Int)) (kt : 0 ≤ x → AW G Y B Qm k1 k2 tgt ls st M φ) (kf : ¬ 0 ≤ x → AW G Y B Qm k1 k2 (pc + 3) ls st M φ) : AW G Y B Qm k1 k2 pc ls (.int x :: st) M φ :=
  fun H locs lsA hW hS hl => lv_if_ge hB.1 hB.2.1 hdg ht (fun h => kt h H locs lsA hW hS hl) (fun h => kf h H locs lsA hW hS hl)
theorem a_if_gt (hB : BF G Y B) {x : Int32} {off : Int} {tgt : Nat} (hdg : decode (mB Y) pc = .ok (.ifCond .gt off, 3)) (ht : (pc : Int) + off = (tgt : Int)) (kt : 0 < x → AW G Y B Qm k1 k2 tgt ls st M φ) (kf : ¬ 0 < x → AW G Y B Qm k1 k2 (pc + 3) ls st M φ) : AW G Y B Qm k1 k2 pc ls (.int x :: st) M φ :=
  fun H locs lsA hW hS hl => lv_if_gt hB.1 hB.2.1 hdg ht (fun h => kt h H locs lsA hW hS hl) (fun h => kf h H locs lsA hW hS hl)
theorem a_if_le (hB : BF G Y B) {x : Int32} {off : Int} {tgt : Nat} (hdg : decode (mB Y) pc = .ok (.ifCond .le off, 3)) (ht : (pc : Int) + off = (tgt : Int)) (kt : x ≤ 0 → AW G Y B Qm k1 k2 tgt ls st M φ) (kf : ¬ x ≤ 0 → AW G Y B Qm k1 k2 (pc + 3) ls st M φ) : AW G Y B Qm k1 k2 pc ls (.int x :: st) M φ :=
  fun H locs lsA hW hS hl => lv_if_le hB.1 hB.2.1 hdg ht (fun h => kt h H locs lsA hW hS hl) (fun h => kf h H locs lsA hW hS hl)
theorem a_icmp_eq (hB : BF G Y B) {x y : Int32} {off : Int} {tgt : Nat} (hdg : decode (mB Y) pc = .ok (.if_icmp .eq off, 3)) (ht : (pc : Int) + off = (tgt : Int)) (kt : x = y → AW G Y B Qm k1 k2 tgt ls st M φ) (kf : ¬ x = y → AW G Y B Qm k1 k2 (pc + 3) ls st M φ) : AW G Y B Qm k1 k2 pc ls (.int y :: .int x :: st) M φ :=
  fun H locs lsA hW hS hl => lv_icmp_eq hB.1 hB.2.1 hdg ht (fun h => kt h H locs lsA hW hS hl) (fun h => kf h H locs lsA hW hS hl)
theorem a_icmp_ne (hB : BF G Y B) {x y : Int32} {off : Int} {tgt : Nat} (hdg : decode (mB Y) pc = .ok (.if_icmp .ne off, 3)) (ht : (pc : Int) + off = (tgt : Int)) (kt : ¬ x = y → AW G Y B Qm k1 k2 tgt ls st M φ) (kf : x = y → AW G Y B Qm k1 k2 (pc + 3) ls st M φ) : AW G Y B Qm k1 k2 pc ls (.int y :: .int x :: st) M φ :=
  fun H locs lsA hW hS hl => lv_icmp_ne hB.1 hB.2.1 hdg ht (fun h => kt h H locs lsA hW hS hl) (fun h => kf h H locs lsA hW hS hl)
theorem a_icmp_lt (hB : BF G Y B) {x y : Int32} {off : Int} {tgt : Nat} (hdg : decode (mB Y) pc = .ok (.if_icmp .lt off, 3)) (ht : (pc : Int) + off = (tgt : Int)) (kt : x < y → AW G Y B Qm k1 k2 tgt ls st M φ) (kf : ¬ x < y → AW G Y B Qm k1 k2 (pc + 3) ls st M φ) : AW G Y B Qm k1 k2 pc ls (.int y :: .int x :: st) M φ :=
  fun H locs lsA hW hS hl => lv_icmp_lt hB.1 hB.2.1 hdg ht (fun h => kt h H locs lsA hW hS hl) (fun h => kf h H locs lsA hW hS hl)
theorem a_icmp_ge (hB : BF G Y B) {x y : Int32} {off : Int} {tgt : Nat} (hdg : decode (mB Y) pc = .ok (.if_icmp .ge off, 3)) (ht : (pc : Int) + off = (tgt : Int)) (kt : y ≤ x → AW G Y B Qm k1 k2 tgt ls st M φ) (kf : ¬ y ≤ x → AW G Y B Qm k1 k2 (pc + 3) ls st M φ) : AW G Y B Qm k1 k2 pc ls (.int y :: .int x :: st) M φ :=
  fun H locs lsA hW hS hl => lv_icmp_ge hB.1 hB.2.1 hdg ht (fun h => kt h H locs lsA hW hS hl) (fun h => kf h H locs lsA hW hS hl)
theorem a_icmp_gt (hB : BF G Y B) {x y : Int32} {off : Int} {tgt : Nat} (hdg : decode (mB Y) pc = .ok (.if_icmp .gt off, 3)) (ht : (pc : Int) + off = (tgt : Int)) (kt : y < x → AW G Y B Qm k1 k2 tgt ls st M φ) (kf : ¬ y < x → AW G Y B Qm k1 k2 (pc + 3) ls st M φ) : AW G Y B Qm k1 k2 pc ls (.int y :: .int x :: st) M φ :=
  fun H locs lsA hW hS hl => lv_icmp_gt hB.1 hB.2.1 hdg ht (fun h => kt h H locs lsA hW hS hl) (fun h => kf h H locs lsA hW hS hl)
theorem a_icmp_le (hB : BF G Y B) {x y : Int32} {off : Int} {tgt : Nat} (hdg : decode (mB Y) pc = .ok (.if_icmp .le off, 3)) (ht : (pc : Int) + off = (tgt : Int)) (kt : x ≤ y → AW G Y B Qm k1 k2 tgt ls st M φ) (kf : ¬ x ≤ y → AW G Y B Qm k1 k2 (pc + 3) ls st M φ) : AW G Y B Qm k1 k2 pc ls (.int y :: .int x :: st) M φ :=
  fun H locs lsA hW hS hl => lv_icmp_le hB.1 hB.2.1 hdg ht (fun h => kt h H locs lsA hW hS hl) (fun h => kf h H locs lsA hW hS hl)
theorem a_goto (hB : BF G Y B) {off : Int} {tgt : Nat} (hdg : decode (mB Y) pc = .ok (.goto off, 3)) (ht : (pc : Int) + off = (tgt : Int)) (K : AW G Y B Qm k1 k2 tgt ls st M φ) : AW G Y B Qm k1 k2 pc ls st M φ :=
  fun H locs lsA hW hS hl => lv_goto hB.1 hB.2.1 hdg ht (K H locs lsA hW hS hl)
theorem a_tableOut (hB : BF G Y B) {dflt lo hi : Int} {offs : Array Int} {len : Nat} {x : Int32} {tgt : Nat} (hdg : decode (mB Y) pc = .ok (.tableswitch dflt lo hi offs, len)) (h : x.toInt < lo ∨ hi < x.toInt) (ht : (pc : Int) + dflt = (tgt : Int)) (K : AW G Y B Qm k1 k2 tgt ls st M φ) : AW G Y B Qm k1 k2 pc ls (.int x :: st) M φ :=
  fun H locs lsA hW hS hl => lv_tableOut hB.1 hB.2.1 hdg h ht (K H locs lsA hW hS hl)
theorem a_tableIn (hB : BF G Y B) {dflt lo hi : Int} {offs : Array Int} {len : Nat} {x : Int32} {off : Int} {tgt : Nat} (hdg : decode (mB Y) pc = .ok (.tableswitch dflt lo hi offs, len)) (h1 : ¬ x.toInt < lo) (h2 : ¬ hi < x.toInt) (ho : offs[(x.toInt - lo).toNat]? = some off) (ht : (pc : Int) + off = (tgt : Int)) (K : AW G Y B Qm k1 k2 tgt ls st M φ) : AW G Y B Qm k1 k2 pc ls (.int x :: st) M φ :=
  fun H locs lsA hW hS hl => lv_tableIn hB.1 hB.2.1 hdg h1 h2 ho ht (K H locs lsA hW hS hl)
theorem a_ldc (hB : BF G Y B) {index : Nat} {v : Int32} (hc : Cond.constant (mY Y).cls index v ∈ TB) (hdg : decode (mB Y) pc = .ok (.ldc index, 2)) (K : AW G Y B Qm k1 k2 (pc + 2) ls (.int v :: st) M φ) : AW G Y B Qm k1 k2 pc ls st M φ :=
  fun H locs lsA hW hS hl => lv_ldc hB.1 hB.2.1 hB.2.2.2.2.2.2.2.1 (hB.2.2.2.2.2.2.1 _ hc) hdg (K H locs lsA hW hS hl)
theorem a_ldcw (hB : BF G Y B) {index : Nat} {v : Int32} (hc : Cond.constant (mY Y).cls index v ∈ TB) (hdg : decode (mB Y) pc = .ok (.ldc_w index, 3)) (K : AW G Y B Qm k1 k2 (pc + 3) ls (.int v :: st) M φ) : AW G Y B Qm k1 k2 pc ls st M φ :=
  fun H locs lsA hW hS hl => lv_ldcw hB.1 hB.2.1 hB.2.2.2.2.2.2.2.1 (hB.2.2.2.2.2.2.1 _ hc) hdg (K H locs lsA hW hS hl)
theorem a_ldc2 (hB : BF G Y B) {index : Nat} {v : Int64} (hc : Cond.constantLong (mY Y).cls index v ∈ TB) (hdg : decode (mB Y) pc = .ok (.ldc2_w index, 3)) (K : AW G Y B Qm k1 k2 (pc + 3) ls (.long v :: st) M φ) : AW G Y B Qm k1 k2 pc ls st M φ :=
  fun H locs lsA hW hS hl => lv_ldc2 hB.1 hB.2.1 hB.2.2.2.2.2.2.2.1 (hB.2.2.2.2.2.2.1 _ hc) hdg (K H locs lsA hW hS hl)
end AWR
