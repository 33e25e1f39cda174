/-! the law: its rows -/
def I_W_law (nm : String) (hh : List (Nat × Nat × Nat × Nat)) : MI := (⟨"ChainSurveyLaw", nm, "([I)Z"⟩, code, 9, some .boolean, room_1, hh)
/-- how many calls a script holds at most -/
def fl : Nat := 600
theorem rmL {Y2 : MI} {nm : String} {hh : List (Nat × Nat × Nat × Nat)} {k1 k2 c s : Nat} (h1 : (mRm Y2).frames + 1 ≤ 15) (h2 : 8 + (mL Y2 + 11) + (mRm Y2).locals ≤ 558) (h3 : k1 + c ≤ 601024) (h4 : k2 + s ≤ 7293034) (hc : (mRm Y2).cells = c) (hs : (mRm Y2).slots = s) : RMok Y2 (I_W_law nm hh) k1 k2 := by
  subst hc; subst hs
  exact ⟨⟨h1, h2⟩, h3, h4⟩
section AWC
variable {G : Gt} {Y : MI} {B : Bag} {Qm : State → Prop} {k1 k2 pc : Nat} {ls : List (Nat × Value)} {st : List Value} {M : Mm} {φ : Ph}
theorem a_sld' (hB : BF G Y B) {L : Nat} {xs : Nat → Int32} (hn : gN G = L) (hx : gX G = xs) {j : Int32} (hin : iin j L) (hdg : decode (mB Y) pc = .ok (.iaload, 1)) (K : AW G Y B Qm k1 k2 (pc + 1) ls (.int (xs (ix j)) :: st) M φ) : AW G Y B Qm k1 k2 pc ls (.int j :: .ref 2000 :: st) M φ := by
  subst hn; subst hx; exact a_sld hB hin hdg K
theorem a_slen' (hB : BF G Y B) {L : Nat} (hn : gN G = L) (hdg : decode (mB Y) pc = .ok (.arraylength, 1)) (K : AW G Y B Qm k1 k2 (pc + 1) ls (.int (Int32.ofNat L) :: st) M φ) : AW G Y B Qm k1 k2 pc ls (.ref 2000 :: st) M φ := by
  subst hn; exact a_slen hB hdg K
theorem a_tabIn (hB : BF G Y B) {dflt lo hi : Int} {offs : Array Int} {len : Nat} {x v : Int32} {off : Int} {tgt : Nat} (hdg : decode (mB Y) pc = .ok (.tableswitch dflt lo hi offs, len)) (hx : x = v) (h1 : ¬ v.toInt < lo) (h2 : ¬ hi < v.toInt) (ho : offs[(v.toInt - lo).toNat]? = some off) (ht : (pc : Int) + off = (tgt : Int)) (K : AW G Y B Qm k1 k2 tgt ls st M φ) : AW G Y B Qm k1 k2 pc ls (.int x :: st) M φ := by
  subst hx
  exact fun H locs lsA hW hS hl => lv_tableIn hB.1 hB.2.1 hdg h1 h2 ho ht (K H locs lsA hW hS hl)
theorem a_tabOut (hB : BF G Y B) {dflt lo hi : Int} {offs : Array Int} {len : Nat} {x : Int32} {tgt : Nat} (hdg : decode (mB Y) pc = .ok (.tableswitch dflt lo hi offs, len)) (h : x.toInt < lo ∨ hi < x.toInt) (ht : (pc : Int) + dflt = (tgt : Int)) (K : AW G Y B Qm k1 k2 tgt ls st M φ) : AW G Y B Qm k1 k2 pc ls (.int x :: st) M φ :=
  fun H locs lsA hW hS hl => lv_tableOut hB.1 hB.2.1 hdg h ht (K H locs lsA hW hS hl)
end AWC
