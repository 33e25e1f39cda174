/-! the law: its rows -/
def I_W_isSound : MI := (yL_isSound, cL_isSound, 11, (some .boolean), { frames := 9, cells := 756, slots := 4536, locals := 155 }, [])
def I_W_acts : MI := (yL_acts, cL_acts, 8, (some .boolean), { frames := 9, cells := 46, slots := 276, locals := 156 }, [])
def I_W_law (nm : String) (hh : List (Nat × Nat × Nat × Nat)) : MI := (⟨"ChainSurveyLaw", nm, "([I)Z"⟩, code, 9, some .boolean, room_1, hh)
theorem rmL {Y2 Y : MI} {k1 k2 c s K1 K2 : Nat} (h1 : (mRm Y2).frames + 1 ≤ (mRm Y).frames) (h2 : 8 + (mL Y2 + 11) + (mRm Y2).locals ≤ (mRm Y).locals) (h3 : k1 + c ≤ K1) (h4 : k2 + s ≤ K2) (hc : (mRm Y2).cells = c) (hs : (mRm Y2).slots = s) (e1 : (mRm Y).cells = K1) (e2 : (mRm Y).slots = K2) : RMok Y2 Y k1 k2 := by
  subst hc; subst hs; subst e1; subst e2
  exact ⟨⟨h1, h2⟩, h3, h4⟩
theorem le_K {a K b : Nat} (h : a ≤ K) (e : b = K) : a ≤ b := by subst e; exact h
section AWC
variable {G : Gt} {Y : MI} {B : Bag} {Qm : State → Prop} {k1 k2 pc : Nat} {ls : List (Nat × Value)} {st : List Value} {M : Mm} {φ : Ph}
theorem a_slen' (hB : BF G Y B) {L : Nat} (hn : gN G = L) (hdg : decode (mB Y) pc = .ok (.arraylength, 1)) (K : AW G Y B Qm k1 k2 (pc + 1) ls (.int (Int32.ofNat L) :: st) M φ) : AW G Y B Qm k1 k2 pc ls (.ref 2000 :: st) M φ := by
  subst hn; exact a_slen hB hdg K
theorem a_tabIn (hB : BF G Y B) {dflt lo hi : Int} {offs : Array Int} {len : Nat} {x v : Int32} {off : Int} {tgt : Nat} (hdg : decode (mB Y) pc = .ok (.tableswitch dflt lo hi offs, len)) (hx : x = v) (h1 : ¬ v.toInt < lo) (h2 : ¬ hi < v.toInt) (ho : offs[(v.toInt - lo).toNat]? = some off) (ht : (pc : Int) + off = (tgt : Int)) (K : AW G Y B Qm k1 k2 tgt ls st M φ) : AW G Y B Qm k1 k2 pc ls (.int x :: st) M φ := by
  subst hx
  exact fun H locs lsA hW hS hl => lv_tableIn hB.1 hB.2.1 hdg h1 h2 ho ht (K H locs lsA hW hS hl)
theorem a_tabOut (hB : BF G Y B) {dflt lo hi : Int} {offs : Array Int} {len : Nat} {x : Int32} {tgt : Nat} (hdg : decode (mB Y) pc = .ok (.tableswitch dflt lo hi offs, len)) (h : x.toInt < lo ∨ hi < x.toInt) (ht : (pc : Int) + dflt = (tgt : Int)) (K : AW G Y B Qm k1 k2 tgt ls st M φ) : AW G Y B Qm k1 k2 pc ls (.int x :: st) M φ :=
  fun H locs lsA hW hS hl => lv_tableOut hB.1 hB.2.1 hdg h ht (K H locs lsA hW hS hl)
end AWC
theorem no01 {M M9 : Mm} (h : some ((0 : Int32), M) = some ((1 : Int32), M9)) : False := by
  have h1 : some (0 : Int32) = some 1 := congrArg (fun q : Option (Int32 × Mm) => q.map Prod.fst) h
  exact absurd h1 (by decide)
