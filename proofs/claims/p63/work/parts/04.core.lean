/-! THE LAYER: the system's ints as one map 'Mm' (address, place), the shape of the heap fixed by tables, references as numbers of cells -/
abbrev Mm : Type := Nat → Nat → Int32
abbrev Ph : Type := (Nat → Nat → Bool) × Nat × Bool
abbrev Gt : Type := Launch × State × va_G × (Nat → ClassId) × (Nat → Nat) × Nat × (Nat → Int32)
abbrev gl (G : Gt) : Launch := G.1
abbrev gs (G : Gt) : State := G.2.1
abbrev gD (G : Gt) : va_G := G.2.2.1
abbrev gAr (G : Gt) : Nat → ClassId := G.2.2.2.1
abbrev gE (G : Gt) : Nat → Nat := G.2.2.2.2.1
abbrev gN (G : Gt) : Nat := G.2.2.2.2.2.1
abbrev gX (G : Gt) : Nat → Int32 := G.2.2.2.2.2.2
def gb (G : Gt) : Nat := (gs G).heap.size
/-- where the system begins: behind the row that the law draws from -/
def gc (G : Gt) : Nat := gb G + 1
def ga (G : Gt) : Nat → Prop := fun q => gb G ≤ q
/-- the length of the text that is made -/
def gT (G : Gt) : Nat := gE G 1998
def th (G : Gt) (k : Nat) : Nat := if k < 1000 then gc G + k else gE G k
def tr (G : Gt) : Value → Value
  | .ref k => .ref (th G k)
  | v => v
def trS (G : Gt) (st : List Value) : List Value := st.map (tr G)
def trL (G : Gt) (ls : List (Nat × Value)) : List (Nat × Value) := ls.map (fun q => (q.1, tr G q.2))
theorem tr_cat (G : Gt) (v : Value) : (tr G v).category = v.category := by cases v <;> rfl
theorem trS_cat (G : Gt) (st : List Value) : ((trS G st).map fun v => v.category).sum = (st.map fun v => v.category).sum := by
  induction st with
  | nil => rfl
  | cons v st ih => show (tr G v).category + _ = v.category + _; rw [tr_cat]; exact congrArg _ ih
theorem trL_get {G : Gt} {ls : List (Nat × Value)} {j i : Nat} {v : Value} (h : ls[j]? = some (i, v)) : (trL G ls)[j]? = some (i, tr G v) := by
  unfold trL; rw [List.getElem?_map, h]; rfl
theorem trS_rev (G : Gt) (st : List Value) : trS G st.reverse = (trS G st).reverse := by unfold trS; rw [List.map_reverse]
theorem trS_app (G : Gt) (a b : List Value) : trS G (a ++ b) = trS G a ++ trS G b := by unfold trS; rw [List.map_append]
/-- the known locals behind a store -/
def stL1 (i : Nat) (v : Value) (lv : List (Nat × Value)) : List (Nat × Value) := (i, v) :: lv.filter (fun q => !(q.1 == i) && !(q.1 + 1 == i && q.2.category == 2))
def stL2 (i : Nat) (v : Value) (lv : List (Nat × Value)) : List (Nat × Value) := (i, v) :: lv.filter (fun q => !(q.1 == i) && (!(q.1 == i + 1) && !(q.1 + 1 == i && q.2.category == 2)))
theorem trL_st1 (G : Gt) (i : Nat) (v : Value) (lv : List (Nat × Value)) : (i, tr G v) :: (trL G lv).filter (fun q => !(q.1 == i) && !(q.1 + 1 == i && q.2.category == 2)) = trL G (stL1 i v lv) := by
  unfold stL1 trL
  rw [List.map_cons, List.filter_map]
  congr 2
  refine List.filter_congr (fun q _ => ?_)
  simp [tr_cat]
theorem trL_st2 (G : Gt) (i : Nat) (v : Value) (lv : List (Nat × Value)) : (i, tr G v) :: (trL G lv).filter (fun q => !(q.1 == i) && (!(q.1 == i + 1) && !(q.1 + 1 == i && q.2.category == 2))) = trL G (stL2 i v lv) := by
  unfold stL2 trL
  rw [List.map_cons, List.filter_map]
  congr 2
  refine List.filter_congr (fun q _ => ?_)
  simp [tr_cat]
theorem trL_pick {G : Gt} {l l' : List (Nat × Value)} {ks : List Nat} (h : lv_pick l ks = l') : lv_pick (trL G l) ks = trL G l' := by
  subst h
  unfold lv_pick trL
  rw [List.map_filterMap]
  congr 1
  funext k
  rw [List.getElem?_map]
theorem trL_args (G : Gt) : ∀ (vs : List Value) (i : Nat), lv_args i (trS G vs) = trL G (lv_args i vs)
  | [], _ => rfl
  | v :: vs, i => by
    show (i, tr G v) :: lv_args (if (tr G v).category = 2 then i + 2 else i + 1) (trS G vs) = (i, tr G v) :: trL G (lv_args (if v.category = 2 then i + 2 else i + 1) vs)
    rw [tr_cat, trL_args G vs]
/-! the words that every method of the claim leans on -/
def TB : List Cond := lx_tbl.filter goodWord
theorem tb_good : TB.all goodWord = true := List.all_eq_true.mpr (fun w h => (List.mem_filter.mp h).2)
theorem tb_in {i : Nat} {w : Cond} (h : lx_tbl[i]? = some w) (hg : goodWord w = true) : w ∈ TB := List.mem_filter.mpr ⟨List.mem_of_getElem? h, hg⟩
theorem tb_goodIn : GoodIn TB TB := goodIn_sub (fun _ h => h) tb_good
/-! a method: name, bytes, locals, answer, room, handlers -/
abbrev MI : Type := MethodName × ByteArray × Nat × Option FieldType × Room × List (Nat × Nat × Nat × Nat)
abbrev mY (Y : MI) : MethodName := Y.1
abbrev mB (Y : MI) : ByteArray := Y.2.1
abbrev mL (Y : MI) : Nat := Y.2.2.1
abbrev mR (Y : MI) : Option FieldType := Y.2.2.2.1
abbrev mRm (Y : MI) : Room := Y.2.2.2.2.1
abbrev mH (Y : MI) : List (Nat × Nat × Nat × Nat) := Y.2.2.2.2.2
def cw (Y : MI) : Cond := if (mH Y).isEmpty = true then Cond.code (mY Y) (mB Y) (mL Y) (mR Y) else Cond.codeWith (mY Y) (mB Y) (mL Y) (mR Y) (mH Y)
def wd (Y : MI) : List Cond := cw Y :: TB
/-! the point of a walk -/
abbrev Bag : Type := Program × Env × Room × State × MethodId × Array Value × List Frame × Method × Code
abbrev bP (B : Bag) : Program := B.1
abbrev bE (B : Bag) : Env := B.2.1
abbrev bR (B : Bag) : Room := B.2.2.1
abbrev bS (B : Bag) : State := B.2.2.2.1
abbrev bM (B : Bag) : MethodId := B.2.2.2.2.1
abbrev bA (B : Bag) : Array Value := B.2.2.2.2.2.1
abbrev bW (B : Bag) : List Frame := B.2.2.2.2.2.2.1
abbrev bT (B : Bag) : Method := B.2.2.2.2.2.2.2.1
abbrev bC (B : Bag) : Code := B.2.2.2.2.2.2.2.2
def EO (G : Gt) (U : State) : Prop := (gs G).WarmedH U.vm ∧ gb G ≤ U.heap.size ∧ ∀ q, q < gb G → U.heap[q]? = (gs G).heap[q]?
