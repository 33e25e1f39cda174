theorem no01 {M M9 : Mm} (h : some ((0 : Int32), M) = some ((1 : Int32), M9)) : False := by
  have h1 : some (0 : Int32) = some 1 := congrArg (fun q : Option (Int32 × Mm) => q.map Prod.fst) h
  exact absurd h1 (by decide)
