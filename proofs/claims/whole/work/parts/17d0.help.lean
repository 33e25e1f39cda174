theorem no01 {M M9 : Mm} (h : some ((0 : Int32), M) = some ((1 : Int32), M9)) : False :=
  absurd (congrArg (fun q : Option (Int32 × Mm) => q.map Prod.fst) h : some (0 : Int32) = some 1) (by decide)
