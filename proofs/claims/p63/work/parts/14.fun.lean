/-! the methods as functions on the ints (by program out of the bytecode) -/
/-- the lengths of the rows of the reference, which runs in the mind alone -/
def lyNM : List Nat := [0, 0, 0, 900, 0, 20, 20, 20, 20, 20, 20, 20, 20, 20, 512, 0, 20, 20, 20, 20, 20, 20, 20, 20, 20, 0, 21, 21, 21, 21, 21, 8, 2, 2, 0, 20, 20, 20, 20, 20, 20, 20, 20, 20, 0, 20, 20, 20, 20, 20, 20, 20, 20, 20, 0, 20, 20, 20, 20, 20, 20, 20, 20, 20, 0, 20, 20, 20, 20, 20, 20, 20, 20, 20, 0, 20, 20, 20, 20, 20, 20, 20, 20, 20, 0, 20, 20, 20, 20, 20, 20, 20, 20, 20, 0, 20, 20, 20, 20, 20, 20, 20, 20, 20, 0, 20, 20, 20, 20, 20, 20, 20, 20, 20, 0, 20, 20, 20, 20, 20, 20, 20, 20, 20, 0, 20, 20, 20, 20, 20, 20, 20, 20, 20, 0, 284, 284, 2272, 568, 284, 2, 900, 600, 21, 21, 21, 7, 6, 1]
def lnM (a : Nat) : Nat := lyNM.getD a 0
def f_C_isLetter_17 (t0 : Int32) : Option Int32 :=
  (chk (isZ t0)
  (some t0)
  )
def f_C_isLetter_16  : Option Int32 :=
  (f_C_isLetter_17 (0 : Int32))
def f_C_isLetter (l0 : Int32) : Option Int32 :=
  (if l0 < (97 : Int32) then
    (f_C_isLetter_16)
  else
    (if (122 : Int32) < l0 then
      (f_C_isLetter_16)
    else
      (f_C_isLetter_17 (1 : Int32))
    )
  )
def f_C_isDigit_17 (t0 : Int32) : Option Int32 :=
  (chk (isZ t0)
  (some t0)
  )
def f_C_isDigit_16  : Option Int32 :=
  (f_C_isDigit_17 (0 : Int32))
def f_C_isDigit (l0 : Int32) : Option Int32 :=
  (if l0 < (48 : Int32) then
    (f_C_isDigit_16)
  else
    (if (57 : Int32) < l0 then
      (f_C_isDigit_16)
    else
      (f_C_isDigit_17 (1 : Int32))
    )
  )
def f_L_advance_258 (M : Mm) : Option Mm :=
  (some M)
def f_L_advance_157  : Nat → Mm → Option Mm
  | 0, _ => none
  | n + 1, M =>
    (if (M 2 1) ≤ (M 2 4) then
      (f_L_advance_258 M)
    else
      (chk (iin (M 2 4) 900)
      (bn (f_C_isDigit (M 3 (ix (M 2 4)))) fun r177 =>
      (if r177 = 0 then
        (f_L_advance_258 M)
      else
        (bm (wr M 2 5 (if (1000000 : Int32) < ((((M 2 5) * (10 : Int32)) + (M 3 (ix (M 2 4)))) - (48 : Int32)) then (1000000 : Int32) else ((((M 2 5) * (10 : Int32)) + (M 3 (ix (M 2 4)))) - (48 : Int32)))) fun M209 =>
        (bm (wr M209 2 4 ((M209 2 4) + (1 : Int32))) fun M219 =>
        ((f_L_advance_157 n) M219)
        ))
      )
      ))
    )
def f_L_advance_245 (t1 : Int32) (M : Mm) : Option Mm :=
  (bm (wr M 2 2 t1) fun M245 =>
  (bm (wr M245 2 4 ((M245 2 4) + (1 : Int32))) fun M255 =>
  (f_L_advance_258 M255)
  ))
def f_L_advance_93  : Nat → Mm → Option Mm
  | 0, _ => none
  | n + 1, M =>
    (if (M 2 1) ≤ (M 2 4) then
      (f_L_advance_258 M)
    else
      (chk (iin (M 2 4) 900)
      (bn (f_C_isLetter (M 3 (ix (M 2 4)))) fun r113 =>
      (if r113 = 0 then
        (f_L_advance_258 M)
      else
        (bm (wr M 2 4 ((M 2 4) + (1 : Int32))) fun M126 =>
        ((f_L_advance_93 n) M126)
        )
      )
      ))
    )
def f_L_advance_46 (M : Mm) : Option Mm :=
  (bm (wr M 2 4 (M 2 3)) fun M51 =>
  (if (M51 2 3) < (M51 2 1) then
    (chk (iin (M51 2 3) 900)
    (bn (f_C_isLetter (M51 3 (ix (M51 2 3)))) fun r82 =>
    (if r82 = 0 then
      (bn (f_C_isDigit (M51 3 (ix (M51 2 3)))) fun r141 =>
      (if r141 = 0 then
        (if (M51 3 (ix (M51 2 3))) = (59 : Int32) then
          (f_L_advance_245 (3 : Int32) M51)
        else
          (f_L_advance_245 (4 : Int32) M51)
        )
      else
        (bm (wr M51 2 2 (2 : Int32)) fun M149 =>
        (bm (wr M149 2 5 (0 : Int32)) fun M154 =>
        (f_L_advance_157 fu M154)
        ))
      )
      )
    else
      (bm (wr M51 2 2 (1 : Int32)) fun M90 =>
      (f_L_advance_93 fu M90)
      )
    )
    ))
  else
    (bm (wr M51 2 2 (0 : Int32)) fun M67 =>
    (f_L_advance_258 M67)
    )
  )
  )
def f_L_advance_8  : Nat → Mm → Option Mm
  | 0, _ => none
  | n + 1, M =>
    (if (M 2 1) ≤ (M 2 3) then
      (f_L_advance_46 M)
    else
      (chk (iin (M 2 3) 900)
      (if (M 3 (ix (M 2 3))) = (32 : Int32) then
        (bm (wr M 2 3 ((M 2 3) + (1 : Int32))) fun M40 =>
        ((f_L_advance_8 n) M40)
        )
      else
        (f_L_advance_46 M)
      )
      )
    )
def f_L_advance (M : Mm) : Option Mm :=
  (bm (wr M 2 3 (M 2 4)) fun M5 =>
  (f_L_advance_8 fu M5)
  )
def f_L_begin (l1 : Int32) (M : Mm) : Option Mm :=
  (bm (wr M 2 1 (if (900 : Int32) < l1 then (900 : Int32) else l1)) fun M10 =>
  (bm (wr M10 2 4 (0 : Int32)) fun M15 =>
  (bn (f_L_advance M15) fun M19 =>
  (some M19)
  )))
def f_I_begin (l1 : Int32) (M : Mm) : Option Mm :=
  (bm (wr M 1 3 (0 : Int32)) fun M2 =>
  (bm (wr M2 1 4 (-1 : Int32)) fun M7 =>
  (bn (f_L_begin l1 M7) fun M15 =>
  (some M15)
  )))
def f_I_fail (l1 : Int32) (M : Mm) : Option (Int32 × Mm) :=
  (bm (wr M 1 3 l1) fun M2 =>
  (bm (wr M2 1 4 (M2 2 3)) fun M13 =>
  (some ((0 : Int32), M13))
  ))
def f_S_clear (a : Nat) (M : Mm) : Option Mm :=
  (bm (wr M a 9 (0 : Int32)) fun M2 =>
  (bm (wr M2 a 12 (0 : Int32)) fun M7 =>
  (some M7)
  ))
def f_L_isAt_24 (w : Nat) (M : Mm) : Option Int32 :=
  (some (0 : Int32))
def f_L_isAt_28 (w : Nat) (M : Mm) : Nat → Int32 → Option Int32
  | 0, _ => none
  | n + 1, l2 =>
    (bn (f_U_length w) fun r30 =>
    (if r30 ≤ l2 then
      (some (1 : Int32))
    else
      (chk (iin ((M 2 3) + l2) 900)
      (bn (f_U_charAt w l2) fun r49 =>
      (if (M 3 (ix ((M 2 3) + l2))) = r49 then
        ((f_L_isAt_28 w M n) (l2 + 1))
      else
        (some (0 : Int32))
      )
      ))
    )
    )
def f_L_isAt (w : Nat) (M : Mm) : Option Int32 :=
  (if (M 2 2) = (1 : Int32) then
    (bn (f_U_length w) fun r18 =>
    (if ((M 2 4) - (M 2 3)) = r18 then
      (f_L_isAt_28 w M fu (0 : Int32))
    else
      (f_L_isAt_24 w M)
    )
    )
  else
    (f_L_isAt_24 w M)
  )
def f_C_isBetween_15 (t0 : Int32) : Option Int32 :=
  (chk (isZ t0)
  (some t0)
  )
def f_C_isBetween_14  : Option Int32 :=
  (f_C_isBetween_15 (0 : Int32))
def f_C_isBetween (l0 : Int32) (l1 : Int32) (l2 : Int32) : Option Int32 :=
  (if l0 < l1 then
    (f_C_isBetween_14)
  else
    (if l2 < l0 then
      (f_C_isBetween_14)
    else
      (f_C_isBetween_15 (1 : Int32))
    )
  )
def f_I_numberHere (l1 : Int32) (l2 : Int32) (M : Mm) : Option (Int32 × Mm) :=
  (if (M 2 2) = (2 : Int32) then
    (bn (f_C_isBetween (M 2 5) l1 l2) fun r30 =>
    (if r30 = 0 then
      (bn2 (f_I_fail (2 : Int32) M) fun r38 M38 =>
      (some ((-1 : Int32), M38))
      )
    else
      (bn (f_L_advance M) fun M48 =>
      (some (M 2 5, M48))
      )
    )
    )
  else
    (bn2 (f_I_fail (1 : Int32) M) fun r13 M13 =>
    (some ((-1 : Int32), M13))
    )
  )
def f_I_readsWear (M : Mm) : Option (Int32 × Mm) :=
  (bn2 (f_I_numberHere (0 : Int32) (999 : Int32) M) fun r5 M5 =>
  (if r5 = (-1 : Int32) then
    (some ((0 : Int32), M5))
  else
    (bm (wr M5 4 10 r5) fun M21 =>
    (some ((1 : Int32), M21))
    )
  )
  )
def f_I_readsPace (M : Mm) : Option (Int32 × Mm) :=
  (bn2 (f_I_numberHere (100 : Int32) (999 : Int32) M) fun r6 M6 =>
  (if r6 = (-1 : Int32) then
    (some ((0 : Int32), M6))
  else
    (bm (wr M6 4 11 r6) fun M22 =>
    (some ((1 : Int32), M22))
    )
  )
  )
def f_I_readsSemicolon (M : Mm) : Option (Int32 × Mm) :=
  (if (M 2 2) = (3 : Int32) then
    (bn (f_L_advance M) fun M21 =>
    (some ((1 : Int32), M21))
    )
  else
    (bn2 (f_I_fail (1 : Int32) M) fun r13 M13 =>
    (chk (isZ r13)
    (some (r13, M13))
    )
    )
  )
def f_I_readsHead_58 (t0 : Int32) (M : Mm) : Option (Int32 × Mm) :=
  (chk (isZ t0)
  (some (t0, M))
  )
def f_I_readsHead_57 (M : Mm) : Option (Int32 × Mm) :=
  (f_I_readsHead_58 (0 : Int32) M)
def f_I_readsHead (M : Mm) : Option (Int32 × Mm) :=
  (bn (f_S_clear 4 M) fun M4 =>
  (bn (f_L_isAt 1 M4) fun r13 =>
  (if r13 = 0 then
    (bn2 (f_I_fail (1 : Int32) M4) fun r21 M21 =>
    (chk (isZ r21)
    (some (r21, M21))
    )
    )
  else
    (bn (f_L_advance M4) fun M29 =>
    (bn2 (f_I_readsWear M29) fun r33 M33 =>
    (if r33 = 0 then
      (f_I_readsHead_57 M33)
    else
      (bn2 (f_I_readsPace M33) fun r40 M40 =>
      (if r40 = 0 then
        (f_I_readsHead_57 M40)
      else
        (bn2 (f_I_readsSemicolon M40) fun r47 M47 =>
        (if r47 = 0 then
          (f_I_readsHead_57 M47)
        else
          (f_I_readsHead_58 (1 : Int32) M47)
        )
        )
      )
      )
    )
    ))
  )
  ))
def f_C_packedName_13 (M : Mm) : Option Int32 :=
  (some (-1 : Int32))
def f_C_packedName_48 (M : Mm) : Option Int32 :=
  (some (-1 : Int32))
def f_C_packedName_20 (M : Mm) : Nat → Int32 → Int32 → Int32 → Option Int32
  | 0, _, _, _ => none
  | n + 1, l2, l3, l4 =>
    (if l2 ≤ l4 then
      (some l3)
    else
      (chk (iin l4 900)
      (if ((M 3 (ix l4)) - (96 : Int32)) < (1 : Int32) then
        (f_C_packedName_48 M)
      else
        (if ((M 3 (ix l4)) - (96 : Int32)) ≤ (26 : Int32) then
          ((f_C_packedName_20 M n) l2 ((l3 <<< ((5 : Int32) &&& 31)) + ((M 3 (ix l4)) - (96 : Int32))) (l4 + 1))
        else
          (f_C_packedName_48 M)
        )
      )
      )
    )
def f_C_packedName (M : Mm) (l1 : Int32) (l2 : Int32) : Option Int32 :=
  (if l2 ≤ l1 then
    (f_C_packedName_13 M)
  else
    (if (l2 - l1) ≤ (6 : Int32) then
      (f_C_packedName_20 M fu l2 (0 : Int32) l1)
    else
      (f_C_packedName_13 M)
    )
  )
def f_I_nameHere_51 (l1 : Int32) (M : Mm) : Option (Int32 × Mm) :=
  (some (l1, M))
def f_I_nameHere_39 (t0 : Int32) (M : Mm) : Option (Int32 × Mm) :=
  (if t0 = (-1 : Int32) then
    (bn2 (f_I_fail (1 : Int32) M) fun r47 M47 =>
    (f_I_nameHere_51 t0 M47)
    )
  else
    (f_I_nameHere_51 t0 M)
  )
def f_I_nameHere (M : Mm) : Option (Int32 × Mm) :=
  (if (M 2 2) = (1 : Int32) then
    (bn (f_C_packedName M (M 2 3) (M 2 4)) fun r32 =>
    (f_I_nameHere_39 r32 M)
    )
  else
    (f_I_nameHere_39 (-1 : Int32) M)
  )
def f_S_legNamed_2 (a : Nat) (M : Mm) : Nat → Int32 → Int32 → Option Int32
  | 0, _, _ => none
  | n + 1, l1, l2 =>
    (if (M a 9) ≤ l2 then
      (some (-1 : Int32))
    else
      (chk (iin l2 20)
      (if (M (a + 1 + 0) (ix l2)) = l1 then
        (some l2)
      else
        ((f_S_legNamed_2 a M n) l1 (l2 + 1))
      )
      )
    )
def f_S_legNamed (a : Nat) (M : Mm) (l1 : Int32) : Option Int32 :=
  (f_S_legNamed_2 a M fu l1 (0 : Int32))
def f_I_newName_69 (l1 : Int32) (M : Mm) : Option (Int32 × Mm) :=
  (some (l1, M))
def f_I_newName_57 (l1 : Int32) (M : Mm) : Option (Int32 × Mm) :=
  (if l1 = (-1 : Int32) then
    (f_I_newName_69 l1 M)
  else
    (bn (f_L_advance M) fun M66 =>
    (f_I_newName_69 l1 M66)
    )
  )
def f_I_newName (M : Mm) : Option (Int32 × Mm) :=
  (if (M 4 9) < (20 : Int32) then
    (bn (f_L_advance M) fun M24 =>
    (bn2 (f_I_nameHere M24) fun r28 M28 =>
    (if r28 = (-1 : Int32) then
      (f_I_newName_57 r28 M28)
    else
      (bn (f_S_legNamed 4 M28 r28) fun r42 =>
      (if r42 = (-1 : Int32) then
        (f_I_newName_57 r28 M28)
      else
        (bn2 (f_I_fail (4 : Int32) M28) fun r51 M51 =>
        (some ((-1 : Int32), M51))
        )
      )
      )
    )
    ))
  else
    (bn2 (f_I_fail (5 : Int32) M) fun r14 M14 =>
    (some ((-1 : Int32), M14))
    )
  )
def f_C_isBearing_23 (t0 : Int32) : Option Int32 :=
  (chk (isZ t0)
  (some t0)
  )
def f_C_isBearing_22  : Option Int32 :=
  (f_C_isBearing_23 (0 : Int32))
def f_C_isBearing (l0 : Int32) : Option Int32 :=
  (bn (f_C_isBetween l0 (0 : Int32) (345 : Int32)) fun r5 =>
  (if r5 = 0 then
    (f_C_isBearing_22)
  else
    (if (l0 - l0 / (15 : Int32) * (15 : Int32)) = 0 then
      (f_C_isBearing_23 (1 : Int32))
    else
      (f_C_isBearing_22)
    )
  )
  )
def f_I_mayTurnHere_37 (t0 : Int32) (M : Mm) : Option (Int32 × Mm) :=
  (chk (isZ t0)
  (some (t0, M))
  )
def f_I_mayTurnHere_32 (M : Mm) : Option (Int32 × Mm) :=
  (f_I_mayTurnHere_37 (1 : Int32) M)
def f_I_mayTurnHere (M : Mm) : Option (Int32 × Mm) :=
  (if (M 2 2) = (2 : Int32) then
    (bn (f_C_isBearing (M 2 5)) fun r18 =>
    (if r18 = 0 then
      (bn2 (f_I_fail (2 : Int32) M) fun r26 M26 =>
      (if r26 = 0 then
        (f_I_mayTurnHere_37 (0 : Int32) M26)
      else
        (f_I_mayTurnHere_32 M26)
      )
      )
    else
      (f_I_mayTurnHere_32 M)
    )
    )
  else
    (f_I_mayTurnHere_32 M)
  )
def f_I_passes (w : Nat) (M : Mm) : Option (Int32 × Mm) :=
  (bn (f_L_isAt w M) fun r5 =>
  (if r5 = 0 then
    (some ((0 : Int32), M))
  else
    (bn (f_L_advance M) fun M17 =>
    (some ((1 : Int32), M17))
    )
  )
  )
def f_S_addChained (a : Nat) (l1 : Int32) (l2 : Int32) (l3 : Int32) (l4 : Int32) (l5 : Int32) (l6 : Int32) (l7 : Int32) (M : Mm) : Option Mm :=
  (if (M a 9) < (20 : Int32) then
    (chk (iin (M a 9) 20)
    (bm (wr M (a + 1 + 0) (ix (M a 9)) l1) fun M19 =>
    (chk (iin (M19 a 9) 20)
    (bm (wr M19 (a + 1 + 1) (ix (M19 a 9)) l2) fun M29 =>
    (chk (iin (M29 a 9) 20)
    (bm (wr M29 (a + 1 + 2) (ix (M29 a 9)) (0 : Int32)) fun M39 =>
    (chk (iin (M39 a 9) 20)
    (bm (wr M39 (a + 1 + 3) (ix (M39 a 9)) (0 : Int32)) fun M49 =>
    (chk (iin (M49 a 9) 20)
    (bm (wr M49 (a + 1 + 4) (ix (M49 a 9)) l3) fun M59 =>
    (chk (iin (M59 a 9) 20)
    (bm (wr M59 (a + 1 + 5) (ix (M59 a 9)) l4) fun M70 =>
    (chk (iin (M70 a 9) 20)
    (bm (wr M70 (a + 1 + 6) (ix (M70 a 9)) l5) fun M81 =>
    (chk (iin (M81 a 9) 20)
    (bm (wr M81 (a + 1 + 7) (ix (M81 a 9)) l6) fun M92 =>
    (chk (iin (M92 a 9) 20)
    (bm (wr M92 (a + 1 + 8) (ix (M92 a 9)) l7) fun M103 =>
    (bm (wr M103 a 9 ((M103 a 9) + (1 : Int32))) fun M111 =>
    (some M111)
    )))))))))))))))))))
  else
    (some M)
  )
def f_I_readsChained_170 (M : Mm) : Option (Int32 × Mm) :=
  (some ((0 : Int32), M))
def f_I_readsChained_155 (l1 : Int32) (l2 : Int32) (l3 : Int32) (l4 : Int32) (l5 : Int32) (l6 : Int32) (t0 : Int32) (M : Mm) : Option (Int32 × Mm) :=
  (if t0 = (-1 : Int32) then
    (f_I_readsChained_170 M)
  else
    (bn2 (f_I_readsSemicolon M) fun r164 M164 =>
    (if r164 = 0 then
      (f_I_readsChained_170 M164)
    else
      (bn (f_S_addChained 4 l1 l2 l3 l4 l5 l6 t0 M164) fun M187 =>
      (some ((1 : Int32), M187))
      )
    )
    )
  )
def f_I_readsChained_124 (l1 : Int32) (l2 : Int32) (l3 : Int32) (l4 : Int32) (l5 : Int32) (t0 : Int32) (M : Mm) : Option (Int32 × Mm) :=
  (if t0 = (-1 : Int32) then
    (some ((0 : Int32), M))
  else
    (bn2 (f_I_passes 5 M) fun r137 M137 =>
    (if r137 = 0 then
      (f_I_readsChained_155 l1 l2 l3 l4 l5 t0 (15 : Int32) M137)
    else
      (bn2 (f_I_numberHere (0 : Int32) (50 : Int32) M137) fun r147 M147 =>
      (f_I_readsChained_155 l1 l2 l3 l4 l5 t0 r147 M147)
      )
    )
    )
  )
def f_I_readsChained_93 (l1 : Int32) (l2 : Int32) (l3 : Int32) (l4 : Int32) (t0 : Int32) (M : Mm) : Option (Int32 × Mm) :=
  (if t0 = (-1 : Int32) then
    (some ((0 : Int32), M))
  else
    (bn2 (f_I_passes 4 M) fun r106 M106 =>
    (if r106 = 0 then
      (f_I_readsChained_124 l1 l2 l3 l4 t0 (0 : Int32) M106)
    else
      (bn2 (f_I_numberHere (0 : Int32) (9999 : Int32) M106) fun r117 M117 =>
      (f_I_readsChained_124 l1 l2 l3 l4 t0 r117 M117)
      )
    )
    )
  )
def f_I_readsChained_63 (l1 : Int32) (l2 : Int32) (l3 : Int32) (t0 : Int32) (M : Mm) : Option (Int32 × Mm) :=
  (if t0 = (-1 : Int32) then
    (some ((0 : Int32), M))
  else
    (bn2 (f_I_passes 3 M) fun r76 M76 =>
    (if r76 = 0 then
      (f_I_readsChained_93 l1 l2 l3 t0 (0 : Int32) M76)
    else
      (bn2 (f_I_numberHere (0 : Int32) (9 : Int32) M76) fun r86 M86 =>
      (f_I_readsChained_93 l1 l2 l3 t0 r86 M86)
      )
    )
    )
  )
def f_I_readsChained_46 (l1 : Int32) (l2 : Int32) (t0 : Int32) (M : Mm) : Option (Int32 × Mm) :=
  (if t0 = (-1 : Int32) then
    (f_I_readsChained_63 l1 l2 t0 (-1 : Int32) M)
  else
    (bn2 (f_I_numberHere (0 : Int32) (99 : Int32) M) fun r60 M60 =>
    (f_I_readsChained_63 l1 l2 t0 r60 M60)
    )
  )
def f_I_readsChained_29 (l1 : Int32) (t0 : Int32) (M : Mm) : Option (Int32 × Mm) :=
  (if t0 = (-1 : Int32) then
    (f_I_readsChained_46 l1 t0 (-1 : Int32) M)
  else
    (bn2 (f_I_numberHere (0 : Int32) (99 : Int32) M) fun r43 M43 =>
    (f_I_readsChained_46 l1 t0 r43 M43)
    )
  )
def f_I_readsChained_28 (l1 : Int32) (M : Mm) : Option (Int32 × Mm) :=
  (f_I_readsChained_29 l1 (-1 : Int32) M)
def f_I_readsChained (M : Mm) : Option (Int32 × Mm) :=
  (bn2 (f_I_newName M) fun r1 M1 =>
  (if r1 = (-1 : Int32) then
    (f_I_readsChained_28 r1 M1)
  else
    (bn2 (f_I_mayTurnHere M1) fun r11 M11 =>
    (if r11 = 0 then
      (f_I_readsChained_28 r1 M11)
    else
      (bn2 (f_I_numberHere (0 : Int32) (345 : Int32) M11) fun r22 M22 =>
      (f_I_readsChained_29 r1 r22 M22)
      )
    )
    )
  )
  )
def f_S_addPaced (a : Nat) (l1 : Int32) (l2 : Int32) (l3 : Int32) (M : Mm) : Option Mm :=
  (if (M a 9) < (20 : Int32) then
    (bn (f_S_addChained a l1 l2 (0 : Int32) (0 : Int32) (0 : Int32) (0 : Int32) (15 : Int32) M) fun M19 =>
    (chk (iin ((M19 a 9) - (1 : Int32)) 20)
    (bm (wr M19 (a + 1 + 2) (ix ((M19 a 9) - (1 : Int32))) (1 : Int32)) fun M33 =>
    (chk (iin ((M33 a 9) - (1 : Int32)) 20)
    (bm (wr M33 (a + 1 + 3) (ix ((M33 a 9) - (1 : Int32))) l3) fun M45 =>
    (some M45)
    )))))
  else
    (some M)
  )
def f_I_readsBog_60 (M : Mm) : Option (Int32 × Mm) :=
  (some ((0 : Int32), M))
def f_I_readsBog_47 (l1 : Int32) (l2 : Int32) (t0 : Int32) (M : Mm) : Option (Int32 × Mm) :=
  (if t0 = (-1 : Int32) then
    (f_I_readsBog_60 M)
  else
    (bn2 (f_I_readsSemicolon M) fun r54 M54 =>
    (if r54 = 0 then
      (f_I_readsBog_60 M54)
    else
      (bn (f_S_addPaced 4 l1 l2 t0 M54) fun M69 =>
      (some ((1 : Int32), M69))
      )
    )
    )
  )
def f_I_readsBog_29 (l1 : Int32) (t0 : Int32) (M : Mm) : Option (Int32 × Mm) :=
  (if t0 = (-1 : Int32) then
    (f_I_readsBog_47 l1 t0 (-1 : Int32) M)
  else
    (bn2 (f_I_numberHere (1 : Int32) (999 : Int32) M) fun r44 M44 =>
    (f_I_readsBog_47 l1 t0 r44 M44)
    )
  )
def f_I_readsBog_28 (l1 : Int32) (M : Mm) : Option (Int32 × Mm) :=
  (f_I_readsBog_29 l1 (-1 : Int32) M)
def f_I_readsBog (M : Mm) : Option (Int32 × Mm) :=
  (bn2 (f_I_newName M) fun r1 M1 =>
  (if r1 = (-1 : Int32) then
    (f_I_readsBog_28 r1 M1)
  else
    (bn2 (f_I_mayTurnHere M1) fun r11 M11 =>
    (if r11 = 0 then
      (f_I_readsBog_28 r1 M11)
    else
      (bn2 (f_I_numberHere (0 : Int32) (345 : Int32) M11) fun r22 M22 =>
      (f_I_readsBog_29 r1 r22 M22)
      )
    )
    )
  )
  )
def f_I_legHere (M : Mm) : Option (Int32 × Mm) :=
  (bn2 (f_I_nameHere M) fun r1 M1 =>
  (if r1 = (-1 : Int32) then
    (some ((-1 : Int32), M1))
  else
    (bn (f_S_legNamed 4 M1 r1) fun r17 =>
    (if r17 = (-1 : Int32) then
      (bn2 (f_I_fail (3 : Int32) M1) fun r28 M28 =>
      (some ((-1 : Int32), M28))
      )
    else
      (bn (f_L_advance M1) fun M38 =>
      (some (r17, M38))
      )
    )
    )
  )
  )
def f_S_canDrop_25 (a : Nat) (M : Mm) (t0 : Int32) : Option Int32 :=
  (chk (isZ t0)
  (some t0)
  )
def f_S_canDrop_24 (a : Nat) (M : Mm) : Option Int32 :=
  (f_S_canDrop_25 a M (0 : Int32))
def f_S_canDrop (a : Nat) (M : Mm) (l1 : Int32) : Option Int32 :=
  (chk (iin l1 20)
  (if (M (a + 1 + 2) (ix l1)) = 0 then
    (if (9 : Int32) ≤ (M (a + 1 + 6) (ix l1)) then
      (f_S_canDrop_24 a M)
    else
      (f_S_canDrop_25 a M (1 : Int32))
    )
  else
    (f_S_canDrop_24 a M)
  )
  )
def f_S_canFind_14 (a : Nat) (M : Mm) (t0 : Int32) : Option Int32 :=
  (chk (isZ t0)
  (some t0)
  )
def f_S_canFind (a : Nat) (M : Mm) (l1 : Int32) : Option Int32 :=
  (chk (iin l1 20)
  (if (M (a + 1 + 6) (ix l1)) ≤ 0 then
    (f_S_canFind_14 a M (0 : Int32))
  else
    (f_S_canFind_14 a M (1 : Int32))
  )
  )
def f_I_readsPin_59 (M : Mm) : Option (Int32 × Mm) :=
  (bn2 (f_I_fail (6 : Int32) M) fun r62 M62 =>
  (chk (isZ r62)
  (some (r62, M62))
  )
  )
def f_I_readsPin_94 (t1 : Int32) (t2 : Int32) (t3 : Int32) (M : Mm) : Option (Int32 × Mm) :=
  (chk (iin t1 20)
  (bm (wr M 11 (ix t1) (t2 + t3)) fun M95 =>
  (some ((1 : Int32), M95))
  ))
def f_I_readsPin_66 (l1 : Int32) (l2 : Int32) (M : Mm) : Option (Int32 × Mm) :=
  (bn2 (f_I_readsSemicolon M) fun r67 M67 =>
  (if r67 = 0 then
    (some ((0 : Int32), M67))
  else
    (chk (iin l2 20)
    (if l1 = 0 then
      (f_I_readsPin_94 l2 (M67 11 (ix l2)) (-1 : Int32) M67)
    else
      (f_I_readsPin_94 l2 (M67 11 (ix l2)) (1 : Int32) M67)
    )
    )
  )
  )
def f_I_readsPin (l1 : Int32) (M : Mm) : Option (Int32 × Mm) :=
  (bn (f_L_advance M) fun M4 =>
  (bn2 (f_I_legHere M4) fun r8 M8 =>
  (if r8 = (-1 : Int32) then
    (some ((0 : Int32), M8))
  else
    (if (M8 2 2) = (3 : Int32) then
      (if l1 = 0 then
        (bn (f_S_canFind 4 M8 r8) fun r53 =>
        (if r53 = 0 then
          (f_I_readsPin_59 M8)
        else
          (f_I_readsPin_66 l1 r8 M8)
        )
        )
      else
        (bn (f_S_canDrop 4 M8 r8) fun r39 =>
        (if r39 = 0 then
          (f_I_readsPin_59 M8)
        else
          (f_I_readsPin_66 l1 r8 M8)
        )
        )
      )
    else
      (f_I_readsPin_66 l1 r8 M8)
    )
  )
  ))
def f_I_readsAdjusted (l1 : Int32) (M : Mm) : Option (Int32 × Mm) :=
  (bn (f_L_advance M) fun M4 =>
  (chk (isZ l1)
  (bm (wr M4 4 12 l1) fun M12 =>
  (bn2 (f_I_readsSemicolon M12) fun r16 M16 =>
  (chk (isZ r16)
  (some (r16, M16))
  )
  ))))
def f_I_readsBack_35 (M : Mm) : Option (Int32 × Mm) :=
  (bn2 (f_I_readsSemicolon M) fun r36 M36 =>
  (if r36 = 0 then
    (some ((0 : Int32), M36))
  else
    (bm (wr M36 4 9 ((M36 4 9) - (1 : Int32))) fun M54 =>
    (some ((1 : Int32), M54))
    )
  )
  )
def f_I_readsBack (M : Mm) : Option (Int32 × Mm) :=
  (bn (f_L_advance M) fun M4 =>
  (if (M4 2 2) = (3 : Int32) then
    (if (M4 4 9) = 0 then
      (bn2 (f_I_fail (6 : Int32) M4) fun r31 M31 =>
      (chk (isZ r31)
      (some (r31, M31))
      )
      )
    else
      (f_I_readsBack_35 M4)
    )
  else
    (f_I_readsBack_35 M4)
  )
  )
def f_I_readsCommand_108 (t0 : Int32) (M : Mm) : Option (Int32 × Mm) :=
  (chk (isZ t0)
  (some (t0, M))
  )
def f_I_readsCommand_107 (M : Mm) : Option (Int32 × Mm) :=
  (f_I_readsCommand_108 (0 : Int32) M)
def f_I_readsCommand_147 (t0 : Int32) (M : Mm) : Option (Int32 × Mm) :=
  (chk (isZ t0)
  (some (t0, M))
  )
def f_I_readsCommand_146 (M : Mm) : Option (Int32 × Mm) :=
  (f_I_readsCommand_147 (0 : Int32) M)
def f_I_readsCommand (M : Mm) : Option (Int32 × Mm) :=
  (bn (f_L_isAt 2 M) fun r6 =>
  (if r6 = 0 then
    (bn (f_L_isAt 6 M) fun r23 =>
    (if r23 = 0 then
      (bn (f_L_isAt 7 M) fun r40 =>
      (if r40 = 0 then
        (bn (f_L_isAt 8 M) fun r58 =>
        (if r58 = 0 then
          (bn (f_L_isAt 9 M) fun r76 =>
          (if r76 = 0 then
            (bn (f_L_isAt 10 M) fun r115 =>
            (if r115 = 0 then
              (bn (f_L_isAt 11 M) fun r154 =>
              (if r154 = 0 then
                (bn (f_L_isAt 12 M) fun r172 =>
                (if r172 = 0 then
                  (bn (f_L_isAt 13 M) fun r190 =>
                  (if r190 = 0 then
                    (bn2 (f_I_fail (1 : Int32) M) fun r203 M203 =>
                    (chk (isZ r203)
                    (some (r203, M203))
                    )
                    )
                  else
                    (bn2 (f_I_readsBack M) fun r197 M197 =>
                    (chk (isZ r197)
                    (some (r197, M197))
                    )
                    )
                  )
                  )
                else
                  (bn2 (f_I_readsAdjusted (0 : Int32) M) fun r180 M180 =>
                  (chk (isZ r180)
                  (some (r180, M180))
                  )
                  )
                )
                )
              else
                (bn2 (f_I_readsAdjusted (1 : Int32) M) fun r162 M162 =>
                (chk (isZ r162)
                (some (r162, M162))
                )
                )
              )
              )
            else
              (bn (f_L_advance M) fun M125 =>
              (bn2 (f_I_readsPace M125) fun r129 M129 =>
              (if r129 = 0 then
                (f_I_readsCommand_146 M129)
              else
                (bn2 (f_I_readsSemicolon M129) fun r136 M136 =>
                (if r136 = 0 then
                  (f_I_readsCommand_146 M136)
                else
                  (f_I_readsCommand_147 (1 : Int32) M136)
                )
                )
              )
              ))
            )
            )
          else
            (bn (f_L_advance M) fun M86 =>
            (bn2 (f_I_readsWear M86) fun r90 M90 =>
            (if r90 = 0 then
              (f_I_readsCommand_107 M90)
            else
              (bn2 (f_I_readsSemicolon M90) fun r97 M97 =>
              (if r97 = 0 then
                (f_I_readsCommand_107 M97)
              else
                (f_I_readsCommand_108 (1 : Int32) M97)
              )
              )
            )
            ))
          )
          )
        else
          (bn2 (f_I_readsPin (0 : Int32) M) fun r66 M66 =>
          (chk (isZ r66)
          (some (r66, M66))
          )
          )
        )
        )
      else
        (bn2 (f_I_readsPin (1 : Int32) M) fun r48 M48 =>
        (chk (isZ r48)
        (some (r48, M48))
        )
        )
      )
      )
    else
      (bn2 (f_I_readsBog M) fun r30 M30 =>
      (chk (isZ r30)
      (some (r30, M30))
      )
      )
    )
    )
  else
    (bn2 (f_I_readsChained M) fun r13 M13 =>
    (chk (isZ r13)
    (some (r13, M13))
    )
    )
  )
  )
def f_I_readsCommands_47 (M : Mm) : Option (Int32 × Mm) :=
  (some ((1 : Int32), M))
def f_I_readsCommands_5  : Nat → Mm → Option (Int32 × Mm)
  | 0, _ => none
  | n + 1, M =>
    (if (900 : Int32) ≤ (M 1 2) then
      (f_I_readsCommands_47 M)
    else
      (if (M 2 2) = 0 then
        (f_I_readsCommands_47 M)
      else
        (bn2 (f_I_readsCommand M) fun r26 M26 =>
        (if r26 = 0 then
          (some ((0 : Int32), M26))
        else
          (bm (wr M26 1 2 ((M26 1 2) + (1 : Int32))) fun M41 =>
          ((f_I_readsCommands_5 n) M41)
          )
        )
        )
      )
    )
def f_I_readsCommands (M : Mm) : Option (Int32 × Mm) :=
  (bm (wr M 1 2 (0 : Int32)) fun M2 =>
  (f_I_readsCommands_5 fu M2)
  )
def f_S_copyFrom_34 (a : Nat) (b : Nat) : Nat → Int32 → Mm → Option Mm
  | 0, _, _ => none
  | n + 1, l2, M =>
    (if (20 : Int32) ≤ l2 then
      (some M)
    else
      (chk (iin l2 20)
      (bm (wr M (a + 1 + 0) (ix l2) (M (b + 1 + 0) (ix l2))) fun M51 =>
      (bm (wr M51 (a + 1 + 1) (ix l2) (M51 (b + 1 + 1) (ix l2))) fun M63 =>
      (chk (isZ (M63 (b + 1 + 2) (ix l2)))
      (bm (wr M63 (a + 1 + 2) (ix l2) (M63 (b + 1 + 2) (ix l2))) fun M75 =>
      (bm (wr M75 (a + 1 + 3) (ix l2) (M75 (b + 1 + 3) (ix l2))) fun M87 =>
      (bm (wr M87 (a + 1 + 4) (ix l2) (M87 (b + 1 + 4) (ix l2))) fun M99 =>
      (bm (wr M99 (a + 1 + 5) (ix l2) (M99 (b + 1 + 5) (ix l2))) fun M111 =>
      (bm (wr M111 (a + 1 + 6) (ix l2) (M111 (b + 1 + 6) (ix l2))) fun M123 =>
      (bm (wr M123 (a + 1 + 7) (ix l2) (M123 (b + 1 + 7) (ix l2))) fun M135 =>
      (bm (wr M135 (a + 1 + 8) (ix l2) (M135 (b + 1 + 8) (ix l2))) fun M147 =>
      ((f_S_copyFrom_34 a b n) (l2 + 1) M147)
      )))))))))))
    )
def f_S_copyFrom (a : Nat) (b : Nat) (M : Mm) : Option Mm :=
  (bm (wr M a 9 (M b 9)) fun M5 =>
  (bm (wr M5 a 10 (M5 b 10)) fun M13 =>
  (bm (wr M13 a 11 (M13 b 11)) fun M21 =>
  (chk (isZ (M21 b 12))
  (bm (wr M21 a 12 (M21 b 12)) fun M29 =>
  (f_S_copyFrom_34 a b fu (0 : Int32) M29)
  )))))
def f_S_hasBog_2 (a : Nat) (M : Mm) : Nat → Int32 → Option Int32
  | 0, _ => none
  | n + 1, l1 =>
    (if (M a 9) ≤ l1 then
      (some (0 : Int32))
    else
      (chk (iin l1 20)
      (if (M (a + 1 + 2) (ix l1)) = 0 then
        ((f_S_hasBog_2 a M n) (l1 + 1))
      else
        (some (1 : Int32))
      )
      )
    )
def f_S_hasBog (a : Nat) (M : Mm) : Option Int32 :=
  (f_S_hasBog_2 a M fu (0 : Int32))
def f_S_readUnits (a : Nat) (M : Mm) (l1 : Int32) : Option Int32 :=
  (chk (iin l1 20)
  (if (M (a + 1 + 2) (ix l1)) = 0 then
    (some ((((M (a + 1 + 4) (ix l1)) + (M (a + 1 + 6) (ix l1))) * (10000 : Int32)) + ((M (a + 1 + 5) (ix l1)) * (100 : Int32))))
  else
    (some ((M (a + 1 + 3) (ix l1)) * (M a 11)))
  )
  )
def f_S_slopeUnits_53 (a : Nat) (M : Mm) (l2 : Int64) : Option Int32 :=
  (some l2.toInt32)
def f_S_slopeUnits (a : Nat) (M : Mm) (l1 : Int32) : Option Int32 :=
  (bn (f_S_readUnits a M l1) fun r2 =>
  (chk (iin l1 20)
  (if (M (a + 1 + 2) (ix l1)) = 0 then
    (f_S_slopeUnits_53 a M ((r2.toInt64 + ((r2.toInt64 * ((M a 10).toInt64)) / (10000 : Int64))) + ((((r2.toInt64 + ((r2.toInt64 * ((M a 10).toInt64)) / (10000 : Int64))) * (((M (a + 1 + 8) (ix l1)) - (15 : Int32)).toInt64)) * (12 : Int64)) / (1000000 : Int64))))
  else
    (f_S_slopeUnits_53 a M r2.toInt64)
  )
  ))
def f_C_root_30 (r6 : Int64 → Int32 → Int32 → Option Int32) (l0 : Int64) (l2 : Int32) (l3 : Int32) : Option Int32 :=
  (r6 l0 l2 (l3 >>> ((1 : Int32) &&& 31)))
def f_C_root_6  : Nat → Int64 → Int32 → Int32 → Option Int32
  | 0, _, _, _ => none
  | n + 1, l0, l2, l3 =>
    (if l3 ≤ 0 then
      (some l2)
    else
      (if 0 < (lg_cmp (((l2 ||| l3).toInt64) * ((l2 ||| l3).toInt64)) l0) then
        (f_C_root_30 (f_C_root_6 n) l0 l2 l3)
      else
        (f_C_root_30 (f_C_root_6 n) l0 (l2 ||| l3) l3)
      )
    )
def f_C_root (l0 : Int64) : Option Int32 :=
  (f_C_root_6 fu l0 (0 : Int32) (1073741824 : Int32))
def f_S_horizontalUnits_51 (a : Nat) (M : Mm) (t0 : Int32) : Option Int32 :=
  (some t0)
def f_S_horizontalUnits (a : Nat) (M : Mm) (l1 : Int32) : Option Int32 :=
  (bn (f_S_slopeUnits a M l1) fun r2 =>
  (chk (iin l1 20)
  (if (M (a + 1 + 7) (ix l1)) = 0 then
    (some r2)
  else
    (if (lg_cmp (((M (a + 1 + 7) (ix l1)) * (100 : Int32)).toInt64) r2.toInt64) ≤ 0 then
      (bn (f_C_root ((r2.toInt64 * r2.toInt64) - ((((M (a + 1 + 7) (ix l1)) * (100 : Int32)).toInt64) * (((M (a + 1 + 7) (ix l1)) * (100 : Int32)).toInt64)))) fun r48 =>
      (f_S_horizontalUnits_51 a M r48)
      )
    else
      (f_S_horizontalUnits_51 a M (0 : Int32))
    )
  )
  ))
def f_Q_floorMod_18 (l2 : Int32) : Option Int32 :=
  (some l2)
def f_Q_floorMod (l0 : Int32) (l1 : Int32) : Option Int32 :=
  (chk (¬ l1 = 0)
  (if 0 ≤ (l0 ^^^ l1) then
    (f_Q_floorMod_18 (l0 - l0 / l1 * l1))
  else
    (if (l0 - l0 / l1 * l1) = 0 then
      (f_Q_floorMod_18 (l0 - l0 / l1 * l1))
    else
      (some ((l0 - l0 / l1 * l1) + l1))
    )
  )
  )
def f_C_cosine_24 (t0 : Int32) : Option Int32 :=
  (if t0 ≤ (90 : Int32) then
    (chk (iin (t0 / (15 : Int32)) 7)
    (some (cosL.getD (ix (t0 / (15 : Int32))) 0))
    )
  else
    (chk (iin (((180 : Int32) - t0) / (15 : Int32)) 7)
    (some (-(cosL.getD (ix (((180 : Int32) - t0) / (15 : Int32))) 0)))
    )
  )
def f_C_cosine (l0 : Int32) : Option Int32 :=
  (bn (f_Q_floorMod l0 (360 : Int32)) fun r4 =>
  (if r4 ≤ (180 : Int32) then
    (f_C_cosine_24 r4)
  else
    (f_C_cosine_24 ((360 : Int32) - r4))
  )
  )
def f_C_sine (l0 : Int32) : Option Int32 :=
  (bn (f_C_cosine ((90 : Int32) - l0)) fun r4 =>
  (some r4)
  )
def f_C_stepOf (l0 : Int32) (l1 : Int32) : Option Int32 :=
  (some (((l0.toInt64 * l1.toInt64) / (10000 : Int64)).toInt32))
def f_T_endEast (M : Mm) : Option Int32 :=
  (chk (iin (M 25 5) 21)
  (some (M 27 (ix (M 25 5))))
  )
def f_T_totalRun (M : Mm) : Option Int32 :=
  (chk (iin (M 25 5) 21)
  (some (M 26 (ix (M 25 5))))
  )
def f_T_shareAt_27 (M : Mm) (t0 : Int32) : Option Int32 :=
  (some t0)
def f_T_shareAt (M : Mm) (l1 : Int32) (l2 : Int32) : Option Int32 :=
  (bn (f_T_totalRun M) fun r1 =>
  (if r1 = 0 then
    (f_T_shareAt_27 M (0 : Int32))
  else
    (chk (iin l1 21)
    (chk (¬ r1.toInt64 = 0)
    (f_T_shareAt_27 M (((l2.toInt64 * ((M 26 (ix l1)).toInt64)) / r1.toInt64).toInt32))
    ))
  )
  )
def f_T_endNorth (M : Mm) : Option Int32 :=
  (chk (iin (M 25 5) 21)
  (some (M 28 (ix (M 25 5))))
  )
def f_T_follow_179 (a : Nat) (r104 : Int32 → Mm → Option Mm) (l2 : Int32) (M : Mm) : Option Mm :=
  (r104 (l2 + 1) M)
def f_T_follow_104 (a : Nat) : Nat → Int32 → Mm → Option Mm
  | 0, _, _ => none
  | n + 1, l2, M =>
    (if (M 25 5) < l2 then
      (some M)
    else
      (chk (iin l2 21)
      (bm (wr M 29 (ix l2) (M 27 (ix l2))) fun M123 =>
      (bm (wr M123 30 (ix l2) (M123 28 (ix l2))) fun M135 =>
      (if (M135 a 12) = 0 then
        (f_T_follow_179 a (f_T_follow_104 a n) l2 M135)
      else
        (bn (f_T_endEast M135) fun r153 =>
        (bn (f_T_shareAt M135 l2 r153) fun r156 =>
        (bm (wr M135 29 (ix l2) ((M135 29 (ix l2)) - r156)) fun M160 =>
        (bn (f_T_endNorth M160) fun r171 =>
        (bn (f_T_shareAt M160 l2 r171) fun r174 =>
        (bm (wr M160 30 (ix l2) ((M160 30 (ix l2)) - r174)) fun M178 =>
        (f_T_follow_179 a (f_T_follow_104 a n) l2 M178)
        ))))))
      )
      )))
    )
def f_T_follow_10 (a : Nat) : Nat → Int32 → Mm → Option Mm
  | 0, _, _ => none
  | n + 1, l2, M =>
    (if (M 25 5) ≤ l2 then
      (f_T_follow_104 a fu (0 : Int32) M)
    else
      (bn (f_S_horizontalUnits a M l2) fun r20 =>
      (chk (iin l2 20)
      (chk (iin l2 21)
      (chk (iin (l2 + (1 : Int32)) 21)
      (bm (wr M 26 (ix (l2 + (1 : Int32))) ((M 26 (ix l2)) + r20)) fun M47 =>
      (bn (f_C_sine (M (a + 1 + 1) (ix l2))) fun r64 =>
      (bn (f_C_stepOf r20 r64) fun r67 =>
      (bm (wr M47 27 (ix (l2 + (1 : Int32))) ((M47 27 (ix l2)) + r67)) fun M71 =>
      (bn (f_C_cosine (M (a + 1 + 1) (ix l2))) fun r88 =>
      (bn (f_C_stepOf r20 r88) fun r91 =>
      (bm (wr M71 28 (ix (l2 + (1 : Int32))) ((M71 28 (ix l2)) + r91)) fun M95 =>
      ((f_T_follow_10 a n) (l2 + 1) M95)
      )))))))))))
    )
def f_T_follow (a : Nat) (M : Mm) : Option Mm :=
  (bm (wr M 25 5 (M a 9)) fun M5 =>
  (f_T_follow_10 a fu (0 : Int32) M5)
  )
def f_C_distance (l0 : Int32) (l1 : Int32) : Option Int32 :=
  (bn (f_C_root ((l0.toInt64 * l0.toInt64) + (l1.toInt64 * l1.toInt64))) fun r11 =>
  (some r11)
  )
def f_T_closingDistance (M : Mm) : Option Int32 :=
  (bn (f_T_endEast M) fun r1 =>
  (bn (f_T_endNorth M) fun r5 =>
  (bn (f_C_distance r1 r5) fun r8 =>
  (some r8)
  )))
def f_T_distanceOf (M : Mm) (l1 : Int32) : Option Int32 :=
  (chk (iin l1 21)
  (bn (f_C_distance (M 29 (ix l1)) (M 30 (ix l1))) fun r12 =>
  (some r12)
  ))
def f_T_enclosedArea_4 (M : Mm) : Nat → Int64 → Int32 → Option Int64
  | 0, _, _ => none
  | n + 1, l1, l3 =>
    (if (M 25 5) ≤ l3 then
      (some ((if 0 < l1 then l1 else -l1) / (2 : Int64)))
    else
      (chk (iin l3 21)
      (chk (iin (l3 + (1 : Int32)) 21)
      ((f_T_enclosedArea_4 M n) (l1 + ((((M 29 (ix l3)).toInt64) * ((M 30 (ix (l3 + (1 : Int32)))).toInt64)) - (((M 29 (ix (l3 + (1 : Int32)))).toInt64) * ((M 30 (ix l3)).toInt64)))) (l3 + 1))
      ))
    )
def f_T_enclosedArea (M : Mm) : Option Int64 :=
  (f_T_enclosedArea_4 M fu (0 : Int64) (0 : Int32))
def f_C_appendWord_46 (M : Mm) : Option Mm :=
  (some M)
def f_C_appendWord_3  : Nat → Int32 → Int32 → Mm → Option Mm
  | 0, _, _, _ => none
  | n + 1, l1, l2, M =>
    (if l2 < 0 then
      (f_C_appendWord_46 M)
    else
      (if (900 : Int32) ≤ (M 0 2) then
        (f_C_appendWord_46 M)
      else
        (chk (iin (M 0 2) 900)
        (bm (wr M 3 (ix (M 0 2)) ((l1 >>> (l2 &&& 31)).toInt8.toInt32).toInt8.toInt32) fun M29 =>
        (bm (wr M29 0 2 ((M29 0 2) + (1 : Int32))) fun M37 =>
        ((f_C_appendWord_3 n) l1 (l2 + (-8)) M37)
        )))
      )
    )
def f_C_appendWord (l1 : Int32) (M : Mm) : Option Mm :=
  (f_C_appendWord_3 fu l1 (24 : Int32) M)
def f_C_append (l1 : Int32) (l2 : Int32) (l3 : Int32) (l4 : Int32) (l5 : Int32) (M : Mm) : Option (Int32 × Mm) :=
  (if ((M 0 2) + (20 : Int32)) ≤ (900 : Int32) then
    (bn (f_C_appendWord l1 M) fun M17 =>
    (bn (f_C_appendWord l2 M17) fun M22 =>
    (bn (f_C_appendWord l3 M22) fun M27 =>
    (bn (f_C_appendWord l4 M27) fun M33 =>
    (bn (f_C_appendWord l5 M33) fun M39 =>
    (some (M39 0 2, M39))
    )))))
  else
    (some ((-1 : Int32), M))
  )
def f_C_truncateInput (l1 : Int32) (M : Mm) : Option ((Nat ⊕ Int32) × Mm) :=
  (bn (f_C_isBetween l1 (0 : Int32) (M 0 2)) fun r6 =>
  (if r6 = 0 then
    (some (.inl 1, M))
  else
    (bm (wr M 0 2 l1) fun M24 =>
    (some (.inr (M24 0 2), M24))
    )
  )
  )
def f_C_remember_36 (t1 : Int32) (M : Mm) : Option Mm :=
  (bm (wr M 0 11 t1) fun M36 =>
  (bm (wr M36 0 12 (if (8 : Int32) < ((M36 0 12) + (1 : Int32)) then (8 : Int32) else ((M36 0 12) + (1 : Int32)))) fun M51 =>
  (some M51)
  ))
def f_C_remember (M : Mm) : Option Mm :=
  (chk (iin (M 0 11) 8)
  (bn (f_S_copyFrom (34 + 10 * ix (M 0 11)) 15 M) fun M13 =>
  (if (M13 0 11) = (7 : Int32) then
    (f_C_remember_36 (0 : Int32) M13)
  else
    (f_C_remember_36 ((M13 0 11) + (1 : Int32)) M13)
  )
  ))
def f_C_settleText_46 (l1 : Int32) (M : Mm) : Option (Int32 × Mm) :=
  (chk (isZ l1)
  (some (l1, M))
  )
def f_C_settleText (l1 : Int32) (M : Mm) : Option (Int32 × Mm) :=
  (bm (wr M 0 2 (0 : Int32)) fun M2 =>
  (bm (wr M2 0 3 (M2 1 3)) fun M13 =>
  (bm (wr M13 0 4 (M13 1 4)) fun M24 =>
  (if l1 = 0 then
    (f_C_settleText_46 l1 M24)
  else
    (bn (f_C_remember M24) fun M32 =>
    (bn (f_S_copyFrom 15 4 M32) fun M43 =>
    (f_C_settleText_46 l1 M43)
    ))
  )
  )))
def f_C_load_56 (t0 : Int32) (M : Mm) : Option (Int32 × Mm) :=
  (some (t0, M))
def f_C_load_36 (t0 : Int32) (M : Mm) : Option (Int32 × Mm) :=
  (bn2 (f_C_settleText t0 M) fun r39 M39 =>
  (if r39 = 0 then
    (f_C_load_56 (-1 : Int32) M39)
  else
    (f_C_load_56 (M39 15 9) M39)
  )
  )
def f_C_load_35 (M : Mm) : Option (Int32 × Mm) :=
  (f_C_load_36 (0 : Int32) M)
def f_C_load (M : Mm) : Option (Int32 × Mm) :=
  (bn (f_I_begin (M 0 2) M) fun M8 =>
  (bn2 (f_I_readsHead M8) fun r15 M15 =>
  (if r15 = 0 then
    (f_C_load_35 M15)
  else
    (bn2 (f_I_readsCommands M15) fun r25 M25 =>
    (if r25 = 0 then
      (f_C_load_35 M25)
    else
      (f_C_load_36 (1 : Int32) M25)
    )
    )
  )
  ))
def f_C_play_49 (t0 : Int32) (M : Mm) : Option (Int32 × Mm) :=
  (some (t0, M))
def f_C_play (M : Mm) : Option (Int32 × Mm) :=
  (bn (f_S_copyFrom 4 15 M) fun M8 =>
  (bn (f_I_begin (M8 0 2) M8) fun M19 =>
  (bn2 (f_I_readsCommands M19) fun r26 M26 =>
  (bn2 (f_C_settleText r26 M26) fun r32 M32 =>
  (if r32 = 0 then
    (f_C_play_49 (-1 : Int32) M32)
  else
    (f_C_play_49 (M32 1 2) M32)
  )
  ))))
def f_C_errorCode (M : Mm) : Option Int32 :=
  (some (M 0 3))
def f_C_errorOffset (M : Mm) : Option Int32 :=
  (some (M 0 4))
def f_C_nameForNextLeg (M : Mm) : Option (Nat ⊕ Int32) :=
  (if (M 15 9) < (20 : Int32) then
    (bn (f_S_legNamed 15 M (((544 : Int32) + (M 15 9)) + (1 : Int32))) fun r41 =>
    (if r41 = (-1 : Int32) then
      (some (.inr (((544 : Int32) + (M 15 9)) + (1 : Int32))))
    else
      (some (.inl 2))
    )
    )
  else
    (some (.inl 2))
  )
def f_C_addLeg_55 (l1 : Int32) (l2 : Int32) (l3 : Int32) (l4 : Int32) (l5 : Int32) (t0 : Int32) (M : Mm) : Option ((Nat ⊕ Int32) × Mm) :=
  (if t0 = 0 then
    (some (.inl 1, M))
  else
    (bti (f_C_nameForNextLeg M) M fun r73 =>
    (bn (f_C_remember M) fun M79 =>
    (bn (f_S_addChained 15 r73 l1 l2 l3 (0 : Int32) l4 l5 M79) fun M96 =>
    (some (.inr ((M96 15 9) - (1 : Int32)), M96))
    )))
  )
def f_C_addLeg_54 (l1 : Int32) (l2 : Int32) (l3 : Int32) (l4 : Int32) (l5 : Int32) (M : Mm) : Option ((Nat ⊕ Int32) × Mm) :=
  (f_C_addLeg_55 l1 l2 l3 l4 l5 (0 : Int32) M)
def f_C_addLeg (l1 : Int32) (l2 : Int32) (l3 : Int32) (l4 : Int32) (l5 : Int32) (M : Mm) : Option ((Nat ⊕ Int32) × Mm) :=
  (bn (f_C_isBearing l1) fun r1 =>
  (if r1 = 0 then
    (f_C_addLeg_54 l1 l2 l3 l4 l5 M)
  else
    (bn (f_C_isBetween l2 (0 : Int32) (99 : Int32)) fun r11 =>
    (if r11 = 0 then
      (f_C_addLeg_54 l1 l2 l3 l4 l5 M)
    else
      (bn (f_C_isBetween l3 (0 : Int32) (99 : Int32)) fun r21 =>
      (if r21 = 0 then
        (f_C_addLeg_54 l1 l2 l3 l4 l5 M)
      else
        (bn (f_C_isBetween l4 (0 : Int32) (9999 : Int32)) fun r33 =>
        (if r33 = 0 then
          (f_C_addLeg_54 l1 l2 l3 l4 l5 M)
        else
          (bn (f_C_isBetween l5 (0 : Int32) (50 : Int32)) fun r44 =>
          (if r44 = 0 then
            (f_C_addLeg_54 l1 l2 l3 l4 l5 M)
          else
            (f_C_addLeg_55 l1 l2 l3 l4 l5 (1 : Int32) M)
          )
          )
        )
        )
      )
      )
    )
    )
  )
  )
def f_C_addBog_18 (M : Mm) : Option ((Nat ⊕ Int32) × Mm) :=
  (some (.inl 1, M))
def f_C_addBog (l1 : Int32) (l2 : Int32) (M : Mm) : Option ((Nat ⊕ Int32) × Mm) :=
  (bn (f_C_isBearing l1) fun r1 =>
  (if r1 = 0 then
    (f_C_addBog_18 M)
  else
    (bn (f_C_isBetween l2 (1 : Int32) (999 : Int32)) fun r12 =>
    (if r12 = 0 then
      (f_C_addBog_18 M)
    else
      (bti (f_C_nameForNextLeg M) M fun r29 =>
      (bn (f_C_remember M) fun M34 =>
      (bn (f_S_addPaced 15 r29 l1 l2 M34) fun M44 =>
      (some (.inr ((M44 15 9) - (1 : Int32)), M44))
      )))
    )
    )
  )
  )
def f_C_requireLeg (M : Mm) (l1 : Int32) : Option (Nat ⊕ Unit) :=
  (bn (f_C_isBetween l1 (0 : Int32) ((M 15 9) - (1 : Int32))) fun r11 =>
  (if r11 = 0 then
    (some (.inl 3))
  else
    (some (.inr ()))
  )
  )
def f_C_dropPin (l1 : Int32) (M : Mm) : Option ((Nat ⊕ Int32) × Mm) :=
  (bti (f_C_requireLeg M l1) M fun _ =>
  (bn (f_S_canDrop 15 M l1) fun r10 =>
  (if r10 = 0 then
    (some (.inl 2, M))
  else
    (bn (f_C_remember M) fun M27 =>
    (chk (iin l1 20)
    (bm (wr M27 22 (ix l1) ((M27 22 (ix l1)) + (1 : Int32))) fun M42 =>
    (some (.inr (M42 22 (ix l1)), M42))
    )))
  )
  ))
def f_C_findPin (l1 : Int32) (M : Mm) : Option ((Nat ⊕ Int32) × Mm) :=
  (bti (f_C_requireLeg M l1) M fun _ =>
  (bn (f_S_canFind 15 M l1) fun r10 =>
  (if r10 = 0 then
    (some (.inl 2, M))
  else
    (bn (f_C_remember M) fun M27 =>
    (chk (iin l1 20)
    (bm (wr M27 22 (ix l1) ((M27 22 (ix l1)) - (1 : Int32))) fun M42 =>
    (some (.inr (M42 22 (ix l1)), M42))
    )))
  )
  ))
def f_C_removeLast (M : Mm) : Option ((Nat ⊕ Int32) × Mm) :=
  (if (M 15 9) = 0 then
    (some (.inl 2, M))
  else
    (bn (f_C_remember M) fun M21 =>
    (bm (wr M21 15 9 ((M21 15 9) - (1 : Int32))) fun M34 =>
    (some (.inr (M34 15 9), M34))
    ))
  )
def f_C_setWear (l1 : Int32) (M : Mm) : Option ((Nat ⊕ Int32) × Mm) :=
  (bn (f_C_isBetween l1 (0 : Int32) (999 : Int32)) fun r5 =>
  (if r5 = 0 then
    (some (.inl 1, M))
  else
    (bn (f_C_remember M) fun M30 =>
    (bm (wr M30 15 10 l1) fun M38 =>
    (some (.inr (M 15 10), M38))
    ))
  )
  )
def f_C_setPace (l1 : Int32) (M : Mm) : Option ((Nat ⊕ Int32) × Mm) :=
  (bn (f_C_isBetween l1 (100 : Int32) (999 : Int32)) fun r6 =>
  (if r6 = 0 then
    (some (.inl 1, M))
  else
    (bn (f_C_remember M) fun M31 =>
    (bm (wr M31 15 11 l1) fun M39 =>
    (some (.inr (M 15 11), M39))
    ))
  )
  )
def f_C_setAdjusted (l1 : Int32) (M : Mm) : Option (Int32 × Mm) :=
  (bn (f_C_remember M) fun M9 =>
  (chk (isZ l1)
  (bm (wr M9 15 12 l1) fun M17 =>
  (chk (isZ (M 15 12))
  (some (M 15 12, M17))
  )
  )))
def f_C_undo_36 (t1 : Int32) (M : Mm) : Option ((Nat ⊕ Int32) × Mm) :=
  (bm (wr M 0 11 t1) fun M36 =>
  (bm (wr M36 0 12 ((M36 0 12) - (1 : Int32))) fun M46 =>
  (chk (iin (M46 0 11) 8)
  (bn (f_S_copyFrom 15 (34 + 10 * ix (M46 0 11)) M46) fun M62 =>
  (some (.inr (M62 0 12), M62))
  ))))
def f_C_undo (M : Mm) : Option ((Nat ⊕ Int32) × Mm) :=
  (if (M 0 12) = 0 then
    (some (.inl 2, M))
  else
    (if (M 0 11) = 0 then
      (f_C_undo_36 (7 : Int32) M)
    else
      (f_C_undo_36 ((M 0 11) - (1 : Int32)) M)
    )
  )
def f_C_requireSlot (l1 : Int32) : Option (Nat ⊕ Unit) :=
  (bn (f_C_isBetween l1 (0 : Int32) (1 : Int32)) fun r3 =>
  (if r3 = 0 then
    (some (.inl 1))
  else
    (some (.inr ()))
  )
  )
def f_C_save (l1 : Int32) (M : Mm) : Option ((Nat ⊕ Int32) × Mm) :=
  (bti (f_C_requireSlot l1) M fun _ =>
  (chk (iin l1 2)
  (bn (f_S_copyFrom (114 + 10 * ix l1) 15 M) fun M15 =>
  (bm (wr M15 33 (ix l1) (1 : Int32)) fun M24 =>
  (some (.inr (M24 15 9), M24))
  ))))
def f_C_restore (l1 : Int32) (M : Mm) : Option ((Nat ⊕ Int32) × Mm) :=
  (bti (f_C_requireSlot l1) M fun _ =>
  (chk (iin l1 2)
  (if (M 33 (ix l1)) = 0 then
    (some (.inl 2, M))
  else
    (bn (f_C_remember M) fun M25 =>
    (bn (f_S_copyFrom 15 (114 + 10 * ix l1) M25) fun M38 =>
    (some (.inr (M38 15 9), M38))
    ))
  )
  ))
def f_C_legCount (M : Mm) : Option Int32 :=
  (some (M 15 9))
def f_C_stationCount (M : Mm) : Option Int32 :=
  (some ((M 15 9) + (1 : Int32)))
def f_C_wear (M : Mm) : Option Int32 :=
  (some (M 15 10))
def f_C_pace (M : Mm) : Option Int32 :=
  (some (M 15 11))
def f_C_undoableChanges (M : Mm) : Option Int32 :=
  (some (M 0 12))
def f_C_isAdjusted (M : Mm) : Option Int32 :=
  (chk (isZ (M 15 12))
  (some (M 15 12))
  )
def f_C_bearing (M : Mm) (l1 : Int32) : Option (Nat ⊕ Int32) :=
  (bt (f_C_requireLeg M l1) fun _ =>
  (chk (iin l1 20)
  (some (.inr (M 17 (ix l1))))
  ))
def f_C_pins (M : Mm) (l1 : Int32) : Option (Nat ⊕ Int32) :=
  (bt (f_C_requireLeg M l1) fun _ =>
  (chk (iin l1 20)
  (some (.inr (M 20 (ix l1))))
  ))
def f_C_droppedPins (M : Mm) (l1 : Int32) : Option (Nat ⊕ Int32) :=
  (bt (f_C_requireLeg M l1) fun _ =>
  (chk (iin l1 20)
  (some (.inr (M 22 (ix l1))))
  ))
def f_C_readLength (M : Mm) (l1 : Int32) : Option (Nat ⊕ Int32) :=
  (bt (f_C_requireLeg M l1) fun _ =>
  (bn (f_S_readUnits 15 M l1) fun r10 =>
  (some (.inr r10))
  ))
def f_C_slopeLength (M : Mm) (l1 : Int32) : Option (Nat ⊕ Int32) :=
  (bt (f_C_requireLeg M l1) fun _ =>
  (bn (f_S_slopeUnits 15 M l1) fun r10 =>
  (some (.inr r10))
  ))
def f_C_horizontalLength (M : Mm) (l1 : Int32) : Option (Nat ⊕ Int32) :=
  (bt (f_C_requireLeg M l1) fun _ =>
  (bn (f_S_horizontalUnits 15 M l1) fun r10 =>
  (some (.inr r10))
  ))
def f_C_eastStep (M : Mm) (l1 : Int32) : Option (Nat ⊕ Int32) :=
  (bt (f_C_requireLeg M l1) fun _ =>
  (bn (f_S_horizontalUnits 15 M l1) fun r10 =>
  (chk (iin l1 20)
  (bn (f_C_sine (M 17 (ix l1))) fun r22 =>
  (bn (f_C_stepOf r10 r22) fun r25 =>
  (some (.inr r25))
  )))))
def f_C_northStep (M : Mm) (l1 : Int32) : Option (Nat ⊕ Int32) :=
  (bt (f_C_requireLeg M l1) fun _ =>
  (bn (f_S_horizontalUnits 15 M l1) fun r10 =>
  (chk (iin l1 20)
  (bn (f_C_cosine (M 17 (ix l1))) fun r22 =>
  (bn (f_C_stepOf r10 r22) fun r25 =>
  (some (.inr r25))
  )))))
def f_C_tallies (M : Mm) (l1 : Int32) : Option (Nat ⊕ Int32) :=
  (bt (f_C_requireLeg M l1) fun _ =>
  (chk (iin l1 20)
  (some (.inr (((M 20 (ix l1)) + (M 22 (ix l1))) / (10 : Int32))))
  ))
def f_C_isBog (M : Mm) (l1 : Int32) : Option (Nat ⊕ Int32) :=
  (bt (f_C_requireLeg M l1) fun _ =>
  (chk (iin l1 20)
  (chk (isZ (M 18 (ix l1)))
  (some (.inr (M 18 (ix l1))))
  )
  ))
def f_C_nameLength_4  : Nat → Int32 → Int32 → Option Int32
  | 0, _, _ => none
  | n + 1, l1, l2 =>
    (if l2 ≤ 0 then
      (some l1)
    else
      ((f_C_nameLength_4 n) (l1 + 1) (l2 >>> ((5 : Int32) &&& 31)))
    )
def f_C_nameLength (l0 : Int32) : Option Int32 :=
  (f_C_nameLength_4 fu (0 : Int32) l0)
def f_C_nameByte (M : Mm) (l1 : Int32) (l2 : Int32) : Option (Nat ⊕ Int32) :=
  (bt (f_C_requireLeg M l1) fun _ =>
  (chk (iin l1 20)
  (bn (f_C_nameLength (M 16 (ix l1))) fun r16 =>
  (bn (f_C_isBetween l2 (0 : Int32) (r16 - (1 : Int32))) fun r27 =>
  (if r27 = 0 then
    (some (.inr (-1 : Int32)))
  else
    (some (.inr ((96 : Int32) + (((M 16 (ix l1)) >>> (((5 : Int32) * ((r16 - (1 : Int32)) - l2)) &&& 31)) &&& (31 : Int32)))))
  )
  ))))
def f_C_findLeg_30 (M : Mm) (t0 : Int32) : Option Int32 :=
  (some t0)
def f_C_findLeg (M : Mm) : Option Int32 :=
  (bn (f_C_packedName M (0 : Int32) (M 0 2)) fun r9 =>
  (if r9 = (-1 : Int32) then
    (f_C_findLeg_30 M (-1 : Int32))
  else
    (bn (f_S_legNamed 15 M r9) fun r27 =>
    (f_C_findLeg_30 M r27)
    )
  )
  )
def f_C_requireStation (M : Mm) (l1 : Int32) : Option (Nat ⊕ Unit) :=
  (bn (f_C_isBetween l1 (0 : Int32) (M 15 9)) fun r9 =>
  (if r9 = 0 then
    (some (.inl 3))
  else
    (some (.inr ()))
  )
  )
def f_C_followed (M : Mm) : Option Mm :=
  (bn (f_T_follow 15 M) fun M8 =>
  (some M8)
  )
def f_C_rawEast (l1 : Int32) (M : Mm) : Option ((Nat ⊕ Int32) × Mm) :=
  (bti (f_C_requireStation M l1) M fun _ =>
  (bn (f_C_followed M) fun M6 =>
  (chk (iin l1 21)
  (some (.inr (M6 27 (ix l1)), M6))
  )))
def f_C_rawNorth (l1 : Int32) (M : Mm) : Option ((Nat ⊕ Int32) × Mm) :=
  (bti (f_C_requireStation M l1) M fun _ =>
  (bn (f_C_followed M) fun M6 =>
  (chk (iin l1 21)
  (some (.inr (M6 28 (ix l1)), M6))
  )))
def f_C_east (l1 : Int32) (M : Mm) : Option ((Nat ⊕ Int32) × Mm) :=
  (bti (f_C_requireStation M l1) M fun _ =>
  (bn (f_C_followed M) fun M6 =>
  (chk (iin l1 21)
  (some (.inr (M6 29 (ix l1)), M6))
  )))
def f_C_north (l1 : Int32) (M : Mm) : Option ((Nat ⊕ Int32) × Mm) :=
  (bti (f_C_requireStation M l1) M fun _ =>
  (bn (f_C_followed M) fun M6 =>
  (chk (iin l1 21)
  (some (.inr (M6 30 (ix l1)), M6))
  )))
def f_C_run (l1 : Int32) (M : Mm) : Option ((Nat ⊕ Int32) × Mm) :=
  (bti (f_C_requireStation M l1) M fun _ =>
  (bn (f_C_followed M) fun M6 =>
  (chk (iin l1 21)
  (some (.inr (M6 26 (ix l1)), M6))
  )))
def f_C_distanceFromStart (l1 : Int32) (M : Mm) : Option ((Nat ⊕ Int32) × Mm) :=
  (bti (f_C_requireStation M l1) M fun _ =>
  (bn (f_C_followed M) fun M6 =>
  (bn (f_T_distanceOf M6 l1) fun r10 =>
  (some (.inr r10, M6))
  )))
def f_C_perimeter (M : Mm) : Option (Int32 × Mm) :=
  (bn (f_C_followed M) fun M1 =>
  (bn (f_T_totalRun M1) fun r4 =>
  (some (r4, M1))
  ))
def f_C_closingEast (M : Mm) : Option (Int32 × Mm) :=
  (bn (f_C_followed M) fun M1 =>
  (bn (f_T_endEast M1) fun r4 =>
  (some (r4, M1))
  ))
def f_C_closingNorth (M : Mm) : Option (Int32 × Mm) :=
  (bn (f_C_followed M) fun M1 =>
  (bn (f_T_endNorth M1) fun r4 =>
  (some (r4, M1))
  ))
def f_C_misclosure (M : Mm) : Option (Int32 × Mm) :=
  (bn (f_C_followed M) fun M1 =>
  (bn (f_T_closingDistance M1) fun r4 =>
  (some (r4, M1))
  ))
def f_C_precision_24 (t0 : Int32) (M : Mm) : Option (Int32 × Mm) :=
  (some (t0, M))
def f_C_precision (M : Mm) : Option (Int32 × Mm) :=
  (bn (f_C_followed M) fun M1 =>
  (bn (f_T_closingDistance M1) fun r6 =>
  (if r6 = 0 then
    (f_C_precision_24 (-1 : Int32) M1)
  else
    (bn (f_T_totalRun M1) fun r19 =>
    (chk (¬ r6 = 0)
    (f_C_precision_24 (r19 / r6) M1)
    ))
  )
  ))
def f_C_spread_44 (a : Nat) (M : Mm) (l2 : Int32) (l3 : Int32) : Option Int32 :=
  (some (l3 - l2))
def f_C_spread_7 (a : Nat) (M : Mm) : Nat → Int32 → Int32 → Int32 → Int32 → Option Int32
  | 0, _, _, _, _ => none
  | n + 1, l1, l2, l3, l4 =>
    (if l1 ≤ l4 then
      (f_C_spread_44 a M l2 l3)
    else
      (if (21 : Int32) ≤ l4 then
        (f_C_spread_44 a M l2 l3)
      else
        (chk (iin l4 21)
        ((f_C_spread_7 a M n) l1 (if (M a (ix l4)) < l2 then (M a (ix l4)) else l2) (if l3 < (M a (ix l4)) then (M a (ix l4)) else l3) (l4 + 1))
        )
      )
    )
def f_C_spread (a : Nat) (M : Mm) (l1 : Int32) : Option Int32 :=
  (f_C_spread_7 a M fu l1 (0 : Int32) (0 : Int32) (0 : Int32))
def f_C_width (M : Mm) : Option (Int32 × Mm) :=
  (bn (f_C_followed M) fun M1 =>
  (bn (f_C_spread 29 M1 ((M1 25 5) + (1 : Int32))) fun r15 =>
  (some (r15, M1))
  ))
def f_C_height (M : Mm) : Option (Int32 × Mm) :=
  (bn (f_C_followed M) fun M1 =>
  (bn (f_C_spread 30 M1 ((M1 25 5) + (1 : Int32))) fun r15 =>
  (some (r15, M1))
  ))
def f_C_farthestStation_41 (r12 : Int32 → Int32 → Int32 → Mm → Option (Int32 × Mm)) (l2 : Int32) (l3 : Int32) (l4 : Int32) (M : Mm) : Option (Int32 × Mm) :=
  (r12 l2 l3 (l4 + 1) M)
def f_C_farthestStation_12  : Nat → Int32 → Int32 → Int32 → Mm → Option (Int32 × Mm)
  | 0, _, _, _, _ => none
  | n + 1, l2, l3, l4, M =>
    (if (M 25 5) < l4 then
      (some (l2, M))
    else
      (bn (f_T_distanceOf M l4) fun r24 =>
      (if r24 ≤ l3 then
        (f_C_farthestStation_41 (f_C_farthestStation_12 n) l2 l3 l4 M)
      else
        (f_C_farthestStation_41 (f_C_farthestStation_12 n) l4 r24 l4 M)
      )
      )
    )
def f_C_farthestStation (M : Mm) : Option (Int32 × Mm) :=
  (bn (f_C_followed M) fun M1 =>
  (f_C_farthestStation_12 fu (0 : Int32) (0 : Int32) (1 : Int32) M1)
  )
def f_C_longestLeg_38 (M : Mm) (r6 : Int32 → Int32 → Int32 → Option Int32) (l1 : Int32) (l2 : Int32) (l3 : Int32) : Option Int32 :=
  (r6 l1 l2 (l3 + 1))
def f_C_longestLeg_6 (M : Mm) : Nat → Int32 → Int32 → Int32 → Option Int32
  | 0, _, _, _ => none
  | n + 1, l1, l2, l3 =>
    (if (M 15 9) ≤ l3 then
      (some l1)
    else
      (bn (f_S_horizontalUnits 15 M l3) fun r22 =>
      (if r22 ≤ l2 then
        (f_C_longestLeg_38 M (f_C_longestLeg_6 M n) l1 l2 l3)
      else
        (f_C_longestLeg_38 M (f_C_longestLeg_6 M n) l3 r22 l3)
      )
      )
    )
def f_C_longestLeg (M : Mm) : Option Int32 :=
  (f_C_longestLeg_6 M fu (-1 : Int32) (-1 : Int32) (0 : Int32))
def f_C_bogLength_38 (M : Mm) (r4 : Int32 → Int32 → Option Int32) (l1 : Int32) (l2 : Int32) : Option Int32 :=
  (r4 l1 (l2 + 1))
def f_C_bogLength_4 (M : Mm) : Nat → Int32 → Int32 → Option Int32
  | 0, _, _ => none
  | n + 1, l1, l2 =>
    (if (M 15 9) ≤ l2 then
      (some l1)
    else
      (chk (iin l2 20)
      (if (M 18 (ix l2)) = 0 then
        (f_C_bogLength_38 M (f_C_bogLength_4 M n) l1 l2)
      else
        (bn (f_S_horizontalUnits 15 M l2) fun r33 =>
        (f_C_bogLength_38 M (f_C_bogLength_4 M n) (l1 + r33) l2)
        )
      )
      )
    )
def f_C_bogLength (M : Mm) : Option Int32 :=
  (f_C_bogLength_4 M fu (0 : Int32) (0 : Int32))
def f_C_area (M : Mm) : Option (Int64 × Mm) :=
  (bn (f_C_followed M) fun M1 =>
  (bn (f_T_enclosedArea M1) fun r4 =>
  (some (r4, M1))
  ))
def f_C_misclosureWithPin (l1 : Int32) (M : Mm) : Option (Int32 × Mm) :=
  (bn (f_S_canDrop 15 M l1) fun r5 =>
  (if r5 = 0 then
    (some ((-1 : Int32), M))
  else
    (bn (f_S_copyFrom 4 15 M) fun M21 =>
    (chk (iin l1 20)
    (bm (wr M21 11 (ix l1) ((M21 11 (ix l1)) + (1 : Int32))) fun M36 =>
    (bn (f_T_follow 4 M36) fun M45 =>
    (bn (f_T_closingDistance M45) fun r52 =>
    (some (r52, M45))
    )))))
  )
  )
def f_C_misclosureIfDropped (l1 : Int32) (M : Mm) : Option ((Nat ⊕ Int32) × Mm) :=
  (bti (f_C_requireLeg M l1) M fun _ =>
  (bn2 (f_C_misclosureWithPin l1 M) fun r7 M7 =>
  (some (.inr r7, M7))
  ))
def f_C_suspectLeg_47 (r12 : Int32 → Int32 → Int32 → Mm → Option (Int32 × Mm)) (l1 : Int32) (l2 : Int32) (l3 : Int32) (M : Mm) : Option (Int32 × Mm) :=
  (r12 l1 l2 (l3 + 1) M)
def f_C_suspectLeg_12  : Nat → Int32 → Int32 → Int32 → Mm → Option (Int32 × Mm)
  | 0, _, _, _, _ => none
  | n + 1, l1, l2, l3, M =>
    (if (M 15 9) ≤ l3 then
      (some (l1, M))
    else
      (bn2 (f_C_misclosureWithPin l3 M) fun r25 M25 =>
      (if r25 = (-1 : Int32) then
        (f_C_suspectLeg_47 (f_C_suspectLeg_12 n) l1 l2 l3 M25)
      else
        (if l2 ≤ r25 then
          (f_C_suspectLeg_47 (f_C_suspectLeg_12 n) l1 l2 l3 M25)
        else
          (f_C_suspectLeg_47 (f_C_suspectLeg_12 n) l3 r25 l3 M25)
        )
      )
      )
    )
def f_C_suspectLeg (M : Mm) : Option (Int32 × Mm) :=
  (bn (f_C_followed M) fun M3 =>
  (bn (f_T_closingDistance M3) fun r6 =>
  (f_C_suspectLeg_12 fu (-1 : Int32) r6 (0 : Int32) M3)
  ))
def f_C_misclosureWithPace_94 (M : Mm) (r9 : Int32 → Int32 → Int32 → Int32 → Option Int32) (l3 : Int32) (l4 : Int32) (l5 : Int32) (l6 : Int32) : Option Int32 :=
  (r9 l3 l4 l5 (l6 + 1))
def f_C_misclosureWithPace_9 (M : Mm) : Nat → Int32 → Int32 → Int32 → Int32 → Option Int32
  | 0, _, _, _, _ => none
  | n + 1, l3, l4, l5, l6 =>
    (if (M 15 9) ≤ l6 then
      (bn (f_C_distance l4 l5) fun r104 =>
      (some r104)
      )
    else
      (chk (iin l6 20)
      (if (M 18 (ix l6)) = 0 then
        (f_C_misclosureWithPace_94 M (f_C_misclosureWithPace_9 M n) l3 l4 l5 l6)
      else
        (bn (f_C_sine (M 17 (ix l6))) fun r62 =>
        (bn (f_C_stepOf ((M 19 (ix l6)) * l3) r62) fun r65 =>
        (bn (f_C_cosine (M 17 (ix l6))) fun r85 =>
        (bn (f_C_stepOf ((M 19 (ix l6)) * l3) r85) fun r88 =>
        (f_C_misclosureWithPace_94 M (f_C_misclosureWithPace_9 M n) l3 (l4 + r65) (l5 + r88) l6)
        ))))
      )
      )
    )
def f_C_misclosureWithPace (M : Mm) (l1 : Int32) (l2 : Int32) (l3 : Int32) : Option Int32 :=
  (f_C_misclosureWithPace_9 M fu l3 l1 l2 (0 : Int32))
def f_C_bestPace_146 (M : Mm) (r114 : Int32 → Int32 → Int32 → Int32 → Int32 → Option Int32) (l1 : Int32) (l2 : Int32) (l3 : Int32) (l4 : Int32) (l5 : Int32) : Option Int32 :=
  (r114 l1 l2 l3 l4 (l5 + 1))
def f_C_bestPace_114 (M : Mm) : Nat → Int32 → Int32 → Int32 → Int32 → Int32 → Option Int32
  | 0, _, _, _, _, _ => none
  | n + 1, l1, l2, l3, l4, l5 =>
    (if (999 : Int32) < l5 then
      (some l3)
    else
      (bn (f_C_misclosureWithPace M l1 l2 l5) fun r127 =>
      (if l4 ≤ r127 then
        (f_C_bestPace_146 M (f_C_bestPace_114 M n) l1 l2 l3 l4 l5)
      else
        (f_C_bestPace_146 M (f_C_bestPace_114 M n) l1 l2 l5 r127 l5)
      )
      )
    )
def f_C_bestPace_91 (M : Mm) (r18 : Int32 → Int32 → Int32 → Option Int32) (l1 : Int32) (l2 : Int32) (l3 : Int32) : Option Int32 :=
  (r18 l1 l2 (l3 + 1))
def f_C_bestPace_18 (M : Mm) : Nat → Int32 → Int32 → Int32 → Option Int32
  | 0, _, _, _ => none
  | n + 1, l1, l2, l3 =>
    (if (M 15 9) ≤ l3 then
      (bn (f_C_misclosureWithPace M l1 l2 (100 : Int32)) fun r105 =>
      (f_C_bestPace_114 M fu l1 l2 (100 : Int32) r105 (101 : Int32))
      )
    else
      (chk (iin l3 20)
      (if (M 18 (ix l3)) = 0 then
        (bn (f_S_horizontalUnits 15 M l3) fun r46 =>
        (bn (f_C_sine (M 17 (ix l3))) fun r63 =>
        (bn (f_C_stepOf r46 r63) fun r66 =>
        (bn (f_C_cosine (M 17 (ix l3))) fun r83 =>
        (bn (f_C_stepOf r46 r83) fun r86 =>
        (f_C_bestPace_91 M (f_C_bestPace_18 M n) (l1 + r66) (l2 + r86) l3)
        )))))
      else
        (f_C_bestPace_91 M (f_C_bestPace_18 M n) l1 l2 l3)
      )
      )
    )
def f_C_bestPace (M : Mm) : Option Int32 :=
  (bn (f_S_hasBog 15 M) fun r4 =>
  (if r4 = 0 then
    (some (-1 : Int32))
  else
    (f_C_bestPace_18 M fu (0 : Int32) (0 : Int32) (0 : Int32))
  )
  )
def f_C_inconsistencies_99 (r66 : Int32 → Int32 → Mm → Option (Int32 × Mm)) (l2 : Int32) (l3 : Int32) (M : Mm) : Option (Int32 × Mm) :=
  (r66 l2 (l3 + 1) M)
def f_C_inconsistencies_66  : Nat → Int32 → Int32 → Mm → Option (Int32 × Mm)
  | 0, _, _, _ => none
  | n + 1, l2, l3, M =>
    (if (M 15 9) ≤ l3 then
      (some (l2, M))
    else
      (bn (f_S_horizontalUnits 15 M l3) fun r82 =>
      (bn (f_S_slopeUnits 15 M l3) fun r90 =>
      (if r82 ≤ r90 then
        (f_C_inconsistencies_99 (f_C_inconsistencies_66 n) l2 l3 M)
      else
        (f_C_inconsistencies_99 (f_C_inconsistencies_66 n) (l2 + 1) l3 M)
      )
      ))
    )
def f_C_inconsistencies_64 (l2 : Int32) (M : Mm) : Option (Int32 × Mm) :=
  (f_C_inconsistencies_66 fu l2 (0 : Int32) M)
def f_C_inconsistencies_62 (t0 : Int32) (t1 : Int32) (M : Mm) : Option (Int32 × Mm) :=
  (f_C_inconsistencies_64 (t0 + t1) M)
def f_C_inconsistencies_42 (t0 : Int32) (t1 : Int32) (M : Mm) : Option (Int32 × Mm) :=
  (chk (iin (M 25 5) 21)
  (if (M 30 (ix (M 25 5))) = 0 then
    (f_C_inconsistencies_62 (t0 + t1) (0 : Int32) M)
  else
    (f_C_inconsistencies_62 (t0 + t1) (1 : Int32) M)
  )
  )
def f_C_inconsistencies (M : Mm) : Option (Int32 × Mm) :=
  (bn (f_C_followed M) fun M1 =>
  (if (M1 15 12) = 0 then
    (f_C_inconsistencies_64 (0 : Int32) M1)
  else
    (bn (f_T_totalRun M1) fun r18 =>
    (if r18 ≤ 0 then
      (f_C_inconsistencies_64 (0 : Int32) M1)
    else
      (chk (iin (M1 25 5) 21)
      (if (M1 29 (ix (M1 25 5))) = 0 then
        (f_C_inconsistencies_42 (0 : Int32) (0 : Int32) M1)
      else
        (f_C_inconsistencies_42 (0 : Int32) (1 : Int32) M1)
      )
      )
    )
    )
  )
  )
noncomputable def f_C_meanLeg (M : Mm) : Option (UInt64 × Mm) :=
  (if (M 15 9) = 0 then
    (some ((0 : UInt64), M))
  else
    (bn2 (f_C_perimeter M) fun r13 M13 =>
    (chkC (vf_n64 (FP.ddiv (FP.i2d r13) (FP.i2d (M13 15 9))))
    (some (FP.ddiv (FP.i2d r13) (FP.i2d (M13 15 9)), M13))
    ))
  )
noncomputable def f_C_bogShare (M : Mm) : Option (UInt32 × Mm) :=
  (bn2 (f_C_perimeter M) fun r1 M1 =>
  (if r1 = 0 then
    (some ((0 : UInt32), M1))
  else
    (bn (f_C_bogLength M1) fun r12 =>
    (chkC (vf_n32 (FP.fdiv (FP.i2f r12) (FP.i2f r1)))
    (some (FP.fdiv (FP.i2f r12) (FP.i2f r1), M1))
    ))
  )
  )
def f_C_writeByte_31 (M : Mm) : Option Mm :=
  (some M)
def f_C_writeByte (l1 : Int32) (M : Mm) : Option Mm :=
  (if (512 : Int32) ≤ (M 0 6) then
    (f_C_writeByte_31 M)
  else
    (chk (iin (M 0 6) 512)
    (bm (wr M 14 (ix (M 0 6)) l1.toInt8.toInt32.toInt8.toInt32) fun M20 =>
    (bm (wr M20 0 6 ((M20 0 6) + (1 : Int32))) fun M28 =>
    (f_C_writeByte_31 M28)
    )))
  )
def f_C_writeNumber_46 (r19 : Int32 → Int32 → Mm → Option Mm) (l2 : Int32) (l3 : Int32) (M : Mm) : Option Mm :=
  (r19 l2 (l3 / (10 : Int32)) M)
def f_C_writeNumber_33 (r19 : Int32 → Int32 → Mm → Option Mm) (l2 : Int32) (l3 : Int32) (M : Mm) : Option Mm :=
  (chk (¬ l3 = 0)
  (bn (f_C_writeByte ((48 : Int32) + ((l2 / l3) - (l2 / l3) / (10 : Int32) * (10 : Int32))) M) fun M43 =>
  (f_C_writeNumber_46 r19 l2 l3 M43)
  ))
def f_C_writeNumber_19  : Nat → Int32 → Int32 → Mm → Option Mm
  | 0, _, _, _ => none
  | n + 1, l2, l3, M =>
    (if l3 ≤ 0 then
      (some M)
    else
      (if l3 ≤ l2 then
        (f_C_writeNumber_33 (f_C_writeNumber_19 n) l2 l3 M)
      else
        (if l3 = (1 : Int32) then
          (f_C_writeNumber_33 (f_C_writeNumber_19 n) l2 l3 M)
        else
          (f_C_writeNumber_46 (f_C_writeNumber_19 n) l2 l3 M)
        )
      )
    )
def f_C_writeNumber_10 (l1 : Int32) (M : Mm) : Option Mm :=
  (f_C_writeNumber_19 fu (if 0 ≤ l1 then l1 else 0 - l1) (1000000000 : Int32) M)
def f_C_writeNumber (l1 : Int32) (M : Mm) : Option Mm :=
  (if 0 ≤ l1 then
    (f_C_writeNumber_10 l1 M)
  else
    (bn (f_C_writeByte (45 : Int32) M) fun M7 =>
    (f_C_writeNumber_10 l1 M7)
    )
  )
def f_C_writeStations_30 (r12 : Int32 → Mm → Option (Int32 × Mm)) (l2 : Int32) (M : Mm) : Option (Int32 × Mm) :=
  (chk (iin l2 21)
  (bn (f_C_writeNumber (M 29 (ix l2)) M) fun M37 =>
  (bn (f_C_writeByte (44 : Int32) M37) fun M43 =>
  (bn (f_C_writeNumber (M43 30 (ix l2)) M43) fun M53 =>
  (r12 (l2 + 1) M53)
  ))))
def f_C_writeStations_12  : Nat → Int32 → Mm → Option (Int32 × Mm)
  | 0, _, _ => none
  | n + 1, l2, M =>
    (if (M 25 5) < l2 then
      (some (M 0 6, M))
    else
      (if l2 ≤ 0 then
        (f_C_writeStations_30 (f_C_writeStations_12 n) l2 M)
      else
        (bn (f_C_writeByte (32 : Int32) M) fun M27 =>
        (f_C_writeStations_30 (f_C_writeStations_12 n) l2 M27)
        )
      )
    )
def f_C_writeStations (M : Mm) : Option (Int32 × Mm) :=
  (bn (f_C_followed M) fun M1 =>
  (bm (wr M1 0 6 (0 : Int32)) fun M7 =>
  (f_C_writeStations_12 fu (0 : Int32) M7)
  ))
def f_C_outputByte_24 (M : Mm) (t0 : Int32) : Option Int32 :=
  (some t0)
def f_C_outputByte (M : Mm) (l1 : Int32) : Option Int32 :=
  (bn (f_C_isBetween l1 (0 : Int32) ((M 0 6) - (1 : Int32))) fun r8 =>
  (if r8 = 0 then
    (f_C_outputByte_24 M (-1 : Int32))
  else
    (chk (iin l1 512)
    (f_C_outputByte_24 M (M 14 (ix l1)))
    )
  )
  )
def f_M_thrown (M : Mm) : Option Int32 :=
  (some (M 134 7))
def f_M_fails_41 (t0 : Int32) (M : Mm) : Option (Int32 × Mm) :=
  (chk (isZ t0)
  (some (t0, M))
  )
def f_M_fails_26 (t1 : Int32) (M : Mm) : Option (Int32 × Mm) :=
  (bm (wr M 134 7 t1) fun M26 =>
  (if (M26 134 7) ≤ 0 then
    (f_M_fails_41 (0 : Int32) M26)
  else
    (f_M_fails_41 (1 : Int32) M26)
  )
  )
def f_M_fails (l1 : Int32) (l2 : Int32) (l3 : Int32) (M : Mm) : Option (Int32 × Mm) :=
  (if l1 = 0 then
    (if l2 = 0 then
      (if l3 = 0 then
        (f_M_fails_26 (0 : Int32) M)
      else
        (f_M_fails_26 (3 : Int32) M)
      )
    else
      (f_M_fails_26 (2 : Int32) M)
    )
  else
    (f_M_fails_26 (1 : Int32) M)
  )
def f_M_told (l1 : Int32) (M : Mm) : Option (Int32 × Mm) :=
  (bm (wr M 134 7 (0 : Int32)) fun M2 =>
  (some (l1, M2))
  )
def f_M_isIn_15 (t0 : Int32) : Option Int32 :=
  (chk (isZ t0)
  (some t0)
  )
def f_M_isIn_14  : Option Int32 :=
  (f_M_isIn_15 (0 : Int32))
def f_M_isIn (l0 : Int32) (l1 : Int32) (l2 : Int32) : Option Int32 :=
  (if l0 < l1 then
    (f_M_isIn_14)
  else
    (if l2 < l0 then
      (f_M_isIn_14)
    else
      (f_M_isIn_15 (1 : Int32))
    )
  )
def f_M_copy (a : Nat) (b : Nat) (l1 : Int32) (l3 : Int32) (M : Mm) : Option Mm :=
  (chk ((¬ l1 < 0 ∧ ¬ l3 < 0 ∧ ¬ (284 : Int32) < 0) ∧ ix l1 + ix (284 : Int32) ≤ (lnM a) ∧ ix l3 + ix (284 : Int32) ≤ (lnM b))
  (bm (cpy M a (ix l1) b (ix l3) (ix (284 : Int32))) fun M7 =>
  (some M7)
  ))
def f_M_remember_37 (a : Nat) (M : Mm) : Option Mm :=
  (bn (f_M_copy a 137 (0 : Int32) ((M 134 6) * (284 : Int32)) M) fun M51 =>
  (bm (wr M51 134 6 ((M51 134 6) + (1 : Int32))) fun M61 =>
  (some M61)
  ))
def f_M_remember (a : Nat) (M : Mm) : Option Mm :=
  (if (M 134 6) = (8 : Int32) then
    (chk ((¬ (284 : Int32) < 0 ∧ ¬ (0 : Int32) < 0 ∧ ¬ (1988 : Int32) < 0) ∧ ix (284 : Int32) + ix (1988 : Int32) ≤ 2272 ∧ ix (0 : Int32) + ix (1988 : Int32) ≤ 2272)
    (bm (cpy M 137 (ix (284 : Int32)) 137 (ix (0 : Int32)) (ix (1988 : Int32))) fun M24 =>
    (bm (wr M24 134 6 ((M24 134 6) - (1 : Int32))) fun M34 =>
    (f_M_remember_37 a M34)
    )))
  else
    (f_M_remember_37 a M)
  )
def f_M_of (M : Mm) (l1 : Int32) (l2 : Int32) : Option Int32 :=
  (chk (iin (((4 : Int32) + ((14 : Int32) * l1)) + l2) 284)
  (some (M 135 (ix (((4 : Int32) + ((14 : Int32) * l1)) + l2))))
  )
def f_M_put (l1 : Int32) (l2 : Int32) (l3 : Int32) (M : Mm) : Option Mm :=
  (chk (iin (((4 : Int32) + ((14 : Int32) * l1)) + l2) 284)
  (bm (wr M 135 (ix (((4 : Int32) + ((14 : Int32) * l1)) + l2)) l3) fun M13 =>
  (some M13)
  ))
def f_M_noLeg_21 (M : Mm) (t0 : Int32) : Option Int32 :=
  (chk (isZ t0)
  (some t0)
  )
def f_M_noLeg (M : Mm) (l1 : Int32) : Option Int32 :=
  (bn (f_M_isIn l1 (0 : Int32) ((M 135 (ix (0 : Int32))) - (1 : Int32))) fun r10 =>
  (if r10 = 0 then
    (f_M_noLeg_21 M (1 : Int32))
  else
    (f_M_noLeg_21 M (0 : Int32))
  )
  )
def f_M_bog_15 (M : Mm) (t0 : Int32) : Option Int32 :=
  (chk (isZ t0)
  (some t0)
  )
def f_M_bog (M : Mm) (l1 : Int32) : Option Int32 :=
  (bn (f_M_of M l1 (6 : Int32)) fun r4 =>
  (if r4 ≤ 0 then
    (f_M_bog_15 M (0 : Int32))
  else
    (f_M_bog_15 M (1 : Int32))
  )
  )
def f_M_root_33 (r7 : Int64 → Int64 → Int64 → Option Int64) (l0 : Int64) (l2 : Int64) (l4 : Int64) : Option Int64 :=
  (r7 l0 l2 (l4 >>> ((1 : Int32).toInt64 &&& 63)))
def f_M_root_7  : Nat → Int64 → Int64 → Int64 → Option Int64
  | 0, _, _, _ => none
  | n + 1, l0, l2, l4 =>
    (if (lg_cmp l4 (0 : Int64)) ≤ 0 then
      (some l2)
    else
      (if 0 < (lg_cmp ((l2 + l4) * (l2 + l4)) l0) then
        (f_M_root_33 (f_M_root_7 n) l0 l2 l4)
      else
        (f_M_root_33 (f_M_root_7 n) l0 (l2 + l4) l4)
      )
    )
def f_M_root (l0 : Int64) : Option Int64 :=
  (f_M_root_7 fu l0 (0 : Int64) (2147483648 : Int64))
def f_M_read (M : Mm) (l1 : Int32) : Option Int32 :=
  (bn (f_M_bog M l1) fun r2 =>
  (if r2 = 0 then
    (bn (f_M_of M l1 (1 : Int32)) fun r29 =>
    (bn (f_M_of M l1 (3 : Int32)) fun r35 =>
    (bn (f_M_of M l1 (2 : Int32)) fun r45 =>
    (some (((10000 : Int32) * (r29 + r35)) + ((100 : Int32) * r45)))
    )))
  else
    (bn (f_M_of M l1 (6 : Int32)) fun r12 =>
    (some (r12 * (M 135 (ix (2 : Int32)))))
    )
  )
  )
def f_M_slope (M : Mm) (l1 : Int32) : Option Int32 :=
  (bn (f_M_read M l1) fun r2 =>
  (bn (f_M_bog M l1) fun r9 =>
  (if r9 = 0 then
    (bn (f_M_of M l1 (5 : Int32)) fun r42 =>
    (some (((r2.toInt64 + ((r2.toInt64 * ((M 135 (ix (1 : Int32))).toInt64)) / (10000 : Int64))) + ((((r2.toInt64 + ((r2.toInt64 * ((M 135 (ix (1 : Int32))).toInt64)) / (10000 : Int64))) * ((r42 - (15 : Int32)).toInt64)) * (12 : Int64)) / (1000000 : Int64))).toInt32))
    )
  else
    (some r2.toInt64.toInt32)
  )
  ))
def f_M_flat_55 (M : Mm) (t0 : Int32) : Option Int32 :=
  (some t0)
def f_M_flat (M : Mm) (l1 : Int32) : Option Int32 :=
  (bn (f_M_slope M l1) fun r2 =>
  (bn (f_M_bog M l1) fun r9 =>
  (if r9 = 0 then
    (bn (f_M_of M l1 (4 : Int32)) fun r24 =>
    (if (lg_cmp ((100 : Int64) * r24.toInt64) r2.toInt64) ≤ 0 then
      (bn (f_M_root ((r2.toInt64 * r2.toInt64) - (((100 : Int64) * r24.toInt64) * ((100 : Int64) * r24.toInt64)))) fun r51 =>
      (f_M_flat_55 M r51.toInt32)
      )
    else
      (f_M_flat_55 M (0 : Int32))
    )
    )
  else
    (some r2.toInt64.toInt32)
  )
  ))
def f_M_cosine_41 (M : Mm) (t0 : Int32) : Option Int32 :=
  (some t0)
def f_M_cosine_16 (M : Mm) (l2 : Int32) : Option Int32 :=
  (if (6 : Int32) < l2 then
    (chk (iin ((12 : Int32) - l2) 7)
    (f_M_cosine_41 M (-(M 146 (ix ((12 : Int32) - l2)))))
    )
  else
    (chk (iin l2 7)
    (f_M_cosine_41 M (M 146 (ix l2)))
    )
  )
def f_M_cosine (M : Mm) (l1 : Int32) : Option Int32 :=
  (if (l1 - l1 / (24 : Int32) * (24 : Int32)) ≤ (12 : Int32) then
    (f_M_cosine_16 M (l1 - l1 / (24 : Int32) * (24 : Int32)))
  else
    (f_M_cosine_16 M ((24 : Int32) - (l1 - l1 / (24 : Int32) * (24 : Int32))))
  )
def f_M_step_29 (M : Mm) (t0 : Int64) (t2 : Int32) : Option Int32 :=
  (bn (f_M_cosine M t2) fun r29 =>
  (some (((t0 * r29.toInt64) / (10000 : Int64)).toInt32))
  )
def f_M_step (M : Mm) (l1 : Int32) (l2 : Int32) : Option Int32 :=
  (bn (f_M_of M l1 (0 : Int32)) fun r3 =>
  (bn (f_M_flat M l1) fun r12 =>
  (if l2 = 0 then
    (f_M_step_29 M r12.toInt64 (r3 / (15 : Int32)))
  else
    (f_M_step_29 M r12.toInt64 ((r3 / (15 : Int32)) + (18 : Int32)))
  )
  ))
def f_M_findRaw_23  : Nat → Int32 → Mm → Option Mm
  | 0, _, _ => none
  | n + 1, l1, M =>
    (if (M 135 (ix (0 : Int32))) ≤ l1 then
      (some M)
    else
      (chk (iin l1 21)
      (bn (f_M_step M l1 (1 : Int32)) fun r49 =>
      (chk (iin (l1 + (1 : Int32)) 21)
      (bm (wr M 143 (ix (l1 + (1 : Int32))) ((M 143 (ix l1)) + r49)) fun M53 =>
      (bn (f_M_step M53 l1 (0 : Int32)) fun r70 =>
      (bm (wr M53 144 (ix (l1 + (1 : Int32))) ((M53 144 (ix l1)) + r70)) fun M74 =>
      (bn (f_M_flat M74 l1) fun r90 =>
      (bm (wr M74 145 (ix (l1 + (1 : Int32))) ((M74 145 (ix l1)) + r90)) fun M94 =>
      ((f_M_findRaw_23 n) (l1 + 1) M94)
      ))))))))
    )
def f_M_findRaw (M : Mm) : Option Mm :=
  (bm (wr M 143 (ix (0 : Int32)) (0 : Int32)) fun M6 =>
  (bm (wr M6 144 (ix (0 : Int32)) (0 : Int32)) fun M13 =>
  (bm (wr M13 145 (ix (0 : Int32)) (0 : Int32)) fun M20 =>
  (f_M_findRaw_23 fu (0 : Int32) M20)
  )))
def f_M_around (M : Mm) : Option Int32 :=
  (chk (iin (M 135 (ix (0 : Int32))) 21)
  (some (M 145 (ix (M 135 (ix (0 : Int32))))))
  )
def f_M_part_17 (t0 : Int32) : Option Int32 :=
  (some t0)
def f_M_part (l0 : Int32) (l1 : Int32) (l2 : Int32) : Option Int32 :=
  (if l2 = 0 then
    (f_M_part_17 (0 : Int32))
  else
    (chk (¬ l2.toInt64 = 0)
    (f_M_part_17 (((l0.toInt64 * l1.toInt64) / l2.toInt64).toInt32))
    )
  )
def f_M_findStations_40  : Nat → Int32 → Int32 → Int32 → Mm → Option Mm
  | 0, _, _, _, _ => none
  | n + 1, l1, l2, l3, M =>
    (if (M 135 (ix (0 : Int32))) < l3 then
      (some M)
    else
      (chk (iin l3 21)
      (bn (f_M_around M) fun r65 =>
      (bn (f_M_part l1 (M 145 (ix l3)) r65) fun r68 =>
      (bm (wr M 143 (ix l3) ((M 143 (ix l3)) - r68)) fun M72 =>
      (bn (f_M_around M72) fun r88 =>
      (bn (f_M_part l2 (M72 145 (ix l3)) r88) fun r91 =>
      (bm (wr M72 144 (ix l3) ((M72 144 (ix l3)) - r91)) fun M95 =>
      ((f_M_findStations_40 n) l1 l2 (l3 + 1) M95)
      )))))))
    )
def f_M_findStations (M : Mm) : Option Mm :=
  (bn (f_M_findRaw M) fun M1 =>
  (if (M1 135 (ix (3 : Int32))) = 0 then
    (some M1)
  else
    (chk (iin (M1 135 (ix (0 : Int32))) 21)
    (f_M_findStations_40 fu (M1 143 (ix (M1 135 (ix (0 : Int32))))) (M1 144 (ix (M1 135 (ix (0 : Int32))))) (0 : Int32) M1)
    )
  )
  )
def f_M_far (l0 : Int64) (l2 : Int64) : Option Int32 :=
  (bn (f_M_root ((l0 * l0) + (l2 * l2))) fun r7 =>
  (some r7.toInt32)
  )
def f_M_miss (M : Mm) : Option (Int32 × Mm) :=
  (bn (f_M_findRaw M) fun M1 =>
  (chk (iin (M1 135 (ix (0 : Int32))) 21)
  (bn (f_M_far ((M1 143 (ix (M1 135 (ix (0 : Int32))))).toInt64) ((M1 144 (ix (M1 135 (ix (0 : Int32))))).toInt64)) fun r28 =>
  (some (r28, M1))
  )))
def f_M_mayDrop_24 (M : Mm) (t0 : Int32) : Option Int32 :=
  (chk (isZ t0)
  (some t0)
  )
def f_M_mayDrop_23 (M : Mm) : Option Int32 :=
  (f_M_mayDrop_24 M (0 : Int32))
def f_M_mayDrop (M : Mm) (l1 : Int32) : Option Int32 :=
  (bn (f_M_bog M l1) fun r2 =>
  (if r2 = 0 then
    (bn (f_M_of M l1 (3 : Int32)) fun r11 =>
    (if (9 : Int32) ≤ r11 then
      (f_M_mayDrop_23 M)
    else
      (f_M_mayDrop_24 M (1 : Int32))
    )
    )
  else
    (f_M_mayDrop_23 M)
  )
  )
def f_M_drops (l1 : Int32) (l2 : Int32) (M : Mm) : Option (Int32 × Mm) :=
  (bn (f_M_of M l1 (3 : Int32)) fun r6 =>
  (bn (f_M_put l1 (3 : Int32) (r6 + l2) M) fun M11 =>
  (bn (f_M_of M11 l1 (3 : Int32)) fun r17 =>
  (some (r17, M11))
  )))
def f_M_removes_12  : Nat → Int32 → Mm → Option (Int32 × Mm)
  | 0, _, _ => none
  | n + 1, l1, M =>
    (if (14 : Int32) ≤ l1 then
      (some (M 135 (ix (0 : Int32)), M))
    else
      (bn (f_M_put (M 135 (ix (0 : Int32))) l1 (0 : Int32) M) fun M27 =>
      ((f_M_removes_12 n) (l1 + 1) M27)
      )
    )
def f_M_removes (M : Mm) : Option (Int32 × Mm) :=
  (bm (wr M 135 (ix (0 : Int32)) ((M 135 (ix (0 : Int32))) - (1 : Int32))) fun M9 =>
  (f_M_removes_12 fu (0 : Int32) M9)
  )
def f_M_sets (l1 : Int32) (l2 : Int32) (M : Mm) : Option (Int32 × Mm) :=
  (chk (iin l1 284)
  (bm (wr M 135 (ix l1) l2) fun M13 =>
  (some (M 135 (ix l1), M13))
  ))
def f_M_named_83 (M : Mm) (r2 : Int32 → Option Int32) (r44 : Int32 → Int32 → Int32 → Int32 → Option Int32) (l1 : Int32) (l2 : Int32) (l4 : Int32) (t0 : Int32) : Option Int32 :=
  (r44 l1 l2 t0 (l4 + 1))
def f_M_named_90 (M : Mm) (r2 : Int32 → Option Int32) (l1 : Int32) (l3 : Int32) : Option Int32 :=
  (if l3 = 0 then
    (r2 (l1 + 1))
  else
    (some l1)
  )
def f_M_named_44 (M : Mm) (r2 : Int32 → Option Int32) : Nat → Int32 → Int32 → Int32 → Int32 → Option Int32
  | 0, _, _, _, _ => none
  | n + 1, l1, l2, l3, l4 =>
    (if l3 = 0 then
      (f_M_named_90 M r2 l1 l3)
    else
      (if (M 134 19) ≤ l4 then
        (f_M_named_90 M r2 l1 l3)
      else
        (chk (iin ((l2 + l4) + (1 : Int32)) 284)
        (chk (iin l4 6)
        (if (M 135 (ix ((l2 + l4) + (1 : Int32)))) = (M 147 (ix l4)) then
          (f_M_named_83 M r2 (f_M_named_44 M r2 n) l1 l2 l4 (1 : Int32))
        else
          (f_M_named_83 M r2 (f_M_named_44 M r2 n) l1 l2 l4 (0 : Int32))
        )
        ))
      )
    )
def f_M_named_40 (M : Mm) (r2 : Int32 → Option Int32) (l1 : Int32) (l2 : Int32) (t0 : Int32) : Option Int32 :=
  (f_M_named_44 M r2 fu l1 l2 t0 (0 : Int32))
def f_M_named_2 (M : Mm) : Nat → Int32 → Option Int32
  | 0, _ => none
  | n + 1, l1 =>
    (if (M 135 (ix (0 : Int32))) ≤ l1 then
      (some (-1 : Int32))
    else
      (chk (iin (((4 : Int32) + ((14 : Int32) * l1)) + (7 : Int32)) 284)
      (if (M 135 (ix (((4 : Int32) + ((14 : Int32) * l1)) + (7 : Int32)))) = (M 134 19) then
        (f_M_named_40 M (f_M_named_2 M n) l1 (((4 : Int32) + ((14 : Int32) * l1)) + (7 : Int32)) (1 : Int32))
      else
        (f_M_named_40 M (f_M_named_2 M n) l1 (((4 : Int32) + ((14 : Int32) * l1)) + (7 : Int32)) (0 : Int32))
      )
      )
    )
def f_M_named (M : Mm) : Option Int32 :=
  (f_M_named_2 M fu (0 : Int32))
def f_M_layName_18  : Nat → Int32 → Mm → Option Mm
  | 0, _, _ => none
  | n + 1, l1, M =>
    (if (M 134 19) ≤ l1 then
      (some M)
    else
      (chk (iin l1 6)
      (bn (f_M_put (M 135 (ix (0 : Int32))) ((8 : Int32) + l1) (M 147 (ix l1)) M) fun M43 =>
      ((f_M_layName_18 n) (l1 + 1) M43)
      ))
    )
def f_M_layName (M : Mm) : Option Mm :=
  (bn (f_M_put (M 135 (ix (0 : Int32))) (7 : Int32) (M 134 19) M) fun M13 =>
  (f_M_layName_18 fu (0 : Int32) M13)
  )
def f_M_four_3  : Nat → Int32 → Int32 → Mm → Option Mm
  | 0, _, _, _ => none
  | n + 1, l1, l2, M =>
    (if l2 < 0 then
      (some M)
    else
      (chk (iin (M 134 14) 900)
      (bm (wr M 141 (ix (M 134 14)) ((l1 >>> (l2 &&& 31)) &&& (255 : Int32))) fun M22 =>
      (bm (wr M22 134 14 ((M22 134 14) + (1 : Int32))) fun M30 =>
      ((f_M_four_3 n) l1 (l2 + (-8)) M30)
      )))
    )
def f_M_four (l1 : Int32) (M : Mm) : Option Mm :=
  (f_M_four_3 fu l1 (24 : Int32) M)
def f_M_append (l1 : Int32) (l2 : Int32) (l3 : Int32) (l4 : Int32) (l5 : Int32) (M : Mm) : Option (Int32 × Mm) :=
  (bm (wr M 134 7 (0 : Int32)) fun M2 =>
  (if ((M2 134 14) + (20 : Int32)) ≤ (900 : Int32) then
    (bn (f_M_four l1 M2) fun M22 =>
    (bn (f_M_four l2 M22) fun M27 =>
    (bn (f_M_four l3 M27) fun M32 =>
    (bn (f_M_four l4 M32) fun M38 =>
    (bn (f_M_four l5 M38) fun M44 =>
    (some (M44 134 14, M44))
    )))))
  else
    (some ((-1 : Int32), M2))
  )
  )
def f_M_truncateInput_18 (l1 : Int32) (t1 : Int32) (M : Mm) : Option (Int32 × Mm) :=
  (bn2 (f_M_fails t1 (0 : Int32) (0 : Int32) M) fun r20 M20 =>
  (if r20 = 0 then
    (bm (wr M20 134 14 l1) fun M30 =>
    (some (l1, M30))
    )
  else
    (some ((0 : Int32), M20))
  )
  )
def f_M_truncateInput (l1 : Int32) (M : Mm) : Option (Int32 × Mm) :=
  (bn (f_M_isIn l1 (0 : Int32) (M 134 14)) fun r7 =>
  (if r7 = 0 then
    (f_M_truncateInput_18 l1 (1 : Int32) M)
  else
    (f_M_truncateInput_18 l1 (0 : Int32) M)
  )
  )
def f_M_isLetter_29 (M : Mm) (t0 : Int32) : Option Int32 :=
  (chk (isZ t0)
  (some t0)
  )
def f_M_isLetter_28 (M : Mm) : Option Int32 :=
  (f_M_isLetter_29 M (0 : Int32))
def f_M_isLetter (M : Mm) (l1 : Int32) : Option Int32 :=
  (if (M 134 14) ≤ l1 then
    (f_M_isLetter_28 M)
  else
    (chk (iin l1 900)
    (bn (f_M_isIn (M 141 (ix l1)) (97 : Int32) (122 : Int32)) fun r18 =>
    (if r18 = 0 then
      (f_M_isLetter_28 M)
    else
      (f_M_isLetter_29 M (1 : Int32))
    )
    ))
  )
def f_M_isDigit_29 (M : Mm) (t0 : Int32) : Option Int32 :=
  (chk (isZ t0)
  (some t0)
  )
def f_M_isDigit_28 (M : Mm) : Option Int32 :=
  (f_M_isDigit_29 M (0 : Int32))
def f_M_isDigit (M : Mm) (l1 : Int32) : Option Int32 :=
  (if (M 134 14) ≤ l1 then
    (f_M_isDigit_28 M)
  else
    (chk (iin l1 900)
    (bn (f_M_isIn (M 141 (ix l1)) (48 : Int32) (57 : Int32)) fun r18 =>
    (if r18 = 0 then
      (f_M_isDigit_28 M)
    else
      (f_M_isDigit_29 M (1 : Int32))
    )
    ))
  )
def f_M_next_212 (M : Mm) : Option Mm :=
  (some M)
def f_M_next_126  : Nat → Mm → Option Mm
  | 0, _ => none
  | n + 1, M =>
    (bn (f_M_isDigit M (M 134 22)) fun r131 =>
    (if r131 = 0 then
      (f_M_next_212 M)
    else
      (chk (iin (M 134 22) 900)
      (bm (wr M 134 23 (if ((((M 134 23) * (10 : Int32)) + (M 141 (ix (M 134 22)))) - (48 : Int32)) < (1000000 : Int32) then ((((M 134 23) * (10 : Int32)) + (M 141 (ix (M 134 22)))) - (48 : Int32)) else (1000000 : Int32))) fun M163 =>
      (bm (wr M163 134 22 ((M163 134 22) + (1 : Int32))) fun M173 =>
      ((f_M_next_126 n) M173)
      )))
    )
    )
def f_M_next_199 (t1 : Int32) (M : Mm) : Option Mm :=
  (bm (wr M 134 20 t1) fun M199 =>
  (bm (wr M199 134 22 ((M199 134 22) + (1 : Int32))) fun M209 =>
  (f_M_next_212 M209)
  ))
def f_M_next_81  : Nat → Mm → Option Mm
  | 0, _ => none
  | n + 1, M =>
    (bn (f_M_isLetter M (M 134 22)) fun r86 =>
    (if r86 = 0 then
      (f_M_next_212 M)
    else
      (bm (wr M 134 22 ((M 134 22) + (1 : Int32))) fun M99 =>
      ((f_M_next_81 n) M99)
      )
    )
    )
def f_M_next_38 (M : Mm) : Option Mm :=
  (bm (wr M 134 21 (M 134 22)) fun M43 =>
  (if (M43 134 22) = (M43 134 14) then
    (bm (wr M43 134 20 (0 : Int32)) fun M59 =>
    (f_M_next_212 M59)
    )
  else
    (bn (f_M_isLetter M43 (M43 134 22)) fun r70 =>
    (if r70 = 0 then
      (bn (f_M_isDigit M43 (M43 134 22)) fun r110 =>
      (if r110 = 0 then
        (chk (iin (M43 134 22) 900)
        (if (M43 141 (ix (M43 134 22))) = (59 : Int32) then
          (f_M_next_199 (3 : Int32) M43)
        else
          (f_M_next_199 (4 : Int32) M43)
        )
        )
      else
        (bm (wr M43 134 20 (2 : Int32)) fun M118 =>
        (bm (wr M118 134 23 (0 : Int32)) fun M123 =>
        (f_M_next_126 fu M123)
        ))
      )
      )
    else
      (bm (wr M43 134 20 (1 : Int32)) fun M78 =>
      (f_M_next_81 fu M78)
      )
    )
    )
  )
  )
def f_M_next_0  : Nat → Mm → Option Mm
  | 0, _ => none
  | n + 1, M =>
    (if (M 134 14) ≤ (M 134 22) then
      (f_M_next_38 M)
    else
      (chk (iin (M 134 22) 900)
      (if (M 141 (ix (M 134 22))) = (32 : Int32) then
        (bm (wr M 134 22 ((M 134 22) + (1 : Int32))) fun M32 =>
        ((f_M_next_0 n) M32)
        )
      else
        (f_M_next_38 M)
      )
      )
    )
def f_M_next (M : Mm) : Option Mm :=
  (if (M 134 14) ≤ (M 134 22) then
    (f_M_next_38 M)
  else
    (chk (iin (M 134 22) 900)
    (if (M 141 (ix (M 134 22))) = (32 : Int32) then
      (bm (wr M 134 22 ((M 134 22) + (1 : Int32))) fun M32 =>
      (f_M_next_0 fu M32)
      )
    else
      (f_M_next_38 M)
    )
    )
  )
def f_M_is_31 (w : Nat) (M : Mm) : Option Int32 :=
  (some (0 : Int32))
def f_M_is_35 (w : Nat) (M : Mm) : Nat → Int32 → Option Int32
  | 0, _ => none
  | n + 1, l2 =>
    (bn (f_U_length w) fun r37 =>
    (if r37 ≤ l2 then
      (some (1 : Int32))
    else
      (chk (iin ((M 134 21) + l2) 900)
      (bn (f_U_charAt w l2) fun r56 =>
      (if (M 141 (ix ((M 134 21) + l2))) = r56 then
        ((f_M_is_35 w M n) (l2 + 1))
      else
        (some (0 : Int32))
      )
      ))
    )
    )
def f_M_is (w : Nat) (M : Mm) : Option Int32 :=
  (if (M 134 24) = 0 then
    (if (M 134 20) = (1 : Int32) then
      (bn (f_U_length w) fun r25 =>
      (if ((M 134 22) - (M 134 21)) = r25 then
        (f_M_is_35 w M fu (0 : Int32))
      else
        (f_M_is_31 w M)
      )
      )
    else
      (f_M_is_31 w M)
    )
  else
    (f_M_is_31 w M)
  )
def f_M_wrong_11 (M : Mm) : Option Mm :=
  (some M)
def f_M_wrong (l1 : Int32) (l2 : Int32) (M : Mm) : Option Mm :=
  (if (M 134 24) = 0 then
    (if l1 = 0 then
      (f_M_wrong_11 M)
    else
      (bm (wr M 134 24 (1 : Int32)) fun M14 =>
      (bm (wr M14 134 16 l2) fun M19 =>
      (bm (wr M19 134 17 (M19 134 21)) fun M27 =>
      (some M27)
      )))
    )
  else
    (f_M_wrong_11 M)
  )
def f_M_go_11 (M : Mm) : Option Mm :=
  (some M)
def f_M_go (M : Mm) : Option Mm :=
  (if (M 134 24) = 0 then
    (bn (f_M_next M) fun M8 =>
    (f_M_go_11 M8)
    )
  else
    (f_M_go_11 M)
  )
def f_M_number_62 (t0 : Int32) (M : Mm) : Option (Int32 × Mm) :=
  (bn (f_M_go M) fun M64 =>
  (some (t0, M64))
  )
def f_M_number_43 (l1 : Int32) (t1 : Int32) (M : Mm) : Option (Int32 × Mm) :=
  (bn (f_M_wrong t1 (2 : Int32) M) fun M44 =>
  (if (M44 134 24) = 0 then
    (f_M_number_62 (M44 134 23) M44)
  else
    (f_M_number_62 l1 M44)
  )
  )
def f_M_number_42 (l1 : Int32) (M : Mm) : Option (Int32 × Mm) :=
  (f_M_number_43 l1 (0 : Int32) M)
def f_M_number_14 (l1 : Int32) (l2 : Int32) (t1 : Int32) (M : Mm) : Option (Int32 × Mm) :=
  (bn (f_M_wrong t1 (1 : Int32) M) fun M15 =>
  (if (M15 134 24) = 0 then
    (bn (f_M_isIn (M15 134 23) l1 l2) fun r32 =>
    (if r32 = 0 then
      (f_M_number_43 l1 (1 : Int32) M15)
    else
      (f_M_number_42 l1 M15)
    )
    )
  else
    (f_M_number_42 l1 M15)
  )
  )
def f_M_number (l1 : Int32) (l2 : Int32) (M : Mm) : Option (Int32 × Mm) :=
  (if (M 134 20) = (2 : Int32) then
    (f_M_number_14 l1 l2 (0 : Int32) M)
  else
    (f_M_number_14 l1 l2 (1 : Int32) M)
  )
def f_M_bearingHere_24 (t1 : Int32) (M : Mm) : Option (Int32 × Mm) :=
  (bn (f_M_wrong t1 (2 : Int32) M) fun M25 =>
  (bn2 (f_M_number (0 : Int32) (345 : Int32) M25) fun r33 M33 =>
  (some (r33, M33))
  ))
def f_M_bearingHere_23 (M : Mm) : Option (Int32 × Mm) :=
  (f_M_bearingHere_24 (0 : Int32) M)
def f_M_bearingHere (M : Mm) : Option (Int32 × Mm) :=
  (if (M 134 20) = (2 : Int32) then
    (if ((M 134 23) - (M 134 23) / (15 : Int32) * (15 : Int32)) = 0 then
      (f_M_bearingHere_23 M)
    else
      (f_M_bearingHere_24 (1 : Int32) M)
    )
  else
    (f_M_bearingHere_23 M)
  )
def f_M_nameHere_55  : Nat → Int32 → Mm → Option Mm
  | 0, _, _ => none
  | n + 1, l1, M =>
    (if (M 134 19) ≤ l1 then
      (some M)
    else
      (chk (iin ((M 134 21) + l1) 900)
      (chk (iin l1 6)
      (bm (wr M 147 (ix l1) (M 141 (ix ((M 134 21) + l1)))) fun M79 =>
      ((f_M_nameHere_55 n) (l1 + 1) M79)
      )))
    )
def f_M_nameHere_28 (t1 : Int32) (M : Mm) : Option Mm :=
  (bn (f_M_wrong t1 (1 : Int32) M) fun M29 =>
  (if (M29 134 24) = 0 then
    (bm (wr M29 134 19 ((M29 134 22) - (M29 134 21))) fun M50 =>
    (f_M_nameHere_55 fu (0 : Int32) M50)
    )
  else
    (some M29)
  )
  )
def f_M_nameHere_23 (M : Mm) : Option Mm :=
  (f_M_nameHere_28 (1 : Int32) M)
def f_M_nameHere (M : Mm) : Option Mm :=
  (if (M 134 20) = (1 : Int32) then
    (if ((M 134 22) - (M 134 21)) ≤ (6 : Int32) then
      (f_M_nameHere_28 (0 : Int32) M)
    else
      (f_M_nameHere_23 M)
    )
  else
    (f_M_nameHere_23 M)
  )
def f_M_legHere_38 (l1 : Int32) (t1 : Int32) (M : Mm) : Option (Int32 × Mm) :=
  (bn (f_M_wrong t1 (3 : Int32) M) fun M39 =>
  (bn (f_M_go M39) fun M43 =>
  (some (l1, M43))
  ))
def f_M_legHere_37 (l1 : Int32) (M : Mm) : Option (Int32 × Mm) :=
  (f_M_legHere_38 l1 (0 : Int32) M)
def f_M_legHere_19 (t0 : Int32) (M : Mm) : Option (Int32 × Mm) :=
  (if (M 134 24) = 0 then
    (if t0 = (-1 : Int32) then
      (f_M_legHere_38 t0 (1 : Int32) M)
    else
      (f_M_legHere_37 t0 M)
    )
  else
    (f_M_legHere_37 t0 M)
  )
def f_M_legHere (M : Mm) : Option (Int32 × Mm) :=
  (bn (f_M_nameHere M) fun M1 =>
  (if (M1 134 24) = 0 then
    (bn (f_M_named M1) fun r16 =>
    (f_M_legHere_19 r16 M1)
    )
  else
    (f_M_legHere_19 (0 : Int32) M1)
  )
  )
def f_M_ends_52 (t0 : Int32) (M : Mm) : Option (Int32 × Mm) :=
  (chk (isZ t0)
  (some (t0, M))
  )
def f_M_ends_35 (t1 : Int32) (M : Mm) : Option (Int32 × Mm) :=
  (bn (f_M_wrong t1 (6 : Int32) M) fun M37 =>
  (if (M37 134 24) = 0 then
    (f_M_ends_52 (1 : Int32) M37)
  else
    (f_M_ends_52 (0 : Int32) M37)
  )
  )
def f_M_ends_34 (M : Mm) : Option (Int32 × Mm) :=
  (f_M_ends_35 (0 : Int32) M)
def f_M_ends_14 (l1 : Int32) (t1 : Int32) (M : Mm) : Option (Int32 × Mm) :=
  (bn (f_M_wrong t1 (1 : Int32) M) fun M15 =>
  (if (M15 134 24) = 0 then
    (if l1 = 0 then
      (f_M_ends_35 (1 : Int32) M15)
    else
      (f_M_ends_34 M15)
    )
  else
    (f_M_ends_34 M15)
  )
  )
def f_M_ends (l1 : Int32) (M : Mm) : Option (Int32 × Mm) :=
  (if (M 134 20) = (3 : Int32) then
    (f_M_ends_14 l1 (0 : Int32) M)
  else
    (f_M_ends_14 l1 (1 : Int32) M)
  )
def f_M_option (w : Nat) (l2 : Int32) (l3 : Int32) (M : Mm) : Option (Int32 × Mm) :=
  (bn (f_M_is w M) fun r2 =>
  (if r2 = 0 then
    (some (l3, M))
  else
    (bn (f_M_go M) fun M11 =>
    (bn2 (f_M_number (0 : Int32) l2 M11) fun r17 M17 =>
    (some (r17, M17))
    ))
  )
  )
def f_M_legTold_241 (M : Mm) : Option Mm :=
  (some M)
def f_M_legTold_220 (t1 : Int32) (t2 : Int32) (t3 : Int32) (M : Mm) : Option Mm :=
  (bn (f_M_put t1 t2 t3 M) fun M220 =>
  (bn2 (f_M_ends (1 : Int32) M220) fun r225 M225 =>
  (if r225 = 0 then
    (f_M_legTold_241 M225)
  else
    (bm (wr M225 135 (ix (0 : Int32)) ((M225 135 (ix (0 : Int32))) + (1 : Int32))) fun M240 =>
    (f_M_legTold_241 M240)
    )
  )
  ))
def f_M_legTold_196 (l1 : Int32) (l2 : Int32) (t1 : Int32) (t2 : Int32) (t3 : Int32) (M : Mm) : Option Mm :=
  (bn (f_M_put t1 t2 t3 M) fun M196 =>
  (if l1 = 0 then
    (bn2 (f_M_option 34 (50 : Int32) (15 : Int32) M196) fun r217 M217 =>
    (f_M_legTold_220 l2 (5 : Int32) r217 M217)
    )
  else
    (f_M_legTold_220 l2 (5 : Int32) (0 : Int32) M196)
  )
  )
def f_M_legTold_172 (l1 : Int32) (l2 : Int32) (t1 : Int32) (t2 : Int32) (t3 : Int32) (M : Mm) : Option Mm :=
  (bn (f_M_put t1 t2 t3 M) fun M172 =>
  (if l1 = 0 then
    (bn2 (f_M_option 33 (9999 : Int32) (0 : Int32) M172) fun r193 M193 =>
    (f_M_legTold_196 l1 l2 l2 (4 : Int32) r193 M193)
    )
  else
    (f_M_legTold_196 l1 l2 l2 (4 : Int32) (0 : Int32) M172)
  )
  )
def f_M_legTold_149 (l1 : Int32) (l2 : Int32) (t1 : Int32) (t2 : Int32) (t3 : Int32) (M : Mm) : Option Mm :=
  (bn (f_M_put t1 t2 t3 M) fun M149 =>
  (if l1 = 0 then
    (bn2 (f_M_option 32 (9 : Int32) (0 : Int32) M149) fun r169 M169 =>
    (f_M_legTold_172 l1 l2 l2 (3 : Int32) r169 M169)
    )
  else
    (f_M_legTold_172 l1 l2 l2 (3 : Int32) (0 : Int32) M149)
  )
  )
def f_M_legTold_126 (l1 : Int32) (l2 : Int32) (t1 : Int32) (t2 : Int32) (t3 : Int32) (M : Mm) : Option Mm :=
  (bn (f_M_put t1 t2 t3 M) fun M126 =>
  (if l1 = 0 then
    (f_M_legTold_149 l1 l2 l2 (6 : Int32) (0 : Int32) M126)
  else
    (bn2 (f_M_number (1 : Int32) (999 : Int32) M126) fun r142 M142 =>
    (f_M_legTold_149 l1 l2 l2 (6 : Int32) r142 M142)
    )
  )
  )
def f_M_legTold_105 (l1 : Int32) (l2 : Int32) (t1 : Int32) (t2 : Int32) (t3 : Int32) (M : Mm) : Option Mm :=
  (bn (f_M_put t1 t2 t3 M) fun M105 =>
  (if l1 = 0 then
    (bn2 (f_M_number (0 : Int32) (99 : Int32) M105) fun r123 M123 =>
    (f_M_legTold_126 l1 l2 l2 (2 : Int32) r123 M123)
    )
  else
    (f_M_legTold_126 l1 l2 l2 (2 : Int32) (0 : Int32) M105)
  )
  )
def f_M_legTold_50 (l1 : Int32) (t1 : Int32) (M : Mm) : Option Mm :=
  (bn (f_M_wrong t1 (4 : Int32) M) fun M51 =>
  (bn (f_M_go M51) fun M55 =>
  (if (M55 134 24) = 0 then
    (bn (f_M_layName M55) fun M67 =>
    (bn2 (f_M_bearingHere M67) fun r81 M81 =>
    (bn (f_M_put (M67 135 (ix (0 : Int32))) (0 : Int32) r81 M81) fun M84 =>
    (if l1 = 0 then
      (bn2 (f_M_number (0 : Int32) (99 : Int32) M84) fun r102 M102 =>
      (f_M_legTold_105 l1 (M67 135 (ix (0 : Int32))) (M67 135 (ix (0 : Int32))) (1 : Int32) r102 M102)
      )
    else
      (f_M_legTold_105 l1 (M67 135 (ix (0 : Int32))) (M67 135 (ix (0 : Int32))) (1 : Int32) (0 : Int32) M84)
    )
    )))
  else
    (some M55)
  )
  ))
def f_M_legTold_49 (l1 : Int32) (M : Mm) : Option Mm :=
  (f_M_legTold_50 l1 (0 : Int32) M)
def f_M_legTold_17 (l1 : Int32) (t1 : Int32) (M : Mm) : Option Mm :=
  (bn (f_M_wrong t1 (5 : Int32) M) fun M18 =>
  (bn (f_M_go M18) fun M22 =>
  (bn (f_M_nameHere M22) fun M26 =>
  (if (M26 134 24) = 0 then
    (bn (f_M_named M26) fun r38 =>
    (if r38 = (-1 : Int32) then
      (f_M_legTold_49 l1 M26)
    else
      (f_M_legTold_50 l1 (1 : Int32) M26)
    )
    )
  else
    (f_M_legTold_49 l1 M26)
  )
  )))
def f_M_legTold (l1 : Int32) (M : Mm) : Option Mm :=
  (if (M 135 (ix (0 : Int32))) = (20 : Int32) then
    (f_M_legTold_17 l1 (1 : Int32) M)
  else
    (f_M_legTold_17 l1 (0 : Int32) M)
  )
def f_M_command_349 (M : Mm) : Option Mm :=
  (bn (f_M_go M) fun M350 =>
  (some M350)
  )
def f_M_command_149 (M : Mm) : Option Mm :=
  (f_M_command_349 M)
def f_M_command_133 (l1 : Int32) (t1 : Int32) (M : Mm) : Option Mm :=
  (bn2 (f_M_ends t1 M) fun r133 M133 =>
  (if r133 = 0 then
    (f_M_command_149 M133)
  else
    (bn2 (f_M_drops l1 (-1 : Int32) M133) fun r143 M143 =>
    (bm (wr M143 134 25 r143) fun M146 =>
    (f_M_command_149 M146)
    ))
  )
  )
def f_M_command_128 (l1 : Int32) (M : Mm) : Option Mm :=
  (f_M_command_133 l1 (1 : Int32) M)
def f_M_command_193 (M : Mm) : Option Mm :=
  (f_M_command_349 M)
def f_M_command_238 (M : Mm) : Option Mm :=
  (f_M_command_349 M)
def f_M_command_270 (t1 : Int32) (M : Mm) : Option Mm :=
  (bn2 (f_M_ends t1 M) fun r270 M270 =>
  (if r270 = 0 then
    (f_M_command_349 M270)
  else
    (bn2 (f_M_removes M270) fun r278 M278 =>
    (bm (wr M278 134 25 r278) fun M281 =>
    (f_M_command_349 M281)
    ))
  )
  )
def f_M_command_323 (l1 : Int32) (t1 : Int32) (M : Mm) : Option Mm :=
  (bn (f_M_wrong t1 (1 : Int32) M) fun M324 =>
  (bn (f_M_go M324) fun M328 =>
  (bn2 (f_M_ends (1 : Int32) M328) fun r333 M333 =>
  (if r333 = 0 then
    (f_M_command_349 M333)
  else
    (bn2 (f_M_sets (3 : Int32) l1 M333) fun r343 M343 =>
    (bm (wr M343 134 25 r343) fun M346 =>
    (f_M_command_349 M346)
    ))
  )
  )))
def f_M_command_322 (l1 : Int32) (M : Mm) : Option Mm :=
  (f_M_command_323 l1 (0 : Int32) M)
def f_M_command_302 (t0 : Int32) (M : Mm) : Option Mm :=
  (if t0 = 0 then
    (bn (f_M_is 42 M) fun r312 =>
    (if r312 = 0 then
      (f_M_command_323 t0 (1 : Int32) M)
    else
      (f_M_command_322 t0 M)
    )
    )
  else
    (f_M_command_322 t0 M)
  )
def f_M_command_89 (M : Mm) : Option Mm :=
  (f_M_command_349 M)
def f_M_command_73 (l1 : Int32) (t1 : Int32) (M : Mm) : Option Mm :=
  (bn2 (f_M_ends t1 M) fun r73 M73 =>
  (if r73 = 0 then
    (f_M_command_89 M73)
  else
    (bn2 (f_M_drops l1 (1 : Int32) M73) fun r83 M83 =>
    (bm (wr M83 134 25 r83) fun M86 =>
    (f_M_command_89 M86)
    ))
  )
  )
def f_M_command_68 (l1 : Int32) (M : Mm) : Option Mm :=
  (f_M_command_73 l1 (1 : Int32) M)
def f_M_command (M : Mm) : Option Mm :=
  (bn (f_M_is 31 M) fun r3 =>
  (if r3 = 0 then
    (bn (f_M_is 35 M) fun r20 =>
    (if r20 = 0 then
      (bn (f_M_is 36 M) fun r37 =>
      (if r37 = 0 then
        (bn (f_M_is 37 M) fun r96 =>
        (if r96 = 0 then
          (bn (f_M_is 38 M) fun r156 =>
          (if r156 = 0 then
            (bn (f_M_is 39 M) fun r200 =>
            (if r200 = 0 then
              (bn (f_M_is 40 M) fun r245 =>
              (if r245 = 0 then
                (bn (f_M_is 41 M) fun r291 =>
                (if r291 = 0 then
                  (f_M_command_302 (0 : Int32) M)
                else
                  (f_M_command_302 (1 : Int32) M)
                )
                )
              else
                (bn (f_M_go M) fun M252 =>
                (if (M252 135 (ix (0 : Int32))) ≤ 0 then
                  (f_M_command_270 (0 : Int32) M252)
                else
                  (f_M_command_270 (1 : Int32) M252)
                )
                )
              )
              )
            else
              (bn (f_M_go M) fun M207 =>
              (bn2 (f_M_number (100 : Int32) (999 : Int32) M207) fun r216 M216 =>
              (bn2 (f_M_ends (1 : Int32) M216) fun r222 M222 =>
              (if r222 = 0 then
                (f_M_command_238 M222)
              else
                (bn2 (f_M_sets (2 : Int32) r216 M222) fun r232 M232 =>
                (bm (wr M232 134 25 r232) fun M235 =>
                (f_M_command_238 M235)
                ))
              )
              )))
            )
            )
          else
            (bn (f_M_go M) fun M163 =>
            (bn2 (f_M_number (0 : Int32) (999 : Int32) M163) fun r171 M171 =>
            (bn2 (f_M_ends (1 : Int32) M171) fun r177 M177 =>
            (if r177 = 0 then
              (f_M_command_193 M177)
            else
              (bn2 (f_M_sets (1 : Int32) r171 M177) fun r187 M187 =>
              (bm (wr M187 134 25 r187) fun M190 =>
              (f_M_command_193 M190)
              ))
            )
            )))
          )
          )
        else
          (bn (f_M_go M) fun M103 =>
          (bn2 (f_M_legHere M103) fun r107 M107 =>
          (if (M107 134 24) = 0 then
            (bn (f_M_of M107 r107 (3 : Int32)) fun r122 =>
            (if r122 ≤ 0 then
              (f_M_command_133 r107 (0 : Int32) M107)
            else
              (f_M_command_128 r107 M107)
            )
            )
          else
            (f_M_command_128 r107 M107)
          )
          ))
        )
        )
      else
        (bn (f_M_go M) fun M44 =>
        (bn2 (f_M_legHere M44) fun r48 M48 =>
        (if (M48 134 24) = 0 then
          (bn (f_M_mayDrop M48 r48) fun r62 =>
          (if r62 = 0 then
            (f_M_command_73 r48 (0 : Int32) M48)
          else
            (f_M_command_68 r48 M48)
          )
          )
        else
          (f_M_command_68 r48 M48)
        )
        ))
      )
      )
    else
      (bn (f_M_legTold (1 : Int32) M) fun M28 =>
      (f_M_command_349 M28)
      )
    )
    )
  else
    (bn (f_M_legTold (0 : Int32) M) fun M11 =>
    (f_M_command_349 M11)
    )
  )
  )
def f_M_starts (M : Mm) : Option Mm :=
  (bm (wr M 134 7 (0 : Int32)) fun M2 =>
  (bm (wr M2 134 22 (0 : Int32)) fun M7 =>
  (bm (wr M7 134 24 (0 : Int32)) fun M12 =>
  (bm (wr M12 134 16 (0 : Int32)) fun M17 =>
  (bm (wr M17 134 17 (-1 : Int32)) fun M22 =>
  (bn (f_M_copy 135 139 (0 : Int32) (0 : Int32) M22) fun M35 =>
  (bn (f_M_next M35) fun M39 =>
  (some M39)
  )))))))
def f_M_commands_74 (t0 : Int32) (M : Mm) : Option (Int32 × Mm) :=
  (some (t0, M))
def f_M_commands_62 (l1 : Int32) (M : Mm) : Option (Int32 × Mm) :=
  (if (M 134 24) = 0 then
    (f_M_commands_74 l1 M)
  else
    (f_M_commands_74 (-1 : Int32) M)
  )
def f_M_commands_26 (l1 : Int32) (M : Mm) : Option (Int32 × Mm) :=
  (bm (wr M 134 14 (0 : Int32)) fun M28 =>
  (if (M28 134 24) = 0 then
    (bn (f_M_remember 139 M28) fun M59 =>
    (f_M_commands_62 l1 M59)
    )
  else
    (bn (f_M_copy 139 135 (0 : Int32) (0 : Int32) M28) fun M48 =>
    (f_M_commands_62 l1 M48)
    )
  )
  )
def f_M_commands_2  : Nat → Int32 → Mm → Option (Int32 × Mm)
  | 0, _, _ => none
  | n + 1, l1, M =>
    (if (M 134 24) = 0 then
      (if (M 134 20) = 0 then
        (f_M_commands_26 l1 M)
      else
        (bn (f_M_command M) fun M17 =>
        ((f_M_commands_2 n) (l1 + 1) M17)
        )
      )
    else
      (f_M_commands_26 l1 M)
    )
def f_M_commands (M : Mm) : Option (Int32 × Mm) :=
  (f_M_commands_2 fu (0 : Int32) M)
def f_M_load_119 (t0 : Int32) (M : Mm) : Option (Int32 × Mm) :=
  (some (t0, M))
def f_M_load_93 (t1 : Int32) (M : Mm) : Option (Int32 × Mm) :=
  (bn (f_M_wrong t1 (1 : Int32) M) fun M94 =>
  (bn (f_M_go M94) fun M98 =>
  (bn2 (f_M_commands M98) fun r102 M102 =>
  (if r102 = (-1 : Int32) then
    (f_M_load_119 (-1 : Int32) M102)
  else
    (f_M_load_119 (M102 135 (ix (0 : Int32))) M102)
  )
  )))
def f_M_load_42 (t1 : Int32) (M : Mm) : Option (Int32 × Mm) :=
  (bn (f_M_wrong t1 (1 : Int32) M) fun M43 =>
  (bn (f_M_go M43) fun M47 =>
  (bn2 (f_M_number (0 : Int32) (999 : Int32) M47) fun r60 M60 =>
  (bm (wr M60 135 (ix (1 : Int32)) r60) fun M63 =>
  (bn2 (f_M_number (100 : Int32) (999 : Int32) M63) fun r75 M75 =>
  (bm (wr M75 135 (ix (2 : Int32)) r75) fun M78 =>
  (if (M78 134 20) = (3 : Int32) then
    (f_M_load_93 (0 : Int32) M78)
  else
    (f_M_load_93 (1 : Int32) M78)
  )
  ))))))
def f_M_load_6  : Nat → Int32 → Mm → Option (Int32 × Mm)
  | 0, _, _ => none
  | n + 1, l1, M =>
    (if (284 : Int32) ≤ l1 then
      (bn (f_M_is 30 M) fun r31 =>
      (if r31 = 0 then
        (f_M_load_42 (1 : Int32) M)
      else
        (f_M_load_42 (0 : Int32) M)
      )
      )
    else
      (chk (iin l1 284)
      (bm (wr M 135 (ix l1) (0 : Int32)) fun M19 =>
      ((f_M_load_6 n) (l1 + 1) M19)
      ))
    )
def f_M_load (M : Mm) : Option (Int32 × Mm) :=
  (bn (f_M_starts M) fun M1 =>
  (f_M_load_6 fu (0 : Int32) M1)
  )
def f_M_play (M : Mm) : Option (Int32 × Mm) :=
  (bn (f_M_starts M) fun M1 =>
  (bn2 (f_M_commands M1) fun r5 M5 =>
  (some (r5, M5))
  ))
def f_M_errorCode (M : Mm) : Option (Int32 × Mm) :=
  (bn2 (f_M_told (M 134 16) M) fun r5 M5 =>
  (some (r5, M5))
  )
def f_M_errorOffset (M : Mm) : Option (Int32 × Mm) :=
  (bn2 (f_M_told (M 134 17) M) fun r5 M5 =>
  (some (r5, M5))
  )
def f_M_isBearing_23 (t0 : Int32) : Option Int32 :=
  (chk (isZ t0)
  (some t0)
  )
def f_M_isBearing_22  : Option Int32 :=
  (f_M_isBearing_23 (0 : Int32))
def f_M_isBearing (l0 : Int32) : Option Int32 :=
  (bn (f_M_isIn l0 (0 : Int32) (345 : Int32)) fun r5 =>
  (if r5 = 0 then
    (f_M_isBearing_22)
  else
    (if (l0 - l0 / (15 : Int32) * (15 : Int32)) = 0 then
      (f_M_isBearing_23 (1 : Int32))
    else
      (f_M_isBearing_22)
    )
  )
  )
def f_M_mayAdd_52 (t0 : Int32) (M : Mm) : Option (Int32 × Mm) :=
  (chk (isZ t0)
  (some (t0, M))
  )
def f_M_mayAdd_51 (M : Mm) : Option (Int32 × Mm) :=
  (f_M_mayAdd_52 (0 : Int32) M)
def f_M_mayAdd (M : Mm) : Option (Int32 × Mm) :=
  (bm (wr M 134 19 (2 : Int32)) fun M2 =>
  (bm (wr M2 147 (ix (0 : Int32)) (113 : Int32)) fun M12 =>
  (bm (wr M12 147 (ix (1 : Int32)) ((97 : Int32) + (M12 135 (ix (0 : Int32))))) fun M27 =>
  (if (20 : Int32) ≤ (M27 135 (ix (0 : Int32))) then
    (f_M_mayAdd_51 M27)
  else
    (bn (f_M_named M27) fun r40 =>
    (if r40 = (-1 : Int32) then
      (f_M_mayAdd_52 (1 : Int32) M27)
    else
      (f_M_mayAdd_51 M27)
    )
    )
  )
  )))
def f_M_adds (l1 : Int32) (l2 : Int32) (l3 : Int32) (l4 : Int32) (l5 : Int32) (l6 : Int32) (M : Mm) : Option (Int32 × Mm) :=
  (bn (f_M_remember 135 M) fun M13 =>
  (bn (f_M_layName M13) fun M17 =>
  (bn (f_M_put (M 135 (ix (0 : Int32))) (0 : Int32) l1 M17) fun M25 =>
  (bn (f_M_put (M 135 (ix (0 : Int32))) (1 : Int32) l2 M25) fun M33 =>
  (bn (f_M_put (M 135 (ix (0 : Int32))) (2 : Int32) l3 M33) fun M41 =>
  (bn (f_M_put (M 135 (ix (0 : Int32))) (3 : Int32) (0 : Int32) M41) fun M49 =>
  (bn (f_M_put (M 135 (ix (0 : Int32))) (4 : Int32) l4 M49) fun M58 =>
  (bn (f_M_put (M 135 (ix (0 : Int32))) (5 : Int32) l5 M58) fun M67 =>
  (bn (f_M_put (M 135 (ix (0 : Int32))) (6 : Int32) l6 M67) fun M77 =>
  (bm (wr M77 135 (ix (0 : Int32)) ((M77 135 (ix (0 : Int32))) + (1 : Int32))) fun M89 =>
  (some (M 135 (ix (0 : Int32)), M89))
  ))))))))))
def f_M_addLeg_80 (l1 : Int32) (l2 : Int32) (l3 : Int32) (l4 : Int32) (l5 : Int32) (t1 : Int32) (t2 : Int32) (M : Mm) : Option (Int32 × Mm) :=
  (bn2 (f_M_fails t1 t2 (0 : Int32) M) fun r81 M81 =>
  (if r81 = 0 then
    (bn2 (f_M_adds l1 l2 l3 l4 l5 (0 : Int32) M81) fun r98 M98 =>
    (some (r98, M98))
    )
  else
    (some ((0 : Int32), M81))
  )
  )
def f_M_addLeg_68 (l1 : Int32) (l2 : Int32) (l3 : Int32) (l4 : Int32) (l5 : Int32) (t1 : Int32) (M : Mm) : Option (Int32 × Mm) :=
  (bn2 (f_M_mayAdd M) fun r69 M69 =>
  (if r69 = 0 then
    (f_M_addLeg_80 l1 l2 l3 l4 l5 t1 (1 : Int32) M69)
  else
    (f_M_addLeg_80 l1 l2 l3 l4 l5 t1 (0 : Int32) M69)
  )
  )
def f_M_addLeg_55 (l1 : Int32) (l2 : Int32) (l3 : Int32) (l4 : Int32) (l5 : Int32) (t0 : Int32) (M : Mm) : Option (Int32 × Mm) :=
  (if t0 = 0 then
    (f_M_addLeg_68 l1 l2 l3 l4 l5 (1 : Int32) M)
  else
    (f_M_addLeg_68 l1 l2 l3 l4 l5 (0 : Int32) M)
  )
def f_M_addLeg_54 (l1 : Int32) (l2 : Int32) (l3 : Int32) (l4 : Int32) (l5 : Int32) (M : Mm) : Option (Int32 × Mm) :=
  (f_M_addLeg_55 l1 l2 l3 l4 l5 (0 : Int32) M)
def f_M_addLeg (l1 : Int32) (l2 : Int32) (l3 : Int32) (l4 : Int32) (l5 : Int32) (M : Mm) : Option (Int32 × Mm) :=
  (bn (f_M_isBearing l1) fun r1 =>
  (if r1 = 0 then
    (f_M_addLeg_54 l1 l2 l3 l4 l5 M)
  else
    (bn (f_M_isIn l2 (0 : Int32) (99 : Int32)) fun r11 =>
    (if r11 = 0 then
      (f_M_addLeg_54 l1 l2 l3 l4 l5 M)
    else
      (bn (f_M_isIn l3 (0 : Int32) (99 : Int32)) fun r21 =>
      (if r21 = 0 then
        (f_M_addLeg_54 l1 l2 l3 l4 l5 M)
      else
        (bn (f_M_isIn l4 (0 : Int32) (9999 : Int32)) fun r33 =>
        (if r33 = 0 then
          (f_M_addLeg_54 l1 l2 l3 l4 l5 M)
        else
          (bn (f_M_isIn l5 (0 : Int32) (50 : Int32)) fun r44 =>
          (if r44 = 0 then
            (f_M_addLeg_54 l1 l2 l3 l4 l5 M)
          else
            (f_M_addLeg_55 l1 l2 l3 l4 l5 (1 : Int32) M)
          )
          )
        )
        )
      )
      )
    )
    )
  )
  )
def f_M_addBog_36 (l1 : Int32) (l2 : Int32) (t1 : Int32) (t2 : Int32) (M : Mm) : Option (Int32 × Mm) :=
  (bn2 (f_M_fails t1 t2 (0 : Int32) M) fun r37 M37 =>
  (if r37 = 0 then
    (bn2 (f_M_adds l1 (0 : Int32) (0 : Int32) (0 : Int32) (0 : Int32) l2 M37) fun r52 M52 =>
    (some (r52, M52))
    )
  else
    (some ((0 : Int32), M37))
  )
  )
def f_M_addBog_24 (l1 : Int32) (l2 : Int32) (t1 : Int32) (M : Mm) : Option (Int32 × Mm) :=
  (bn2 (f_M_mayAdd M) fun r25 M25 =>
  (if r25 = 0 then
    (f_M_addBog_36 l1 l2 t1 (1 : Int32) M25)
  else
    (f_M_addBog_36 l1 l2 t1 (0 : Int32) M25)
  )
  )
def f_M_addBog_19 (l1 : Int32) (l2 : Int32) (M : Mm) : Option (Int32 × Mm) :=
  (f_M_addBog_24 l1 l2 (1 : Int32) M)
def f_M_addBog (l1 : Int32) (l2 : Int32) (M : Mm) : Option (Int32 × Mm) :=
  (bn (f_M_isBearing l1) fun r2 =>
  (if r2 = 0 then
    (f_M_addBog_19 l1 l2 M)
  else
    (bn (f_M_isIn l2 (1 : Int32) (999 : Int32)) fun r13 =>
    (if r13 = 0 then
      (f_M_addBog_19 l1 l2 M)
    else
      (f_M_addBog_24 l1 l2 (0 : Int32) M)
    )
    )
  )
  )
def f_M_dropPin_25 (l1 : Int32) (t1 : Int32) (t2 : Int32) (M : Mm) : Option (Int32 × Mm) :=
  (bn2 (f_M_fails t1 t2 (0 : Int32) M) fun r26 M26 =>
  (if r26 = 0 then
    (bn (f_M_remember 135 M26) fun M39 =>
    (bn2 (f_M_drops l1 (1 : Int32) M39) fun r45 M45 =>
    (some (r45, M45))
    ))
  else
    (some ((0 : Int32), M26))
  )
  )
def f_M_dropPin_24 (l1 : Int32) (t1 : Int32) (M : Mm) : Option (Int32 × Mm) :=
  (f_M_dropPin_25 l1 t1 (0 : Int32) M)
def f_M_dropPin (l1 : Int32) (M : Mm) : Option (Int32 × Mm) :=
  (bn (f_M_noLeg M l1) fun r2 =>
  (if r2 = 0 then
    (bn (f_M_mayDrop M l1) fun r14 =>
    (if r14 = 0 then
      (f_M_dropPin_25 l1 r2 (1 : Int32) M)
    else
      (f_M_dropPin_24 l1 r2 M)
    )
    )
  else
    (f_M_dropPin_24 l1 r2 M)
  )
  )
def f_M_findPin_26 (l1 : Int32) (t1 : Int32) (t2 : Int32) (M : Mm) : Option (Int32 × Mm) :=
  (bn2 (f_M_fails t1 t2 (0 : Int32) M) fun r27 M27 =>
  (if r27 = 0 then
    (bn (f_M_remember 135 M27) fun M40 =>
    (bn2 (f_M_drops l1 (-1 : Int32) M40) fun r46 M46 =>
    (some (r46, M46))
    ))
  else
    (some ((0 : Int32), M27))
  )
  )
def f_M_findPin_25 (l1 : Int32) (t1 : Int32) (M : Mm) : Option (Int32 × Mm) :=
  (f_M_findPin_26 l1 t1 (0 : Int32) M)
def f_M_findPin (l1 : Int32) (M : Mm) : Option (Int32 × Mm) :=
  (bn (f_M_noLeg M l1) fun r2 =>
  (if r2 = 0 then
    (bn (f_M_of M l1 (3 : Int32)) fun r15 =>
    (if r15 = 0 then
      (f_M_findPin_26 l1 r2 (1 : Int32) M)
    else
      (f_M_findPin_25 l1 r2 M)
    )
    )
  else
    (f_M_findPin_25 l1 r2 M)
  )
  )
def f_M_removeLast_15 (t1 : Int32) (M : Mm) : Option (Int32 × Mm) :=
  (bn2 (f_M_fails t1 (0 : Int32) (0 : Int32) M) fun r17 M17 =>
  (if r17 = 0 then
    (bn (f_M_remember 135 M17) fun M30 =>
    (bn2 (f_M_removes M30) fun r34 M34 =>
    (some (r34, M34))
    ))
  else
    (some ((0 : Int32), M17))
  )
  )
def f_M_removeLast (M : Mm) : Option (Int32 × Mm) :=
  (if (M 135 (ix (0 : Int32))) = 0 then
    (f_M_removeLast_15 (1 : Int32) M)
  else
    (f_M_removeLast_15 (0 : Int32) M)
  )
def f_M_setWear_17 (l1 : Int32) (t1 : Int32) (M : Mm) : Option (Int32 × Mm) :=
  (bn2 (f_M_fails t1 (0 : Int32) (0 : Int32) M) fun r19 M19 =>
  (if r19 = 0 then
    (bn (f_M_remember 135 M19) fun M32 =>
    (bn2 (f_M_sets (1 : Int32) l1 M32) fun r38 M38 =>
    (some (r38, M38))
    ))
  else
    (some ((0 : Int32), M19))
  )
  )
def f_M_setWear (l1 : Int32) (M : Mm) : Option (Int32 × Mm) :=
  (bn (f_M_isIn l1 (0 : Int32) (999 : Int32)) fun r6 =>
  (if r6 = 0 then
    (f_M_setWear_17 l1 (1 : Int32) M)
  else
    (f_M_setWear_17 l1 (0 : Int32) M)
  )
  )
def f_M_setPace_18 (l1 : Int32) (t1 : Int32) (M : Mm) : Option (Int32 × Mm) :=
  (bn2 (f_M_fails t1 (0 : Int32) (0 : Int32) M) fun r20 M20 =>
  (if r20 = 0 then
    (bn (f_M_remember 135 M20) fun M33 =>
    (bn2 (f_M_sets (2 : Int32) l1 M33) fun r39 M39 =>
    (some (r39, M39))
    ))
  else
    (some ((0 : Int32), M20))
  )
  )
def f_M_setPace (l1 : Int32) (M : Mm) : Option (Int32 × Mm) :=
  (bn (f_M_isIn l1 (100 : Int32) (999 : Int32)) fun r7 =>
  (if r7 = 0 then
    (f_M_setPace_18 l1 (1 : Int32) M)
  else
    (f_M_setPace_18 l1 (0 : Int32) M)
  )
  )
def f_M_setAdjusted_36 (t0 : Int32) (M : Mm) : Option (Int32 × Mm) :=
  (chk (isZ t0)
  (some (t0, M))
  )
def f_M_setAdjusted_24 (t1 : Int32) (t2 : Int32) (M : Mm) : Option (Int32 × Mm) :=
  (bn2 (f_M_sets t1 t2 M) fun r24 M24 =>
  (if r24 = (1 : Int32) then
    (f_M_setAdjusted_36 (1 : Int32) M24)
  else
    (f_M_setAdjusted_36 (0 : Int32) M24)
  )
  )
def f_M_setAdjusted (l1 : Int32) (M : Mm) : Option (Int32 × Mm) :=
  (bm (wr M 134 7 (0 : Int32)) fun M2 =>
  (bn (f_M_remember 135 M2) fun M10 =>
  (if l1 = 0 then
    (f_M_setAdjusted_24 (3 : Int32) (0 : Int32) M10)
  else
    (f_M_setAdjusted_24 (3 : Int32) (1 : Int32) M10)
  )
  ))
def f_M_undo_13 (t1 : Int32) (M : Mm) : Option (Int32 × Mm) :=
  (bn2 (f_M_fails t1 (0 : Int32) (0 : Int32) M) fun r15 M15 =>
  (if r15 = 0 then
    (bm (wr M15 134 6 ((M15 134 6) - (1 : Int32))) fun M30 =>
    (bn (f_M_copy 137 135 ((M30 134 6) * (284 : Int32)) (0 : Int32) M30) fun M50 =>
    (some (M50 134 6, M50))
    ))
  else
    (some ((0 : Int32), M15))
  )
  )
def f_M_undo (M : Mm) : Option (Int32 × Mm) :=
  (if (M 134 6) = 0 then
    (f_M_undo_13 (1 : Int32) M)
  else
    (f_M_undo_13 (0 : Int32) M)
  )
def f_M_save_15 (l1 : Int32) (t1 : Int32) (M : Mm) : Option (Int32 × Mm) :=
  (bn2 (f_M_fails t1 (0 : Int32) (0 : Int32) M) fun r17 M17 =>
  (if r17 = 0 then
    (bn (f_M_copy 135 138 (0 : Int32) (l1 * (284 : Int32)) M17) fun M39 =>
    (chk (iin l1 2)
    (bm (wr M39 140 (ix l1) (1 : Int32)) fun M48 =>
    (some (M48 135 (ix (0 : Int32)), M48))
    )))
  else
    (some ((0 : Int32), M17))
  )
  )
def f_M_save (l1 : Int32) (M : Mm) : Option (Int32 × Mm) :=
  (bn (f_M_isIn l1 (0 : Int32) (1 : Int32)) fun r4 =>
  (if r4 = 0 then
    (f_M_save_15 l1 (1 : Int32) M)
  else
    (f_M_save_15 l1 (0 : Int32) M)
  )
  )
def f_M_restore_35 (l1 : Int32) (t1 : Int32) (t2 : Int32) (M : Mm) : Option (Int32 × Mm) :=
  (bn2 (f_M_fails t1 t2 (0 : Int32) M) fun r36 M36 =>
  (if r36 = 0 then
    (bn (f_M_remember 135 M36) fun M49 =>
    (bn (f_M_copy 138 135 (l1 * (284 : Int32)) (0 : Int32) M49) fun M66 =>
    (some (M66 135 (ix (0 : Int32)), M66))
    ))
  else
    (some ((0 : Int32), M36))
  )
  )
def f_M_restore_34 (l1 : Int32) (t1 : Int32) (M : Mm) : Option (Int32 × Mm) :=
  (f_M_restore_35 l1 t1 (0 : Int32) M)
def f_M_restore_14 (l1 : Int32) (t0 : Int32) (M : Mm) : Option (Int32 × Mm) :=
  (if t0 = 0 then
    (chk (iin l1 2)
    (if (M 140 (ix l1)) = 0 then
      (f_M_restore_35 l1 t0 (1 : Int32) M)
    else
      (f_M_restore_34 l1 t0 M)
    )
    )
  else
    (f_M_restore_34 l1 t0 M)
  )
def f_M_restore (l1 : Int32) (M : Mm) : Option (Int32 × Mm) :=
  (bn (f_M_isIn l1 (0 : Int32) (1 : Int32)) fun r3 =>
  (if r3 = 0 then
    (f_M_restore_14 l1 (1 : Int32) M)
  else
    (f_M_restore_14 l1 (0 : Int32) M)
  )
  )
def f_M_legCount (M : Mm) : Option (Int32 × Mm) :=
  (bn2 (f_M_told (M 135 (ix (0 : Int32))) M) fun r7 M7 =>
  (some (r7, M7))
  )
def f_M_stationCount (M : Mm) : Option (Int32 × Mm) :=
  (bn2 (f_M_told ((M 135 (ix (0 : Int32))) + (1 : Int32)) M) fun r9 M9 =>
  (some (r9, M9))
  )
def f_M_wear (M : Mm) : Option (Int32 × Mm) :=
  (bn2 (f_M_told (M 135 (ix (1 : Int32))) M) fun r7 M7 =>
  (some (r7, M7))
  )
def f_M_pace (M : Mm) : Option (Int32 × Mm) :=
  (bn2 (f_M_told (M 135 (ix (2 : Int32))) M) fun r7 M7 =>
  (some (r7, M7))
  )
def f_M_undoableChanges (M : Mm) : Option (Int32 × Mm) :=
  (bn2 (f_M_told (M 134 6) M) fun r5 M5 =>
  (some (r5, M5))
  )
def f_M_isAdjusted_19 (t0 : Int32) (M : Mm) : Option (Int32 × Mm) :=
  (chk (isZ t0)
  (some (t0, M))
  )
def f_M_isAdjusted (M : Mm) : Option (Int32 × Mm) :=
  (bn2 (f_M_told (M 135 (ix (3 : Int32))) M) fun r7 M7 =>
  (if r7 = (1 : Int32) then
    (f_M_isAdjusted_19 (1 : Int32) M7)
  else
    (f_M_isAdjusted_19 (0 : Int32) M7)
  )
  )
def f_M_isBad (l1 : Int32) (M : Mm) : Option (Int32 × Mm) :=
  (bn (f_M_noLeg M l1) fun r3 =>
  (bn2 (f_M_fails r3 (0 : Int32) (0 : Int32) M) fun r8 M8 =>
  (chk (isZ r8)
  (some (r8, M8))
  )
  ))
def f_M_bearing_18 (t0 : Int32) (M : Mm) : Option (Int32 × Mm) :=
  (some (t0, M))
def f_M_bearing (l1 : Int32) (M : Mm) : Option (Int32 × Mm) :=
  (bn2 (f_M_isBad l1 M) fun r2 M2 =>
  (if r2 = 0 then
    (bn (f_M_of M2 l1 (0 : Int32)) fun r15 =>
    (f_M_bearing_18 r15 M2)
    )
  else
    (f_M_bearing_18 (0 : Int32) M2)
  )
  )
def f_M_pins_18 (t0 : Int32) (M : Mm) : Option (Int32 × Mm) :=
  (some (t0, M))
def f_M_pins (l1 : Int32) (M : Mm) : Option (Int32 × Mm) :=
  (bn2 (f_M_isBad l1 M) fun r2 M2 =>
  (if r2 = 0 then
    (bn (f_M_of M2 l1 (1 : Int32)) fun r15 =>
    (f_M_pins_18 r15 M2)
    )
  else
    (f_M_pins_18 (0 : Int32) M2)
  )
  )
def f_M_droppedPins_18 (t0 : Int32) (M : Mm) : Option (Int32 × Mm) :=
  (some (t0, M))
def f_M_droppedPins (l1 : Int32) (M : Mm) : Option (Int32 × Mm) :=
  (bn2 (f_M_isBad l1 M) fun r2 M2 =>
  (if r2 = 0 then
    (bn (f_M_of M2 l1 (3 : Int32)) fun r15 =>
    (f_M_droppedPins_18 r15 M2)
    )
  else
    (f_M_droppedPins_18 (0 : Int32) M2)
  )
  )
def f_M_readLength_17 (t0 : Int32) (M : Mm) : Option (Int32 × Mm) :=
  (some (t0, M))
def f_M_readLength (l1 : Int32) (M : Mm) : Option (Int32 × Mm) :=
  (bn2 (f_M_isBad l1 M) fun r2 M2 =>
  (if r2 = 0 then
    (bn (f_M_read M2 l1) fun r14 =>
    (f_M_readLength_17 r14 M2)
    )
  else
    (f_M_readLength_17 (0 : Int32) M2)
  )
  )
def f_M_slopeLength_17 (t0 : Int32) (M : Mm) : Option (Int32 × Mm) :=
  (some (t0, M))
def f_M_slopeLength (l1 : Int32) (M : Mm) : Option (Int32 × Mm) :=
  (bn2 (f_M_isBad l1 M) fun r2 M2 =>
  (if r2 = 0 then
    (bn (f_M_slope M2 l1) fun r14 =>
    (f_M_slopeLength_17 r14 M2)
    )
  else
    (f_M_slopeLength_17 (0 : Int32) M2)
  )
  )
def f_M_horizontalLength_17 (t0 : Int32) (M : Mm) : Option (Int32 × Mm) :=
  (some (t0, M))
def f_M_horizontalLength (l1 : Int32) (M : Mm) : Option (Int32 × Mm) :=
  (bn2 (f_M_isBad l1 M) fun r2 M2 =>
  (if r2 = 0 then
    (bn (f_M_flat M2 l1) fun r14 =>
    (f_M_horizontalLength_17 r14 M2)
    )
  else
    (f_M_horizontalLength_17 (0 : Int32) M2)
  )
  )
def f_M_eastStep_18 (t0 : Int32) (M : Mm) : Option (Int32 × Mm) :=
  (some (t0, M))
def f_M_eastStep (l1 : Int32) (M : Mm) : Option (Int32 × Mm) :=
  (bn2 (f_M_isBad l1 M) fun r2 M2 =>
  (if r2 = 0 then
    (bn (f_M_step M2 l1 (1 : Int32)) fun r15 =>
    (f_M_eastStep_18 r15 M2)
    )
  else
    (f_M_eastStep_18 (0 : Int32) M2)
  )
  )
def f_M_northStep_18 (t0 : Int32) (M : Mm) : Option (Int32 × Mm) :=
  (some (t0, M))
def f_M_northStep (l1 : Int32) (M : Mm) : Option (Int32 × Mm) :=
  (bn2 (f_M_isBad l1 M) fun r2 M2 =>
  (if r2 = 0 then
    (bn (f_M_step M2 l1 (0 : Int32)) fun r15 =>
    (f_M_northStep_18 r15 M2)
    )
  else
    (f_M_northStep_18 (0 : Int32) M2)
  )
  )
def f_M_tallies_28 (t0 : Int32) (M : Mm) : Option (Int32 × Mm) :=
  (some (t0, M))
def f_M_tallies (l1 : Int32) (M : Mm) : Option (Int32 × Mm) :=
  (bn2 (f_M_isBad l1 M) fun r2 M2 =>
  (if r2 = 0 then
    (bn (f_M_of M2 l1 (1 : Int32)) fun r15 =>
    (bn (f_M_of M2 l1 (3 : Int32)) fun r21 =>
    (f_M_tallies_28 ((r15 + r21) / (10 : Int32)) M2)
    ))
  else
    (f_M_tallies_28 (0 : Int32) M2)
  )
  )
def f_M_isBog_21 (t0 : Int32) (M : Mm) : Option (Int32 × Mm) :=
  (chk (isZ t0)
  (some (t0, M))
  )
def f_M_isBog_20 (M : Mm) : Option (Int32 × Mm) :=
  (f_M_isBog_21 (0 : Int32) M)
def f_M_isBog (l1 : Int32) (M : Mm) : Option (Int32 × Mm) :=
  (bn2 (f_M_isBad l1 M) fun r2 M2 =>
  (if r2 = 0 then
    (bn (f_M_bog M2 l1) fun r10 =>
    (if r10 = 0 then
      (f_M_isBog_20 M2)
    else
      (f_M_isBog_21 (1 : Int32) M2)
    )
    )
  else
    (f_M_isBog_20 M2)
  )
  )
def f_M_nameByte_40 (t0 : Int32) (M : Mm) : Option (Int32 × Mm) :=
  (some (t0, M))
def f_M_nameByte (l1 : Int32) (l2 : Int32) (M : Mm) : Option (Int32 × Mm) :=
  (bn2 (f_M_isBad l1 M) fun r2 M2 =>
  (if r2 = 0 then
    (bn (f_M_of M2 l1 (7 : Int32)) fun r16 =>
    (bn (f_M_isIn l2 (0 : Int32) (r16 - (1 : Int32))) fun r21 =>
    (if r21 = 0 then
      (f_M_nameByte_40 (-1 : Int32) M2)
    else
      (bn (f_M_of M2 l1 ((8 : Int32) + l2)) fun r33 =>
      (f_M_nameByte_40 r33 M2)
      )
    )
    ))
  else
    (some ((0 : Int32), M2))
  )
  )
def f_M_findLeg_30  : Nat → Int32 → Mm → Option (Int32 × Mm)
  | 0, _, _ => none
  | n + 1, l1, M =>
    (if (M 134 19) ≤ l1 then
      (bn (f_M_named M) fun r57 =>
      (some (r57, M))
      )
    else
      (chk (iin l1 900)
      (chk (iin l1 6)
      (bm (wr M 147 (ix l1) (M 141 (ix l1))) fun M49 =>
      ((f_M_findLeg_30 n) (l1 + 1) M49)
      )))
    )
def f_M_findLeg (M : Mm) : Option (Int32 × Mm) :=
  (bm (wr M 134 7 (0 : Int32)) fun M2 =>
  (bn (f_M_isIn (M2 134 14) (1 : Int32) (6 : Int32)) fun r12 =>
  (if r12 = 0 then
    (some ((-1 : Int32), M2))
  else
    (bm (wr M2 134 19 (M2 134 14)) fun M25 =>
    (f_M_findLeg_30 fu (0 : Int32) M25)
    )
  )
  ))
def f_M_noStation_20 (t1 : Int32) (M : Mm) : Option (Int32 × Mm) :=
  (bn2 (f_M_fails t1 (0 : Int32) (0 : Int32) M) fun r22 M22 =>
  (chk (isZ r22)
  (some (r22, M22))
  )
  )
def f_M_noStation (l1 : Int32) (M : Mm) : Option (Int32 × Mm) :=
  (bn (f_M_isIn l1 (0 : Int32) (M 135 (ix (0 : Int32)))) fun r9 =>
  (if r9 = 0 then
    (f_M_noStation_20 (1 : Int32) M)
  else
    (f_M_noStation_20 (0 : Int32) M)
  )
  )
def f_M_rawEast (l1 : Int32) (M : Mm) : Option (Int32 × Mm) :=
  (bn2 (f_M_noStation l1 M) fun r2 M2 =>
  (if r2 = 0 then
    (bn (f_M_findRaw M2) fun M11 =>
    (chk (iin l1 21)
    (some (M11 143 (ix l1), M11))
    ))
  else
    (some ((0 : Int32), M2))
  )
  )
def f_M_rawNorth (l1 : Int32) (M : Mm) : Option (Int32 × Mm) :=
  (bn2 (f_M_noStation l1 M) fun r2 M2 =>
  (if r2 = 0 then
    (bn (f_M_findRaw M2) fun M11 =>
    (chk (iin l1 21)
    (some (M11 144 (ix l1), M11))
    ))
  else
    (some ((0 : Int32), M2))
  )
  )
def f_M_east (l1 : Int32) (M : Mm) : Option (Int32 × Mm) :=
  (bn2 (f_M_noStation l1 M) fun r2 M2 =>
  (if r2 = 0 then
    (bn (f_M_findStations M2) fun M11 =>
    (chk (iin l1 21)
    (some (M11 143 (ix l1), M11))
    ))
  else
    (some ((0 : Int32), M2))
  )
  )
def f_M_north (l1 : Int32) (M : Mm) : Option (Int32 × Mm) :=
  (bn2 (f_M_noStation l1 M) fun r2 M2 =>
  (if r2 = 0 then
    (bn (f_M_findStations M2) fun M11 =>
    (chk (iin l1 21)
    (some (M11 144 (ix l1), M11))
    ))
  else
    (some ((0 : Int32), M2))
  )
  )
def f_M_run (l1 : Int32) (M : Mm) : Option (Int32 × Mm) :=
  (bn2 (f_M_noStation l1 M) fun r2 M2 =>
  (if r2 = 0 then
    (bn (f_M_findRaw M2) fun M11 =>
    (chk (iin l1 21)
    (some (M11 145 (ix l1), M11))
    ))
  else
    (some ((0 : Int32), M2))
  )
  )
def f_M_distanceFromStart (l1 : Int32) (M : Mm) : Option (Int32 × Mm) :=
  (bn2 (f_M_noStation l1 M) fun r2 M2 =>
  (if r2 = 0 then
    (bn (f_M_findStations M2) fun M11 =>
    (chk (iin l1 21)
    (bn (f_M_far ((M11 143 (ix l1)).toInt64) ((M11 144 (ix l1)).toInt64)) fun r28 =>
    (some (r28, M11))
    )))
  else
    (some ((0 : Int32), M2))
  )
  )
def f_M_perimeterNow (M : Mm) : Option (Int32 × Mm) :=
  (bn (f_M_findRaw M) fun M1 =>
  (bn (f_M_around M1) fun r5 =>
  (some (r5, M1))
  ))
def f_M_perimeter (M : Mm) : Option (Int32 × Mm) :=
  (bn2 (f_M_perimeterNow M) fun r2 M2 =>
  (bn2 (f_M_told r2 M2) fun r5 M5 =>
  (some (r5, M5))
  ))
def f_M_closingEast (M : Mm) : Option (Int32 × Mm) :=
  (bm (wr M 134 7 (0 : Int32)) fun M2 =>
  (bn (f_M_findRaw M2) fun M6 =>
  (chk (iin (M6 135 (ix (0 : Int32))) 21)
  (some (M6 143 (ix (M6 135 (ix (0 : Int32)))), M6))
  )))
def f_M_closingNorth (M : Mm) : Option (Int32 × Mm) :=
  (bm (wr M 134 7 (0 : Int32)) fun M2 =>
  (bn (f_M_findRaw M2) fun M6 =>
  (chk (iin (M6 135 (ix (0 : Int32))) 21)
  (some (M6 144 (ix (M6 135 (ix (0 : Int32)))), M6))
  )))
def f_M_misclosure (M : Mm) : Option (Int32 × Mm) :=
  (bn2 (f_M_miss M) fun r2 M2 =>
  (bn2 (f_M_told r2 M2) fun r5 M5 =>
  (some (r5, M5))
  ))
def f_M_precision_24 (t0 : Int32) (M : Mm) : Option (Int32 × Mm) :=
  (some (t0, M))
def f_M_precision (M : Mm) : Option (Int32 × Mm) :=
  (bm (wr M 134 7 (0 : Int32)) fun M2 =>
  (bn2 (f_M_miss M2) fun r6 M6 =>
  (if r6 = 0 then
    (f_M_precision_24 (-1 : Int32) M6)
  else
    (bn (f_M_around M6) fun r19 =>
    (chk (¬ r6 = 0)
    (f_M_precision_24 (r19 / r6) M6)
    ))
  )
  ))
def f_M_spread_11 (a : Nat) (M : Mm) : Nat → Int32 → Int32 → Int32 → Option Int32
  | 0, _, _, _ => none
  | n + 1, l2, l3, l4 =>
    (if (M 135 (ix (0 : Int32))) < l4 then
      (some (l3 - l2))
    else
      (chk (iin l4 21)
      ((f_M_spread_11 a M n) (if (M a (ix l4)) < l2 then (M a (ix l4)) else l2) (if l3 < (M a (ix l4)) then (M a (ix l4)) else l3) (l4 + 1))
      )
    )
def f_M_spread (a : Nat) (M : Mm) : Option Int32 :=
  (f_M_spread_11 a M fu (M a (ix (0 : Int32))) (M a (ix (0 : Int32))) (1 : Int32))
def f_M_width (M : Mm) : Option (Int32 × Mm) :=
  (bm (wr M 134 7 (0 : Int32)) fun M2 =>
  (bn (f_M_findStations M2) fun M6 =>
  (bn (f_M_spread 143 M6) fun r14 =>
  (some (r14, M6))
  )))
def f_M_height (M : Mm) : Option (Int32 × Mm) :=
  (bm (wr M 134 7 (0 : Int32)) fun M2 =>
  (bn (f_M_findStations M2) fun M6 =>
  (bn (f_M_spread 144 M6) fun r14 =>
  (some (r14, M6))
  )))
def f_M_farthestStation_62 (r13 : Int32 → Int32 → Mm → Option (Int32 × Mm)) (l1 : Int32) (l2 : Int32) (M : Mm) : Option (Int32 × Mm) :=
  (r13 l1 (l2 + 1) M)
def f_M_farthestStation_13  : Nat → Int32 → Int32 → Mm → Option (Int32 × Mm)
  | 0, _, _, _ => none
  | n + 1, l1, l2, M =>
    (if (M 135 (ix (0 : Int32))) < l2 then
      (some (l1, M))
    else
      (chk (iin l2 21)
      (bn (f_M_far ((M 143 (ix l2)).toInt64) ((M 144 (ix l2)).toInt64)) fun r37 =>
      (chk (iin l1 21)
      (bn (f_M_far ((M 143 (ix l1)).toInt64) ((M 144 (ix l1)).toInt64)) fun r54 =>
      (if r37 ≤ r54 then
        (f_M_farthestStation_62 (f_M_farthestStation_13 n) l1 l2 M)
      else
        (f_M_farthestStation_62 (f_M_farthestStation_13 n) l2 l2 M)
      )
      ))))
    )
def f_M_farthestStation (M : Mm) : Option (Int32 × Mm) :=
  (bm (wr M 134 7 (0 : Int32)) fun M2 =>
  (bn (f_M_findStations M2) fun M6 =>
  (f_M_farthestStation_13 fu (0 : Int32) (1 : Int32) M6)
  ))
def f_M_longestLeg_39 (r9 : Int32 → Int32 → Mm → Option (Int32 × Mm)) (l1 : Int32) (l2 : Int32) (M : Mm) : Option (Int32 × Mm) :=
  (r9 l1 (l2 + 1) M)
def f_M_longestLeg_37 (r9 : Int32 → Int32 → Mm → Option (Int32 × Mm)) (l2 : Int32) (M : Mm) : Option (Int32 × Mm) :=
  (f_M_longestLeg_39 r9 l2 l2 M)
def f_M_longestLeg_9  : Nat → Int32 → Int32 → Mm → Option (Int32 × Mm)
  | 0, _, _, _ => none
  | n + 1, l1, l2, M =>
    (if (M 135 (ix (0 : Int32))) ≤ l2 then
      (some (l1, M))
    else
      (if l1 = (-1 : Int32) then
        (f_M_longestLeg_37 (f_M_longestLeg_9 n) l2 M)
      else
        (bn (f_M_flat M l2) fun r26 =>
        (bn (f_M_flat M l1) fun r31 =>
        (if r26 ≤ r31 then
          (f_M_longestLeg_39 (f_M_longestLeg_9 n) l1 l2 M)
        else
          (f_M_longestLeg_37 (f_M_longestLeg_9 n) l2 M)
        )
        ))
      )
    )
def f_M_longestLeg (M : Mm) : Option (Int32 × Mm) :=
  (bm (wr M 134 7 (0 : Int32)) fun M2 =>
  (f_M_longestLeg_9 fu (-1 : Int32) (0 : Int32) M2)
  )
def f_M_onBogs_30 (M : Mm) (r4 : Int32 → Int32 → Option Int32) (l1 : Int32) (l2 : Int32) : Option Int32 :=
  (r4 l1 (l2 + 1))
def f_M_onBogs_4 (M : Mm) : Nat → Int32 → Int32 → Option Int32
  | 0, _, _ => none
  | n + 1, l1, l2 =>
    (if (M 135 (ix (0 : Int32))) ≤ l2 then
      (some l1)
    else
      (bn (f_M_bog M l2) fun r16 =>
      (if r16 = 0 then
        (f_M_onBogs_30 M (f_M_onBogs_4 M n) l1 l2)
      else
        (bn (f_M_flat M l2) fun r25 =>
        (f_M_onBogs_30 M (f_M_onBogs_4 M n) (l1 + r25) l2)
        )
      )
      )
    )
def f_M_onBogs (M : Mm) : Option Int32 :=
  (f_M_onBogs_4 M fu (0 : Int32) (0 : Int32))
def f_M_bogLength (M : Mm) : Option (Int32 × Mm) :=
  (bn (f_M_onBogs M) fun r2 =>
  (bn2 (f_M_told r2 M) fun r5 M5 =>
  (some (r5, M5))
  ))
def f_M_area_23  : Nat → Int64 → Int32 → Int32 → Mm → Option (Int64 × Mm)
  | 0, _, _, _, _ => none
  | n + 1, l1, l3, l4, M =>
    (if l3 ≤ l4 then
      (some ((if 0 < l1 then l1 else -l1) / (2 : Int64), M))
    else
      (chk (¬ l3 = 0)
      (chk (iin l4 21)
      (chk (iin ((l4 + (1 : Int32)) - (l4 + (1 : Int32)) / l3 * l3) 21)
      ((f_M_area_23 n) (l1 + ((((M 143 (ix l4)).toInt64) * ((M 144 (ix ((l4 + (1 : Int32)) - (l4 + (1 : Int32)) / l3 * l3))).toInt64)) - (((M 143 (ix ((l4 + (1 : Int32)) - (l4 + (1 : Int32)) / l3 * l3))).toInt64) * ((M 144 (ix l4)).toInt64)))) l3 (l4 + 1) M)
      )))
    )
def f_M_area (M : Mm) : Option (Int64 × Mm) :=
  (bm (wr M 134 7 (0 : Int32)) fun M2 =>
  (bn (f_M_findStations M2) fun M6 =>
  (f_M_area_23 fu (0 : Int64) ((M6 135 (ix (0 : Int32))) + (1 : Int32)) (0 : Int32) M6)
  ))
def f_M_missIfDropped (l1 : Int32) (M : Mm) : Option (Int32 × Mm) :=
  (bn (f_M_mayDrop M l1) fun r2 =>
  (if r2 = 0 then
    (some ((-1 : Int32), M))
  else
    (bn2 (f_M_drops l1 (1 : Int32) M) fun r13 M13 =>
    (bn2 (f_M_miss M13) fun r18 M18 =>
    (bn2 (f_M_drops l1 (-1 : Int32) M18) fun r25 M25 =>
    (some (r18, M25))
    )))
  )
  )
def f_M_misclosureIfDropped_17 (t0 : Int32) (M : Mm) : Option (Int32 × Mm) :=
  (some (t0, M))
def f_M_misclosureIfDropped (l1 : Int32) (M : Mm) : Option (Int32 × Mm) :=
  (bn2 (f_M_isBad l1 M) fun r2 M2 =>
  (if r2 = 0 then
    (bn2 (f_M_missIfDropped l1 M2) fun r14 M14 =>
    (f_M_misclosureIfDropped_17 r14 M14)
    )
  else
    (f_M_misclosureIfDropped_17 (0 : Int32) M2)
  )
  )
def f_M_suspectLeg_51 (r14 : Int32 → Int32 → Int32 → Mm → Option (Int32 × Mm)) (l1 : Int32) (l2 : Int32) (l3 : Int32) (M : Mm) : Option (Int32 × Mm) :=
  (r14 l1 l2 (l3 + 1) M)
def f_M_suspectLeg_14  : Nat → Int32 → Int32 → Int32 → Mm → Option (Int32 × Mm)
  | 0, _, _, _, _ => none
  | n + 1, l1, l2, l3, M =>
    (if (M 135 (ix (0 : Int32))) ≤ l3 then
      (some (l1, M))
    else
      (bn2 (f_M_missIfDropped l3 M) fun r26 M26 =>
      (if r26 = (-1 : Int32) then
        (f_M_suspectLeg_51 (f_M_suspectLeg_14 n) l1 l2 l3 M26)
      else
        (if r26 < l2 then
          (f_M_suspectLeg_51 (f_M_suspectLeg_14 n) l3 r26 l3 M26)
        else
          (f_M_suspectLeg_51 (f_M_suspectLeg_14 n) l1 l2 l3 M26)
        )
      )
      )
    )
def f_M_suspectLeg (M : Mm) : Option (Int32 × Mm) :=
  (bm (wr M 134 7 (0 : Int32)) fun M2 =>
  (bn2 (f_M_miss M2) fun r8 M8 =>
  (f_M_suspectLeg_14 fu (-1 : Int32) r8 (0 : Int32) M8)
  ))
def f_M_bestPace_99 (r55 : Int32 → Int32 → Int32 → Int32 → Mm → Option (Int32 × Mm)) (l2 : Int32) (l3 : Int32) (l4 : Int32) (l5 : Int32) (M : Mm) : Option (Int32 × Mm) :=
  (r55 l2 l3 l4 (l5 + 1) M)
def f_M_bestPace_92 (r55 : Int32 → Int32 → Int32 → Int32 → Mm → Option (Int32 × Mm)) (l2 : Int32) (l5 : Int32) (l6 : Int32) (M : Mm) : Option (Int32 × Mm) :=
  (f_M_bestPace_99 r55 l2 l5 l6 l5 M)
def f_M_bestPace_55  : Nat → Int32 → Int32 → Int32 → Int32 → Mm → Option (Int32 × Mm)
  | 0, _, _, _, _, _ => none
  | n + 1, l2, l3, l4, l5, M =>
    (if (999 : Int32) < l5 then
      (bm (wr M 135 (ix (2 : Int32)) l2) fun M111 =>
      (some (l3, M111))
      )
    else
      (bm (wr M 135 (ix (2 : Int32)) l5) fun M70 =>
      (bn2 (f_M_miss M70) fun r72 M72 =>
      (if l3 = (-1 : Int32) then
        (f_M_bestPace_92 (f_M_bestPace_55 n) l2 l5 r72 M72)
      else
        (if r72 < l4 then
          (f_M_bestPace_92 (f_M_bestPace_55 n) l2 l5 r72 M72)
        else
          (f_M_bestPace_99 (f_M_bestPace_55 n) l2 l3 l4 l5 M72)
        )
      )
      ))
    )
def f_M_bestPace_9  : Nat → Int32 → Int32 → Mm → Option (Int32 × Mm)
  | 0, _, _, _ => none
  | n + 1, l1, l2, M =>
    (if (M 135 (ix (0 : Int32))) ≤ l2 then
      (if l1 = 0 then
        (some ((-1 : Int32), M))
      else
        (f_M_bestPace_55 fu (M 135 (ix (2 : Int32))) (-1 : Int32) (0 : Int32) (100 : Int32) M)
      )
    else
      (bn (f_M_bog M l2) fun r22 =>
      ((f_M_bestPace_9 n) (l1 ||| r22) (l2 + 1) M)
      )
    )
def f_M_bestPace (M : Mm) : Option (Int32 × Mm) :=
  (bm (wr M 134 7 (0 : Int32)) fun M2 =>
  (f_M_bestPace_9 fu (0 : Int32) (0 : Int32) M2)
  )
def f_M_inconsistencies_90 (r64 : Int32 → Int32 → Mm → Option (Int32 × Mm)) (l1 : Int32) (l2 : Int32) (M : Mm) : Option (Int32 × Mm) :=
  (r64 l1 (l2 + 1) M)
def f_M_inconsistencies_64  : Nat → Int32 → Int32 → Mm → Option (Int32 × Mm)
  | 0, _, _, _ => none
  | n + 1, l1, l2, M =>
    (if (M 135 (ix (0 : Int32))) ≤ l2 then
      (some (l1, M))
    else
      (bn (f_M_flat M l2) fun r76 =>
      (bn (f_M_slope M l2) fun r81 =>
      (if r76 ≤ r81 then
        (f_M_inconsistencies_90 (f_M_inconsistencies_64 n) l1 l2 M)
      else
        (f_M_inconsistencies_90 (f_M_inconsistencies_64 n) (l1 + 1) l2 M)
      )
      ))
    )
def f_M_inconsistencies_62 (l1 : Int32) (M : Mm) : Option (Int32 × Mm) :=
  (f_M_inconsistencies_64 fu l1 (0 : Int32) M)
def f_M_inconsistencies_45 (l1 : Int32) (M : Mm) : Option (Int32 × Mm) :=
  (chk (iin (M 135 (ix (0 : Int32))) 21)
  (if (M 144 (ix (M 135 (ix (0 : Int32))))) = 0 then
    (f_M_inconsistencies_62 l1 M)
  else
    (f_M_inconsistencies_62 (l1 + 1) M)
  )
  )
def f_M_inconsistencies (M : Mm) : Option (Int32 × Mm) :=
  (bm (wr M 134 7 (0 : Int32)) fun M2 =>
  (bn (f_M_findStations M2) fun M6 =>
  (if (M6 135 (ix (3 : Int32))) = (1 : Int32) then
    (bn (f_M_around M6) fun r22 =>
    (if r22 ≤ 0 then
      (f_M_inconsistencies_62 (0 : Int32) M6)
    else
      (chk (iin (M6 135 (ix (0 : Int32))) 21)
      (if (M6 143 (ix (M6 135 (ix (0 : Int32))))) = 0 then
        (f_M_inconsistencies_45 (0 : Int32) M6)
      else
        (f_M_inconsistencies_45 ((0 : Int32) + 1) M6)
      )
      )
    )
    )
  else
    (f_M_inconsistencies_62 (0 : Int32) M6)
  )
  ))
noncomputable def f_M_meanLeg_31 (t0 : UInt64) (M : Mm) : Option (UInt64 × Mm) :=
  (some (t0, M))
noncomputable def f_M_meanLeg (M : Mm) : Option (UInt64 × Mm) :=
  (bm (wr M 134 7 (0 : Int32)) fun M2 =>
  (if (M2 135 (ix (0 : Int32))) = 0 then
    (f_M_meanLeg_31 (0 : UInt64) M2)
  else
    (bn2 (f_M_perimeterNow M2) fun r19 M19 =>
    (chkC (vf_n64 (FP.ddiv (FP.i2d r19) (FP.i2d (M19 135 (ix (0 : Int32))))))
    (f_M_meanLeg_31 (FP.ddiv (FP.i2d r19) (FP.i2d (M19 135 (ix (0 : Int32))))) M19)
    ))
  )
  )
noncomputable def f_M_bogShare_26 (t0 : UInt32) (M : Mm) : Option (UInt32 × Mm) :=
  (some (t0, M))
noncomputable def f_M_bogShare (M : Mm) : Option (UInt32 × Mm) :=
  (bm (wr M 134 7 (0 : Int32)) fun M2 =>
  (bn2 (f_M_perimeterNow M2) fun r6 M6 =>
  (if r6 = 0 then
    (f_M_bogShare_26 (0 : UInt32) M6)
  else
    (bn (f_M_onBogs M6) fun r19 =>
    (chkC (vf_n32 (FP.fdiv (FP.i2f r19) (FP.i2f r6)))
    (f_M_bogShare_26 (FP.fdiv (FP.i2f r19) (FP.i2f r6)) M6)
    ))
  )
  ))
def f_M_out (l1 : Int32) (M : Mm) : Option Mm :=
  (chk (iin (M 134 15) 600)
  (bm (wr M 142 (ix (M 134 15)) l1) fun M9 =>
  (bm (wr M9 134 15 ((M9 134 15) + (1 : Int32))) fun M17 =>
  (some M17)
  )))
def f_M_outNumber_33  : Nat → Int32 → Int32 → Mm → Option Mm
  | 0, _, _, _ => none
  | n + 1, l2, l3, M =>
    (if l3 ≤ 0 then
      (some M)
    else
      (chk (¬ l3 = 0)
      (bn (f_M_out ((48 : Int32) + ((l2 / l3) - (l2 / l3) / (10 : Int32) * (10 : Int32))) M) fun M47 =>
      ((f_M_outNumber_33 n) l2 (l3 / (10 : Int32)) M47)
      ))
    )
def f_M_outNumber_17  : Nat → Int32 → Int32 → Mm → Option Mm
  | 0, _, _, _ => none
  | n + 1, l2, l3, M =>
    (chk (¬ l3 = 0)
    (if (l2 / l3) ≤ (9 : Int32) then
      (f_M_outNumber_33 fu l2 l3 M)
    else
      ((f_M_outNumber_17 n) l2 (l3 * (10 : Int32)) M)
    )
    )
def f_M_outNumber_10 (l1 : Int32) (M : Mm) : Option Mm :=
  (f_M_outNumber_17 fu (if 0 ≤ l1 then l1 else 0 - l1) (1 : Int32) M)
def f_M_outNumber (l1 : Int32) (M : Mm) : Option Mm :=
  (if 0 ≤ l1 then
    (f_M_outNumber_10 l1 M)
  else
    (bn (f_M_out (45 : Int32) M) fun M7 =>
    (f_M_outNumber_10 l1 M7)
    )
  )
def f_M_writeStations_36 (r16 : Int32 → Mm → Option (Int32 × Mm)) (l1 : Int32) (M : Mm) : Option (Int32 × Mm) :=
  (chk (iin l1 21)
  (bn (f_M_outNumber (M 143 (ix l1)) M) fun M43 =>
  (bn (f_M_out (44 : Int32) M43) fun M49 =>
  (bn (f_M_outNumber (M49 144 (ix l1)) M49) fun M59 =>
  (r16 (l1 + 1) M59)
  ))))
def f_M_writeStations_16  : Nat → Int32 → Mm → Option (Int32 × Mm)
  | 0, _, _ => none
  | n + 1, l1, M =>
    (if (M 135 (ix (0 : Int32))) < l1 then
      (some (M 134 15, M))
    else
      (if l1 ≤ 0 then
        (f_M_writeStations_36 (f_M_writeStations_16 n) l1 M)
      else
        (bn (f_M_out (32 : Int32) M) fun M33 =>
        (f_M_writeStations_36 (f_M_writeStations_16 n) l1 M33)
        )
      )
    )
def f_M_writeStations (M : Mm) : Option (Int32 × Mm) :=
  (bm (wr M 134 7 (0 : Int32)) fun M2 =>
  (bn (f_M_findStations M2) fun M6 =>
  (bm (wr M6 134 15 (0 : Int32)) fun M11 =>
  (f_M_writeStations_16 fu (0 : Int32) M11)
  )))
def f_M_outputByte_29 (t0 : Int32) (M : Mm) : Option (Int32 × Mm) :=
  (some (t0, M))
def f_M_outputByte (l1 : Int32) (M : Mm) : Option (Int32 × Mm) :=
  (bm (wr M 134 7 (0 : Int32)) fun M2 =>
  (bn (f_M_isIn l1 (0 : Int32) ((M2 134 15) - (1 : Int32))) fun r13 =>
  (if r13 = 0 then
    (f_M_outputByte_29 (-1 : Int32) M2)
  else
    (chk (iin l1 600)
    (f_M_outputByte_29 (M2 142 (ix l1)) M2)
    )
  )
  ))
