/-! the methods as functions on the ints (by program out of the bytecode) -/
def f_S_clear (a : Nat) (M : Mm) : Option Mm :=
  (bm (wr M a 9 (0 : Int32)) fun M2 =>
  (bm (wr M2 a 12 (0 : Int32)) fun M7 =>
  (some M7)
  ))
def f_S_copyFrom_34 (a : Nat) (b : Nat) : Nat → Int32 → Mm → Option Mm
  | 0, _, _ => none
  | n + 1, l2, M =>
    (if (20 : Int32) ≤ l2 then
      (some M)
    else
      (chk (iin l2 20)
      (bm (wr M (a + 1 + 0) (ix l2) (M (b + 1 + 0) (ix l2))) fun M51 =>
      (bm (wr M51 (a + 1 + 1) (ix l2) (M51 (b + 1 + 1) (ix l2))) fun M63 =>
      (chk (isZ (M63 (b + 1 + 2) (ix l2)))
      (bm (wr M63 (a + 1 + 2) (ix l2) (M63 (b + 1 + 2) (ix l2))) fun M75 =>
      (bm (wr M75 (a + 1 + 3) (ix l2) (M75 (b + 1 + 3) (ix l2))) fun M87 =>
      (bm (wr M87 (a + 1 + 4) (ix l2) (M87 (b + 1 + 4) (ix l2))) fun M99 =>
      (bm (wr M99 (a + 1 + 5) (ix l2) (M99 (b + 1 + 5) (ix l2))) fun M111 =>
      (bm (wr M111 (a + 1 + 6) (ix l2) (M111 (b + 1 + 6) (ix l2))) fun M123 =>
      (bm (wr M123 (a + 1 + 7) (ix l2) (M123 (b + 1 + 7) (ix l2))) fun M135 =>
      (bm (wr M135 (a + 1 + 8) (ix l2) (M135 (b + 1 + 8) (ix l2))) fun M147 =>
      ((f_S_copyFrom_34 a b n) (l2 + 1) M147)
      )))))))))))
    )
def f_S_copyFrom (a : Nat) (b : Nat) (M : Mm) : Option Mm :=
  (bm (wr M a 9 (M b 9)) fun M5 =>
  (bm (wr M5 a 10 (M5 b 10)) fun M13 =>
  (bm (wr M13 a 11 (M13 b 11)) fun M21 =>
  (chk (isZ (M21 b 12))
  (bm (wr M21 a 12 (M21 b 12)) fun M29 =>
  (f_S_copyFrom_34 a b fu (0 : Int32) M29)
  )))))
def f_S_addChained (a : Nat) (l1 : Int32) (l2 : Int32) (l3 : Int32) (l4 : Int32) (l5 : Int32) (l6 : Int32) (l7 : Int32) (M : Mm) : Option Mm :=
  (if (M a 9) < (20 : Int32) then
    (chk (iin (M a 9) 20)
    (bm (wr M (a + 1 + 0) (ix (M a 9)) l1) fun M19 =>
    (chk (iin (M19 a 9) 20)
    (bm (wr M19 (a + 1 + 1) (ix (M19 a 9)) l2) fun M29 =>
    (chk (iin (M29 a 9) 20)
    (bm (wr M29 (a + 1 + 2) (ix (M29 a 9)) (0 : Int32)) fun M39 =>
    (chk (iin (M39 a 9) 20)
    (bm (wr M39 (a + 1 + 3) (ix (M39 a 9)) (0 : Int32)) fun M49 =>
    (chk (iin (M49 a 9) 20)
    (bm (wr M49 (a + 1 + 4) (ix (M49 a 9)) l3) fun M59 =>
    (chk (iin (M59 a 9) 20)
    (bm (wr M59 (a + 1 + 5) (ix (M59 a 9)) l4) fun M70 =>
    (chk (iin (M70 a 9) 20)
    (bm (wr M70 (a + 1 + 6) (ix (M70 a 9)) l5) fun M81 =>
    (chk (iin (M81 a 9) 20)
    (bm (wr M81 (a + 1 + 7) (ix (M81 a 9)) l6) fun M92 =>
    (chk (iin (M92 a 9) 20)
    (bm (wr M92 (a + 1 + 8) (ix (M92 a 9)) l7) fun M103 =>
    (bm (wr M103 a 9 ((M103 a 9) + (1 : Int32))) fun M111 =>
    (some M111)
    )))))))))))))))))))
  else
    (some M)
  )
def f_S_addPaced (a : Nat) (l1 : Int32) (l2 : Int32) (l3 : Int32) (M : Mm) : Option Mm :=
  (if (M a 9) < (20 : Int32) then
    (bn (f_S_addChained a l1 l2 (0 : Int32) (0 : Int32) (0 : Int32) (0 : Int32) (15 : Int32) M) fun M19 =>
    (chk (iin ((M19 a 9) - (1 : Int32)) 20)
    (bm (wr M19 (a + 1 + 2) (ix ((M19 a 9) - (1 : Int32))) (1 : Int32)) fun M33 =>
    (chk (iin ((M33 a 9) - (1 : Int32)) 20)
    (bm (wr M33 (a + 1 + 3) (ix ((M33 a 9) - (1 : Int32))) l3) fun M45 =>
    (some M45)
    )))))
  else
    (some M)
  )
def f_S_hasBog_2 (a : Nat) (M : Mm) : Nat → Int32 → Option Int32
  | 0, _ => none
  | n + 1, l1 =>
    (if (M a 9) ≤ l1 then
      (some (0 : Int32))
    else
      (chk (iin l1 20)
      (if (M (a + 1 + 2) (ix l1)) = 0 then
        ((f_S_hasBog_2 a M n) (l1 + 1))
      else
        (some (1 : Int32))
      )
      )
    )
def f_S_hasBog (a : Nat) (M : Mm) : Option Int32 :=
  (f_S_hasBog_2 a M fu (0 : Int32))
def f_S_legNamed_2 (a : Nat) (M : Mm) : Nat → Int32 → Int32 → Option Int32
  | 0, _, _ => none
  | n + 1, l1, l2 =>
    (if (M a 9) ≤ l2 then
      (some (-1 : Int32))
    else
      (chk (iin l2 20)
      (if (M (a + 1 + 0) (ix l2)) = l1 then
        (some l2)
      else
        ((f_S_legNamed_2 a M n) l1 (l2 + 1))
      )
      )
    )
def f_S_legNamed (a : Nat) (M : Mm) (l1 : Int32) : Option Int32 :=
  (f_S_legNamed_2 a M fu l1 (0 : Int32))
def f_S_canDrop_25 (a : Nat) (M : Mm) (t0 : Int32) : Option Int32 :=
  (chk (isZ t0)
  (some t0)
  )
def f_S_canDrop_24 (a : Nat) (M : Mm) : Option Int32 :=
  (f_S_canDrop_25 a M (0 : Int32))
def f_S_canDrop (a : Nat) (M : Mm) (l1 : Int32) : Option Int32 :=
  (chk (iin l1 20)
  (if (M (a + 1 + 2) (ix l1)) = 0 then
    (if (9 : Int32) ≤ (M (a + 1 + 6) (ix l1)) then
      (f_S_canDrop_24 a M)
    else
      (f_S_canDrop_25 a M (1 : Int32))
    )
  else
    (f_S_canDrop_24 a M)
  )
  )
def f_S_canFind_14 (a : Nat) (M : Mm) (t0 : Int32) : Option Int32 :=
  (chk (isZ t0)
  (some t0)
  )
def f_S_canFind (a : Nat) (M : Mm) (l1 : Int32) : Option Int32 :=
  (chk (iin l1 20)
  (if (M (a + 1 + 6) (ix l1)) ≤ 0 then
    (f_S_canFind_14 a M (0 : Int32))
  else
    (f_S_canFind_14 a M (1 : Int32))
  )
  )
def f_S_readUnits (a : Nat) (M : Mm) (l1 : Int32) : Option Int32 :=
  (chk (iin l1 20)
  (if (M (a + 1 + 2) (ix l1)) = 0 then
    (some ((((M (a + 1 + 4) (ix l1)) + (M (a + 1 + 6) (ix l1))) * (10000 : Int32)) + ((M (a + 1 + 5) (ix l1)) * (100 : Int32))))
  else
    (some ((M (a + 1 + 3) (ix l1)) * (M a 11)))
  )
  )
def f_S_slopeUnits_53 (a : Nat) (M : Mm) (l2 : Int64) : Option Int32 :=
  (some l2.toInt32)
def f_S_slopeUnits (a : Nat) (M : Mm) (l1 : Int32) : Option Int32 :=
  (bn (f_S_readUnits a M l1) fun r2 =>
  (chk (iin l1 20)
  (if (M (a + 1 + 2) (ix l1)) = 0 then
    (f_S_slopeUnits_53 a M ((r2.toInt64 + ((r2.toInt64 * ((M a 10).toInt64)) / (10000 : Int64))) + ((((r2.toInt64 + ((r2.toInt64 * ((M a 10).toInt64)) / (10000 : Int64))) * (((M (a + 1 + 8) (ix l1)) - (15 : Int32)).toInt64)) * (12 : Int64)) / (1000000 : Int64))))
  else
    (f_S_slopeUnits_53 a M r2.toInt64)
  )
  ))
def f_C_root_30 (r6 : Int64 → Int32 → Int32 → Option Int32) (l0 : Int64) (l2 : Int32) (l3 : Int32) : Option Int32 :=
  (r6 l0 l2 (l3 >>> ((1 : Int32) &&& 31)))
def f_C_root_6  : Nat → Int64 → Int32 → Int32 → Option Int32
  | 0, _, _, _ => none
  | n + 1, l0, l2, l3 =>
    (if l3 ≤ 0 then
      (some l2)
    else
      (if 0 < (lg_cmp (((l2 ||| l3).toInt64) * ((l2 ||| l3).toInt64)) l0) then
        (f_C_root_30 (f_C_root_6 n) l0 l2 l3)
      else
        (f_C_root_30 (f_C_root_6 n) l0 (l2 ||| l3) l3)
      )
    )
def f_C_root (l0 : Int64) : Option Int32 :=
  (f_C_root_6 fu l0 (0 : Int32) (1073741824 : Int32))
def f_S_horizontalUnits_51 (a : Nat) (M : Mm) (t0 : Int32) : Option Int32 :=
  (some t0)
def f_S_horizontalUnits (a : Nat) (M : Mm) (l1 : Int32) : Option Int32 :=
  (bn (f_S_slopeUnits a M l1) fun r2 =>
  (chk (iin l1 20)
  (if (M (a + 1 + 7) (ix l1)) = 0 then
    (some r2)
  else
    (if (lg_cmp (((M (a + 1 + 7) (ix l1)) * (100 : Int32)).toInt64) r2.toInt64) ≤ 0 then
      (bn (f_C_root ((r2.toInt64 * r2.toInt64) - ((((M (a + 1 + 7) (ix l1)) * (100 : Int32)).toInt64) * (((M (a + 1 + 7) (ix l1)) * (100 : Int32)).toInt64)))) fun r48 =>
      (f_S_horizontalUnits_51 a M r48)
      )
    else
      (f_S_horizontalUnits_51 a M (0 : Int32))
    )
  )
  ))
