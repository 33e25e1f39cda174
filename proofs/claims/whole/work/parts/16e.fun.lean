/-! constructors and wrappers as functions -/
def f_M_lays_10 (w : Nat) : Nat → Int32 → Mm → Option Mm
  | 0, _, _ => none
  | n + 1, l2, M =>
    (if (M 134 14) ≤ l2 then
      (bn2 (f_M_load M) fun r36 M36 =>
      (bm (wr M36 134 6 (0 : Int32)) fun M42 =>
      (some M42)
      ))
    else
      (bn (f_U_charAt w l2) fun r25 =>
      (chk (iin l2 900)
      (bm (wr M 141 (ix l2) r25) fun M28 =>
      ((f_M_lays_10 w n) (l2 + 1) M28)
      )))
    )
def f_M_lays (w : Nat) (M : Mm) : Option Mm :=
  (bn (f_U_length w) fun r2 =>
  (bm (wr M 134 14 r2) fun M5 =>
  (f_M_lays_10 w fu (0 : Int32) M5)
  ))
def f_S_init (a : Nat) (M : Mm) : Option Mm :=
  (bm (zr M (a + 1 + 0)) fun M7 =>
  (bm (zr M7 (a + 1 + 1)) fun M15 =>
  (bm (zr M15 (a + 1 + 2)) fun M23 =>
  (bm (zr M23 (a + 1 + 3)) fun M31 =>
  (bm (zr M31 (a + 1 + 4)) fun M39 =>
  (bm (zr M39 (a + 1 + 5)) fun M47 =>
  (bm (zr M47 (a + 1 + 6)) fun M55 =>
  (bm (zr M55 (a + 1 + 7)) fun M63 =>
  (bm (zr M63 (a + 1 + 8)) fun M71 =>
  (bm (wr M71 a 11 (100 : Int32)) fun M79 =>
  (some M79)
  ))))))))))
def f_L_init (M : Mm) : Option Mm :=
  (bm (zr M 3) fun M8 =>
  (some M8)
  )
def f_T_init (M : Mm) : Option Mm :=
  (bm (zr M 26) fun M7 =>
  (bm (zr M7 27) fun M15 =>
  (bm (zr M15 28) fun M23 =>
  (bm (zr M23 29) fun M31 =>
  (bm (zr M31 30) fun M39 =>
  (some M39)
  )))))
def f_I_init (M : Mm) : Option Mm :=
  (bm (zr M 2) fun M5 =>
  (bn (f_L_init M5) fun M9 =>
  (bm (zr M9 4) fun M16 =>
  (bn (f_S_init 4 M16) fun M20 =>
  (bm (wr M20 1 4 (-1 : Int32)) fun M28 =>
  (some M28)
  )))))
def f_C_init_233 (M : Mm) : Option Mm :=
  (some M)
def f_C_init_190 (M : Mm) : Option Mm :=
  (bn (f_U_length 0) fun r196 =>
  (bn (f_I_begin r196 M) fun M199 =>
  (bn2 (f_I_readsHead M199) fun r206 M206 =>
  (if r206 = 0 then
    (f_C_init_233 M206)
  else
    (bn2 (f_I_readsCommands M206) fun r216 M216 =>
    (if r216 = 0 then
      (f_C_init_233 M216)
    else
      (bn (f_S_copyFrom 15 4 M216) fun M230 =>
      (f_C_init_233 M230)
      )
    )
    )
  )
  )))
def f_C_init_155  : Nat → Int32 → Mm → Option Mm
  | 0, _, _ => none
  | n + 1, l1, M =>
    (bn (f_U_length 0) fun r158 =>
    (if r158 ≤ l1 then
      (f_C_init_190 M)
    else
      (if (900 : Int32) ≤ l1 then
        (f_C_init_190 M)
      else
        (bn (f_U_charAt 0 l1) fun r179 =>
        (chk (iin l1 900)
        (bm (wr M 3 (ix l1) r179.toInt8.toInt32.toInt8.toInt32) fun M183 =>
        ((f_C_init_155 n) (l1 + 1) M183)
        )))
      )
    )
    )
def f_C_init (M : Mm) : Option Mm :=
  (bm (zr M 1) fun M5 =>
  (bn (f_I_init M5) fun M9 =>
  (bm (wr M9 0 4 (-1 : Int32)) fun M31 =>
  (bm (zr M31 14) fun M38 =>
  (bm (zr M38 15) fun M44 =>
  (bn (f_S_init 15 M44) fun M48 =>
  (bm (zr M48 25) fun M66 =>
  (bn (f_T_init M66) fun M70 =>
  (bm (zr M70 31) fun M79 =>
  (bm (zr M79 32) fun M87 =>
  (bm (zr M87 33) fun M95 =>
  (bm (zr M95 34) fun M113 =>
  (bn (f_S_init 34 M113) fun M117 =>
  (bm (zr M117 44) fun M113 =>
  (bn (f_S_init 44 M113) fun M117 =>
  (bm (zr M117 54) fun M113 =>
  (bn (f_S_init 54 M113) fun M117 =>
  (bm (zr M117 64) fun M113 =>
  (bn (f_S_init 64 M113) fun M117 =>
  (bm (zr M117 74) fun M113 =>
  (bn (f_S_init 74 M113) fun M117 =>
  (bm (zr M117 84) fun M113 =>
  (bn (f_S_init 84 M113) fun M117 =>
  (bm (zr M117 94) fun M113 =>
  (bn (f_S_init 94 M113) fun M117 =>
  (bm (zr M117 104) fun M113 =>
  (bn (f_S_init 104 M113) fun M117 =>
  (bm (zr M117 114) fun M139 =>
  (bn (f_S_init 114 M139) fun M143 =>
  (bm (zr M143 124) fun M139 =>
  (bn (f_S_init 124 M139) fun M143 =>
  (f_C_init_155 fu (0 : Int32) M143)
  )))))))))))))))))))))))))))))))
def f_M_init (M : Mm) : Option Mm :=
  (bm (zr M 135) fun M8 =>
  (bm (zr M8 136) fun M17 =>
  (bm (zr M17 137) fun M26 =>
  (bm (zr M26 138) fun M35 =>
  (bm (zr M35 139) fun M44 =>
  (bm (zr M44 140) fun M51 =>
  (bm (zr M51 141) fun M60 =>
  (bm (zr M60 142) fun M69 =>
  (bm (zr M69 143) fun M77 =>
  (bm (zr M77 144) fun M85 =>
  (bm (zr M85 145) fun M93 =>
  (bm (zr M93 146) fun M101 =>
  (bm (wr M101 146 (ix (0 : Int32)) (10000 : Int32)) fun M108 =>
  (bm (wr M108 146 (ix (1 : Int32)) (9659 : Int32)) fun M114 =>
  (bm (wr M114 146 (ix (2 : Int32)) (8660 : Int32)) fun M120 =>
  (bm (wr M120 146 (ix (3 : Int32)) (7071 : Int32)) fun M126 =>
  (bm (wr M126 146 (ix (4 : Int32)) (5000 : Int32)) fun M132 =>
  (bm (wr M132 146 (ix (5 : Int32)) (2588 : Int32)) fun M138 =>
  (bm (wr M138 146 (ix (6 : Int32)) (0 : Int32)) fun M143 =>
  (bm (wr M143 134 17 (-1 : Int32)) fun M149 =>
  (bm (zr M149 147) fun M155 =>
  (bn (f_M_lays 29 M155) fun M163 =>
  (some M163)
  ))))))))))))))))))))))
def f_W_truncateInput (l1 : Int32) (M : Mm) : Option (Int32 × Mm) :=
  (bc2 (f_C_truncateInput l1 M) (fun e4 M4 => (if e4 = 1 then (some ((1 : Int32), M4)) else none)) fun r4 M4 =>
  (bm (wrJ M4 148 r4.toInt64) fun M8 =>
  (some ((0 : Int32), M8))
  ))
def f_W_addLeg (l1 : Int32) (l2 : Int32) (l3 : Int32) (l4 : Int32) (l5 : Int32) (M : Mm) : Option (Int32 × Mm) :=
  (bc2 (f_C_addLeg l1 l2 l3 l4 l5 M) (fun e11 M11 => (if e11 = 1 then (some ((1 : Int32), M11)) else (if e11 = 2 then (some ((2 : Int32), M11)) else none))) fun r11 M11 =>
  (bm (wrJ M11 148 r11.toInt64) fun M15 =>
  (some ((0 : Int32), M15))
  ))
def f_W_addBog (l1 : Int32) (l2 : Int32) (M : Mm) : Option (Int32 × Mm) :=
  (bc2 (f_C_addBog l1 l2 M) (fun e5 M5 => (if e5 = 1 then (some ((1 : Int32), M5)) else (if e5 = 2 then (some ((2 : Int32), M5)) else none))) fun r5 M5 =>
  (bm (wrJ M5 148 r5.toInt64) fun M9 =>
  (some ((0 : Int32), M9))
  ))
def f_W_dropPin (l1 : Int32) (M : Mm) : Option (Int32 × Mm) :=
  (bc2 (f_C_dropPin l1 M) (fun e4 M4 => (if e4 = 3 then (some ((1 : Int32), M4)) else (if e4 = 2 then (some ((2 : Int32), M4)) else none))) fun r4 M4 =>
  (bm (wrJ M4 148 r4.toInt64) fun M8 =>
  (some ((0 : Int32), M8))
  ))
def f_W_findPin (l1 : Int32) (M : Mm) : Option (Int32 × Mm) :=
  (bc2 (f_C_findPin l1 M) (fun e4 M4 => (if e4 = 3 then (some ((1 : Int32), M4)) else (if e4 = 2 then (some ((2 : Int32), M4)) else none))) fun r4 M4 =>
  (bm (wrJ M4 148 r4.toInt64) fun M8 =>
  (some ((0 : Int32), M8))
  ))
def f_W_removeLast (M : Mm) : Option (Int32 × Mm) :=
  (bc2 (f_C_removeLast M) (fun e3 M3 => (if e3 = 2 then (some ((1 : Int32), M3)) else none)) fun r3 M3 =>
  (bm (wrJ M3 148 r3.toInt64) fun M7 =>
  (some ((0 : Int32), M7))
  ))
def f_W_setWear (l1 : Int32) (M : Mm) : Option (Int32 × Mm) :=
  (bc2 (f_C_setWear l1 M) (fun e4 M4 => (if e4 = 1 then (some ((1 : Int32), M4)) else none)) fun r4 M4 =>
  (bm (wrJ M4 148 r4.toInt64) fun M8 =>
  (some ((0 : Int32), M8))
  ))
def f_W_setPace (l1 : Int32) (M : Mm) : Option (Int32 × Mm) :=
  (bc2 (f_C_setPace l1 M) (fun e4 M4 => (if e4 = 1 then (some ((1 : Int32), M4)) else none)) fun r4 M4 =>
  (bm (wrJ M4 148 r4.toInt64) fun M8 =>
  (some ((0 : Int32), M8))
  ))
def f_W_undo (M : Mm) : Option (Int32 × Mm) :=
  (bc2 (f_C_undo M) (fun e3 M3 => (if e3 = 2 then (some ((1 : Int32), M3)) else none)) fun r3 M3 =>
  (bm (wrJ M3 148 r3.toInt64) fun M7 =>
  (some ((0 : Int32), M7))
  ))
def f_W_save (l1 : Int32) (M : Mm) : Option (Int32 × Mm) :=
  (bc2 (f_C_save l1 M) (fun e4 M4 => (if e4 = 1 then (some ((1 : Int32), M4)) else none)) fun r4 M4 =>
  (bm (wrJ M4 148 r4.toInt64) fun M8 =>
  (some ((0 : Int32), M8))
  ))
def f_W_restore (l1 : Int32) (M : Mm) : Option (Int32 × Mm) :=
  (bc2 (f_C_restore l1 M) (fun e4 M4 => (if e4 = 1 then (some ((1 : Int32), M4)) else (if e4 = 2 then (some ((2 : Int32), M4)) else none))) fun r4 M4 =>
  (bm (wrJ M4 148 r4.toInt64) fun M8 =>
  (some ((0 : Int32), M8))
  ))
def f_W_bearing (l1 : Int32) (M : Mm) : Option (Int32 × Mm) :=
  (bc (f_C_bearing M l1) (fun e4 => (if e4 = 3 then (some ((1 : Int32), M)) else none)) fun r4 =>
  (bm (wrJ M 148 r4.toInt64) fun M8 =>
  (some ((0 : Int32), M8))
  ))
def f_W_pins (l1 : Int32) (M : Mm) : Option (Int32 × Mm) :=
  (bc (f_C_pins M l1) (fun e4 => (if e4 = 3 then (some ((1 : Int32), M)) else none)) fun r4 =>
  (bm (wrJ M 148 r4.toInt64) fun M8 =>
  (some ((0 : Int32), M8))
  ))
def f_W_droppedPins (l1 : Int32) (M : Mm) : Option (Int32 × Mm) :=
  (bc (f_C_droppedPins M l1) (fun e4 => (if e4 = 3 then (some ((1 : Int32), M)) else none)) fun r4 =>
  (bm (wrJ M 148 r4.toInt64) fun M8 =>
  (some ((0 : Int32), M8))
  ))
def f_W_readLength (l1 : Int32) (M : Mm) : Option (Int32 × Mm) :=
  (bc (f_C_readLength M l1) (fun e4 => (if e4 = 3 then (some ((1 : Int32), M)) else none)) fun r4 =>
  (bm (wrJ M 148 r4.toInt64) fun M8 =>
  (some ((0 : Int32), M8))
  ))
def f_W_slopeLength (l1 : Int32) (M : Mm) : Option (Int32 × Mm) :=
  (bc (f_C_slopeLength M l1) (fun e4 => (if e4 = 3 then (some ((1 : Int32), M)) else none)) fun r4 =>
  (bm (wrJ M 148 r4.toInt64) fun M8 =>
  (some ((0 : Int32), M8))
  ))
def f_W_horizontalLength (l1 : Int32) (M : Mm) : Option (Int32 × Mm) :=
  (bc (f_C_horizontalLength M l1) (fun e4 => (if e4 = 3 then (some ((1 : Int32), M)) else none)) fun r4 =>
  (bm (wrJ M 148 r4.toInt64) fun M8 =>
  (some ((0 : Int32), M8))
  ))
def f_W_eastStep (l1 : Int32) (M : Mm) : Option (Int32 × Mm) :=
  (bc (f_C_eastStep M l1) (fun e4 => (if e4 = 3 then (some ((1 : Int32), M)) else none)) fun r4 =>
  (bm (wrJ M 148 r4.toInt64) fun M8 =>
  (some ((0 : Int32), M8))
  ))
def f_W_northStep (l1 : Int32) (M : Mm) : Option (Int32 × Mm) :=
  (bc (f_C_northStep M l1) (fun e4 => (if e4 = 3 then (some ((1 : Int32), M)) else none)) fun r4 =>
  (bm (wrJ M 148 r4.toInt64) fun M8 =>
  (some ((0 : Int32), M8))
  ))
def f_W_tallies (l1 : Int32) (M : Mm) : Option (Int32 × Mm) :=
  (bc (f_C_tallies M l1) (fun e4 => (if e4 = 3 then (some ((1 : Int32), M)) else none)) fun r4 =>
  (bm (wrJ M 148 r4.toInt64) fun M8 =>
  (some ((0 : Int32), M8))
  ))
def f_W_isBog (l1 : Int32) (M : Mm) : Option (Int32 × Mm) :=
  (bc (f_C_isBog M l1) (fun e4 => (if e4 = 3 then (some ((1 : Int32), M)) else none)) fun r4 =>
  (if r4 = 0 then
    (bm (wrJ M 148 (0 : Int64)) fun M15 =>
    (some ((0 : Int32), M15))
    )
  else
    (bm (wrJ M 148 (1 : Int64)) fun M15 =>
    (some ((0 : Int32), M15))
    )
  )
  )
def f_W_nameByte (l1 : Int32) (l2 : Int32) (M : Mm) : Option (Int32 × Mm) :=
  (bc (f_C_nameByte M l1 l2) (fun e5 => (if e5 = 3 then (some ((1 : Int32), M)) else none)) fun r5 =>
  (bm (wrJ M 148 r5.toInt64) fun M9 =>
  (some ((0 : Int32), M9))
  ))
def f_W_rawEast (l1 : Int32) (M : Mm) : Option (Int32 × Mm) :=
  (bc2 (f_C_rawEast l1 M) (fun e4 M4 => (if e4 = 3 then (some ((1 : Int32), M4)) else none)) fun r4 M4 =>
  (bm (wrJ M4 148 r4.toInt64) fun M8 =>
  (some ((0 : Int32), M8))
  ))
def f_W_rawNorth (l1 : Int32) (M : Mm) : Option (Int32 × Mm) :=
  (bc2 (f_C_rawNorth l1 M) (fun e4 M4 => (if e4 = 3 then (some ((1 : Int32), M4)) else none)) fun r4 M4 =>
  (bm (wrJ M4 148 r4.toInt64) fun M8 =>
  (some ((0 : Int32), M8))
  ))
def f_W_east (l1 : Int32) (M : Mm) : Option (Int32 × Mm) :=
  (bc2 (f_C_east l1 M) (fun e4 M4 => (if e4 = 3 then (some ((1 : Int32), M4)) else none)) fun r4 M4 =>
  (bm (wrJ M4 148 r4.toInt64) fun M8 =>
  (some ((0 : Int32), M8))
  ))
def f_W_north (l1 : Int32) (M : Mm) : Option (Int32 × Mm) :=
  (bc2 (f_C_north l1 M) (fun e4 M4 => (if e4 = 3 then (some ((1 : Int32), M4)) else none)) fun r4 M4 =>
  (bm (wrJ M4 148 r4.toInt64) fun M8 =>
  (some ((0 : Int32), M8))
  ))
def f_W_run (l1 : Int32) (M : Mm) : Option (Int32 × Mm) :=
  (bc2 (f_C_run l1 M) (fun e4 M4 => (if e4 = 3 then (some ((1 : Int32), M4)) else none)) fun r4 M4 =>
  (bm (wrJ M4 148 r4.toInt64) fun M8 =>
  (some ((0 : Int32), M8))
  ))
def f_W_distanceFromStart (l1 : Int32) (M : Mm) : Option (Int32 × Mm) :=
  (bc2 (f_C_distanceFromStart l1 M) (fun e4 M4 => (if e4 = 3 then (some ((1 : Int32), M4)) else none)) fun r4 M4 =>
  (bm (wrJ M4 148 r4.toInt64) fun M8 =>
  (some ((0 : Int32), M8))
  ))
def f_W_misclosureIfDropped (l1 : Int32) (M : Mm) : Option (Int32 × Mm) :=
  (bc2 (f_C_misclosureIfDropped l1 M) (fun e4 M4 => (if e4 = 3 then (some ((1 : Int32), M4)) else none)) fun r4 M4 =>
  (bm (wrJ M4 148 r4.toInt64) fun M8 =>
  (some ((0 : Int32), M8))
  ))
