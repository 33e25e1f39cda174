/-! constructors and small methods as functions -/
def f_M_lays_10 (w : Nat) : Nat → Int32 → Mm → Option Mm
  | 0, _, _ => none
  | n + 1, l2, M =>
    (if (M 134 14) ≤ l2 then
      (bn2 (f_M_load M) fun r36 M36 =>
      (bm (wr M36 134 6 (0 : Int32)) fun M42 =>
      (some M42)
      ))
    else
      (bn (f_U_charAt w l2) fun r25 =>
      (chk (iin l2 900)
      (bm (wr M 141 (ix l2) r25) fun M28 =>
      ((f_M_lays_10 w n) (l2 + 1) M28)
      )))
    )
def f_M_lays (w : Nat) (M : Mm) : Option Mm :=
  (bn (f_U_length w) fun r2 =>
  (bm (wr M 134 14 r2) fun M5 =>
  (f_M_lays_10 w fu (0 : Int32) M5)
  ))
def f_M_init (M : Mm) : Option Mm :=
  (bm (zr M 135) fun M8 =>
  (bm (zr M8 136) fun M17 =>
  (bm (zr M17 137) fun M26 =>
  (bm (zr M26 138) fun M35 =>
  (bm (zr M35 139) fun M44 =>
  (bm (zr M44 140) fun M51 =>
  (bm (zr M51 141) fun M60 =>
  (bm (zr M60 142) fun M69 =>
  (bm (zr M69 143) fun M77 =>
  (bm (zr M77 144) fun M85 =>
  (bm (zr M85 145) fun M93 =>
  (bm (zr M93 146) fun M101 =>
  (bm (wr M101 146 (ix (0 : Int32)) (10000 : Int32)) fun M108 =>
  (bm (wr M108 146 (ix (1 : Int32)) (9659 : Int32)) fun M114 =>
  (bm (wr M114 146 (ix (2 : Int32)) (8660 : Int32)) fun M120 =>
  (bm (wr M120 146 (ix (3 : Int32)) (7071 : Int32)) fun M126 =>
  (bm (wr M126 146 (ix (4 : Int32)) (5000 : Int32)) fun M132 =>
  (bm (wr M132 146 (ix (5 : Int32)) (2588 : Int32)) fun M138 =>
  (bm (wr M138 146 (ix (6 : Int32)) (0 : Int32)) fun M143 =>
  (bm (wr M143 134 17 (-1 : Int32)) fun M149 =>
  (bm (zr M149 147) fun M155 =>
  (bn (f_M_lays 29 M155) fun M163 =>
  (some M163)
  ))))))))))))))))))))))
def f_S_init (a : Nat) (M : Mm) : Option Mm :=
  (bm (zr M (a + 1 + 0)) fun M7 =>
  (bm (zr M7 (a + 1 + 1)) fun M15 =>
  (bm (zr M15 (a + 1 + 2)) fun M23 =>
  (bm (zr M23 (a + 1 + 3)) fun M31 =>
  (bm (zr M31 (a + 1 + 4)) fun M39 =>
  (bm (zr M39 (a + 1 + 5)) fun M47 =>
  (bm (zr M47 (a + 1 + 6)) fun M55 =>
  (bm (zr M55 (a + 1 + 7)) fun M63 =>
  (bm (zr M63 (a + 1 + 8)) fun M71 =>
  (bm (wr M71 a 11 (100 : Int32)) fun M79 =>
  (some M79)
  ))))))))))
def f_L_init (M : Mm) : Option Mm :=
  (bm (zr M 3) fun M8 =>
  (some M8)
  )
def f_T_init (M : Mm) : Option Mm :=
  (bm (zr M 26) fun M7 =>
  (bm (zr M7 27) fun M15 =>
  (bm (zr M15 28) fun M23 =>
  (bm (zr M23 29) fun M31 =>
  (bm (zr M31 30) fun M39 =>
  (some M39)
  )))))
def f_I_init (M : Mm) : Option Mm :=
  (bm (zr M 2) fun M5 =>
  (bn (f_L_init M5) fun M9 =>
  (bm (zr M9 4) fun M16 =>
  (bn (f_S_init 4 M16) fun M20 =>
  (bm (wr M20 1 4 (-1 : Int32)) fun M28 =>
  (some M28)
  )))))
def f_C_init_233 (M : Mm) : Option Mm :=
  (some M)
def f_C_init_190 (M : Mm) : Option Mm :=
  (bn (f_U_length 0) fun r196 =>
  (bn (f_I_begin r196 M) fun M199 =>
  (bn2 (f_I_readsHead M199) fun r206 M206 =>
  (if r206 = 0 then
    (f_C_init_233 M206)
  else
    (bn2 (f_I_readsCommands M206) fun r216 M216 =>
    (if r216 = 0 then
      (f_C_init_233 M216)
    else
      (bn (f_S_copyFrom 15 4 M216) fun M230 =>
      (f_C_init_233 M230)
      )
    )
    )
  )
  )))
def f_C_init_155  : Nat → Int32 → Mm → Option Mm
  | 0, _, _ => none
  | n + 1, l1, M =>
    (bn (f_U_length 0) fun r158 =>
    (if r158 ≤ l1 then
      (f_C_init_190 M)
    else
      (if (900 : Int32) ≤ l1 then
        (f_C_init_190 M)
      else
        (bn (f_U_charAt 0 l1) fun r179 =>
        (chk (iin l1 900)
        (bm (wr M 3 (ix l1) r179.toInt8.toInt32.toInt8.toInt32) fun M183 =>
        ((f_C_init_155 n) (l1 + 1) M183)
        )))
      )
    )
    )
def f_C_init (M : Mm) : Option Mm :=
  (bm (zr M 1) fun M5 =>
  (bn (f_I_init M5) fun M9 =>
  (bm (wr M9 0 4 (-1 : Int32)) fun M31 =>
  (bm (zr M31 14) fun M38 =>
  (bm (zr M38 15) fun M44 =>
  (bn (f_S_init 15 M44) fun M48 =>
  (bm (zr M48 25) fun M66 =>
  (bn (f_T_init M66) fun M70 =>
  (bm (zr M70 31) fun M79 =>
  (bm (zr M79 32) fun M87 =>
  (bm (zr M87 33) fun M95 =>
  (bm (zr M95 34) fun M113 =>
  (bn (f_S_init 34 M113) fun M117 =>
  (bm (zr M117 44) fun M113 =>
  (bn (f_S_init 44 M113) fun M117 =>
  (bm (zr M117 54) fun M113 =>
  (bn (f_S_init 54 M113) fun M117 =>
  (bm (zr M117 64) fun M113 =>
  (bn (f_S_init 64 M113) fun M117 =>
  (bm (zr M117 74) fun M113 =>
  (bn (f_S_init 74 M113) fun M117 =>
  (bm (zr M117 84) fun M113 =>
  (bn (f_S_init 84 M113) fun M117 =>
  (bm (zr M117 94) fun M113 =>
  (bn (f_S_init 94 M113) fun M117 =>
  (bm (zr M117 104) fun M113 =>
  (bn (f_S_init 104 M113) fun M117 =>
  (bm (zr M117 114) fun M139 =>
  (bn (f_S_init 114 M139) fun M143 =>
  (bm (zr M143 124) fun M139 =>
  (bn (f_S_init 124 M139) fun M143 =>
  (f_C_init_155 fu (0 : Int32) M143)
  )))))))))))))))))))))))))))))))
def f_A_init (M : Mm) : Option Mm :=
  (bm (zr M 135) fun M12 =>
  (bm (wr M12 134 1 (0 : Int32)) fun M19 =>
  (some M19)
  ))
def f_B_init (M : Mm) : Option Mm :=
  (bn (f_A_init M) fun M3 =>
  (some M3)
  )
def f_A_ensureCapacityInternal (l1 : Int32) (M : Mm) : Option Mm :=
  (if (l1 - ((16 : Int32) >>> ((M 134 1) &&& 31))) ≤ 0 then
    (some M)
  else
    none
  )
def f_A_inflateIfNeededFor_21 (w : Nat) (M : Mm) : Option Unit :=
  (some ())
def f_A_inflateIfNeededFor (w : Nat) (M : Mm) : Option Unit :=
  (bn (f_U_coder w) fun r11 =>
  (if (M 134 1) = r11 then
    (f_A_inflateIfNeededFor_21 w M)
  else
    none
  )
  )
def f_U_getBytes (w : Nat) (l2 : Int32) (l3 : Int32) (M : Mm) : Option Mm :=
  (bn (f_U_coder w) fun r1 =>
  (if r1 = l3 then
    (chk ((¬ (0 : Int32) < 0 ∧ ¬ (l2 <<< (l3 &&& 31)) < 0 ∧ ¬ (Int32.ofNat (stB w).length) < 0) ∧ ix (0 : Int32) + ix (Int32.ofNat (stB w).length) ≤ (stB w).length ∧ ix (l2 <<< (l3 &&& 31)) + ix (Int32.ofNat (stB w).length) ≤ 16)
    (bm (cpyF M (fun j => (stB w).getD j 0) (ix (0 : Int32)) 135 (ix (l2 <<< (l3 &&& 31))) (ix (Int32.ofNat (stB w).length))) fun M22 =>
    (some M22)
    ))
  else
    none
  )
  )
def f_A_putStringAt (w : Nat) (l1 : Int32) (M : Mm) : Option Mm :=
  (bn (f_A_inflateIfNeededFor w M) fun r2 =>
  (bn (f_U_getBytes w l1 (M 134 1) M) fun M15 =>
  (some M15)
  ))
def f_A_append (w : Nat) (M : Mm) : Option Mm :=
  (bn (f_U_length w) fun r10 =>
  (bn (f_A_ensureCapacityInternal ((M 134 3) + r10) M) fun M21 =>
  (bn (f_A_putStringAt w (M21 134 3) M21) fun M30 =>
  (bm (wr M30 134 3 ((M30 134 3) + r10)) fun M40 =>
  (some M40)
  ))))
def f_B_append (w : Nat) (M : Mm) : Option Mm :=
  (bn (f_A_append w M) fun M2 =>
  (some M2)
  )
def f_N_stringSize_16  : Nat → Int32 → Int32 → Int32 → Int32 → Option Int32
  | 0, _, _, _, _ => none
  | n + 1, l0, l1, l2, l3 =>
    (if (10 : Int32) ≤ l3 then
      (some ((10 : Int32) + l1))
    else
      (if l0 ≤ l2 then
        ((f_N_stringSize_16 n) l0 l1 ((10 : Int32) * l2) (l3 + 1))
      else
        (some (l3 + l1))
      )
    )
def f_N_stringSize_11 (l0 : Int32) (l1 : Int32) : Option Int32 :=
  (f_N_stringSize_16 fu l0 l1 (-10 : Int32) (1 : Int32))
def f_N_stringSize (l0 : Int32) : Option Int32 :=
  (if l0 < 0 then
    (f_N_stringSize_11 l0 (1 : Int32))
  else
    (f_N_stringSize_11 (-l0) (0 : Int32))
  )
def f_A_isLatin1_17 (M : Mm) : Option Int32 :=
  none
def f_A_isLatin1 (M : Mm) : Option Int32 :=
  (if (M 134 1) = 0 then
    (some (1 : Int32))
  else
    (f_A_isLatin1_17 M)
  )
def f_N_getChars_118 (l5 : Int32) (M : Mm) : Option (Int32 × Mm) :=
  (some (l5, M))
def f_N_getChars_104 (l5 : Int32) (l6 : Int32) (M : Mm) : Option (Int32 × Mm) :=
  (if l6 = 0 then
    (f_N_getChars_118 l5 M)
  else
    (chk (iin (l5 + (-1)) 16)
    (bm (wr M 135 (ix (l5 + (-1))) (45 : Int32).toInt8.toInt32) fun M117 =>
    (f_N_getChars_118 (l5 + (-1)) M117)
    ))
  )
def f_N_getChars_22  : Nat → Int32 → Int32 → Int32 → Mm → Option (Int32 × Mm)
  | 0, _, _, _, _ => none
  | n + 1, l0, l5, l6, M =>
    (if (-100 : Int32) < l0 then
      (chk (iin (-l0) 100)
      (chk (iin (l5 + (-1)) 16)
      (bm (wr M 135 (ix (l5 + (-1))) (d1L.getD (ix (-l0)) 0).toInt8.toInt32) fun M84 =>
      (if (-9 : Int32) ≤ l0 then
        (f_N_getChars_104 (l5 + (-1)) l6 M84)
      else
        (chk (iin ((l5 + (-1)) + (-1)) 16)
        (bm (wr M84 135 (ix ((l5 + (-1)) + (-1))) (d10L.getD (ix (-l0)) 0).toInt8.toInt32) fun M103 =>
        (f_N_getChars_104 ((l5 + (-1)) + (-1)) l6 M103)
        ))
      )
      )))
    else
      (chk (iin (((l0 / (100 : Int32)) * (100 : Int32)) - l0) 100)
      (chk (iin (l5 + (-1)) 16)
      (bm (wr M 135 (ix (l5 + (-1))) (d1L.getD (ix (((l0 / (100 : Int32)) * (100 : Int32)) - l0)) 0).toInt8.toInt32) fun M55 =>
      (chk (iin ((l5 + (-1)) + (-1)) 16)
      (bm (wr M55 135 (ix ((l5 + (-1)) + (-1))) (d10L.getD (ix (((l0 / (100 : Int32)) * (100 : Int32)) - l0)) 0).toInt8.toInt32) fun M68 =>
      ((f_N_getChars_22 n) (l0 / (100 : Int32)) ((l5 + (-1)) + (-1)) l6 M68)
      )))))
    )
def f_N_getChars_12 (l0 : Int32) (l5 : Int32) (t0 : Int32) (M : Mm) : Option (Int32 × Mm) :=
  (if t0 = 0 then
    (f_N_getChars_22 fu (-l0) l5 t0 M)
  else
    (f_N_getChars_22 fu l0 l5 t0 M)
  )
def f_N_getChars (l0 : Int32) (l1 : Int32) (M : Mm) : Option (Int32 × Mm) :=
  (if 0 ≤ l0 then
    (f_N_getChars_12 l0 l1 (0 : Int32) M)
  else
    (f_N_getChars_12 l0 l1 (1 : Int32) M)
  )
def f_A_appendI (l1 : Int32) (M : Mm) : Option Mm :=
  (bn (f_N_stringSize l1) fun r7 =>
  (bn (f_A_ensureCapacityInternal ((M 134 3) + r7) M) fun M14 =>
  (bn (f_A_isLatin1 M14) fun r18 =>
  (if r18 = 0 then
    none
  else
    (bn2 (f_N_getChars l1 ((M 134 3) + r7) M14) fun r30 M30 =>
    (bm (wr M30 134 3 ((M 134 3) + r7)) fun M50 =>
    (some M50)
    ))
  )
  )))
def f_B_appendI (l1 : Int32) (M : Mm) : Option Mm :=
  (bn (f_A_appendI l1 M) fun M2 =>
  (some M2)
  )
def f_A_getValue (M : Mm) : Option Unit :=
  (some ())
def f_A_length (M : Mm) : Option Int32 :=
  (some (M 134 3))
def f_B_length (M : Mm) : Option Int32 :=
  (bn (f_A_length M) fun r1 =>
  (some r1)
  )
def f_R_checkLength (l0 : Int32) (l1 : Int32) : Option Unit :=
  (if l0 ≤ l1 then
    (some ())
  else
    none
  )
def f_R_copyOfRangeByte (T : Nat) (l1 : Int32) (l2 : Int32) (M : Mm) : Option Mm :=
  (bn (f_R_checkLength l1 l2) fun r2 =>
  (chk (¬ (l2 - l1) < 0 ∧ ix (l2 - l1) = T ∧ T ≤ 16)
  (bm (zr M 137) fun M10 =>
  (chk (((¬ l1 < 0 ∧ ¬ (0 : Int32) < 0 ∧ ¬ (if (l2 - l1) < ((16 : Int32) - l1) then (l2 - l1) else ((16 : Int32) - l1)) < 0) ∧ ix l1 + ix (if (l2 - l1) < ((16 : Int32) - l1) then (l2 - l1) else ((16 : Int32) - l1)) ≤ 16 ∧ ix (0 : Int32) + ix (if (l2 - l1) < ((16 : Int32) - l1) then (l2 - l1) else ((16 : Int32) - l1)) ≤ T) ∧ ∀ j, j < ix (if (l2 - l1) < ((16 : Int32) - l1) then (l2 - l1) else ((16 : Int32) - l1)) → (M10 135 (ix l1 + j)).toInt8.toInt32 = M10 135 (ix l1 + j))
  (bm (cpyF M10 (M10 135) (ix l1) 137 (ix (0 : Int32)) (ix (if (l2 - l1) < ((16 : Int32) - l1) then (l2 - l1) else ((16 : Int32) - l1)))) fun M27 =>
  (some M27)
  )))))
def f_R_copyOfRange_10 (T : Nat) (l1 : Int32) (l2 : Int32) (M : Mm) : Option Mm :=
  (bn (f_R_copyOfRangeByte T l1 l2 M) fun M13 =>
  (some M13)
  )
def f_R_copyOfRange (T : Nat) (l1 : Int32) (l2 : Int32) (M : Mm) : Option Mm :=
  (if l1 = 0 then
    (if l2 = (16 : Int32) then
      none
    else
      (f_R_copyOfRange_10 T l1 l2 M)
    )
  else
    (f_R_copyOfRange_10 T l1 l2 M)
  )
def f_X_init2 (T : Nat) (M : Mm) : Option Mm :=
  (bn (f_A_getValue M) fun r5 =>
  (bn (f_B_length M) fun r10 =>
  (bn (f_A_isLatin1 M) fun r16 =>
  (if r16 = 0 then
    none
  else
    (bm (wr M 136 1 (0 : Int32)) fun M24 =>
    (bn (f_R_copyOfRange T (0 : Int32) r10 M24) fun M32 =>
    (some M32)
    ))
  )
  )))
def f_X_init (T : Nat) (M : Mm) : Option Mm :=
  (bn (f_X_init2 T M) fun M3 =>
  (some M3)
  )
def f_B_toString (T : Nat) (M : Mm) : Option Mm :=
  (bm (zr M 136) fun M0 =>
  (bn (f_X_init T M0) fun M5 =>
  (some M5)
  ))
def f_X_coder (M : Mm) : Option Int32 :=
  (chk ((M 136 1).toInt8.toInt32 = (M 136 1))
  (some (M 136 1))
  )
def f_X_length (T : Nat) (M : Mm) : Option Int32 :=
  (bn (f_X_coder M) fun r6 =>
  (some ((Int32.ofNat T) >>> (r6 &&& 31)))
  )
def f_X_isLatin1_17 (M : Mm) : Option Int32 :=
  none
def f_X_isLatin1 (M : Mm) : Option Int32 :=
  (if (M 136 1) = 0 then
    (some (1 : Int32))
  else
    (f_X_isLatin1_17 M)
  )
def f_Y_charAt (T : Nat) (M : Mm) (l1 : Int32) : Option Int32 :=
  (bn (f_U_checkIndex l1 (Int32.ofNat T)) fun r3 =>
  (chk (iin l1 T)
  (chk ((((((M 137 (ix l1)) &&& (255 : Int32)).toUInt32 % 65536).toInt32).toUInt32 % 65536).toInt32 = ((((M 137 (ix l1)) &&& (255 : Int32)).toUInt32 % 65536).toInt32))
  (some ((((M 137 (ix l1)) &&& (255 : Int32)).toUInt32 % 65536).toInt32))
  )
  ))
def f_X_charAt (T : Nat) (M : Mm) (l1 : Int32) : Option Int32 :=
  (bn (f_X_isLatin1 M) fun r1 =>
  (if r1 = 0 then
    none
  else
    (bn (f_Y_charAt T M l1) fun r12 =>
    (chk ((r12.toUInt32 % 65536).toInt32 = r12)
    (some r12)
    )
    )
  )
  )
def f_W_truncateInput (l1 : Int32) (M : Mm) : Option (Int32 × Mm) :=
  (bc2 (f_C_truncateInput l1 M) (fun e2 M2 => (if e2 = 1 then (some ((-1000000018 : Int32), M2)) else none)) fun r2 M2 =>
  (some (r2, M2))
  )
def f_W_addLeg (l1 : Int32) (l2 : Int32) (l3 : Int32) (l4 : Int32) (l5 : Int32) (M : Mm) : Option (Int32 × Mm) :=
  (bc2 (f_C_addLeg l1 l2 l3 l4 l5 M) (fun e8 M8 => (if e8 = 1 then (some ((-1000000018 : Int32), M8)) else (if e8 = 2 then (some ((-1000000019 : Int32), M8)) else none))) fun r8 M8 =>
  (some (r8, M8))
  )
def f_W_addBog (l1 : Int32) (l2 : Int32) (M : Mm) : Option (Int32 × Mm) :=
  (bc2 (f_C_addBog l1 l2 M) (fun e3 M3 => (if e3 = 1 then (some ((-1000000018 : Int32), M3)) else (if e3 = 2 then (some ((-1000000019 : Int32), M3)) else none))) fun r3 M3 =>
  (some (r3, M3))
  )
def f_W_dropPin (l1 : Int32) (M : Mm) : Option (Int32 × Mm) :=
  (bc2 (f_C_dropPin l1 M) (fun e2 M2 => (if e2 = 3 then (some ((-1000000017 : Int32), M2)) else (if e2 = 2 then (some ((-1000000019 : Int32), M2)) else none))) fun r2 M2 =>
  (some (r2, M2))
  )
def f_W_findPin (l1 : Int32) (M : Mm) : Option (Int32 × Mm) :=
  (bc2 (f_C_findPin l1 M) (fun e2 M2 => (if e2 = 3 then (some ((-1000000017 : Int32), M2)) else (if e2 = 2 then (some ((-1000000019 : Int32), M2)) else none))) fun r2 M2 =>
  (some (r2, M2))
  )
def f_W_removeLast (M : Mm) : Option (Int32 × Mm) :=
  (bc2 (f_C_removeLast M) (fun e1 M1 => (if e1 = 2 then (some ((-1000000019 : Int32), M1)) else none)) fun r1 M1 =>
  (some (r1, M1))
  )
def f_W_setWear (l1 : Int32) (M : Mm) : Option (Int32 × Mm) :=
  (bc2 (f_C_setWear l1 M) (fun e2 M2 => (if e2 = 1 then (some ((-1000000018 : Int32), M2)) else none)) fun r2 M2 =>
  (some (r2, M2))
  )
def f_W_setPace (l1 : Int32) (M : Mm) : Option (Int32 × Mm) :=
  (bc2 (f_C_setPace l1 M) (fun e2 M2 => (if e2 = 1 then (some ((-1000000018 : Int32), M2)) else none)) fun r2 M2 =>
  (some (r2, M2))
  )
def f_W_undo (M : Mm) : Option (Int32 × Mm) :=
  (bc2 (f_C_undo M) (fun e1 M1 => (if e1 = 2 then (some ((-1000000019 : Int32), M1)) else none)) fun r1 M1 =>
  (some (r1, M1))
  )
def f_W_bearing (M : Mm) (l1 : Int32) : Option Int32 :=
  (bc (f_C_bearing M l1) (fun e2 => (if e2 = 3 then (some (-1000000017 : Int32)) else none)) fun r2 =>
  (some r2)
  )
def f_W_pins (M : Mm) (l1 : Int32) : Option Int32 :=
  (bc (f_C_pins M l1) (fun e2 => (if e2 = 3 then (some (-1000000017 : Int32)) else none)) fun r2 =>
  (some r2)
  )
def f_W_droppedPins (M : Mm) (l1 : Int32) : Option Int32 :=
  (bc (f_C_droppedPins M l1) (fun e2 => (if e2 = 3 then (some (-1000000017 : Int32)) else none)) fun r2 =>
  (some r2)
  )
def f_W_readLength (M : Mm) (l1 : Int32) : Option Int32 :=
  (bc (f_C_readLength M l1) (fun e2 => (if e2 = 3 then (some (-1000000017 : Int32)) else none)) fun r2 =>
  (some r2)
  )
def f_W_slopeLength (M : Mm) (l1 : Int32) : Option Int32 :=
  (bc (f_C_slopeLength M l1) (fun e2 => (if e2 = 3 then (some (-1000000017 : Int32)) else none)) fun r2 =>
  (some r2)
  )
def f_W_horizontalLength (M : Mm) (l1 : Int32) : Option Int32 :=
  (bc (f_C_horizontalLength M l1) (fun e2 => (if e2 = 3 then (some (-1000000017 : Int32)) else none)) fun r2 =>
  (some r2)
  )
def f_W_eastStep (M : Mm) (l1 : Int32) : Option Int32 :=
  (bc (f_C_eastStep M l1) (fun e2 => (if e2 = 3 then (some (-1000000017 : Int32)) else none)) fun r2 =>
  (some r2)
  )
def f_W_northStep (M : Mm) (l1 : Int32) : Option Int32 :=
  (bc (f_C_northStep M l1) (fun e2 => (if e2 = 3 then (some (-1000000017 : Int32)) else none)) fun r2 =>
  (some r2)
  )
def f_W_tallies (M : Mm) (l1 : Int32) : Option Int32 :=
  (bc (f_C_tallies M l1) (fun e2 => (if e2 = 3 then (some (-1000000017 : Int32)) else none)) fun r2 =>
  (some r2)
  )
def f_W_misclosureIfDropped (l1 : Int32) (M : Mm) : Option (Int32 × Mm) :=
  (bc2 (f_C_misclosureIfDropped l1 M) (fun e2 M2 => (if e2 = 3 then (some ((-1000000017 : Int32), M2)) else none)) fun r2 M2 =>
  (some (r2, M2))
  )
def f_W_isBog (M : Mm) (l1 : Int32) : Option Int32 :=
  (bc (f_C_isBog M l1) (fun e2 => (if e2 = 3 then (some (-1000000017 : Int32)) else none)) fun r2 =>
  (if r2 = 0 then
    (some (0 : Int32))
  else
    (some (1 : Int32))
  )
  )
def f_W_nameByte (M : Mm) (l1 : Int32) (l2 : Int32) : Option Int32 :=
  (bc (f_C_nameByte M l1 l2) (fun e3 => (if e3 = 3 then (some (-1000000017 : Int32)) else none)) fun r3 =>
  (some r3)
  )
def f_W_rawEast (l1 : Int32) (M : Mm) : Option (Int32 × Mm) :=
  (bc2 (f_C_rawEast l1 M) (fun e2 M2 => (if e2 = 3 then (some ((-1000000017 : Int32), M2)) else none)) fun r2 M2 =>
  (some (r2, M2))
  )
def f_W_rawNorth (l1 : Int32) (M : Mm) : Option (Int32 × Mm) :=
  (bc2 (f_C_rawNorth l1 M) (fun e2 M2 => (if e2 = 3 then (some ((-1000000017 : Int32), M2)) else none)) fun r2 M2 =>
  (some (r2, M2))
  )
def f_W_east (l1 : Int32) (M : Mm) : Option (Int32 × Mm) :=
  (bc2 (f_C_east l1 M) (fun e2 M2 => (if e2 = 3 then (some ((-1000000017 : Int32), M2)) else none)) fun r2 M2 =>
  (some (r2, M2))
  )
def f_W_north (l1 : Int32) (M : Mm) : Option (Int32 × Mm) :=
  (bc2 (f_C_north l1 M) (fun e2 M2 => (if e2 = 3 then (some ((-1000000017 : Int32), M2)) else none)) fun r2 M2 =>
  (some (r2, M2))
  )
def f_W_run (l1 : Int32) (M : Mm) : Option (Int32 × Mm) :=
  (bc2 (f_C_run l1 M) (fun e2 M2 => (if e2 = 3 then (some ((-1000000017 : Int32), M2)) else none)) fun r2 M2 =>
  (some (r2, M2))
  )
def f_W_distanceFromStart (l1 : Int32) (M : Mm) : Option (Int32 × Mm) :=
  (bc2 (f_C_distanceFromStart l1 M) (fun e2 M2 => (if e2 = 3 then (some ((-1000000017 : Int32), M2)) else none)) fun r2 M2 =>
  (some (r2, M2))
  )
def f_W_word_32 (T : Nat) (M : Mm) (r4 : Int32 → Int32 → Int32 → Option Int32) (l1 : Int32) (l3 : Int32) (t0 : Int32) (t1 : Int32) : Option Int32 :=
  (r4 l1 (t0 ||| t1) (l3 + 1))
def f_W_word_4 (T : Nat) (M : Mm) : Nat → Int32 → Int32 → Int32 → Option Int32
  | 0, _, _, _ => none
  | n + 1, l1, l2, l3 =>
    (if (l1 + (4 : Int32)) ≤ l3 then
      (some l2)
    else
      (bn (f_X_length T M) fun r17 =>
      (if r17 ≤ l3 then
        (f_W_word_32 T M (f_W_word_4 T M n) l1 l3 (l2 <<< ((8 : Int32) &&& 31)) (0 : Int32))
      else
        (bn (f_X_charAt T M l3) fun r25 =>
        (f_W_word_32 T M (f_W_word_4 T M n) l1 l3 (l2 <<< ((8 : Int32) &&& 31)) r25)
        )
      )
      )
    )
def f_W_word (T : Nat) (M : Mm) (l1 : Int32) : Option Int32 :=
  (f_W_word_4 T M fu l1 (0 : Int32) l1)
def f_W_write_95 (T : Nat) (t0 : Int32) (M : Mm) : Option (Int32 × Mm) :=
  (chk (isZ t0)
  (some (t0, M))
  )
def f_W_write_12 (T : Nat) : Nat → Int32 → Mm → Option (Int32 × Mm)
  | 0, _, _ => none
  | n + 1, l2, M =>
    (bn (f_X_length T M) fun r14 =>
    (if r14 ≤ l2 then
      (bn (f_X_length T M) fun r77 =>
      (bn2 (f_W_truncateInput r77 M) fun r80 M80 =>
      (bn (f_X_length T M80) fun r84 =>
      (if r80 = r84 then
        (f_W_write_95 T (1 : Int32) M80)
      else
        (f_W_write_95 T (0 : Int32) M80)
      )
      )))
    else
      (bn (f_W_word T M l2) fun r23 =>
      (bn (f_W_word T M (l2 + (4 : Int32))) fun r30 =>
      (bn (f_W_word T M (l2 + (8 : Int32))) fun r38 =>
      (bn (f_W_word T M (l2 + (12 : Int32))) fun r46 =>
      (bn (f_W_word T M (l2 + (16 : Int32))) fun r54 =>
      (bn2 (f_C_append r23 r30 r38 r46 r54 M) fun r57 M57 =>
      (if r57 = (l2 + (20 : Int32)) then
        ((f_W_write_12 T n) (l2 + 20) M57)
      else
        (some ((0 : Int32), M57))
      )
      ))))))
    )
    )
def f_W_write (T : Nat) (M : Mm) : Option (Int32 × Mm) :=
  (bn2 (f_W_truncateInput (0 : Int32) M) fun r2 M2 =>
  (if r2 = 0 then
    (f_W_write_12 T fu (0 : Int32) M2)
  else
    (some ((0 : Int32), M2))
  )
  )
def f_W_draw (l1 : Int32) (M : Mm) : Option (Int32 × Mm) :=
  (bm (wr M 1999 (ix (0 : Int32)) (((M 1999 (ix (0 : Int32))) * (1103515245 : Int32)) + (12345 : Int32))) fun M12 =>
  (chk (¬ l1 = 0)
  (some ((((M12 1999 (ix (0 : Int32))).toUInt32 >>> ((8 : Int32).toUInt32 &&& Int32.toUInt32 31)).toInt32) - (((M12 1999 (ix (0 : Int32))).toUInt32 >>> ((8 : Int32).toUInt32 &&& Int32.toUInt32 31)).toInt32) / l1 * l1, M12))
  ))
def f_W_isRoot (l0 : Int64) (l2 : Int64) : Option Int32 :=
  (if (lg_cmp l0 (0 : Int64)) < 0 then
    (some (0 : Int32))
  else
    (if 0 < (lg_cmp (l0 * l0) l2) then
      (some (0 : Int32))
    else
      (if (lg_cmp ((l0 + (1 : Int64)) * (l0 + (1 : Int64))) l2) ≤ 0 then
        (some (0 : Int32))
      else
        (some (1 : Int32))
      )
    )
  )
