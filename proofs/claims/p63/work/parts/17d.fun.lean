/-! the law as a function -/
def f_W_isSound_64 (M : Mm) : Option (Int32 × Mm) :=
  (some ((0 : Int32), M))
def f_W_isSound_148 (M : Mm) : Option (Int32 × Mm) :=
  (some ((0 : Int32), M))
def f_W_isSound_234 (M : Mm) : Option (Int32 × Mm) :=
  (some ((0 : Int32), M))
def f_W_isSound_363 (M : Mm) : Option (Int32 × Mm) :=
  (some ((0 : Int32), M))
def f_W_isSound_396 (M : Mm) : Option (Int32 × Mm) :=
  (some ((0 : Int32), M))
def f_W_isSound_398 (r69 : Int32 → Int32 → Int32 → Int32 → Int32 → Int32 → Int32 → Mm → Option (Int32 × Mm)) (l1 : Int32) (l2 : Int32) (l3 : Int32) (l4 : Int32) (l5 : Int32) (l6 : Int32) (l7 : Int32) (M : Mm) : Option (Int32 × Mm) :=
  (bn2 (f_W_distanceFromStart (l7 + (1 : Int32)) M) fun r403 M403 =>
  (bn2 (f_W_east (l7 + (1 : Int32)) M403) fun r412 M412 =>
  (bn2 (f_W_east (l7 + (1 : Int32)) M412) fun r421 M421 =>
  (bn2 (f_W_north (l7 + (1 : Int32)) M421) fun r431 M431 =>
  (bn2 (f_W_north (l7 + (1 : Int32)) M431) fun r440 M440 =>
  (bn (f_W_isRoot r403.toInt64 ((r412.toInt64 * r421.toInt64) + (r431.toInt64 * r440.toInt64))) fun r446 =>
  (if r446 = 0 then
    (some ((0 : Int32), M440))
  else
    (bn2 (f_W_distanceFromStart (l7 + (1 : Int32)) M440) fun r459 M459 =>
    (bn2 (f_C_farthestStation M459) fun r464 M464 =>
    (bn2 (f_W_distanceFromStart r464 M464) fun r467 M467 =>
    (if r459 ≤ r467 then
      (r69 l1 l2 l3 l4 l5 l6 (l7 + 1) M467)
    else
      (some ((0 : Int32), M467))
    )
    )))
  )
  ))))))
def f_W_isSound_326 (r69 : Int32 → Int32 → Int32 → Int32 → Int32 → Int32 → Int32 → Mm → Option (Int32 × Mm)) (l1 : Int32) (l2 : Int32) (l3 : Int32) (l4 : Int32) (l5 : Int32) (l6 : Int32) (l7 : Int32) (M : Mm) : Option (Int32 × Mm) :=
  (bn2 (f_W_rawEast (l7 + (1 : Int32)) M) fun r331 M331 =>
  (if r331 = l2 then
    (bn2 (f_W_rawNorth (l7 + (1 : Int32)) M331) fun r343 M343 =>
    (if r343 = l3 then
      (bn2 (f_W_run (l7 + (1 : Int32)) M343) fun r355 M355 =>
      (if r355 = l4 then
        (bn (f_C_isAdjusted M355) fun r366 =>
        (if r366 = 0 then
          (bn2 (f_W_east (l7 + (1 : Int32)) M355) fun r377 M377 =>
          (if r377 = l2 then
            (bn2 (f_W_north (l7 + (1 : Int32)) M377) fun r389 M389 =>
            (if r389 = l3 then
              (f_W_isSound_398 r69 l1 l2 l3 l4 l5 l6 l7 M389)
            else
              (f_W_isSound_396 M389)
            )
            )
          else
            (f_W_isSound_396 M377)
          )
          )
        else
          (f_W_isSound_398 r69 l1 l2 l3 l4 l5 l6 l7 M355)
        )
        )
      else
        (f_W_isSound_363 M355)
      )
      )
    else
      (f_W_isSound_363 M343)
    )
    )
  else
    (f_W_isSound_363 M331)
  )
  )
def f_W_isSound_322 (r69 : Int32 → Int32 → Int32 → Int32 → Int32 → Int32 → Int32 → Mm → Option (Int32 × Mm)) (l1 : Int32) (l2 : Int32) (l3 : Int32) (l4 : Int32) (l5 : Int32) (l7 : Int32) (M : Mm) : Option (Int32 × Mm) :=
  (f_W_isSound_326 r69 l1 l2 l3 l4 l5 l7 l7 M)
def f_W_isSound_305 (r69 : Int32 → Int32 → Int32 → Int32 → Int32 → Int32 → Int32 → Mm → Option (Int32 × Mm)) (l1 : Int32) (l2 : Int32) (l3 : Int32) (l4 : Int32) (l5 : Int32) (l6 : Int32) (l7 : Int32) (l8 : Int32) (M : Mm) : Option (Int32 × Mm) :=
  (if l6 = (-1 : Int32) then
    (f_W_isSound_322 r69 l1 l2 l3 l4 l5 l7 M)
  else
    (bn (f_W_horizontalLength M l6) fun r316 =>
    (if l8 ≤ r316 then
      (f_W_isSound_326 r69 l1 l2 l3 l4 l5 l6 l7 M)
    else
      (f_W_isSound_322 r69 l1 l2 l3 l4 l5 l7 M)
    )
    )
  )
def f_W_isSound_236 (r69 : Int32 → Int32 → Int32 → Int32 → Int32 → Int32 → Int32 → Mm → Option (Int32 × Mm)) (l1 : Int32) (l2 : Int32) (l3 : Int32) (l4 : Int32) (l5 : Int32) (l6 : Int32) (l7 : Int32) (l8 : Int32) (M : Mm) : Option (Int32 × Mm) :=
  (bn (f_W_tallies M l7) fun r239 =>
  (bn (f_W_pins M l7) fun r245 =>
  (bn (f_W_droppedPins M l7) fun r251 =>
  (if r239 = ((r245 + r251) / (10 : Int32)) then
    (bn (f_W_eastStep M l7) fun r267 =>
    (bn (f_W_northStep M l7) fun r276 =>
    (bn (f_W_isBog M l7) fun r291 =>
    (if r291 = (1 : Int32) then
      (f_W_isSound_305 r69 l1 (l2 + r267) (l3 + r276) (l4 + l8) (l5 + l8) l6 l7 l8 M)
    else
      (f_W_isSound_305 r69 l1 (l2 + r267) (l3 + r276) (l4 + l8) l5 l6 l7 l8 M)
    )
    )))
  else
    (some ((0 : Int32), M))
  )
  )))
def f_W_isSound_231 (r69 : Int32 → Int32 → Int32 → Int32 → Int32 → Int32 → Int32 → Mm → Option (Int32 × Mm)) (l1 : Int32) (l2 : Int32) (l3 : Int32) (l4 : Int32) (l5 : Int32) (l6 : Int32) (l7 : Int32) (l8 : Int32) (t0 : Int32) (t1 : Int32) (M : Mm) : Option (Int32 × Mm) :=
  (if t0 = t1 then
    (f_W_isSound_236 r69 l1 l2 l3 l4 l5 l6 l7 l8 M)
  else
    (f_W_isSound_234 M)
  )
def f_W_isSound_190 (r69 : Int32 → Int32 → Int32 → Int32 → Int32 → Int32 → Int32 → Mm → Option (Int32 × Mm)) (l1 : Int32) (l2 : Int32) (l3 : Int32) (l4 : Int32) (l5 : Int32) (l6 : Int32) (l7 : Int32) (l8 : Int32) (l9 : Int32) (M : Mm) : Option (Int32 × Mm) :=
  (if (l9 - l9 / (180 : Int32) * (180 : Int32)) = (90 : Int32) then
    (bn (f_W_northStep M l7) fun r204 =>
    (if r204 = 0 then
      (bn (f_W_eastStep M l7) fun r213 =>
      (if l9 = (90 : Int32) then
        (f_W_isSound_231 r69 l1 l2 l3 l4 l5 l6 l7 l8 r213 l8 M)
      else
        (f_W_isSound_231 r69 l1 l2 l3 l4 l5 l6 l7 l8 r213 (-l8) M)
      )
      )
    else
      (f_W_isSound_234 M)
    )
    )
  else
    (f_W_isSound_236 r69 l1 l2 l3 l4 l5 l6 l7 l8 M)
  )
def f_W_isSound_187 (r69 : Int32 → Int32 → Int32 → Int32 → Int32 → Int32 → Int32 → Mm → Option (Int32 × Mm)) (l1 : Int32) (l2 : Int32) (l3 : Int32) (l4 : Int32) (l5 : Int32) (l6 : Int32) (l7 : Int32) (l8 : Int32) (l9 : Int32) (t0 : Int32) (t1 : Int32) (M : Mm) : Option (Int32 × Mm) :=
  (if t0 = t1 then
    (f_W_isSound_190 r69 l1 l2 l3 l4 l5 l6 l7 l8 l9 M)
  else
    (f_W_isSound_234 M)
  )
def f_W_isSound_150 (r69 : Int32 → Int32 → Int32 → Int32 → Int32 → Int32 → Int32 → Mm → Option (Int32 × Mm)) (l1 : Int32) (l2 : Int32) (l3 : Int32) (l4 : Int32) (l5 : Int32) (l6 : Int32) (l7 : Int32) (l8 : Int32) (l9 : Int32) (M : Mm) : Option (Int32 × Mm) :=
  (if (l9 - l9 / (180 : Int32) * (180 : Int32)) = 0 then
    (bn (f_W_eastStep M l7) fun r162 =>
    (if r162 = 0 then
      (bn (f_W_northStep M l7) fun r171 =>
      (if l9 = 0 then
        (f_W_isSound_187 r69 l1 l2 l3 l4 l5 l6 l7 l8 l9 r171 l8 M)
      else
        (f_W_isSound_187 r69 l1 l2 l3 l4 l5 l6 l7 l8 l9 r171 (-l8) M)
      )
      )
    else
      (f_W_isSound_234 M)
    )
    )
  else
    (f_W_isSound_190 r69 l1 l2 l3 l4 l5 l6 l7 l8 l9 M)
  )
def f_W_isSound_507 (r487 : Int32 → Int32 → Int32 → Int32 → Int32 → Int32 → Int64 → Int32 → Mm → Option (Int32 × Mm)) (l1 : Int32) (l2 : Int32) (l3 : Int32) (l4 : Int32) (l5 : Int32) (l6 : Int32) (l7 : Int64) (l9 : Int32) (t0 : Int32) (M : Mm) : Option (Int32 × Mm) :=
  (bn2 (f_W_east l9 M) fun r514 M514 =>
  (bn2 (f_W_north t0 M514) fun r521 M521 =>
  (bn2 (f_W_east t0 M521) fun r529 M529 =>
  (bn2 (f_W_north l9 M529) fun r536 M536 =>
  (r487 l1 l2 l3 l4 l5 l6 (l7 + ((r514.toInt64 * r521.toInt64) - (r529.toInt64 * r536.toInt64))) (l9 + 1) M536)
  ))))
def f_W_isSound_579 (M : Mm) : Option (Int32 × Mm) :=
  (some ((0 : Int32), M))
def f_W_isSound_714 (t0 : Int32) (M : Mm) : Option (Int32 × Mm) :=
  (chk (isZ t0)
  (some (t0, M))
  )
def f_W_isSound_713 (M : Mm) : Option (Int32 × Mm) :=
  (f_W_isSound_714 (0 : Int32) M)
def f_W_isSound_650 (l5 : Int32) (l6 : Int32) (l7 : Int64) (t0 : Int32) (t1 : Int32) (M : Mm) : Option (Int32 × Mm) :=
  (if t0 = t1 then
    (bn (f_C_bogLength M) fun r654 =>
    (if r654 = l5 then
      (bn (f_C_longestLeg M) fun r663 =>
      (if r663 = l6 then
        (bn2 (f_C_area M) fun r672 M672 =>
        (if (lg_cmp r672 ((if 0 < l7 then l7 else -l7) / (2 : Int64))) = 0 then
          (bn2 (f_C_width M672) fun r689 M689 =>
          (if r689 < 0 then
            (f_W_isSound_713 M689)
          else
            (bn2 (f_C_height M689) fun r696 M696 =>
            (if r696 < 0 then
              (f_W_isSound_713 M696)
            else
              (bn2 (f_C_inconsistencies M696) fun r703 M703 =>
              (if r703 = 0 then
                (f_W_isSound_714 (1 : Int32) M703)
              else
                (f_W_isSound_713 M703)
              )
              )
            )
            )
          )
          )
        else
          (f_W_isSound_713 M672)
        )
        )
      else
        (f_W_isSound_713 M)
      )
      )
    else
      (f_W_isSound_713 M)
    )
    )
  else
    (f_W_isSound_713 M)
  )
def f_W_isSound_581 (l2 : Int32) (l3 : Int32) (l4 : Int32) (l5 : Int32) (l6 : Int32) (l7 : Int64) (M : Mm) : Option (Int32 × Mm) :=
  (bn2 (f_C_misclosure M) fun r582 M582 =>
  (bn2 (f_C_perimeter M582) fun r588 M588 =>
  (if r588 = l4 then
    (bn2 (f_C_closingEast M588) fun r597 M597 =>
    (if r597 = l2 then
      (bn2 (f_C_closingNorth M597) fun r605 M605 =>
      (if r605 = l3 then
        (bn (f_W_isRoot r582.toInt64 ((l2.toInt64 * l2.toInt64) + (l3.toInt64 * l3.toInt64))) fun r626 =>
        (if r626 = 0 then
          (f_W_isSound_713 M605)
        else
          (bn2 (f_C_precision M605) fun r633 M633 =>
          (if r582 = 0 then
            (f_W_isSound_650 l5 l6 l7 r633 (-1 : Int32) M633)
          else
            (chk (¬ r582 = 0)
            (f_W_isSound_650 l5 l6 l7 r633 (l4 / r582) M633)
            )
          )
          )
        )
        )
      else
        (f_W_isSound_713 M605)
      )
      )
    else
      (f_W_isSound_713 M597)
    )
    )
  else
    (f_W_isSound_713 M588)
  )
  ))
def f_W_isSound_487  : Nat → Int32 → Int32 → Int32 → Int32 → Int32 → Int32 → Int64 → Int32 → Mm → Option (Int32 × Mm)
  | 0, _, _, _, _, _, _, _, _, _ => none
  | n + 1, l1, l2, l3, l4, l5, l6, l7, l9, M =>
    (if l1 < l9 then
      (bn (f_C_isAdjusted M) fun r552 =>
      (if r552 = 0 then
        (f_W_isSound_581 l2 l3 l4 l5 l6 l7 M)
      else
        (if l4 ≤ 0 then
          (f_W_isSound_581 l2 l3 l4 l5 l6 l7 M)
        else
          (bn2 (f_W_east l1 M) fun r565 M565 =>
          (if r565 = 0 then
            (bn2 (f_W_north l1 M565) fun r573 M573 =>
            (if r573 = 0 then
              (f_W_isSound_581 l2 l3 l4 l5 l6 l7 M573)
            else
              (f_W_isSound_579 M573)
            )
            )
          else
            (f_W_isSound_579 M565)
          )
          )
        )
      )
      )
    else
      (if l9 = l1 then
        (f_W_isSound_507 (f_W_isSound_487 n) l1 l2 l3 l4 l5 l6 l7 l9 (0 : Int32) M)
      else
        (f_W_isSound_507 (f_W_isSound_487 n) l1 l2 l3 l4 l5 l6 l7 l9 (l9 + (1 : Int32)) M)
      )
    )
def f_W_isSound_69  : Nat → Int32 → Int32 → Int32 → Int32 → Int32 → Int32 → Int32 → Mm → Option (Int32 × Mm)
  | 0, _, _, _, _, _, _, _, _ => none
  | n + 1, l1, l2, l3, l4, l5, l6, l7, M =>
    (if l1 ≤ l7 then
      (f_W_isSound_487 22 l1 l2 l3 l4 l5 l6 (0 : Int64) (0 : Int32) M)
    else
      (bn (f_W_horizontalLength M l7) fun r78 =>
      (bn (f_W_bearing M l7) fun r86 =>
      (if r78 < 0 then
        (f_W_isSound_148 M)
      else
        (bn (f_W_slopeLength M l7) fun r101 =>
        (if r101 < r78 then
          (f_W_isSound_148 M)
        else
          (bn (f_W_isBog M l7) fun r110 =>
          (if r110 = (1 : Int32) then
            (bn (f_W_readLength M l7) fun r122 =>
            (if r78 = r122 then
              (bn (f_W_slopeLength M l7) fun r131 =>
              (if r131 = r78 then
                (bn (f_W_pins M l7) fun r142 =>
                (if r142 = 0 then
                  (f_W_isSound_150 (f_W_isSound_69 n) l1 l2 l3 l4 l5 l6 l7 r78 r86 M)
                else
                  (f_W_isSound_148 M)
                )
                )
              else
                (f_W_isSound_148 M)
              )
              )
            else
              (f_W_isSound_148 M)
            )
            )
          else
            (f_W_isSound_150 (f_W_isSound_69 n) l1 l2 l3 l4 l5 l6 l7 r78 r86 M)
          )
          )
        )
        )
      )
      ))
    )
def f_W_isSound (M : Mm) : Option (Int32 × Mm) :=
  (bn (f_C_legCount M) fun r1 =>
  (bn (f_C_stationCount M) fun r19 =>
  (if r19 = (r1 + (1 : Int32)) then
    (bn2 (f_W_rawEast (0 : Int32) M) fun r30 M30 =>
    (if r30 = 0 then
      (bn2 (f_W_east (0 : Int32) M30) fun r38 M38 =>
      (if r38 = 0 then
        (bn2 (f_W_run (0 : Int32) M38) fun r46 M46 =>
        (if r46 = 0 then
          (bn2 (f_W_rawEast (r1 + (1 : Int32)) M46) fun r56 M56 =>
          (if r56 = (-1000000017 : Int32) then
            (f_W_isSound_69 22 r1 (0 : Int32) (0 : Int32) (0 : Int32) (0 : Int32) (-1 : Int32) (0 : Int32) M56)
          else
            (f_W_isSound_64 M56)
          )
          )
        else
          (f_W_isSound_64 M46)
        )
        )
      else
        (f_W_isSound_64 M38)
      )
      )
    else
      (f_W_isSound_64 M30)
    )
    )
  else
    (f_W_isSound_64 M)
  )
  ))
def f_W_acts_272 (t0 : Int32) (M : Mm) : Option (Int32 × Mm) :=
  (chk (isZ t0)
  (some (t0, M))
  )
def f_W_acts_271 (M : Mm) : Option (Int32 × Mm) :=
  (f_W_acts_272 (0 : Int32) M)
def f_W_acts_200 (l2 : Int32) (M : Mm) : Option (Int32 × Mm) :=
  (bn2 (f_W_draw (300 : Int32) M) fun r205 M205 =>
  (bn2 (f_W_draw (24 : Int32) M205) fun r216 M216 =>
  (bn2 (f_W_addBog ((15 : Int32) * r216) ((1 : Int32) + r205) M216) fun r221 M221 =>
  (if l2 = (20 : Int32) then
    (if r221 = (-1000000019 : Int32) then
      (f_W_acts_272 (1 : Int32) M221)
    else
      (f_W_acts_272 (0 : Int32) M221)
    )
  else
    (if r221 = l2 then
      (bn (f_W_readLength M221 l2) fun r255 =>
      (bn (f_C_pace M221) fun r260 =>
      (if r255 = (((1 : Int32) + r205) * r260) then
        (f_W_acts_272 (1 : Int32) M221)
      else
        (f_W_acts_271 M221)
      )
      ))
    else
      (f_W_acts_271 M221)
    )
  )
  )))
def f_W_acts_292 (t0 : Int32) (M : Mm) : Option (Int32 × Mm) :=
  (chk (isZ t0)
  (some (t0, M))
  )
def f_W_acts_367 (t0 : Int32) (M : Mm) : Option (Int32 × Mm) :=
  (chk (isZ t0)
  (some (t0, M))
  )
def f_W_acts_366 (M : Mm) : Option (Int32 × Mm) :=
  (f_W_acts_367 (0 : Int32) M)
def f_W_acts_389 (M : Mm) : Option (Int32 × Mm) :=
  (some ((0 : Int32), M))
def f_W_acts_423 (t0 : Int32) (M : Mm) : Option (Int32 × Mm) :=
  (chk (isZ t0)
  (some (t0, M))
  )
def f_W_acts_418 (M : Mm) : Option (Int32 × Mm) :=
  (f_W_acts_423 (1 : Int32) M)
def f_W_acts_422 (M : Mm) : Option (Int32 × Mm) :=
  (f_W_acts_423 (0 : Int32) M)
def f_W_acts_339 (l3 : Int32) (l4 : Int32) (l5 : Int32) (l6 : Int32) (t0 : Int32) (M : Mm) : Option (Int32 × Mm) :=
  (if t0 = 0 then
    (if l4 = (-1 : Int32) then
      (bn2 (f_W_dropPin l3 M) fun r354 M354 =>
      (if r354 = (-1000000019 : Int32) then
        (f_W_acts_367 (1 : Int32) M354)
      else
        (f_W_acts_366 M354)
      )
      )
    else
      (f_W_acts_366 M)
    )
  else
    (bn2 (f_W_dropPin l3 M) fun r370 M370 =>
    (if r370 = (l5 + (1 : Int32)) then
      (bn2 (f_C_misclosure M370) fun r381 M381 =>
      (if r381 = l4 then
        (bn2 (f_W_draw (2 : Int32) M381) fun r393 M393 =>
        (if r393 = 0 then
          (f_W_acts_418 M393)
        else
          (bn2 (f_W_findPin l3 M393) fun r401 M401 =>
          (if r401 = l5 then
            (bn2 (f_C_misclosure M401) fun r410 M410 =>
            (if r410 = l6 then
              (f_W_acts_418 M410)
            else
              (f_W_acts_422 M410)
            )
            )
          else
            (f_W_acts_422 M401)
          )
          )
        )
        )
      else
        (f_W_acts_389 M381)
      )
      )
    else
      (f_W_acts_389 M370)
    )
    )
  )
def f_W_acts_338 (l3 : Int32) (l4 : Int32) (l5 : Int32) (l6 : Int32) (M : Mm) : Option (Int32 × Mm) :=
  (f_W_acts_339 l3 l4 l5 l6 (0 : Int32) M)
def f_W_acts_273 (l2 : Int32) (M : Mm) : Option (Int32 × Mm) :=
  (if l2 = 0 then
    (bn2 (f_W_dropPin (0 : Int32) M) fun r279 M279 =>
    (if r279 = (-1000000017 : Int32) then
      (f_W_acts_292 (1 : Int32) M279)
    else
      (f_W_acts_292 (0 : Int32) M279)
    )
    )
  else
    (bn2 (f_W_draw l2 M) fun r295 M295 =>
    (bn2 (f_W_misclosureIfDropped r295 M295) fun r301 M301 =>
    (bn (f_W_droppedPins M301 r295) fun r308 =>
    (bn2 (f_C_misclosure M301) fun r314 M314 =>
    (bn (f_W_isBog M314 r295) fun r321 =>
    (if r321 = 0 then
      (if (9 : Int32) ≤ r308 then
        (f_W_acts_338 r295 r301 r308 r314 M314)
      else
        (f_W_acts_339 r295 r301 r308 r314 (1 : Int32) M314)
      )
    else
      (f_W_acts_338 r295 r301 r308 r314 M314)
    )
    )))))
  )
def f_W_acts_479 (r438 : Int32 → Int32 → Int32 → Int32 → Mm → Option (Int32 × Mm)) (l2 : Int32) (l3 : Int32) (l4 : Int32) (l5 : Int32) (M : Mm) : Option (Int32 × Mm) :=
  (r438 l2 l3 l4 (l5 + 1) M)
def f_W_acts_474 (r438 : Int32 → Int32 → Int32 → Int32 → Mm → Option (Int32 × Mm)) (l2 : Int32) (l3 : Int32) (l4 : Int32) (l5 : Int32) (t0 : Int32) (t1 : Int32) (M : Mm) : Option (Int32 × Mm) :=
  (if t1 ≤ t0 then
    (f_W_acts_479 r438 l2 l3 l4 l5 M)
  else
    (some ((0 : Int32), M))
  )
def f_W_acts_505 (t0 : Int32) (M : Mm) : Option (Int32 × Mm) :=
  (chk (isZ t0)
  (some (t0, M))
  )
def f_W_acts_500 (M : Mm) : Option (Int32 × Mm) :=
  (f_W_acts_505 (1 : Int32) M)
def f_W_acts_438  : Nat → Int32 → Int32 → Int32 → Int32 → Mm → Option (Int32 × Mm)
  | 0, _, _, _, _, _ => none
  | n + 1, l2, l3, l4, l5, M =>
    (if l2 ≤ l5 then
      (if l3 = (-1 : Int32) then
        (f_W_acts_500 M)
      else
        (bn2 (f_W_misclosureIfDropped l3 M) fun r492 M492 =>
        (if l4 ≤ r492 then
          (f_W_acts_505 (0 : Int32) M492)
        else
          (f_W_acts_500 M492)
        )
        )
      )
    else
      (bn2 (f_W_misclosureIfDropped l5 M) fun r447 M447 =>
      (if r447 < 0 then
        (f_W_acts_479 (f_W_acts_438 n) l2 l3 l4 l5 M447)
      else
        (if l3 = (-1 : Int32) then
          (f_W_acts_474 (f_W_acts_438 n) l2 l3 l4 l5 r447 l4 M447)
        else
          (bn2 (f_W_misclosureIfDropped l3 M447) fun r471 M471 =>
          (f_W_acts_474 (f_W_acts_438 n) l2 l3 l4 l5 r447 r471 M471)
          )
        )
      )
      )
    )
def f_W_acts_424 (l2 : Int32) (M : Mm) : Option (Int32 × Mm) :=
  (bn2 (f_C_suspectLeg M) fun r425 M425 =>
  (bn2 (f_C_misclosure M425) fun r430 M430 =>
  (f_W_acts_438 22 l2 r425 r430 (0 : Int32) M430)
  ))
def f_W_acts_540 (t0 : Int32) (M : Mm) : Option (Int32 × Mm) :=
  (chk (isZ t0)
  (some (t0, M))
  )
def f_W_acts_560 (M : Mm) : Option (Int32 × Mm) :=
  (some ((0 : Int32), M))
def f_W_acts_619 (t0 : Int32) (M : Mm) : Option (Int32 × Mm) :=
  (chk (isZ t0)
  (some (t0, M))
  )
def f_W_acts_614 (M : Mm) : Option (Int32 × Mm) :=
  (f_W_acts_619 (1 : Int32) M)
def f_W_acts_618 (M : Mm) : Option (Int32 × Mm) :=
  (f_W_acts_619 (0 : Int32) M)
def f_W_acts_506 (M : Mm) : Option (Int32 × Mm) :=
  (bn (f_C_bestPace M) fun r507 =>
  (bn (f_C_pace M) fun r512 =>
  (bn2 (f_C_misclosure M) fun r518 M518 =>
  (if r507 = (-1 : Int32) then
    (bn (f_C_bogLength M518) fun r529 =>
    (if r529 = 0 then
      (f_W_acts_540 (1 : Int32) M518)
    else
      (f_W_acts_540 (0 : Int32) M518)
    )
    )
  else
    (bn2 (f_W_setPace r507 M518) fun r543 M543 =>
    (if r543 = r512 then
      (bn2 (f_C_misclosure M543) fun r552 M552 =>
      (if r552 ≤ r518 then
        (bn2 (f_C_misclosure M552) fun r563 M563 =>
        (bn2 (f_W_draw (900 : Int32) M563) fun r574 M574 =>
        (bn2 (f_W_setPace ((100 : Int32) + r574) M574) fun r583 M583 =>
        (if r583 = r507 then
          (bn2 (f_C_misclosure M583) fun r591 M591 =>
          (if r563 < r591 then
            (f_W_acts_614 M591)
          else
            (bn2 (f_C_misclosure M591) fun r600 M600 =>
            (if r600 = r563 then
              (if ((100 : Int32) + r574) < r507 then
                (f_W_acts_618 M600)
              else
                (f_W_acts_614 M600)
              )
            else
              (f_W_acts_618 M600)
            )
            )
          )
          )
        else
          (f_W_acts_618 M583)
        )
        )))
      else
        (f_W_acts_560 M552)
      )
      )
    else
      (f_W_acts_560 M543)
    )
    )
  )
  )))
def f_W_acts_199 (t0 : Int32) (M : Mm) : Option (Int32 × Mm) :=
  (chk (isZ t0)
  (some (t0, M))
  )
def f_W_acts_198 (M : Mm) : Option (Int32 × Mm) :=
  (f_W_acts_199 (0 : Int32) M)
def f_W_acts_103 (l2 : Int32) (l3 : Int32) (l4 : Int32) (t1 : Int32) (t2 : Int32) (t3 : Int32) (t4 : Int32) (M : Mm) : Option (Int32 × Mm) :=
  (bn2 (f_W_draw (51 : Int32) M) fun r106 M106 =>
  (bn2 (f_W_addLeg t1 t2 t3 t4 r106 M106) fun r109 M109 =>
  (if l2 = (20 : Int32) then
    (if r109 = (-1000000019 : Int32) then
      (f_W_acts_199 (1 : Int32) M109)
    else
      (f_W_acts_199 (0 : Int32) M109)
    )
  else
    (if r109 = l2 then
      (bn (f_W_readLength M109 l2) fun r143 =>
      (if r143 = (((10000 : Int32) * l3) + ((100 : Int32) * l4)) then
        (bn (f_W_nameByte M109 l2 (0 : Int32)) fun r163 =>
        (if r163 = (113 : Int32) then
          (bn (f_W_nameByte M109 l2 (1 : Int32)) fun r174 =>
          (if r174 = ((97 : Int32) + l2) then
            (bn (f_W_nameByte M109 l2 (2 : Int32)) fun r187 =>
            (if r187 = (-1 : Int32) then
              (f_W_acts_199 (1 : Int32) M109)
            else
              (f_W_acts_198 M109)
            )
            )
          else
            (f_W_acts_198 M109)
          )
          )
        else
          (f_W_acts_198 M109)
        )
        )
      else
        (f_W_acts_198 M109)
      )
      )
    else
      (f_W_acts_198 M109)
    )
  )
  ))
def f_W_acts_56 (l2 : Int32) (M : Mm) : Option (Int32 × Mm) :=
  (bn2 (f_W_draw (12 : Int32) M) fun r59 M59 =>
  (bn2 (f_W_draw (100 : Int32) M59) fun r66 M66 =>
  (bn2 (f_W_draw (24 : Int32) M66) fun r77 M77 =>
  (bn2 (f_W_draw (3 : Int32) M77) fun r86 M86 =>
  (if r86 = 0 then
    (bn2 (f_W_draw (900 : Int32) M86) fun r96 M96 =>
    (f_W_acts_103 l2 r59 r66 ((15 : Int32) * r77) r59 r66 r96 M96)
    )
  else
    (f_W_acts_103 l2 r59 r66 ((15 : Int32) * r77) r59 r66 (0 : Int32) M86)
  )
  ))))
def f_W_acts_677 (t0 : Int32) (M : Mm) : Option (Int32 × Mm) :=
  (chk (isZ t0)
  (some (t0, M))
  )
def f_W_acts_676 (M : Mm) : Option (Int32 × Mm) :=
  (f_W_acts_677 (0 : Int32) M)
def f_W_acts_664 (l5 : Int32) (t1 : Int32) (M : Mm) : Option (Int32 × Mm) :=
  (bn2 (f_C_setAdjusted t1 M) fun r664 M664 =>
  (if r664 = l5 then
    (f_W_acts_677 (1 : Int32) M664)
  else
    (f_W_acts_676 M664)
  )
  )
def f_W_acts_620 (M : Mm) : Option (Int32 × Mm) :=
  (bn (f_C_wear M) fun r621 =>
  (bn2 (f_W_draw (200 : Int32) M) fun r629 M629 =>
  (bn (f_C_isAdjusted M629) fun r635 =>
  (bn2 (f_W_setWear r629 M629) fun r643 M643 =>
  (if r643 = r621 then
    (bn2 (f_W_draw (2 : Int32) M643) fun r653 M653 =>
    (if r653 = 0 then
      (f_W_acts_664 r635 (1 : Int32) M653)
    else
      (f_W_acts_664 r635 (0 : Int32) M653)
    )
    )
  else
    (f_W_acts_676 M643)
  )
  ))))
def f_W_acts_719 (t0 : Int32) (M : Mm) : Option (Int32 × Mm) :=
  (chk (isZ t0)
  (some (t0, M))
  )
def f_W_acts_714 (M : Mm) : Option (Int32 × Mm) :=
  (f_W_acts_719 (1 : Int32) M)
def f_W_acts_678 (l2 : Int32) (M : Mm) : Option (Int32 × Mm) :=
  (if l2 = 0 then
    (bn2 (f_W_removeLast M) fun r683 M683 =>
    (if r683 = (-1000000019 : Int32) then
      (f_W_acts_719 (1 : Int32) M683)
    else
      (f_W_acts_719 (0 : Int32) M683)
    )
    )
  else
    (if l2 < (4 : Int32) then
      (f_W_acts_714 M)
    else
      (bn2 (f_W_removeLast M) fun r705 M705 =>
      (if r705 = (l2 - (1 : Int32)) then
        (f_W_acts_714 M705)
      else
        (f_W_acts_719 (0 : Int32) M705)
      )
      )
    )
  )
def f_W_acts (M : Mm) : Option (Int32 × Mm) :=
  (bn (f_C_legCount M) fun r1 =>
  (bn2 (f_W_draw (9 : Int32) M) fun r8 M8 =>
  (if r8.toInt < 0 ∨ 7 < r8.toInt then (f_W_acts_678 r1 M8) else
  (if r8 = 0 then (f_W_acts_56 r1 M8) else
  (if r8 = 1 then (f_W_acts_56 r1 M8) else
  (if r8 = 2 then (f_W_acts_200 r1 M8) else
  (if r8 = 3 then (f_W_acts_273 r1 M8) else
  (if r8 = 4 then (f_W_acts_273 r1 M8) else
  (if r8 = 5 then (f_W_acts_424 r1 M8) else
  (if r8 = 6 then (f_W_acts_506 M8) else
  (if r8 = 7 then (f_W_acts_620 M8) else
  none)))))))))
  ))
def f_W_law_102 (T : Nat) (L : Nat) (M : Mm) : Option (Int32 × Mm) :=
  (some ((0 : Int32), M))
def f_W_law_129 (T : Nat) (L : Nat) (M : Mm) : Option (Int32 × Mm) :=
  (some ((0 : Int32), M))
def f_W_law_254 (T : Nat) (L : Nat) (M : Mm) : Option (Int32 × Mm) :=
  (some ((0 : Int32), M))
def f_W_law_178 (T : Nat) (L : Nat) (l4 : Int32) (l5 : Int32) (l6 : Int32) (l7 : Int32) (l8 : Int32) (t1 : Int32) (M : Mm) : Option (Int32 × Mm) :=
  (bn2 (f_C_setAdjusted t1 M) fun r178 M178 =>
  (if r178 = l8 then
    (bn2 (f_W_isSound M178) fun r187 M187 =>
    (if r187 = 0 then
      (f_W_law_254 T L M187)
    else
      (bn2 (f_W_undo M187) fun r194 M194 =>
      (if r194 = ((if (l4 + (1 : Int32)) < (8 : Int32) then (l4 + (1 : Int32)) else (8 : Int32)) - (1 : Int32)) then
        (bn (f_C_isAdjusted M194) fun r212 =>
        (if r212 = l8 then
          (bn (f_C_legCount M194) fun r221 =>
          (if r221 = l5 then
            (bn2 (f_C_misclosure M194) fun r230 M230 =>
            (if r230 = l6 then
              (bn2 (f_C_perimeter M230) fun r239 M239 =>
              (if r239 = l7 then
                (bn2 (f_W_isSound M239) fun r248 M248 =>
                (if r248 = 0 then
                  (f_W_law_254 T L M248)
                else
                  (if (Int32.ofNat L) ≤ (1 : Int32) then
                    (some ((1 : Int32), M248))
                  else
                    (some ((1 : Int32), M248))
                  )
                )
                )
              else
                (f_W_law_254 T L M239)
              )
              )
            else
              (f_W_law_254 T L M230)
            )
            )
          else
            (f_W_law_254 T L M194)
          )
          )
        else
          (f_W_law_254 T L M194)
        )
        )
      else
        (f_W_law_254 T L M194)
      )
      )
    )
    )
  else
    (f_W_law_254 T L M178)
  )
  )
def f_W_law_107 (T : Nat) (L : Nat) : Nat → Int32 → Mm → Option (Int32 × Mm)
  | 0, _, _ => none
  | n + 1, l4, M =>
    (if (16 : Int32) ≤ l4 then
      (bn (f_C_undoableChanges M) fun r138 =>
      (bn (f_C_legCount M) fun r144 =>
      (bn2 (f_C_misclosure M) fun r150 M150 =>
      (bn2 (f_C_perimeter M150) fun r156 M156 =>
      (bn (f_C_isAdjusted M156) fun r162 =>
      (if r162 = 0 then
        (f_W_law_178 T L r138 r144 r150 r156 r162 (1 : Int32) M156)
      else
        (f_W_law_178 T L r138 r144 r150 r156 r162 (0 : Int32) M156)
      )
      )))))
    else
      (bn2 (f_W_acts M) fun r116 M116 =>
      (if r116 = 0 then
        (f_W_law_129 T L M116)
      else
        (bn2 (f_W_isSound M116) fun r123 M123 =>
        (if r123 = 0 then
          (f_W_law_129 T L M123)
        else
          ((f_W_law_107 T L n) (l4 + 1) M123)
        )
        )
      )
      )
    )
def f_W_law (T : Nat) (L : Nat) (M : Mm) : Option (Int32 × Mm) :=
  (bm (zr M 0) fun M23 =>
  (bn (f_C_init M23) fun M27 =>
  (bm (zr M27 134) fun M32 =>
  (bn (f_B_init M32) fun M36 =>
  (bn (f_B_append 44 M36) fun M42 =>
  (bn2 (f_W_draw (100 : Int32) M42) fun r48 M48 =>
  (bn (f_B_appendI r48 M48) fun M51 =>
  (bn (f_B_append 45 M51) fun M57 =>
  (bn2 (f_W_draw (900 : Int32) M57) fun r66 M66 =>
  (bn (f_B_appendI ((100 : Int32) + r66) M66) fun M70 =>
  (bn (f_B_append 46 M70) fun M76 =>
  (bn (f_B_toString T M76) fun M79 =>
  (bn2 (f_W_write T M79) fun r82 M82 =>
  (if r82 = 0 then
    (f_W_law_102 T L M82)
  else
    (bn2 (f_C_load M82) fun r89 M89 =>
    (if r89 = 0 then
      (bn2 (f_W_isSound M89) fun r96 M96 =>
      (if r96 = 0 then
        (f_W_law_102 T L M96)
      else
        (f_W_law_107 T L 18 (0 : Int32) M96)
      )
      )
    else
      (f_W_law_102 T L M89)
    )
    )
  )
  )))))))))))))
