/-! the law as a function -/
noncomputable def f_W_law_2537 (L : Nat) (xs : Nat → Int32) (r23 : Int32 → Mm → Option (Int32 × Mm)) (l4 : Int32) (M : Mm) : Option (Int32 × Mm) :=
  (r23 (l4 + 6) M)
noncomputable def f_W_law_1055 (L : Nat) (xs : Nat → Int32) (r23 : Int32 → Mm → Option (Int32 × Mm)) (l4 : Int32) (M : Mm) : Option (Int32 × Mm) :=
  (f_W_law_2537 L xs r23 l4 M)
noncomputable def f_W_law_1002 (L : Nat) (xs : Nat → Int32) (r23 : Int32 → Mm → Option (Int32 × Mm)) (l4 : Int32) (M : Mm) : Option (Int32 × Mm) :=
  (chk (iin (l4 + (1 : Int32)) L)
  (bn2 (f_W_save (xs (ix (l4 + (1 : Int32)))) M) fun r1010 M1010 =>
  (bn2 (f_M_save (xs (ix (l4 + (1 : Int32)))) M1010) fun r1022 M1022 =>
  (bn (f_M_thrown M1022) fun r1028 =>
  (if r1028 = r1010 then
    (if r1010 = 0 then
      (if (lg_cmp (rdJ M1022 148) r1022.toInt64) = 0 then
        (f_W_law_1055 L xs r23 l4 M1022)
      else
        (some ((0 : Int32), M1022))
      )
    else
      (f_W_law_1055 L xs r23 l4 M1022)
    )
  else
    (some ((0 : Int32), M1022))
  )
  ))))
noncomputable def f_W_law_1111 (L : Nat) (xs : Nat → Int32) (r23 : Int32 → Mm → Option (Int32 × Mm)) (l4 : Int32) (M : Mm) : Option (Int32 × Mm) :=
  (f_W_law_2537 L xs r23 l4 M)
noncomputable def f_W_law_1058 (L : Nat) (xs : Nat → Int32) (r23 : Int32 → Mm → Option (Int32 × Mm)) (l4 : Int32) (M : Mm) : Option (Int32 × Mm) :=
  (chk (iin (l4 + (1 : Int32)) L)
  (bn2 (f_W_restore (xs (ix (l4 + (1 : Int32)))) M) fun r1066 M1066 =>
  (bn2 (f_M_restore (xs (ix (l4 + (1 : Int32)))) M1066) fun r1078 M1078 =>
  (bn (f_M_thrown M1078) fun r1084 =>
  (if r1084 = r1066 then
    (if r1066 = 0 then
      (if (lg_cmp (rdJ M1078 148) r1078.toInt64) = 0 then
        (f_W_law_1111 L xs r23 l4 M1078)
      else
        (some ((0 : Int32), M1078))
      )
    else
      (f_W_law_1111 L xs r23 l4 M1078)
    )
  else
    (some ((0 : Int32), M1078))
  )
  ))))
noncomputable def f_W_law_1114 (L : Nat) (xs : Nat → Int32) (r23 : Int32 → Mm → Option (Int32 × Mm)) (l4 : Int32) (M : Mm) : Option (Int32 × Mm) :=
  (bn (f_C_legCount M) fun r1115 =>
  (bn2 (f_M_legCount M) fun r1119 M1119 =>
  (if r1115 = r1119 then
    (f_W_law_2537 L xs r23 l4 M1119)
  else
    (some ((0 : Int32), M1119))
  )
  ))
noncomputable def f_W_law_1127 (L : Nat) (xs : Nat → Int32) (r23 : Int32 → Mm → Option (Int32 × Mm)) (l4 : Int32) (M : Mm) : Option (Int32 × Mm) :=
  (bn (f_C_stationCount M) fun r1128 =>
  (bn2 (f_M_stationCount M) fun r1132 M1132 =>
  (if r1128 = r1132 then
    (f_W_law_2537 L xs r23 l4 M1132)
  else
    (some ((0 : Int32), M1132))
  )
  ))
noncomputable def f_W_law_1140 (L : Nat) (xs : Nat → Int32) (r23 : Int32 → Mm → Option (Int32 × Mm)) (l4 : Int32) (M : Mm) : Option (Int32 × Mm) :=
  (bn (f_C_wear M) fun r1141 =>
  (bn2 (f_M_wear M) fun r1145 M1145 =>
  (if r1141 = r1145 then
    (f_W_law_2537 L xs r23 l4 M1145)
  else
    (some ((0 : Int32), M1145))
  )
  ))
noncomputable def f_W_law_1153 (L : Nat) (xs : Nat → Int32) (r23 : Int32 → Mm → Option (Int32 × Mm)) (l4 : Int32) (M : Mm) : Option (Int32 × Mm) :=
  (bn (f_C_pace M) fun r1154 =>
  (bn2 (f_M_pace M) fun r1158 M1158 =>
  (if r1154 = r1158 then
    (f_W_law_2537 L xs r23 l4 M1158)
  else
    (some ((0 : Int32), M1158))
  )
  ))
noncomputable def f_W_law_1166 (L : Nat) (xs : Nat → Int32) (r23 : Int32 → Mm → Option (Int32 × Mm)) (l4 : Int32) (M : Mm) : Option (Int32 × Mm) :=
  (bn (f_C_undoableChanges M) fun r1167 =>
  (bn2 (f_M_undoableChanges M) fun r1171 M1171 =>
  (if r1167 = r1171 then
    (f_W_law_2537 L xs r23 l4 M1171)
  else
    (some ((0 : Int32), M1171))
  )
  ))
noncomputable def f_W_law_1179 (L : Nat) (xs : Nat → Int32) (r23 : Int32 → Mm → Option (Int32 × Mm)) (l4 : Int32) (M : Mm) : Option (Int32 × Mm) :=
  (bn (f_C_isAdjusted M) fun r1180 =>
  (bn2 (f_M_isAdjusted M) fun r1184 M1184 =>
  (if r1180 = r1184 then
    (f_W_law_2537 L xs r23 l4 M1184)
  else
    (some ((0 : Int32), M1184))
  )
  ))
noncomputable def f_W_law_1245 (L : Nat) (xs : Nat → Int32) (r23 : Int32 → Mm → Option (Int32 × Mm)) (l4 : Int32) (M : Mm) : Option (Int32 × Mm) :=
  (f_W_law_2537 L xs r23 l4 M)
noncomputable def f_W_law_1192 (L : Nat) (xs : Nat → Int32) (r23 : Int32 → Mm → Option (Int32 × Mm)) (l4 : Int32) (M : Mm) : Option (Int32 × Mm) :=
  (chk (iin (l4 + (1 : Int32)) L)
  (bn2 (f_W_bearing (xs (ix (l4 + (1 : Int32)))) M) fun r1200 M1200 =>
  (bn2 (f_M_bearing (xs (ix (l4 + (1 : Int32)))) M1200) fun r1212 M1212 =>
  (bn (f_M_thrown M1212) fun r1218 =>
  (if r1218 = r1200 then
    (if r1200 = 0 then
      (if (lg_cmp (rdJ M1212 148) r1212.toInt64) = 0 then
        (f_W_law_1245 L xs r23 l4 M1212)
      else
        (some ((0 : Int32), M1212))
      )
    else
      (f_W_law_1245 L xs r23 l4 M1212)
    )
  else
    (some ((0 : Int32), M1212))
  )
  ))))
noncomputable def f_W_law_1301 (L : Nat) (xs : Nat → Int32) (r23 : Int32 → Mm → Option (Int32 × Mm)) (l4 : Int32) (M : Mm) : Option (Int32 × Mm) :=
  (f_W_law_2537 L xs r23 l4 M)
noncomputable def f_W_law_1248 (L : Nat) (xs : Nat → Int32) (r23 : Int32 → Mm → Option (Int32 × Mm)) (l4 : Int32) (M : Mm) : Option (Int32 × Mm) :=
  (chk (iin (l4 + (1 : Int32)) L)
  (bn2 (f_W_pins (xs (ix (l4 + (1 : Int32)))) M) fun r1256 M1256 =>
  (bn2 (f_M_pins (xs (ix (l4 + (1 : Int32)))) M1256) fun r1268 M1268 =>
  (bn (f_M_thrown M1268) fun r1274 =>
  (if r1274 = r1256 then
    (if r1256 = 0 then
      (if (lg_cmp (rdJ M1268 148) r1268.toInt64) = 0 then
        (f_W_law_1301 L xs r23 l4 M1268)
      else
        (some ((0 : Int32), M1268))
      )
    else
      (f_W_law_1301 L xs r23 l4 M1268)
    )
  else
    (some ((0 : Int32), M1268))
  )
  ))))
noncomputable def f_W_law_1357 (L : Nat) (xs : Nat → Int32) (r23 : Int32 → Mm → Option (Int32 × Mm)) (l4 : Int32) (M : Mm) : Option (Int32 × Mm) :=
  (f_W_law_2537 L xs r23 l4 M)
noncomputable def f_W_law_1304 (L : Nat) (xs : Nat → Int32) (r23 : Int32 → Mm → Option (Int32 × Mm)) (l4 : Int32) (M : Mm) : Option (Int32 × Mm) :=
  (chk (iin (l4 + (1 : Int32)) L)
  (bn2 (f_W_droppedPins (xs (ix (l4 + (1 : Int32)))) M) fun r1312 M1312 =>
  (bn2 (f_M_droppedPins (xs (ix (l4 + (1 : Int32)))) M1312) fun r1324 M1324 =>
  (bn (f_M_thrown M1324) fun r1330 =>
  (if r1330 = r1312 then
    (if r1312 = 0 then
      (if (lg_cmp (rdJ M1324 148) r1324.toInt64) = 0 then
        (f_W_law_1357 L xs r23 l4 M1324)
      else
        (some ((0 : Int32), M1324))
      )
    else
      (f_W_law_1357 L xs r23 l4 M1324)
    )
  else
    (some ((0 : Int32), M1324))
  )
  ))))
noncomputable def f_W_law_1413 (L : Nat) (xs : Nat → Int32) (r23 : Int32 → Mm → Option (Int32 × Mm)) (l4 : Int32) (M : Mm) : Option (Int32 × Mm) :=
  (f_W_law_2537 L xs r23 l4 M)
noncomputable def f_W_law_1360 (L : Nat) (xs : Nat → Int32) (r23 : Int32 → Mm → Option (Int32 × Mm)) (l4 : Int32) (M : Mm) : Option (Int32 × Mm) :=
  (chk (iin (l4 + (1 : Int32)) L)
  (bn2 (f_W_readLength (xs (ix (l4 + (1 : Int32)))) M) fun r1368 M1368 =>
  (bn2 (f_M_readLength (xs (ix (l4 + (1 : Int32)))) M1368) fun r1380 M1380 =>
  (bn (f_M_thrown M1380) fun r1386 =>
  (if r1386 = r1368 then
    (if r1368 = 0 then
      (if (lg_cmp (rdJ M1380 148) r1380.toInt64) = 0 then
        (f_W_law_1413 L xs r23 l4 M1380)
      else
        (some ((0 : Int32), M1380))
      )
    else
      (f_W_law_1413 L xs r23 l4 M1380)
    )
  else
    (some ((0 : Int32), M1380))
  )
  ))))
noncomputable def f_W_law_1469 (L : Nat) (xs : Nat → Int32) (r23 : Int32 → Mm → Option (Int32 × Mm)) (l4 : Int32) (M : Mm) : Option (Int32 × Mm) :=
  (f_W_law_2537 L xs r23 l4 M)
noncomputable def f_W_law_1416 (L : Nat) (xs : Nat → Int32) (r23 : Int32 → Mm → Option (Int32 × Mm)) (l4 : Int32) (M : Mm) : Option (Int32 × Mm) :=
  (chk (iin (l4 + (1 : Int32)) L)
  (bn2 (f_W_slopeLength (xs (ix (l4 + (1 : Int32)))) M) fun r1424 M1424 =>
  (bn2 (f_M_slopeLength (xs (ix (l4 + (1 : Int32)))) M1424) fun r1436 M1436 =>
  (bn (f_M_thrown M1436) fun r1442 =>
  (if r1442 = r1424 then
    (if r1424 = 0 then
      (if (lg_cmp (rdJ M1436 148) r1436.toInt64) = 0 then
        (f_W_law_1469 L xs r23 l4 M1436)
      else
        (some ((0 : Int32), M1436))
      )
    else
      (f_W_law_1469 L xs r23 l4 M1436)
    )
  else
    (some ((0 : Int32), M1436))
  )
  ))))
noncomputable def f_W_law_1525 (L : Nat) (xs : Nat → Int32) (r23 : Int32 → Mm → Option (Int32 × Mm)) (l4 : Int32) (M : Mm) : Option (Int32 × Mm) :=
  (f_W_law_2537 L xs r23 l4 M)
noncomputable def f_W_law_1472 (L : Nat) (xs : Nat → Int32) (r23 : Int32 → Mm → Option (Int32 × Mm)) (l4 : Int32) (M : Mm) : Option (Int32 × Mm) :=
  (chk (iin (l4 + (1 : Int32)) L)
  (bn2 (f_W_horizontalLength (xs (ix (l4 + (1 : Int32)))) M) fun r1480 M1480 =>
  (bn2 (f_M_horizontalLength (xs (ix (l4 + (1 : Int32)))) M1480) fun r1492 M1492 =>
  (bn (f_M_thrown M1492) fun r1498 =>
  (if r1498 = r1480 then
    (if r1480 = 0 then
      (if (lg_cmp (rdJ M1492 148) r1492.toInt64) = 0 then
        (f_W_law_1525 L xs r23 l4 M1492)
      else
        (some ((0 : Int32), M1492))
      )
    else
      (f_W_law_1525 L xs r23 l4 M1492)
    )
  else
    (some ((0 : Int32), M1492))
  )
  ))))
noncomputable def f_W_law_1581 (L : Nat) (xs : Nat → Int32) (r23 : Int32 → Mm → Option (Int32 × Mm)) (l4 : Int32) (M : Mm) : Option (Int32 × Mm) :=
  (f_W_law_2537 L xs r23 l4 M)
noncomputable def f_W_law_1528 (L : Nat) (xs : Nat → Int32) (r23 : Int32 → Mm → Option (Int32 × Mm)) (l4 : Int32) (M : Mm) : Option (Int32 × Mm) :=
  (chk (iin (l4 + (1 : Int32)) L)
  (bn2 (f_W_eastStep (xs (ix (l4 + (1 : Int32)))) M) fun r1536 M1536 =>
  (bn2 (f_M_eastStep (xs (ix (l4 + (1 : Int32)))) M1536) fun r1548 M1548 =>
  (bn (f_M_thrown M1548) fun r1554 =>
  (if r1554 = r1536 then
    (if r1536 = 0 then
      (if (lg_cmp (rdJ M1548 148) r1548.toInt64) = 0 then
        (f_W_law_1581 L xs r23 l4 M1548)
      else
        (some ((0 : Int32), M1548))
      )
    else
      (f_W_law_1581 L xs r23 l4 M1548)
    )
  else
    (some ((0 : Int32), M1548))
  )
  ))))
noncomputable def f_W_law_1637 (L : Nat) (xs : Nat → Int32) (r23 : Int32 → Mm → Option (Int32 × Mm)) (l4 : Int32) (M : Mm) : Option (Int32 × Mm) :=
  (f_W_law_2537 L xs r23 l4 M)
noncomputable def f_W_law_1584 (L : Nat) (xs : Nat → Int32) (r23 : Int32 → Mm → Option (Int32 × Mm)) (l4 : Int32) (M : Mm) : Option (Int32 × Mm) :=
  (chk (iin (l4 + (1 : Int32)) L)
  (bn2 (f_W_northStep (xs (ix (l4 + (1 : Int32)))) M) fun r1592 M1592 =>
  (bn2 (f_M_northStep (xs (ix (l4 + (1 : Int32)))) M1592) fun r1604 M1604 =>
  (bn (f_M_thrown M1604) fun r1610 =>
  (if r1610 = r1592 then
    (if r1592 = 0 then
      (if (lg_cmp (rdJ M1604 148) r1604.toInt64) = 0 then
        (f_W_law_1637 L xs r23 l4 M1604)
      else
        (some ((0 : Int32), M1604))
      )
    else
      (f_W_law_1637 L xs r23 l4 M1604)
    )
  else
    (some ((0 : Int32), M1604))
  )
  ))))
noncomputable def f_W_law_1693 (L : Nat) (xs : Nat → Int32) (r23 : Int32 → Mm → Option (Int32 × Mm)) (l4 : Int32) (M : Mm) : Option (Int32 × Mm) :=
  (f_W_law_2537 L xs r23 l4 M)
noncomputable def f_W_law_1640 (L : Nat) (xs : Nat → Int32) (r23 : Int32 → Mm → Option (Int32 × Mm)) (l4 : Int32) (M : Mm) : Option (Int32 × Mm) :=
  (chk (iin (l4 + (1 : Int32)) L)
  (bn2 (f_W_tallies (xs (ix (l4 + (1 : Int32)))) M) fun r1648 M1648 =>
  (bn2 (f_M_tallies (xs (ix (l4 + (1 : Int32)))) M1648) fun r1660 M1660 =>
  (bn (f_M_thrown M1660) fun r1666 =>
  (if r1666 = r1648 then
    (if r1648 = 0 then
      (if (lg_cmp (rdJ M1660 148) r1660.toInt64) = 0 then
        (f_W_law_1693 L xs r23 l4 M1660)
      else
        (some ((0 : Int32), M1660))
      )
    else
      (f_W_law_1693 L xs r23 l4 M1660)
    )
  else
    (some ((0 : Int32), M1660))
  )
  ))))
noncomputable def f_W_law_1756 (L : Nat) (xs : Nat → Int32) (r23 : Int32 → Mm → Option (Int32 × Mm)) (l4 : Int32) (M : Mm) : Option (Int32 × Mm) :=
  (f_W_law_2537 L xs r23 l4 M)
noncomputable def f_W_law_1750 (L : Nat) (xs : Nat → Int32) (r23 : Int32 → Mm → Option (Int32 × Mm)) (l4 : Int32) (t0 : Int64) (t1 : Int64) (M : Mm) : Option (Int32 × Mm) :=
  (if (lg_cmp t0 t1) = 0 then
    (f_W_law_1756 L xs r23 l4 M)
  else
    (some ((0 : Int32), M))
  )
noncomputable def f_W_law_1696 (L : Nat) (xs : Nat → Int32) (r23 : Int32 → Mm → Option (Int32 × Mm)) (l4 : Int32) (M : Mm) : Option (Int32 × Mm) :=
  (chk (iin (l4 + (1 : Int32)) L)
  (bn2 (f_W_isBog (xs (ix (l4 + (1 : Int32)))) M) fun r1704 M1704 =>
  (bn2 (f_M_isBog (xs (ix (l4 + (1 : Int32)))) M1704) fun r1716 M1716 =>
  (bn (f_M_thrown M1716) fun r1722 =>
  (if r1722 = r1704 then
    (if r1704 = 0 then
      (if r1716 = 0 then
        (f_W_law_1750 L xs r23 l4 (rdJ M1716 148) (0 : Int64) M1716)
      else
        (f_W_law_1750 L xs r23 l4 (rdJ M1716 148) (1 : Int64) M1716)
      )
    else
      (f_W_law_1756 L xs r23 l4 M1716)
    )
  else
    (some ((0 : Int32), M1716))
  )
  ))))
noncomputable def f_W_law_1824 (L : Nat) (xs : Nat → Int32) (r23 : Int32 → Mm → Option (Int32 × Mm)) (l4 : Int32) (M : Mm) : Option (Int32 × Mm) :=
  (f_W_law_2537 L xs r23 l4 M)
noncomputable def f_W_law_1759 (L : Nat) (xs : Nat → Int32) (r23 : Int32 → Mm → Option (Int32 × Mm)) (l4 : Int32) (M : Mm) : Option (Int32 × Mm) :=
  (chk (iin (l4 + (1 : Int32)) L)
  (chk (iin (l4 + (2 : Int32)) L)
  (bn2 (f_W_nameByte (xs (ix (l4 + (1 : Int32)))) (xs (ix (l4 + (2 : Int32)))) M) fun r1773 M1773 =>
  (bn2 (f_M_nameByte (xs (ix (l4 + (1 : Int32)))) (xs (ix (l4 + (2 : Int32)))) M1773) fun r1791 M1791 =>
  (bn (f_M_thrown M1791) fun r1797 =>
  (if r1797 = r1773 then
    (if r1773 = 0 then
      (if (lg_cmp (rdJ M1791 148) r1791.toInt64) = 0 then
        (f_W_law_1824 L xs r23 l4 M1791)
      else
        (some ((0 : Int32), M1791))
      )
    else
      (f_W_law_1824 L xs r23 l4 M1791)
    )
  else
    (some ((0 : Int32), M1791))
  )
  )))))
noncomputable def f_W_law_1827 (L : Nat) (xs : Nat → Int32) (r23 : Int32 → Mm → Option (Int32 × Mm)) (l4 : Int32) (M : Mm) : Option (Int32 × Mm) :=
  (bn (f_C_findLeg M) fun r1828 =>
  (bn2 (f_M_findLeg M) fun r1832 M1832 =>
  (if r1828 = r1832 then
    (f_W_law_2537 L xs r23 l4 M1832)
  else
    (some ((0 : Int32), M1832))
  )
  ))
noncomputable def f_W_law_1893 (L : Nat) (xs : Nat → Int32) (r23 : Int32 → Mm → Option (Int32 × Mm)) (l4 : Int32) (M : Mm) : Option (Int32 × Mm) :=
  (f_W_law_2537 L xs r23 l4 M)
noncomputable def f_W_law_1840 (L : Nat) (xs : Nat → Int32) (r23 : Int32 → Mm → Option (Int32 × Mm)) (l4 : Int32) (M : Mm) : Option (Int32 × Mm) :=
  (chk (iin (l4 + (1 : Int32)) L)
  (bn2 (f_W_rawEast (xs (ix (l4 + (1 : Int32)))) M) fun r1848 M1848 =>
  (bn2 (f_M_rawEast (xs (ix (l4 + (1 : Int32)))) M1848) fun r1860 M1860 =>
  (bn (f_M_thrown M1860) fun r1866 =>
  (if r1866 = r1848 then
    (if r1848 = 0 then
      (if (lg_cmp (rdJ M1860 148) r1860.toInt64) = 0 then
        (f_W_law_1893 L xs r23 l4 M1860)
      else
        (some ((0 : Int32), M1860))
      )
    else
      (f_W_law_1893 L xs r23 l4 M1860)
    )
  else
    (some ((0 : Int32), M1860))
  )
  ))))
noncomputable def f_W_law_1949 (L : Nat) (xs : Nat → Int32) (r23 : Int32 → Mm → Option (Int32 × Mm)) (l4 : Int32) (M : Mm) : Option (Int32 × Mm) :=
  (f_W_law_2537 L xs r23 l4 M)
noncomputable def f_W_law_1896 (L : Nat) (xs : Nat → Int32) (r23 : Int32 → Mm → Option (Int32 × Mm)) (l4 : Int32) (M : Mm) : Option (Int32 × Mm) :=
  (chk (iin (l4 + (1 : Int32)) L)
  (bn2 (f_W_rawNorth (xs (ix (l4 + (1 : Int32)))) M) fun r1904 M1904 =>
  (bn2 (f_M_rawNorth (xs (ix (l4 + (1 : Int32)))) M1904) fun r1916 M1916 =>
  (bn (f_M_thrown M1916) fun r1922 =>
  (if r1922 = r1904 then
    (if r1904 = 0 then
      (if (lg_cmp (rdJ M1916 148) r1916.toInt64) = 0 then
        (f_W_law_1949 L xs r23 l4 M1916)
      else
        (some ((0 : Int32), M1916))
      )
    else
      (f_W_law_1949 L xs r23 l4 M1916)
    )
  else
    (some ((0 : Int32), M1916))
  )
  ))))
noncomputable def f_W_law_2005 (L : Nat) (xs : Nat → Int32) (r23 : Int32 → Mm → Option (Int32 × Mm)) (l4 : Int32) (M : Mm) : Option (Int32 × Mm) :=
  (f_W_law_2537 L xs r23 l4 M)
noncomputable def f_W_law_1952 (L : Nat) (xs : Nat → Int32) (r23 : Int32 → Mm → Option (Int32 × Mm)) (l4 : Int32) (M : Mm) : Option (Int32 × Mm) :=
  (chk (iin (l4 + (1 : Int32)) L)
  (bn2 (f_W_east (xs (ix (l4 + (1 : Int32)))) M) fun r1960 M1960 =>
  (bn2 (f_M_east (xs (ix (l4 + (1 : Int32)))) M1960) fun r1972 M1972 =>
  (bn (f_M_thrown M1972) fun r1978 =>
  (if r1978 = r1960 then
    (if r1960 = 0 then
      (if (lg_cmp (rdJ M1972 148) r1972.toInt64) = 0 then
        (f_W_law_2005 L xs r23 l4 M1972)
      else
        (some ((0 : Int32), M1972))
      )
    else
      (f_W_law_2005 L xs r23 l4 M1972)
    )
  else
    (some ((0 : Int32), M1972))
  )
  ))))
noncomputable def f_W_law_2061 (L : Nat) (xs : Nat → Int32) (r23 : Int32 → Mm → Option (Int32 × Mm)) (l4 : Int32) (M : Mm) : Option (Int32 × Mm) :=
  (f_W_law_2537 L xs r23 l4 M)
noncomputable def f_W_law_2008 (L : Nat) (xs : Nat → Int32) (r23 : Int32 → Mm → Option (Int32 × Mm)) (l4 : Int32) (M : Mm) : Option (Int32 × Mm) :=
  (chk (iin (l4 + (1 : Int32)) L)
  (bn2 (f_W_north (xs (ix (l4 + (1 : Int32)))) M) fun r2016 M2016 =>
  (bn2 (f_M_north (xs (ix (l4 + (1 : Int32)))) M2016) fun r2028 M2028 =>
  (bn (f_M_thrown M2028) fun r2034 =>
  (if r2034 = r2016 then
    (if r2016 = 0 then
      (if (lg_cmp (rdJ M2028 148) r2028.toInt64) = 0 then
        (f_W_law_2061 L xs r23 l4 M2028)
      else
        (some ((0 : Int32), M2028))
      )
    else
      (f_W_law_2061 L xs r23 l4 M2028)
    )
  else
    (some ((0 : Int32), M2028))
  )
  ))))
noncomputable def f_W_law_2117 (L : Nat) (xs : Nat → Int32) (r23 : Int32 → Mm → Option (Int32 × Mm)) (l4 : Int32) (M : Mm) : Option (Int32 × Mm) :=
  (f_W_law_2537 L xs r23 l4 M)
noncomputable def f_W_law_2064 (L : Nat) (xs : Nat → Int32) (r23 : Int32 → Mm → Option (Int32 × Mm)) (l4 : Int32) (M : Mm) : Option (Int32 × Mm) :=
  (chk (iin (l4 + (1 : Int32)) L)
  (bn2 (f_W_run (xs (ix (l4 + (1 : Int32)))) M) fun r2072 M2072 =>
  (bn2 (f_M_run (xs (ix (l4 + (1 : Int32)))) M2072) fun r2084 M2084 =>
  (bn (f_M_thrown M2084) fun r2090 =>
  (if r2090 = r2072 then
    (if r2072 = 0 then
      (if (lg_cmp (rdJ M2084 148) r2084.toInt64) = 0 then
        (f_W_law_2117 L xs r23 l4 M2084)
      else
        (some ((0 : Int32), M2084))
      )
    else
      (f_W_law_2117 L xs r23 l4 M2084)
    )
  else
    (some ((0 : Int32), M2084))
  )
  ))))
noncomputable def f_W_law_2173 (L : Nat) (xs : Nat → Int32) (r23 : Int32 → Mm → Option (Int32 × Mm)) (l4 : Int32) (M : Mm) : Option (Int32 × Mm) :=
  (f_W_law_2537 L xs r23 l4 M)
noncomputable def f_W_law_2120 (L : Nat) (xs : Nat → Int32) (r23 : Int32 → Mm → Option (Int32 × Mm)) (l4 : Int32) (M : Mm) : Option (Int32 × Mm) :=
  (chk (iin (l4 + (1 : Int32)) L)
  (bn2 (f_W_distanceFromStart (xs (ix (l4 + (1 : Int32)))) M) fun r2128 M2128 =>
  (bn2 (f_M_distanceFromStart (xs (ix (l4 + (1 : Int32)))) M2128) fun r2140 M2140 =>
  (bn (f_M_thrown M2140) fun r2146 =>
  (if r2146 = r2128 then
    (if r2128 = 0 then
      (if (lg_cmp (rdJ M2140 148) r2140.toInt64) = 0 then
        (f_W_law_2173 L xs r23 l4 M2140)
      else
        (some ((0 : Int32), M2140))
      )
    else
      (f_W_law_2173 L xs r23 l4 M2140)
    )
  else
    (some ((0 : Int32), M2140))
  )
  ))))
noncomputable def f_W_law_2176 (L : Nat) (xs : Nat → Int32) (r23 : Int32 → Mm → Option (Int32 × Mm)) (l4 : Int32) (M : Mm) : Option (Int32 × Mm) :=
  (bn2 (f_C_perimeter M) fun r2177 M2177 =>
  (bn2 (f_M_perimeter M2177) fun r2181 M2181 =>
  (if r2177 = r2181 then
    (f_W_law_2537 L xs r23 l4 M2181)
  else
    (some ((0 : Int32), M2181))
  )
  ))
noncomputable def f_W_law_2189 (L : Nat) (xs : Nat → Int32) (r23 : Int32 → Mm → Option (Int32 × Mm)) (l4 : Int32) (M : Mm) : Option (Int32 × Mm) :=
  (bn2 (f_C_closingEast M) fun r2190 M2190 =>
  (bn2 (f_M_closingEast M2190) fun r2194 M2194 =>
  (if r2190 = r2194 then
    (f_W_law_2537 L xs r23 l4 M2194)
  else
    (some ((0 : Int32), M2194))
  )
  ))
noncomputable def f_W_law_2202 (L : Nat) (xs : Nat → Int32) (r23 : Int32 → Mm → Option (Int32 × Mm)) (l4 : Int32) (M : Mm) : Option (Int32 × Mm) :=
  (bn2 (f_C_closingNorth M) fun r2203 M2203 =>
  (bn2 (f_M_closingNorth M2203) fun r2207 M2207 =>
  (if r2203 = r2207 then
    (f_W_law_2537 L xs r23 l4 M2207)
  else
    (some ((0 : Int32), M2207))
  )
  ))
noncomputable def f_W_law_2215 (L : Nat) (xs : Nat → Int32) (r23 : Int32 → Mm → Option (Int32 × Mm)) (l4 : Int32) (M : Mm) : Option (Int32 × Mm) :=
  (bn2 (f_C_misclosure M) fun r2216 M2216 =>
  (bn2 (f_M_misclosure M2216) fun r2220 M2220 =>
  (if r2216 = r2220 then
    (f_W_law_2537 L xs r23 l4 M2220)
  else
    (some ((0 : Int32), M2220))
  )
  ))
noncomputable def f_W_law_2228 (L : Nat) (xs : Nat → Int32) (r23 : Int32 → Mm → Option (Int32 × Mm)) (l4 : Int32) (M : Mm) : Option (Int32 × Mm) :=
  (bn2 (f_C_precision M) fun r2229 M2229 =>
  (bn2 (f_M_precision M2229) fun r2233 M2233 =>
  (if r2229 = r2233 then
    (f_W_law_2537 L xs r23 l4 M2233)
  else
    (some ((0 : Int32), M2233))
  )
  ))
noncomputable def f_W_law_2241 (L : Nat) (xs : Nat → Int32) (r23 : Int32 → Mm → Option (Int32 × Mm)) (l4 : Int32) (M : Mm) : Option (Int32 × Mm) :=
  (bn2 (f_C_width M) fun r2242 M2242 =>
  (bn2 (f_M_width M2242) fun r2246 M2246 =>
  (if r2242 = r2246 then
    (f_W_law_2537 L xs r23 l4 M2246)
  else
    (some ((0 : Int32), M2246))
  )
  ))
noncomputable def f_W_law_2254 (L : Nat) (xs : Nat → Int32) (r23 : Int32 → Mm → Option (Int32 × Mm)) (l4 : Int32) (M : Mm) : Option (Int32 × Mm) :=
  (bn2 (f_C_height M) fun r2255 M2255 =>
  (bn2 (f_M_height M2255) fun r2259 M2259 =>
  (if r2255 = r2259 then
    (f_W_law_2537 L xs r23 l4 M2259)
  else
    (some ((0 : Int32), M2259))
  )
  ))
noncomputable def f_W_law_2267 (L : Nat) (xs : Nat → Int32) (r23 : Int32 → Mm → Option (Int32 × Mm)) (l4 : Int32) (M : Mm) : Option (Int32 × Mm) :=
  (bn2 (f_C_farthestStation M) fun r2268 M2268 =>
  (bn2 (f_M_farthestStation M2268) fun r2272 M2272 =>
  (if r2268 = r2272 then
    (f_W_law_2537 L xs r23 l4 M2272)
  else
    (some ((0 : Int32), M2272))
  )
  ))
noncomputable def f_W_law_2280 (L : Nat) (xs : Nat → Int32) (r23 : Int32 → Mm → Option (Int32 × Mm)) (l4 : Int32) (M : Mm) : Option (Int32 × Mm) :=
  (bn (f_C_longestLeg M) fun r2281 =>
  (bn2 (f_M_longestLeg M) fun r2285 M2285 =>
  (if r2281 = r2285 then
    (f_W_law_2537 L xs r23 l4 M2285)
  else
    (some ((0 : Int32), M2285))
  )
  ))
noncomputable def f_W_law_2293 (L : Nat) (xs : Nat → Int32) (r23 : Int32 → Mm → Option (Int32 × Mm)) (l4 : Int32) (M : Mm) : Option (Int32 × Mm) :=
  (bn (f_C_bogLength M) fun r2294 =>
  (bn2 (f_M_bogLength M) fun r2298 M2298 =>
  (if r2294 = r2298 then
    (f_W_law_2537 L xs r23 l4 M2298)
  else
    (some ((0 : Int32), M2298))
  )
  ))
noncomputable def f_W_law_2306 (L : Nat) (xs : Nat → Int32) (r23 : Int32 → Mm → Option (Int32 × Mm)) (l4 : Int32) (M : Mm) : Option (Int32 × Mm) :=
  (bn2 (f_C_area M) fun r2307 M2307 =>
  (bn2 (f_M_area M2307) fun r2311 M2311 =>
  (if (lg_cmp r2307 r2311) = 0 then
    (f_W_law_2537 L xs r23 l4 M2311)
  else
    (some ((0 : Int32), M2311))
  )
  ))
noncomputable def f_W_law_2373 (L : Nat) (xs : Nat → Int32) (r23 : Int32 → Mm → Option (Int32 × Mm)) (l4 : Int32) (M : Mm) : Option (Int32 × Mm) :=
  (f_W_law_2537 L xs r23 l4 M)
noncomputable def f_W_law_2320 (L : Nat) (xs : Nat → Int32) (r23 : Int32 → Mm → Option (Int32 × Mm)) (l4 : Int32) (M : Mm) : Option (Int32 × Mm) :=
  (chk (iin (l4 + (1 : Int32)) L)
  (bn2 (f_W_misclosureIfDropped (xs (ix (l4 + (1 : Int32)))) M) fun r2328 M2328 =>
  (bn2 (f_M_misclosureIfDropped (xs (ix (l4 + (1 : Int32)))) M2328) fun r2340 M2340 =>
  (bn (f_M_thrown M2340) fun r2346 =>
  (if r2346 = r2328 then
    (if r2328 = 0 then
      (if (lg_cmp (rdJ M2340 148) r2340.toInt64) = 0 then
        (f_W_law_2373 L xs r23 l4 M2340)
      else
        (some ((0 : Int32), M2340))
      )
    else
      (f_W_law_2373 L xs r23 l4 M2340)
    )
  else
    (some ((0 : Int32), M2340))
  )
  ))))
noncomputable def f_W_law_2376 (L : Nat) (xs : Nat → Int32) (r23 : Int32 → Mm → Option (Int32 × Mm)) (l4 : Int32) (M : Mm) : Option (Int32 × Mm) :=
  (bn2 (f_C_suspectLeg M) fun r2377 M2377 =>
  (bn2 (f_M_suspectLeg M2377) fun r2381 M2381 =>
  (if r2377 = r2381 then
    (f_W_law_2537 L xs r23 l4 M2381)
  else
    (some ((0 : Int32), M2381))
  )
  ))
noncomputable def f_W_law_2389 (L : Nat) (xs : Nat → Int32) (r23 : Int32 → Mm → Option (Int32 × Mm)) (l4 : Int32) (M : Mm) : Option (Int32 × Mm) :=
  (bn (f_C_bestPace M) fun r2390 =>
  (bn2 (f_M_bestPace M) fun r2394 M2394 =>
  (if r2390 = r2394 then
    (f_W_law_2537 L xs r23 l4 M2394)
  else
    (some ((0 : Int32), M2394))
  )
  ))
noncomputable def f_W_law_2402 (L : Nat) (xs : Nat → Int32) (r23 : Int32 → Mm → Option (Int32 × Mm)) (l4 : Int32) (M : Mm) : Option (Int32 × Mm) :=
  (bn2 (f_C_inconsistencies M) fun r2403 M2403 =>
  (bn2 (f_M_inconsistencies M2403) fun r2407 M2407 =>
  (if r2403 = r2407 then
    (f_W_law_2537 L xs r23 l4 M2407)
  else
    (some ((0 : Int32), M2407))
  )
  ))
noncomputable def f_W_law_2451 (L : Nat) (xs : Nat → Int32) (M : Mm) : Option (Int32 × Mm) :=
  (some ((0 : Int32), M))
noncomputable def f_W_law_2453 (L : Nat) (xs : Nat → Int32) (r23 : Int32 → Mm → Option (Int32 × Mm)) (l4 : Int32) (M : Mm) : Option (Int32 × Mm) :=
  (f_W_law_2537 L xs r23 l4 M)
noncomputable def f_W_law_2415 (L : Nat) (xs : Nat → Int32) (r23 : Int32 → Mm → Option (Int32 × Mm)) (l4 : Int32) (M : Mm) : Option (Int32 × Mm) :=
  (bn2 (f_C_meanLeg M) fun r2416 M2416 =>
  (bn2 (f_M_meanLeg M2416) fun r2422 M2422 =>
  (if (Op.cmpValue (FP.dcmp r2416 r2422) .l) = 0 then
    (f_W_law_2453 L xs r23 l4 M2422)
  else
    (if (Op.cmpValue (FP.dcmp r2416 r2416) .l) = 0 then
      (f_W_law_2451 L xs M2422)
    else
      (if (Op.cmpValue (FP.dcmp r2422 r2422) .l) = 0 then
        (f_W_law_2451 L xs M2422)
      else
        (f_W_law_2453 L xs r23 l4 M2422)
      )
    )
  )
  ))
noncomputable def f_W_law_2494 (L : Nat) (xs : Nat → Int32) (M : Mm) : Option (Int32 × Mm) :=
  (some ((0 : Int32), M))
noncomputable def f_W_law_2496 (L : Nat) (xs : Nat → Int32) (r23 : Int32 → Mm → Option (Int32 × Mm)) (l4 : Int32) (M : Mm) : Option (Int32 × Mm) :=
  (f_W_law_2537 L xs r23 l4 M)
noncomputable def f_W_law_2456 (L : Nat) (xs : Nat → Int32) (r23 : Int32 → Mm → Option (Int32 × Mm)) (l4 : Int32) (M : Mm) : Option (Int32 × Mm) :=
  (bn2 (f_C_bogShare M) fun r2457 M2457 =>
  (chkC (vf_n64 (FP.f2d r2457))
  (bn2 (f_M_bogShare M2457) fun r2464 M2464 =>
  (chkC (vf_n64 (FP.f2d r2464))
  (if (Op.cmpValue (FP.dcmp (FP.f2d r2457) (FP.f2d r2464)) .l) = 0 then
    (f_W_law_2496 L xs r23 l4 M2464)
  else
    (if (Op.cmpValue (FP.dcmp (FP.f2d r2457) (FP.f2d r2457)) .l) = 0 then
      (f_W_law_2494 L xs M2464)
    else
      (if (Op.cmpValue (FP.dcmp (FP.f2d r2464) (FP.f2d r2464)) .l) = 0 then
        (f_W_law_2494 L xs M2464)
      else
        (f_W_law_2496 L xs r23 l4 M2464)
      )
    )
  )
  ))))
noncomputable def f_W_law_2499 (L : Nat) (xs : Nat → Int32) (r23 : Int32 → Mm → Option (Int32 × Mm)) (l4 : Int32) (M : Mm) : Option (Int32 × Mm) :=
  (bn2 (f_C_writeStations M) fun r2500 M2500 =>
  (bn2 (f_M_writeStations M2500) fun r2504 M2504 =>
  (if r2500 = r2504 then
    (f_W_law_2537 L xs r23 l4 M2504)
  else
    (some ((0 : Int32), M2504))
  )
  ))
noncomputable def f_W_law_2512 (L : Nat) (xs : Nat → Int32) (r23 : Int32 → Mm → Option (Int32 × Mm)) (l4 : Int32) (M : Mm) : Option (Int32 × Mm) :=
  (chk (iin (l4 + (1 : Int32)) L)
  (bn (f_C_outputByte M (xs (ix (l4 + (1 : Int32))))) fun r2519 =>
  (bn2 (f_M_outputByte (xs (ix (l4 + (1 : Int32)))) M) fun r2529 M2529 =>
  (if r2519 = r2529 then
    (f_W_law_2537 L xs r23 l4 M2529)
  else
    (some ((0 : Int32), M2529))
  )
  )))
noncomputable def f_W_law_296 (L : Nat) (xs : Nat → Int32) (r23 : Int32 → Mm → Option (Int32 × Mm)) (l4 : Int32) (M : Mm) : Option (Int32 × Mm) :=
  (chk (iin (l4 + (1 : Int32)) L)
  (chk (iin (l4 + (2 : Int32)) L)
  (chk (iin (l4 + (3 : Int32)) L)
  (chk (iin (l4 + (4 : Int32)) L)
  (chk (iin (l4 + (5 : Int32)) L)
  (bn2 (f_C_append (xs (ix (l4 + (1 : Int32)))) (xs (ix (l4 + (2 : Int32)))) (xs (ix (l4 + (3 : Int32)))) (xs (ix (l4 + (4 : Int32)))) (xs (ix (l4 + (5 : Int32)))) M) fun r327 M327 =>
  (bn2 (f_M_append (xs (ix (l4 + (1 : Int32)))) (xs (ix (l4 + (2 : Int32)))) (xs (ix (l4 + (3 : Int32)))) (xs (ix (l4 + (4 : Int32)))) (xs (ix (l4 + (5 : Int32)))) M327) fun r361 M361 =>
  (if r327 = r361 then
    (f_W_law_2537 L xs r23 l4 M361)
  else
    (some ((0 : Int32), M361))
  )
  )))))))
noncomputable def f_W_law_422 (L : Nat) (xs : Nat → Int32) (r23 : Int32 → Mm → Option (Int32 × Mm)) (l4 : Int32) (M : Mm) : Option (Int32 × Mm) :=
  (f_W_law_2537 L xs r23 l4 M)
noncomputable def f_W_law_369 (L : Nat) (xs : Nat → Int32) (r23 : Int32 → Mm → Option (Int32 × Mm)) (l4 : Int32) (M : Mm) : Option (Int32 × Mm) :=
  (chk (iin (l4 + (1 : Int32)) L)
  (bn2 (f_W_truncateInput (xs (ix (l4 + (1 : Int32)))) M) fun r377 M377 =>
  (bn2 (f_M_truncateInput (xs (ix (l4 + (1 : Int32)))) M377) fun r389 M389 =>
  (bn (f_M_thrown M389) fun r395 =>
  (if r395 = r377 then
    (if r377 = 0 then
      (if (lg_cmp (rdJ M389 148) r389.toInt64) = 0 then
        (f_W_law_422 L xs r23 l4 M389)
      else
        (some ((0 : Int32), M389))
      )
    else
      (f_W_law_422 L xs r23 l4 M389)
    )
  else
    (some ((0 : Int32), M389))
  )
  ))))
noncomputable def f_W_law_425 (L : Nat) (xs : Nat → Int32) (r23 : Int32 → Mm → Option (Int32 × Mm)) (l4 : Int32) (M : Mm) : Option (Int32 × Mm) :=
  (bn2 (f_C_load M) fun r426 M426 =>
  (bn2 (f_M_load M426) fun r430 M430 =>
  (if r426 = r430 then
    (f_W_law_2537 L xs r23 l4 M430)
  else
    (some ((0 : Int32), M430))
  )
  ))
noncomputable def f_W_law_438 (L : Nat) (xs : Nat → Int32) (r23 : Int32 → Mm → Option (Int32 × Mm)) (l4 : Int32) (M : Mm) : Option (Int32 × Mm) :=
  (bn2 (f_C_play M) fun r439 M439 =>
  (bn2 (f_M_play M439) fun r443 M443 =>
  (if r439 = r443 then
    (f_W_law_2537 L xs r23 l4 M443)
  else
    (some ((0 : Int32), M443))
  )
  ))
noncomputable def f_W_law_451 (L : Nat) (xs : Nat → Int32) (r23 : Int32 → Mm → Option (Int32 × Mm)) (l4 : Int32) (M : Mm) : Option (Int32 × Mm) :=
  (bn (f_C_errorCode M) fun r452 =>
  (bn2 (f_M_errorCode M) fun r456 M456 =>
  (if r452 = r456 then
    (f_W_law_2537 L xs r23 l4 M456)
  else
    (some ((0 : Int32), M456))
  )
  ))
noncomputable def f_W_law_464 (L : Nat) (xs : Nat → Int32) (r23 : Int32 → Mm → Option (Int32 × Mm)) (l4 : Int32) (M : Mm) : Option (Int32 × Mm) :=
  (bn (f_C_errorOffset M) fun r465 =>
  (bn2 (f_M_errorOffset M) fun r469 M469 =>
  (if r465 = r469 then
    (f_W_law_2537 L xs r23 l4 M469)
  else
    (some ((0 : Int32), M469))
  )
  ))
noncomputable def f_W_law_578 (L : Nat) (xs : Nat → Int32) (r23 : Int32 → Mm → Option (Int32 × Mm)) (l4 : Int32) (M : Mm) : Option (Int32 × Mm) :=
  (f_W_law_2537 L xs r23 l4 M)
noncomputable def f_W_law_477 (L : Nat) (xs : Nat → Int32) (r23 : Int32 → Mm → Option (Int32 × Mm)) (l4 : Int32) (M : Mm) : Option (Int32 × Mm) :=
  (chk (iin (l4 + (1 : Int32)) L)
  (chk (iin (l4 + (2 : Int32)) L)
  (chk (iin (l4 + (3 : Int32)) L)
  (chk (iin (l4 + (4 : Int32)) L)
  (chk (iin (l4 + (5 : Int32)) L)
  (bn2 (f_W_addLeg (xs (ix (l4 + (1 : Int32)))) (xs (ix (l4 + (2 : Int32)))) (xs (ix (l4 + (3 : Int32)))) (xs (ix (l4 + (4 : Int32)))) (xs (ix (l4 + (5 : Int32)))) M) fun r509 M509 =>
  (bn2 (f_M_addLeg (xs (ix (l4 + (1 : Int32)))) (xs (ix (l4 + (2 : Int32)))) (xs (ix (l4 + (3 : Int32)))) (xs (ix (l4 + (4 : Int32)))) (xs (ix (l4 + (5 : Int32)))) M509) fun r545 M545 =>
  (bn (f_M_thrown M545) fun r551 =>
  (if r551 = r509 then
    (if r509 = 0 then
      (if (lg_cmp (rdJ M545 148) r545.toInt64) = 0 then
        (f_W_law_578 L xs r23 l4 M545)
      else
        (some ((0 : Int32), M545))
      )
    else
      (f_W_law_578 L xs r23 l4 M545)
    )
  else
    (some ((0 : Int32), M545))
  )
  ))))))))
noncomputable def f_W_law_646 (L : Nat) (xs : Nat → Int32) (r23 : Int32 → Mm → Option (Int32 × Mm)) (l4 : Int32) (M : Mm) : Option (Int32 × Mm) :=
  (f_W_law_2537 L xs r23 l4 M)
noncomputable def f_W_law_581 (L : Nat) (xs : Nat → Int32) (r23 : Int32 → Mm → Option (Int32 × Mm)) (l4 : Int32) (M : Mm) : Option (Int32 × Mm) :=
  (chk (iin (l4 + (1 : Int32)) L)
  (chk (iin (l4 + (2 : Int32)) L)
  (bn2 (f_W_addBog (xs (ix (l4 + (1 : Int32)))) (xs (ix (l4 + (2 : Int32)))) M) fun r595 M595 =>
  (bn2 (f_M_addBog (xs (ix (l4 + (1 : Int32)))) (xs (ix (l4 + (2 : Int32)))) M595) fun r613 M613 =>
  (bn (f_M_thrown M613) fun r619 =>
  (if r619 = r595 then
    (if r595 = 0 then
      (if (lg_cmp (rdJ M613 148) r613.toInt64) = 0 then
        (f_W_law_646 L xs r23 l4 M613)
      else
        (some ((0 : Int32), M613))
      )
    else
      (f_W_law_646 L xs r23 l4 M613)
    )
  else
    (some ((0 : Int32), M613))
  )
  )))))
noncomputable def f_W_law_702 (L : Nat) (xs : Nat → Int32) (r23 : Int32 → Mm → Option (Int32 × Mm)) (l4 : Int32) (M : Mm) : Option (Int32 × Mm) :=
  (f_W_law_2537 L xs r23 l4 M)
noncomputable def f_W_law_649 (L : Nat) (xs : Nat → Int32) (r23 : Int32 → Mm → Option (Int32 × Mm)) (l4 : Int32) (M : Mm) : Option (Int32 × Mm) :=
  (chk (iin (l4 + (1 : Int32)) L)
  (bn2 (f_W_dropPin (xs (ix (l4 + (1 : Int32)))) M) fun r657 M657 =>
  (bn2 (f_M_dropPin (xs (ix (l4 + (1 : Int32)))) M657) fun r669 M669 =>
  (bn (f_M_thrown M669) fun r675 =>
  (if r675 = r657 then
    (if r657 = 0 then
      (if (lg_cmp (rdJ M669 148) r669.toInt64) = 0 then
        (f_W_law_702 L xs r23 l4 M669)
      else
        (some ((0 : Int32), M669))
      )
    else
      (f_W_law_702 L xs r23 l4 M669)
    )
  else
    (some ((0 : Int32), M669))
  )
  ))))
noncomputable def f_W_law_758 (L : Nat) (xs : Nat → Int32) (r23 : Int32 → Mm → Option (Int32 × Mm)) (l4 : Int32) (M : Mm) : Option (Int32 × Mm) :=
  (f_W_law_2537 L xs r23 l4 M)
noncomputable def f_W_law_705 (L : Nat) (xs : Nat → Int32) (r23 : Int32 → Mm → Option (Int32 × Mm)) (l4 : Int32) (M : Mm) : Option (Int32 × Mm) :=
  (chk (iin (l4 + (1 : Int32)) L)
  (bn2 (f_W_findPin (xs (ix (l4 + (1 : Int32)))) M) fun r713 M713 =>
  (bn2 (f_M_findPin (xs (ix (l4 + (1 : Int32)))) M713) fun r725 M725 =>
  (bn (f_M_thrown M725) fun r731 =>
  (if r731 = r713 then
    (if r713 = 0 then
      (if (lg_cmp (rdJ M725 148) r725.toInt64) = 0 then
        (f_W_law_758 L xs r23 l4 M725)
      else
        (some ((0 : Int32), M725))
      )
    else
      (f_W_law_758 L xs r23 l4 M725)
    )
  else
    (some ((0 : Int32), M725))
  )
  ))))
noncomputable def f_W_law_802 (L : Nat) (xs : Nat → Int32) (r23 : Int32 → Mm → Option (Int32 × Mm)) (l4 : Int32) (M : Mm) : Option (Int32 × Mm) :=
  (f_W_law_2537 L xs r23 l4 M)
noncomputable def f_W_law_761 (L : Nat) (xs : Nat → Int32) (r23 : Int32 → Mm → Option (Int32 × Mm)) (l4 : Int32) (M : Mm) : Option (Int32 × Mm) :=
  (bn2 (f_W_removeLast M) fun r763 M763 =>
  (bn2 (f_M_removeLast M763) fun r769 M769 =>
  (bn (f_M_thrown M769) fun r775 =>
  (if r775 = r763 then
    (if r763 = 0 then
      (if (lg_cmp (rdJ M769 148) r769.toInt64) = 0 then
        (f_W_law_802 L xs r23 l4 M769)
      else
        (some ((0 : Int32), M769))
      )
    else
      (f_W_law_802 L xs r23 l4 M769)
    )
  else
    (some ((0 : Int32), M769))
  )
  )))
noncomputable def f_W_law_858 (L : Nat) (xs : Nat → Int32) (r23 : Int32 → Mm → Option (Int32 × Mm)) (l4 : Int32) (M : Mm) : Option (Int32 × Mm) :=
  (f_W_law_2537 L xs r23 l4 M)
noncomputable def f_W_law_805 (L : Nat) (xs : Nat → Int32) (r23 : Int32 → Mm → Option (Int32 × Mm)) (l4 : Int32) (M : Mm) : Option (Int32 × Mm) :=
  (chk (iin (l4 + (1 : Int32)) L)
  (bn2 (f_W_setWear (xs (ix (l4 + (1 : Int32)))) M) fun r813 M813 =>
  (bn2 (f_M_setWear (xs (ix (l4 + (1 : Int32)))) M813) fun r825 M825 =>
  (bn (f_M_thrown M825) fun r831 =>
  (if r831 = r813 then
    (if r813 = 0 then
      (if (lg_cmp (rdJ M825 148) r825.toInt64) = 0 then
        (f_W_law_858 L xs r23 l4 M825)
      else
        (some ((0 : Int32), M825))
      )
    else
      (f_W_law_858 L xs r23 l4 M825)
    )
  else
    (some ((0 : Int32), M825))
  )
  ))))
noncomputable def f_W_law_914 (L : Nat) (xs : Nat → Int32) (r23 : Int32 → Mm → Option (Int32 × Mm)) (l4 : Int32) (M : Mm) : Option (Int32 × Mm) :=
  (f_W_law_2537 L xs r23 l4 M)
noncomputable def f_W_law_861 (L : Nat) (xs : Nat → Int32) (r23 : Int32 → Mm → Option (Int32 × Mm)) (l4 : Int32) (M : Mm) : Option (Int32 × Mm) :=
  (chk (iin (l4 + (1 : Int32)) L)
  (bn2 (f_W_setPace (xs (ix (l4 + (1 : Int32)))) M) fun r869 M869 =>
  (bn2 (f_M_setPace (xs (ix (l4 + (1 : Int32)))) M869) fun r881 M881 =>
  (bn (f_M_thrown M881) fun r887 =>
  (if r887 = r869 then
    (if r869 = 0 then
      (if (lg_cmp (rdJ M881 148) r881.toInt64) = 0 then
        (f_W_law_914 L xs r23 l4 M881)
      else
        (some ((0 : Int32), M881))
      )
    else
      (f_W_law_914 L xs r23 l4 M881)
    )
  else
    (some ((0 : Int32), M881))
  )
  ))))
noncomputable def f_W_law_950 (L : Nat) (xs : Nat → Int32) (r23 : Int32 → Mm → Option (Int32 × Mm)) (l4 : Int32) (t0 : Int32) (t2 : Int32) (M : Mm) : Option (Int32 × Mm) :=
  (bn2 (f_M_setAdjusted t2 M) fun r950 M950 =>
  (if t0 = r950 then
    (f_W_law_2537 L xs r23 l4 M950)
  else
    (some ((0 : Int32), M950))
  )
  )
noncomputable def f_W_law_932 (L : Nat) (xs : Nat → Int32) (r23 : Int32 → Mm → Option (Int32 × Mm)) (l4 : Int32) (t1 : Int32) (M : Mm) : Option (Int32 × Mm) :=
  (bn2 (f_C_setAdjusted t1 M) fun r932 M932 =>
  (chk (iin (l4 + (1 : Int32)) L)
  (if (xs (ix (l4 + (1 : Int32)))) = 0 then
    (f_W_law_950 L xs r23 l4 r932 (0 : Int32) M932)
  else
    (f_W_law_950 L xs r23 l4 r932 (1 : Int32) M932)
  )
  ))
noncomputable def f_W_law_917 (L : Nat) (xs : Nat → Int32) (r23 : Int32 → Mm → Option (Int32 × Mm)) (l4 : Int32) (M : Mm) : Option (Int32 × Mm) :=
  (chk (iin (l4 + (1 : Int32)) L)
  (if (xs (ix (l4 + (1 : Int32)))) = 0 then
    (f_W_law_932 L xs r23 l4 (0 : Int32) M)
  else
    (f_W_law_932 L xs r23 l4 (1 : Int32) M)
  )
  )
noncomputable def f_W_law_999 (L : Nat) (xs : Nat → Int32) (r23 : Int32 → Mm → Option (Int32 × Mm)) (l4 : Int32) (M : Mm) : Option (Int32 × Mm) :=
  (f_W_law_2537 L xs r23 l4 M)
noncomputable def f_W_law_958 (L : Nat) (xs : Nat → Int32) (r23 : Int32 → Mm → Option (Int32 × Mm)) (l4 : Int32) (M : Mm) : Option (Int32 × Mm) :=
  (bn2 (f_W_undo M) fun r960 M960 =>
  (bn2 (f_M_undo M960) fun r966 M966 =>
  (bn (f_M_thrown M966) fun r972 =>
  (if r972 = r960 then
    (if r960 = 0 then
      (if (lg_cmp (rdJ M966 148) r966.toInt64) = 0 then
        (f_W_law_999 L xs r23 l4 M966)
      else
        (some ((0 : Int32), M966))
      )
    else
      (f_W_law_999 L xs r23 l4 M966)
    )
  else
    (some ((0 : Int32), M966))
  )
  )))
noncomputable def f_W_law_23 (L : Nat) (xs : Nat → Int32) : Nat → Int32 → Mm → Option (Int32 × Mm)
  | 0, _, _ => none
  | n + 1, l4, M =>
    (if ((Int32.ofNat L) - (6 : Int32)) < l4 then
      (some ((1 : Int32), M))
    else
      (chk (iin l4 L)
      (if ((xs (ix l4)) &&& (63 : Int32)).toInt < 0 ∨ 59 < ((xs (ix l4)) &&& (63 : Int32)).toInt then (f_W_law_2537 L xs (f_W_law_23 L xs n) l4 M) else
      (if ((xs (ix l4)) &&& (63 : Int32)) = 0 then (f_W_law_296 L xs (f_W_law_23 L xs n) l4 M) else
      (if ((xs (ix l4)) &&& (63 : Int32)) = 1 then (f_W_law_369 L xs (f_W_law_23 L xs n) l4 M) else
      (if ((xs (ix l4)) &&& (63 : Int32)) = 2 then (f_W_law_425 L xs (f_W_law_23 L xs n) l4 M) else
      (if ((xs (ix l4)) &&& (63 : Int32)) = 3 then (f_W_law_438 L xs (f_W_law_23 L xs n) l4 M) else
      (if ((xs (ix l4)) &&& (63 : Int32)) = 4 then (f_W_law_451 L xs (f_W_law_23 L xs n) l4 M) else
      (if ((xs (ix l4)) &&& (63 : Int32)) = 5 then (f_W_law_464 L xs (f_W_law_23 L xs n) l4 M) else
      (if ((xs (ix l4)) &&& (63 : Int32)) = 6 then (f_W_law_477 L xs (f_W_law_23 L xs n) l4 M) else
      (if ((xs (ix l4)) &&& (63 : Int32)) = 7 then (f_W_law_581 L xs (f_W_law_23 L xs n) l4 M) else
      (if ((xs (ix l4)) &&& (63 : Int32)) = 8 then (f_W_law_649 L xs (f_W_law_23 L xs n) l4 M) else
      (if ((xs (ix l4)) &&& (63 : Int32)) = 9 then (f_W_law_705 L xs (f_W_law_23 L xs n) l4 M) else
      (if ((xs (ix l4)) &&& (63 : Int32)) = 10 then (f_W_law_761 L xs (f_W_law_23 L xs n) l4 M) else
      (if ((xs (ix l4)) &&& (63 : Int32)) = 11 then (f_W_law_805 L xs (f_W_law_23 L xs n) l4 M) else
      (if ((xs (ix l4)) &&& (63 : Int32)) = 12 then (f_W_law_861 L xs (f_W_law_23 L xs n) l4 M) else
      (if ((xs (ix l4)) &&& (63 : Int32)) = 13 then (f_W_law_917 L xs (f_W_law_23 L xs n) l4 M) else
      (if ((xs (ix l4)) &&& (63 : Int32)) = 14 then (f_W_law_958 L xs (f_W_law_23 L xs n) l4 M) else
      (if ((xs (ix l4)) &&& (63 : Int32)) = 15 then (f_W_law_1002 L xs (f_W_law_23 L xs n) l4 M) else
      (if ((xs (ix l4)) &&& (63 : Int32)) = 16 then (f_W_law_1058 L xs (f_W_law_23 L xs n) l4 M) else
      (if ((xs (ix l4)) &&& (63 : Int32)) = 17 then (f_W_law_1114 L xs (f_W_law_23 L xs n) l4 M) else
      (if ((xs (ix l4)) &&& (63 : Int32)) = 18 then (f_W_law_1127 L xs (f_W_law_23 L xs n) l4 M) else
      (if ((xs (ix l4)) &&& (63 : Int32)) = 19 then (f_W_law_1140 L xs (f_W_law_23 L xs n) l4 M) else
      (if ((xs (ix l4)) &&& (63 : Int32)) = 20 then (f_W_law_1153 L xs (f_W_law_23 L xs n) l4 M) else
      (if ((xs (ix l4)) &&& (63 : Int32)) = 21 then (f_W_law_1166 L xs (f_W_law_23 L xs n) l4 M) else
      (if ((xs (ix l4)) &&& (63 : Int32)) = 22 then (f_W_law_1179 L xs (f_W_law_23 L xs n) l4 M) else
      (if ((xs (ix l4)) &&& (63 : Int32)) = 23 then (f_W_law_1192 L xs (f_W_law_23 L xs n) l4 M) else
      (if ((xs (ix l4)) &&& (63 : Int32)) = 24 then (f_W_law_1248 L xs (f_W_law_23 L xs n) l4 M) else
      (if ((xs (ix l4)) &&& (63 : Int32)) = 25 then (f_W_law_1304 L xs (f_W_law_23 L xs n) l4 M) else
      (if ((xs (ix l4)) &&& (63 : Int32)) = 26 then (f_W_law_1360 L xs (f_W_law_23 L xs n) l4 M) else
      (if ((xs (ix l4)) &&& (63 : Int32)) = 27 then (f_W_law_1416 L xs (f_W_law_23 L xs n) l4 M) else
      (if ((xs (ix l4)) &&& (63 : Int32)) = 28 then (f_W_law_1472 L xs (f_W_law_23 L xs n) l4 M) else
      (if ((xs (ix l4)) &&& (63 : Int32)) = 29 then (f_W_law_1528 L xs (f_W_law_23 L xs n) l4 M) else
      (if ((xs (ix l4)) &&& (63 : Int32)) = 30 then (f_W_law_1584 L xs (f_W_law_23 L xs n) l4 M) else
      (if ((xs (ix l4)) &&& (63 : Int32)) = 31 then (f_W_law_1640 L xs (f_W_law_23 L xs n) l4 M) else
      (if ((xs (ix l4)) &&& (63 : Int32)) = 32 then (f_W_law_1696 L xs (f_W_law_23 L xs n) l4 M) else
      (if ((xs (ix l4)) &&& (63 : Int32)) = 33 then (f_W_law_1759 L xs (f_W_law_23 L xs n) l4 M) else
      (if ((xs (ix l4)) &&& (63 : Int32)) = 34 then (f_W_law_1827 L xs (f_W_law_23 L xs n) l4 M) else
      (if ((xs (ix l4)) &&& (63 : Int32)) = 35 then (f_W_law_1840 L xs (f_W_law_23 L xs n) l4 M) else
      (if ((xs (ix l4)) &&& (63 : Int32)) = 36 then (f_W_law_1896 L xs (f_W_law_23 L xs n) l4 M) else
      (if ((xs (ix l4)) &&& (63 : Int32)) = 37 then (f_W_law_1952 L xs (f_W_law_23 L xs n) l4 M) else
      (if ((xs (ix l4)) &&& (63 : Int32)) = 38 then (f_W_law_2008 L xs (f_W_law_23 L xs n) l4 M) else
      (if ((xs (ix l4)) &&& (63 : Int32)) = 39 then (f_W_law_2064 L xs (f_W_law_23 L xs n) l4 M) else
      (if ((xs (ix l4)) &&& (63 : Int32)) = 40 then (f_W_law_2120 L xs (f_W_law_23 L xs n) l4 M) else
      (if ((xs (ix l4)) &&& (63 : Int32)) = 41 then (f_W_law_2176 L xs (f_W_law_23 L xs n) l4 M) else
      (if ((xs (ix l4)) &&& (63 : Int32)) = 42 then (f_W_law_2189 L xs (f_W_law_23 L xs n) l4 M) else
      (if ((xs (ix l4)) &&& (63 : Int32)) = 43 then (f_W_law_2202 L xs (f_W_law_23 L xs n) l4 M) else
      (if ((xs (ix l4)) &&& (63 : Int32)) = 44 then (f_W_law_2215 L xs (f_W_law_23 L xs n) l4 M) else
      (if ((xs (ix l4)) &&& (63 : Int32)) = 45 then (f_W_law_2228 L xs (f_W_law_23 L xs n) l4 M) else
      (if ((xs (ix l4)) &&& (63 : Int32)) = 46 then (f_W_law_2241 L xs (f_W_law_23 L xs n) l4 M) else
      (if ((xs (ix l4)) &&& (63 : Int32)) = 47 then (f_W_law_2254 L xs (f_W_law_23 L xs n) l4 M) else
      (if ((xs (ix l4)) &&& (63 : Int32)) = 48 then (f_W_law_2267 L xs (f_W_law_23 L xs n) l4 M) else
      (if ((xs (ix l4)) &&& (63 : Int32)) = 49 then (f_W_law_2280 L xs (f_W_law_23 L xs n) l4 M) else
      (if ((xs (ix l4)) &&& (63 : Int32)) = 50 then (f_W_law_2293 L xs (f_W_law_23 L xs n) l4 M) else
      (if ((xs (ix l4)) &&& (63 : Int32)) = 51 then (f_W_law_2306 L xs (f_W_law_23 L xs n) l4 M) else
      (if ((xs (ix l4)) &&& (63 : Int32)) = 52 then (f_W_law_2320 L xs (f_W_law_23 L xs n) l4 M) else
      (if ((xs (ix l4)) &&& (63 : Int32)) = 53 then (f_W_law_2376 L xs (f_W_law_23 L xs n) l4 M) else
      (if ((xs (ix l4)) &&& (63 : Int32)) = 54 then (f_W_law_2389 L xs (f_W_law_23 L xs n) l4 M) else
      (if ((xs (ix l4)) &&& (63 : Int32)) = 55 then (f_W_law_2402 L xs (f_W_law_23 L xs n) l4 M) else
      (if ((xs (ix l4)) &&& (63 : Int32)) = 56 then (f_W_law_2415 L xs (f_W_law_23 L xs n) l4 M) else
      (if ((xs (ix l4)) &&& (63 : Int32)) = 57 then (f_W_law_2456 L xs (f_W_law_23 L xs n) l4 M) else
      (if ((xs (ix l4)) &&& (63 : Int32)) = 58 then (f_W_law_2499 L xs (f_W_law_23 L xs n) l4 M) else
      (if ((xs (ix l4)) &&& (63 : Int32)) = 59 then (f_W_law_2512 L xs (f_W_law_23 L xs n) l4 M) else
      none)))))))))))))))))))))))))))))))))))))))))))))))))))))))))))))
      )
    )
noncomputable def f_W_law (L : Nat) (xs : Nat → Int32) (M : Mm) : Option (Int32 × Mm) :=
  (bm (zr M 0) fun M0 =>
  (bn (f_C_init M0) fun M4 =>
  (bm (zr M4 134) fun M8 =>
  (bn (f_M_init M8) fun M12 =>
  (bm (zr M12 148) fun M17 =>
  (f_W_law_23 L xs fl (0 : Int32) M17)
  )))))
