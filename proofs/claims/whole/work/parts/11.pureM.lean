def pX10_thrown (u_refusal : Int32) : Option (Int32) :=
  some u_refusal
def pX10_refused (u_refusal : Int32) (p0 : Int32) : Option (Int32 × Int32) :=
  if p0 ≤ 0 then
    some (0, p0)
  else
    some (1, p0)
def pX10_in (p0 : Int64) (p1 : Int64) (p2 : Int64) : Option (Int32) :=
  if (lg_cmp p0 p1) < 0 then
    some 0
  else
    if 0 < (lg_cmp p0 p2) then
      some 0
    else
      some 1
def pX10_copy_L3 (n0 : Nat) (n2 : Nat) (u0 : Nat → Int32) (p1 : Int32) (p3 : Int32) (p4 : Int32) (i1 : Int32) (w2 : Nat → Int32) : Option ((Int32 × (Nat → Int32)) ⊕ ((Nat → Int32))) :=
  if p4 ≤ i1 then
    some (.inr w2)
  else
    bd1 (gI n0 u0 (p1 + i1)) (fun v10 =>
      bd1 (sI n2 w2 (p3 + i1) v10) (fun w12 =>
        some (.inl ((i1 + 1), w12))))
def pX10_copy (n0 : Nat) (n2 : Nat) (u0 : Nat → Int32) (u2 : Nat → Int32) (p1 : Int32) (p3 : Int32) (p4 : Int32) : Option ((Nat → Int32)) :=
  bd1 (lpI lpF (un2 (pX10_copy_L3 n0 n2 u0 p1 p3 p4)) (0, u2)) (fun w3 =>
    some w3)
def pX10_tenTo_L4 (p0 : Int32) (i1 : Int32) (i2 : Int64) : Option ((Int32 × Int64) ⊕ (Int64)) :=
  if p0 ≤ i1 then
    some (.inr i2)
  else
    some (.inl ((i1 + 1), (i2 * 10)))
def pX10_tenTo (p0 : Int32) : Option (Int64) :=
  bd1 (lpI lpF (un2 (pX10_tenTo_L4 p0)) (0, 1)) (fun x3 =>
    some x3)
def pX10_copy_s_L3 (n0 : Nat) (p1 : Int32) (p3 : Int32) (p4 : Int32) (i1 : Int32) (w2 : Nat → Int32) : Option ((Int32 × (Nat → Int32)) ⊕ ((Nat → Int32))) :=
  if p4 ≤ i1 then
    some (.inr w2)
  else
    bd1 (gI n0 w2 (p1 + i1)) (fun v10 =>
      bd1 (sI n0 w2 (p3 + i1) v10) (fun w12 =>
        some (.inl ((i1 + 1), w12))))
def pX10_copy_s (n0 : Nat) (u0 : Nat → Int32) (p1 : Int32) (p3 : Int32) (p4 : Int32) : Option ((Nat → Int32)) :=
  bd1 (lpI lpF (un2 (pX10_copy_s_L3 n0 p1 p3 p4)) (0, u0)) (fun w3 =>
    some w3)
def pX10_note (u_acts : Int32) (u_now : Nat → Int32) (u_diary : Nat → Int32) : Option (Int32 × (Nat → Int32)) :=
  bd1 (
    if u_acts = 14 then
      bd1 (pX10_copy_s 1176 u_diary 84 0 1092) (fun w5 =>
        some ((u_acts - 1), w5))
    else
      some (u_acts, u_diary))
    (un2 (fun (w1 : Int32) (w2 : Nat → Int32) =>
      bd1 (pX10_copy 84 1176 u_now w2 0 (84 * w1) 84) (fun w7 =>
        some ((w1 + 1), w7))))
def pX10_isTable (p0 : Int32) : Option (Int32) :=
  bd1 (pX10_in (p0 : Int32).toInt64 0 1) (fun v1 =>
    bd1 (zb v1) (fun v3 =>
      some v3))
def pX10_length (u0 : Nat → Int32) (p1 : Int32) (p2 : Int32) : Option (Int32) :=
  bd1 (pX10_in (p2 : Int32).toInt64 0 5) (fun v1 =>
    if v1 = 0 then
      some 0
    else
      bd1 (gI 84 u0 (((42 * p1) + 36) + p2)) (fun v3 =>
        some v3))
def pX10_isCell (u0 : Nat → Int32) (p1 : Int32) (p2 : Int32) (p3 : Int32) : Option (Int32) :=
  bd1 (pX10_length u0 p1 p2) (fun v1 =>
    bd1 (pX10_in (p3 : Int32).toInt64 0 ((v1 - 1) : Int32).toInt64) (fun v3 =>
      bd1 (zb v3) (fun v5 =>
        some v5)))
def pX10_get (u0 : Nat → Int32) (p1 : Int32) (p2 : Int32) (p3 : Int32) : Option (Int32) :=
  bd1 (gI 84 u0 (((42 * p1) + (6 * p2)) + p3)) (fun v1 =>
    some v1)
def pX10_set (u0 : Nat → Int32) (p1 : Int32) (p2 : Int32) (p3 : Int32) (p4 : Int32) : Option ((Nat → Int32)) :=
  bd1 (sI 84 u0 (((42 * p1) + (6 * p2)) + p3) p4) (fun w1 =>
    some w1)
def pX10_many_L4 (u0 : Nat → Int32) (p1 : Int32) (i1 : Int32) (i2 : Int32) : Option ((Int32 × Int32) ⊕ (Int32)) :=
  if 6 ≤ i1 then
    some (.inr i2)
  else
    bd1 (pX10_length u0 p1 i1) (fun v10 =>
      some (.inl ((i1 + 1), (i2 + v10))))
def pX10_many (u0 : Nat → Int32) (p1 : Int32) : Option (Int32) :=
  bd1 (lpI lpF (un2 (pX10_many_L4 u0 p1)) (0, 0)) (fun x3 =>
    some x3)
def pX10_rows_L4 (u0 : Nat → Int32) (p1 : Int32) (i1 : Int32) (i2 : Int32) : Option ((Int32 × Int32) ⊕ (Int32)) :=
  if 6 ≤ i1 then
    some (.inr i2)
  else
    bd1 (pX10_length u0 p1 i1) (fun v10 =>
      if v10 ≤ 0 then
        some (.inl ((i1 + 1), (i2 + 0)))
      else
        some (.inl ((i1 + 1), (i2 + 1))))
def pX10_rows (u0 : Nat → Int32) (p1 : Int32) : Option (Int32) :=
  bd1 (lpI lpF (un2 (pX10_rows_L4 u0 p1)) (0, 0)) (fun x3 =>
    some x3)
def pX10_tall_L5 (u0 : Nat → Int32) (p1 : Int32) (p2 : Int32) (i1 : Int32) (i2 : Int32) : Option ((Int32 × Int32) ⊕ (Int32)) :=
  if 6 ≤ i1 then
    some (.inr i2)
  else
    bd1 (pX10_length u0 p1 i1) (fun v10 =>
      if v10 ≤ p2 then
        some (.inl ((i1 + 1), (i2 + 0)))
      else
        some (.inl ((i1 + 1), (i2 + 1))))
def pX10_tall (u0 : Nat → Int32) (p1 : Int32) (p2 : Int32) : Option (Int32) :=
  bd1 (lpI lpF (un2 (pX10_tall_L5 u0 p1 p2)) (0, 0)) (fun x3 =>
    some x3)
def pX10_isCorner (u0 : Nat → Int32) (p1 : Int32) (p2 : Int32) : Option (Int32) :=
  bd1 (pX10_length u0 p1 p2) (fun v1 =>
    if v1 ≤ 0 then
      some 0
    else
      bd1 (pX10_length u0 p1 (p2 + 1)) (fun v3 =>
        bd1 (pX10_length u0 p1 p2) (fun v5 =>
          if v5 ≤ v3 then
            some 0
          else
            some 1)))
def pX10_isGap (u0 : Nat → Int32) (p1 : Int32) (p2 : Int32) : Option (Int32) :=
  bd1 (pX10_length u0 p1 p2) (fun v1 =>
    if 6 ≤ v1 then
      some 0
    else
      if p2 = 0 then
        some 1
      else
        bd1 (pX10_length u0 p1 (p2 - 1)) (fun v3 =>
          if v3 ≤ v1 then
            some 0
          else
            some 1))
def pX10_have (u_now : Nat → Int32) (p0 : Int32) (p1 : Int32) (p2 : Int32) : Option (Int32) :=
  bd1 (pX10_isTable p0) (fun v1 =>
    if v1 = 0 then
      some 0
    else
      bd1 (pX10_isCell u_now p0 p1 p2) (fun v3 =>
        if v3 = 0 then
          some 0
        else
          some 1))
def pX10_gapRow_L5 (u0 : Nat → Int32) (p1 : Int32) (i1 : Int32) (i2 : Int32) : Option ((Int32 × Int32) ⊕ (Int32)) :=
  if 6 ≤ i1 then
    some (.inr i2)
  else
    bd1 (pX10_isGap u0 p1 i1) (fun v10 =>
      if v10 = 0 then
        some (.inl ((i1 + 1), i2))
      else
        if i2 = (-9) then
          some (.inl ((i1 + 1), i1))
        else
          bd1 (pX10_length u0 p1 i1) (fun v12 =>
            bd1 (pX10_length u0 p1 i2) (fun v14 =>
              if (i2 + v14) ≤ (i1 + v12) then
                some (.inl ((i1 + 1), i2))
              else
                some (.inl ((i1 + 1), i1)))))
def pX10_gapRow (u0 : Nat → Int32) (p1 : Int32) : Option (Int32) :=
  bd1 (lpI lpF (un2 (pX10_gapRow_L5 u0 p1)) (0, (-9))) (fun x3 =>
    some x3)
def pX10_slideUp_L26 (p1 : Int32) (v1 : Int32) (i3 : Int32) (i4 : Int32) (i5 : Int32) (w6 : Int32) (w7 : Nat → Int32) : Option ((Int32 × Int32 × Int32 × Int32 × (Nat → Int32)) ⊕ (Int32 × Int32 × Int32 × (Nat → Int32))) :=
  if i3 = 0 then
    some (.inr (i4, i5, w6, w7))
  else
    bd1 (
      if i5 ≤ 0 then
        some (-9)
      else
        bd1 (pX10_get w7 p1 (i5 - 1) i4) (fun v21 =>
          some v21))
      (fun (j18 : Int32) =>
        bd1 (
          if i4 ≤ 0 then
            some (-9)
          else
            bd1 (pX10_get w7 p1 i5 (i4 - 1)) (fun v26 =>
              some v26))
          (fun (j23 : Int32) =>
            bd1 (
              if v1 < j18 then
                some 1
              else
                if j23 ≤ v1 then
                  some 0
                else
                  some 1)
              (fun (j28 : Int32) =>
                if j28 = 0 then
                  some (.inl (j28, i4, i5, w6, w7))
                else
                  bd1 (
                    if j18 < j23 then
                      some 0
                    else
                      some 1)
                    (fun (j31 : Int32) =>
                      bd1 (
                        if j31 = 0 then
                          some j23
                        else
                          some j18)
                        (fun (j34 : Int32) =>
                          bd1 (pX10_set w7 p1 i5 i4 j34) (fun w37 =>
                            bd1 (
                              if j31 = 0 then
                                some 0
                              else
                                some 1)
                              (fun (j39 : Int32) =>
                                bd1 (
                                  if j31 = 0 then
                                    some 1
                                  else
                                    some 0)
                                  (fun (j42 : Int32) =>
                                    bd1 (pX10_set w37 p1 (i5 - j39) (i4 - j42) v1) (fun w45 =>
                                      some (.inl (j28, (i4 - j42), (i5 - j39), (w6 + 1), w45)))))))))))
def pX10_slideUp (u_slides : Int32) (u0 : Nat → Int32) (p1 : Int32) (p2 : Int32) : Option (Int32 × Int32 × (Nat → Int32)) :=
  bd1 (pX10_get u0 p1 (p2 / 10) (irm p2 10)) (fun v1 =>
    bd1 (lpI lpF (un5 (pX10_slideUp_L26 p1 v1)) (1, (irm p2 10), (p2 / 10), u_slides, u0)) (un4 (fun x8 x9 w10 w11 =>
      some (((10 * x9) + x8), w10, w11))))
def pX10_slideDown_L24 (p1 : Int32) (v1 : Int32) (i3 : Int32) (i4 : Int32) (i5 : Int32) (w6 : Nat → Int32) : Option ((Int32 × Int32 × Int32 × (Nat → Int32)) ⊕ (Int32 × Int32 × (Nat → Int32))) :=
  if i3 = 0 then
    some (.inr (i4, i5, w6))
  else
    bd1 (pX10_isCell w6 p1 (i5 + 1) i4) (fun v16 =>
      bd1 (
        if v16 = 0 then
          some 1000
        else
          bd1 (pX10_get w6 p1 (i5 + 1) i4) (fun v21 =>
            some v21))
        (fun (j18 : Int32) =>
          bd1 (pX10_isCell w6 p1 i5 (i4 + 1)) (fun v23 =>
            bd1 (
              if v23 = 0 then
                some 1000
              else
                bd1 (pX10_get w6 p1 i5 (i4 + 1)) (fun v28 =>
                  some v28))
              (fun (j25 : Int32) =>
                bd1 (
                  if j18 < v1 then
                    some 1
                  else
                    if v1 ≤ j25 then
                      some 0
                    else
                      some 1)
                  (fun (j30 : Int32) =>
                    if j30 = 0 then
                      some (.inl (j30, i4, i5, w6))
                    else
                      bd1 (
                        if j25 < j18 then
                          some 0
                        else
                          some 1)
                        (fun (j33 : Int32) =>
                          bd1 (
                            if j33 = 0 then
                              some j25
                            else
                              some j18)
                            (fun (j36 : Int32) =>
                              bd1 (pX10_set w6 p1 i5 i4 j36) (fun w39 =>
                                bd1 (
                                  if j33 = 0 then
                                    some 0
                                  else
                                    some 1)
                                  (fun (j41 : Int32) =>
                                    bd1 (
                                      if j33 = 0 then
                                        some 1
                                      else
                                        some 0)
                                      (fun (j44 : Int32) =>
                                        bd1 (pX10_set w39 p1 (i5 + j41) (i4 + j44) v1) (fun w47 =>
                                          some (.inl (j30, (i4 + j44), (i5 + j41), w47)))))))))))))
def pX10_slideDown (u0 : Nat → Int32) (p1 : Int32) (p2 : Int32) : Option (Int32 × (Nat → Int32)) :=
  bd1 (pX10_get u0 p1 (p2 / 10) (irm p2 10)) (fun v1 =>
    bd1 (lpI lpF (un4 (pX10_slideDown_L24 p1 v1)) (1, (irm p2 10), (p2 / 10), u0)) (un3 (fun x7 x8 w9 =>
      some (((10 * x8) + x7), w9))))
def pX10_insertOn (u_slides : Int32) (u0 : Nat → Int32) (p1 : Int32) (p2 : Int32) : Option (Int32 × Int32 × (Nat → Int32)) :=
  bd1 (pX10_gapRow u0 p1) (fun v1 =>
    bd1 (pX10_length u0 p1 v1) (fun v3 =>
      bd1 (gI 84 u0 (((42 * p1) + 36) + v1)) (fun v5 =>
        bd1 (sI 84 u0 (((42 * p1) + 36) + v1) (v5 + 1)) (fun w7 =>
          bd1 (pX10_set w7 p1 v1 v3 p2) (fun w9 =>
            bd1 (pX10_slideUp 0 w9 p1 ((10 * v1) + v3)) (un3 (fun v11 w12 w13 =>
              some (v11, w12, w13))))))))
def pX10_removeOn_L6 (p1 : Int32) (i1 : Int32) (i2 : Int32) (w3 : Nat → Int32) : Option ((Int32 × Int32 × (Nat → Int32)) ⊕ (Int32 × Int32 × (Nat → Int32))) :=
  bd1 (pX10_isCell w3 p1 (i2 + 1) i1) (fun v13 =>
    if v13 = 0 then
      bd1 (pX10_isCell w3 p1 i2 (i1 + 1)) (fun v40 =>
        if v40 = 0 then
          some (.inr (i1, i2, w3))
        else
          bd1 (pX10_isCell w3 p1 (i2 + 1) i1) (fun v42 =>
            bd1 (
              if v42 = 0 then
                some 1000
              else
                bd1 (pX10_get w3 p1 (i2 + 1) i1) (fun v47 =>
                  some v47))
              (fun (j44 : Int32) =>
                bd1 (pX10_isCell w3 p1 i2 (i1 + 1)) (fun v49 =>
                  bd1 (
                    if v49 = 0 then
                      some 1000
                    else
                      bd1 (pX10_get w3 p1 i2 (i1 + 1)) (fun v54 =>
                        some v54))
                    (fun (j51 : Int32) =>
                      bd1 (
                        if j51 < j44 then
                          some 0
                        else
                          some 1)
                        (fun (j56 : Int32) =>
                          bd1 (
                            if j56 = 0 then
                              some j51
                            else
                              some j44)
                            (fun (j59 : Int32) =>
                              bd1 (pX10_set w3 p1 i2 i1 j59) (fun w62 =>
                                bd1 (
                                  if j56 = 0 then
                                    some 0
                                  else
                                    some 1)
                                  (fun (j64 : Int32) =>
                                    if j56 = 0 then
                                      some (.inl ((i1 + 1), (i2 + j64), w62))
                                    else
                                      some (.inl ((i1 + 0), (i2 + j64), w62)))))))))))
    else
      bd1 (pX10_isCell w3 p1 (i2 + 1) i1) (fun v15 =>
        bd1 (
          if v15 = 0 then
            some 1000
          else
            bd1 (pX10_get w3 p1 (i2 + 1) i1) (fun v20 =>
              some v20))
          (fun (j17 : Int32) =>
            bd1 (pX10_isCell w3 p1 i2 (i1 + 1)) (fun v22 =>
              bd1 (
                if v22 = 0 then
                  some 1000
                else
                  bd1 (pX10_get w3 p1 i2 (i1 + 1)) (fun v27 =>
                    some v27))
                (fun (j24 : Int32) =>
                  bd1 (
                    if j24 < j17 then
                      some 0
                    else
                      some 1)
                    (fun (j29 : Int32) =>
                      bd1 (
                        if j29 = 0 then
                          some j24
                        else
                          some j17)
                        (fun (j32 : Int32) =>
                          bd1 (pX10_set w3 p1 i2 i1 j32) (fun w35 =>
                            bd1 (
                              if j29 = 0 then
                                some 0
                              else
                                some 1)
                              (fun (j37 : Int32) =>
                                if j29 = 0 then
                                  some (.inl ((i1 + 1), (i2 + j37), w35))
                                else
                                  some (.inl ((i1 + 0), (i2 + j37), w35)))))))))))
def pX10_removeOn (u0 : Nat → Int32) (p1 : Int32) (p2 : Int32) (p3 : Int32) : Option (Int32 × (Nat → Int32)) :=
  bd1 (lpI lpF (un3 (pX10_removeOn_L6 p1)) (p3, p2, u0)) (un3 (fun x4 x5 w6 =>
    bd1 (gI 84 w6 (((42 * p1) + 36) + x5)) (fun v67 =>
      bd1 (sI 84 w6 (((42 * p1) + 36) + x5) (v67 - 1)) (fun w69 =>
        bd1 (pX10_set w69 p1 x5 x4 0) (fun w71 =>
          some (((10 * x5) + x4), w71))))))
def pX10_transposeOn_L26 (u0 : Nat → Int32) (p1 : Int32) (i1 : Int32) (i14 : Int32) (w15 : Nat → Int32) : Option ((Int32 × (Nat → Int32)) ⊕ ((Nat → Int32))) :=
  if 6 ≤ i14 then
    some (.inr w15)
  else
    bd1 (pX10_get u0 p1 i14 i1) (fun v23 =>
      bd1 (sI 42 w15 ((6 * i1) + i14) v23) (fun w25 =>
        some (.inl ((i14 + 1), w25))))
def pX10_transposeOn_L2 (u0 : Nat → Int32) (p1 : Int32) (i1 : Int32) (w2 : Nat → Int32) : Option ((Int32 × (Nat → Int32)) ⊕ ((Nat → Int32))) :=
  if 6 ≤ i1 then
    some (.inr w2)
  else
    bd1 (pX10_tall u0 p1 i1) (fun v10 =>
      bd1 (sI 42 w2 (36 + i1) v10) (fun w12 =>
        bd1 (lpI lpF (un2 (pX10_transposeOn_L26 u0 p1 i1)) (0, w12)) (fun w16 =>
          some (.inl ((i1 + 1), w16)))))
def pX10_transposeOn (u_turned : Nat → Int32) (u0 : Nat → Int32) (p1 : Int32) : Option ((Nat → Int32) × (Nat → Int32)) :=
  bd1 (lpI lpF (un2 (pX10_transposeOn_L2 u0 p1)) (0, u_turned)) (fun w3 =>
    bd1 (pX10_copy 42 84 w3 u0 0 (42 * p1) 42) (fun w27 =>
      some (w3, w27)))
def pX10_append (u_refusal : Int32) (u_scriptSize : Int32) (u_script : Nat → Int32) (p0 : Int32) : Option (Int32 × Int32 × Int32 × (Nat → Int32)) :=
  bd1 (pX10_in (p0 : Int32).toInt64 0 255) (fun v1 =>
    bd1 (
      if v1 = 0 then
        some 1
      else
        if u_scriptSize = 160 then
          some 2
        else
          some 0)
      (fun (j3 : Int32) =>
        bd1 (pX10_refused u_refusal j3) (un2 (fun v6 w7 =>
          if v6 = 0 then
            bd1 (sI 160 u_script u_scriptSize p0) (fun w9 =>
              some ((u_scriptSize + 1), w7, (u_scriptSize + 1), w9))
          else
            some (0, w7, u_scriptSize, u_script)))))
def pX10_clearText (u_refusal : Int32) (u_scriptSize : Int32) : Option (Int32 × Int32 × Int32) :=
  some (u_scriptSize, 0, 0)
def pX10_digit (u_scriptSize : Int32) (u_spot : Int32) (u_script : Nat → Int32) (p0 : Int32) : Option (Int32 × Int32) :=
  bd1 (
    if u_scriptSize ≤ u_spot then
      some (-9)
    else
      bd1 (gI 160 u_script u_spot) (fun v4 =>
        some (v4 - 48)))
    (fun (j1 : Int32) =>
      bd1 (pX10_in (j1 : Int32).toInt64 (p0 : Int32).toInt64 9) (fun v6 =>
        if v6 = 0 then
          some ((-9), u_spot)
        else
          some (j1, (u_spot + 1))))
def pX10_sign (u_scriptSize : Int32) (u_spot : Int32) (u_script : Nat → Int32) (p0 : Int32) : Option (Int32 × Int32) :=
  bd1 (
    if u_scriptSize ≤ u_spot then
      some 0
    else
      bd1 (gI 160 u_script u_spot) (fun v4 =>
        if v4 = p0 then
          some 1
        else
          some 0))
    (fun (j1 : Int32) =>
      if j1 = 0 then
        bd1 (zb j1) (fun v6 =>
          some (v6, (u_spot + 0)))
      else
        bd1 (zb j1) (fun v9 =>
          some (v9, (u_spot + 1))))
def pX10_readCell (u_scriptSize : Int32) (u_spot : Int32) (u_script : Nat → Int32) (u_readRow : Nat → Int32) (p0 : Int32) (p1 : Int32) : Option (Int32 × Int32 × (Nat → Int32)) :=
  bd1 (pX10_length u_readRow p0 p1) (fun v1 =>
    bd1 (
      if p1 = 0 then
        some 6
      else
        bd1 (pX10_length u_readRow p0 (p1 - 1)) (fun v6 =>
          some v6))
      (fun (j3 : Int32) =>
        if v1 = j3 then
          some (0, u_spot, u_readRow)
        else
          bd1 (
            if p1 ≤ 0 then
              some 0
            else
              bd1 (pX10_get u_readRow p0 (p1 - 1) v1) (fun v11 =>
                some v11))
            (fun (j8 : Int32) =>
              bd1 (
                if v1 ≤ 0 then
                  some 0
                else
                  bd1 (pX10_get u_readRow p0 p1 (v1 - 1)) (fun v16 =>
                    some v16))
                (fun (j13 : Int32) =>
                  bd1 (
                    if j8 ≤ j13 then
                      some j13
                    else
                      some j8)
                    (fun (j18 : Int32) =>
                      bd1 (pX10_digit u_scriptSize u_spot u_script (j18 / 10)) (un2 (fun v21 w22 =>
                        bd1 (
                          if v21 = (-9) then
                            some ((-9), w22)
                          else
                            bd1 (
                              if v21 = (j18 / 10) then
                                some (irm j18 10)
                              else
                                some 0)
                              (fun (j28 : Int32) =>
                                bd1 (pX10_digit u_scriptSize w22 u_script j28) (un2 (fun v31 w32 =>
                                  some (v31, w32)))))
                          (un2 (fun (j24 : Int32) (w25 : Int32) =>
                            if j24 = (-9) then
                              some (0, w25, u_readRow)
                            else
                              bd1 (pX10_set u_readRow p0 p1 v1 ((10 * v21) + j24)) (fun w34 =>
                                bd1 (gI 84 w34 (((42 * p0) + 36) + p1)) (fun v36 =>
                                  bd1 (sI 84 w34 (((42 * p0) + 36) + p1) (v36 + 1)) (fun w38 =>
                                    some (1, w25, w38)))))))))))))
def pX10_readTable_L33 (u_scriptSize : Int32) (u_script : Nat → Int32) (p0 : Int32) (i6 : Int32) (i7 : Int32) (w8 : Int32) (w9 : Nat → Int32) : Option ((Int32 × Int32 × Int32 × (Nat → Int32)) ⊕ ((Int32 × Int32 × (Nat → Int32)) ⊕ (Int32 × (Nat → Int32)))) :=
  if i6 = 0 then
    some (.inr (.inr (w8, w9)))
  else
    bd1 (pX10_readCell u_scriptSize w8 u_script w9 p0 i7) (un3 (fun v18 w19 w20 =>
      if v18 = 0 then
        some (.inr (.inl (0, w19, w20)))
      else
        bd1 (
          if 6 ≤ (i7 + 1) then
            some (0, w19)
          else
            bd1 (pX10_sign u_scriptSize w19 u_script 47) (un2 (fun v26 w27 =>
              if v26 = 0 then
                some (0, w27)
              else
                some (1, w27))))
          (un2 (fun (j22 : Int32) (w23 : Int32) =>
            bd1 (
              if j22 = 0 then
                some 0
              else
                some 1)
              (fun (j29 : Int32) =>
                if j22 = 0 then
                  if u_scriptSize ≤ w23 then
                    some (.inl (0, (i7 + j29), w23, w20))
                  else
                    bd1 (gI 160 u_script w23) (fun v32 =>
                      if v32 = 59 then
                        some (.inl (0, (i7 + j29), w23, w20))
                      else
                        some (.inl (1, (i7 + j29), w23, w20)))
                else
                  some (.inl (1, (i7 + j29), w23, w20)))))))
def pX10_readTable_R124  (w10 : Int32) (w11 : Nat → Int32) : Option (Int32 × Int32 × (Nat → Int32)) :=
  some (1, w10, w11)
def pX10_readTable (u_scriptSize : Int32) (u_spot : Int32) (u_script : Nat → Int32) (u_readRow : Nat → Int32) (p0 : Int32) : Option (Int32 × Int32 × (Nat → Int32)) :=
  bd1 (
    if u_scriptSize ≤ u_spot then
      some 0
    else
      bd1 (gI 160 u_script u_spot) (fun v4 =>
        if v4 = 59 then
          some 0
        else
          some 1))
    (fun (j1 : Int32) =>
      bd1 (lpI lpF (un4 (pX10_readTable_L33 u_scriptSize u_script p0)) (j1, 0, u_spot, u_readRow)) (fun xx16 => el xx16
        (un3 (fun y34 y35 y36 =>
          some (y34, y35, y36)))
        (un2 (pX10_readTable_R124))))
def pX10_readText_L2  (i1 : Int32) (w2 : Nat → Int32) : Option ((Int32 × (Nat → Int32)) ⊕ ((Nat → Int32))) :=
  if 84 ≤ i1 then
    some (.inr w2)
  else
    bd1 (sI 84 w2 i1 0) (fun w10 =>
      some (.inl ((i1 + 1), w10)))
def pX10_readText (u_scriptSize : Int32) (u_spot : Int32) (u_script : Nat → Int32) (u_readRow : Nat → Int32) : Option (Int32 × Int32 × (Nat → Int32)) :=
  bd1 (lpI lpF (un2 (pX10_readText_L2)) (0, u_readRow)) (fun w3 =>
    bd1 (pX10_sign u_scriptSize 0 u_script 84) (un2 (fun v12 w13 =>
      if v12 = 0 then
        some (w13, w13, w3)
      else
        bd1 (pX10_readTable u_scriptSize w13 u_script w3 0) (un3 (fun v15 w16 w17 =>
          if v15 = 0 then
            some (w16, w16, w17)
          else
            bd1 (pX10_sign u_scriptSize w16 u_script 59) (un2 (fun v19 w20 =>
              if v19 = 0 then
                some (w20, w20, w17)
              else
                bd1 (pX10_readTable u_scriptSize w20 u_script w17 1) (un3 (fun v22 w23 w24 =>
                  if v22 = 0 then
                    some (w23, w23, w24)
                  else
                    if w23 = u_scriptSize then
                      some ((-9), w23, w24)
                    else
                      some (w23, w23, w24))))))))))
def pX10_errorPosition (u_refusal : Int32) (u_scriptSize : Int32) (u_spot : Int32) (u_script : Nat → Int32) (u_readRow : Nat → Int32) : Option (Int32 × Int32 × Int32 × (Nat → Int32)) :=
  bd1 (pX10_readText u_scriptSize u_spot u_script u_readRow) (un3 (fun v1 w2 w3 =>
    some (v1, 0, w2, w3)))
def pX10_both (u0 : Nat → Int32) : Option (Int32) :=
  bd1 (pX10_many u0 0) (fun v1 =>
    bd1 (pX10_many u0 1) (fun v3 =>
      some (v1 + v3)))
def pX10_load (u_refusal : Int32) (u_scriptSize : Int32) (u_spot : Int32) (u_acts : Int32) (u_script : Nat → Int32) (u_readRow : Nat → Int32) (u_now : Nat → Int32) (u_isKept : Nat → Int32) : Option (Int32 × Int32 × Int32 × Int32 × (Nat → Int32) × (Nat → Int32) × (Nat → Int32)) :=
  bd1 (pX10_readText u_scriptSize u_spot u_script u_readRow) (un3 (fun v1 w2 w3 =>
    bd1 (
      if v1 = (-9) then
        some 0
      else
        some 1)
      (fun (j5 : Int32) =>
        bd1 (pX10_refused u_refusal j5) (un2 (fun v8 w9 =>
          if v8 = 0 then
            bd1 (pX10_copy 84 84 w3 u_now 0 0 84) (fun w11 =>
              bd1 (sZ 2 u_isKept 0 0) (fun w13 =>
                bd1 (sZ 2 w13 1 0) (fun w15 =>
                  bd1 (pX10_both w11) (fun v17 =>
                    some (v17, w9, w2, 0, w3, w11, w15)))))
          else
            some (0, w9, w2, u_acts, w3, u_now, u_isKept))))))
def pX10_extreme_L16 (u0 : Nat → Int32) (p1 : Int32) (p2 : Int32) (i1 : Int32) (i10 : Int32) (i11 : Int32) : Option ((Int32 × Int32) ⊕ (Int32)) :=
  bd1 (pX10_length u0 p1 i1) (fun v19 =>
    if v19 ≤ i10 then
      some (.inr i11)
    else
      bd1 (pX10_get u0 p1 i1 i10) (fun v21 =>
        if i11 = (-9) then
          some (.inl ((i10 + 1), v21))
        else
          if p2 = 0 then
            if i11 ≤ v21 then
              some (.inl ((i10 + 1), i11))
            else
              some (.inl ((i10 + 1), v21))
          else
            if v21 ≤ i11 then
              some (.inl ((i10 + 1), i11))
            else
              some (.inl ((i10 + 1), v21))))
def pX10_extreme_L6 (u0 : Nat → Int32) (p1 : Int32) (p2 : Int32) (i1 : Int32) (i2 : Int32) : Option ((Int32 × Int32) ⊕ (Int32)) :=
  if 6 ≤ i1 then
    some (.inr i2)
  else
    bd1 (lpI lpF (un2 (pX10_extreme_L16 u0 p1 p2 i1)) (0, i2)) (fun x12 =>
      some (.inl ((i1 + 1), x12)))
def pX10_extreme (u0 : Nat → Int32) (p1 : Int32) (p2 : Int32) : Option (Int32) :=
  bd1 (lpI lpF (un2 (pX10_extreme_L6 u0 p1 p2)) (0, (-9))) (fun x3 =>
    some x3)
def pX10_sumOf_L13 (u0 : Nat → Int32) (p1 : Int32) (i1 : Int32) (i10 : Int32) (i11 : Int32) : Option ((Int32 × Int32) ⊕ (Int32)) :=
  bd1 (pX10_length u0 p1 i1) (fun v19 =>
    if v19 ≤ i10 then
      some (.inr i11)
    else
      bd1 (pX10_get u0 p1 i1 i10) (fun v21 =>
        some (.inl ((i10 + 1), (i11 + v21)))))
def pX10_sumOf_L4 (u0 : Nat → Int32) (p1 : Int32) (i1 : Int32) (i2 : Int32) : Option ((Int32 × Int32) ⊕ (Int32)) :=
  if 6 ≤ i1 then
    some (.inr i2)
  else
    bd1 (lpI lpF (un2 (pX10_sumOf_L13 u0 p1 i1)) (0, i2)) (fun x12 =>
      some (.inl ((i1 + 1), x12)))
def pX10_sumOf (u0 : Nat → Int32) (p1 : Int32) : Option (Int32) :=
  bd1 (lpI lpF (un2 (pX10_sumOf_L4 u0 p1)) (0, 0)) (fun x3 =>
    some x3)
def pX10_about_L45 (u_now : Nat → Int32) (p0 : Int32) (i11 : Int32) (i12 : Int32) (i13 : Int32) : Option ((Int32 × Int32 × Int32) ⊕ (Int32 × Int32)) :=
  if 6 ≤ i11 then
    some (.inr (i12, i13))
  else
    bd1 (pX10_isCorner u_now p0 i11) (fun v22 =>
      bd1 (
        if v22 = 0 then
          some 0
        else
          some 1)
        (fun (j24 : Int32) =>
          bd1 (pX10_isGap u_now p0 i11) (fun v27 =>
            if v27 = 0 then
              some (.inl ((i11 + 1), (i12 + 0), (i13 + j24)))
            else
              some (.inl ((i11 + 1), (i12 + 1), (i13 + j24))))))
def pX10_about (u_refusal : Int32) (u_now : Nat → Int32) (p0 : Int32) (p1 : Int32) : Option (Int32 × Int32) :=
  bd1 (pX10_isTable p0) (fun v1 =>
    bd1 (
      if v1 = 0 then
        some 1
      else
        bd1 (pX10_in (p1 : Int32).toInt64 0 7) (fun v6 =>
          if v6 = 0 then
            some 2
          else
            some 0))
      (fun (j3 : Int32) =>
        bd1 (pX10_refused u_refusal j3) (un2 (fun v8 w9 =>
          if v8 = 0 then
            bd1 (lpI lpF (un3 (pX10_about_L45 u_now p0)) (0, 0, 0)) (un2 (fun x14 x15 =>
              if p1 = 0 then
                bd1 (pX10_rows u_now p0) (fun v29 =>
                  some (v29, w9))
              else
                if p1 = 1 then
                  bd1 (pX10_length u_now p0 0) (fun v31 =>
                    some (v31, w9))
                else
                  if p1 = 2 then
                    bd1 (pX10_many u_now p0) (fun v33 =>
                      some (v33, w9))
                  else
                    if p1 = 3 then
                      bd1 (
                        if p1 = 4 then
                          some 1
                        else
                          some 0)
                        (fun (j35 : Int32) =>
                          bd1 (pX10_extreme u_now p0 j35) (fun v38 =>
                            some (v38, w9)))
                    else
                      if p1 = 4 then
                        bd1 (
                          if p1 = 4 then
                            some 1
                          else
                            some 0)
                          (fun (j40 : Int32) =>
                            bd1 (pX10_extreme u_now p0 j40) (fun v43 =>
                              some (v43, w9)))
                      else
                        if p1 = 5 then
                          bd1 (pX10_sumOf u_now p0) (fun v45 =>
                            some (v45, w9))
                        else
                          if p1 = 6 then
                            some (x15, w9)
                          else
                            some (x14, w9)))
          else
            some (0, w9)))))
def pX10_cell (u_refusal : Int32) (u_now : Nat → Int32) (p0 : Int32) (p1 : Int32) (p2 : Int32) : Option (Int32 × Int32) :=
  bd1 (pX10_have u_now p0 p1 p2) (fun v1 =>
    bd1 (
      if v1 = 0 then
        some 1
      else
        some 0)
      (fun (j3 : Int32) =>
        bd1 (pX10_refused u_refusal j3) (un2 (fun v6 w7 =>
          if v6 = 0 then
            bd1 (pX10_get u_now p0 p1 p2) (fun v9 =>
              some (v9, w7))
          else
            some (0, w7)))))
def pX10_size (u_refusal : Int32) (u_now : Nat → Int32) (p0 : Int32) (p1 : Int32) (p2 : Int32) : Option (Int32 × Int32) :=
  bd1 (pX10_isTable p0) (fun v1 =>
    bd1 (
      if v1 = 0 then
        some 1
      else
        bd1 (pX10_in (p1 : Int32).toInt64 0 5) (fun v6 =>
          if v6 = 0 then
            some 2
          else
            some 0))
      (fun (j3 : Int32) =>
        bd1 (pX10_refused u_refusal j3) (un2 (fun v8 w9 =>
          if v8 = 0 then
            if p2 = 0 then
              bd1 (pX10_length u_now p0 p1) (fun v11 =>
                some (v11, w9))
            else
              bd1 (pX10_tall u_now p0 p1) (fun v13 =>
                some (v13, w9))
          else
            some (0, w9)))))
def pX10_isNumber (p0 : Int32) : Option (Int32) :=
  bd1 (pX10_in (p0 : Int32).toInt64 0 99) (fun v1 =>
    bd1 (zb v1) (fun v3 =>
      some v3))
def pX10_insert (u_refusal : Int32) (u_acts : Int32) (u_slides : Int32) (u_now : Nat → Int32) (u_diary : Nat → Int32) (p0 : Int32) (p1 : Int32) : Option (Int32 × Int32 × Int32 × Int32 × (Nat → Int32) × (Nat → Int32)) :=
  bd1 (pX10_isTable p0) (fun v1 =>
    bd1 (
      if v1 = 0 then
        some 1
      else
        bd1 (pX10_isNumber p1) (fun v6 =>
          if v6 = 0 then
            some 2
          else
            bd1 (pX10_gapRow u_now p0) (fun v8 =>
              if v8 = (-9) then
                some 3
              else
                some 0)))
      (fun (j3 : Int32) =>
        bd1 (pX10_refused u_refusal j3) (un2 (fun v10 w11 =>
          if v10 = 0 then
            bd1 (pX10_note u_acts u_now u_diary) (un2 (fun w13 w14 =>
              bd1 (pX10_insertOn u_slides u_now p0 p1) (un3 (fun v16 w17 w18 =>
                some (v16, w11, w13, w17, w18, w14)))))
          else
            some (0, w11, u_acts, u_slides, u_now, u_diary)))))
def pX10_remove (u_refusal : Int32) (u_acts : Int32) (u_now : Nat → Int32) (u_diary : Nat → Int32) (p0 : Int32) (p1 : Int32) (p2 : Int32) : Option (Int32 × Int32 × Int32 × (Nat → Int32) × (Nat → Int32)) :=
  bd1 (pX10_have u_now p0 p1 p2) (fun v1 =>
    bd1 (
      if v1 = 0 then
        some 1
      else
        some 0)
      (fun (j3 : Int32) =>
        bd1 (pX10_refused u_refusal j3) (un2 (fun v6 w7 =>
          if v6 = 0 then
            bd1 (pX10_note u_acts u_now u_diary) (un2 (fun w9 w10 =>
              bd1 (pX10_get u_now p0 p1 p2) (fun v12 =>
                bd1 (pX10_removeOn u_now p0 p1 p2) (un2 (fun v14 w15 =>
                  some (v12, w7, w9, w15, w10))))))
          else
            some (0, w7, u_acts, u_now, u_diary)))))
def pX10_change (u_refusal : Int32) (u_acts : Int32) (u_slides : Int32) (u_now : Nat → Int32) (u_diary : Nat → Int32) (p0 : Int32) (p1 : Int32) (p2 : Int32) (p3 : Int32) : Option (Int32 × Int32 × Int32 × Int32 × (Nat → Int32) × (Nat → Int32)) :=
  bd1 (pX10_have u_now p0 p1 p2) (fun v1 =>
    bd1 (
      if v1 = 0 then
        some 1
      else
        bd1 (pX10_isNumber p3) (fun v6 =>
          if v6 = 0 then
            some 2
          else
            some 0))
      (fun (j3 : Int32) =>
        bd1 (pX10_refused u_refusal j3) (un2 (fun v8 w9 =>
          if v8 = 0 then
            bd1 (pX10_note u_acts u_now u_diary) (un2 (fun w11 w12 =>
              bd1 (pX10_set u_now p0 p1 p2 p3) (fun w14 =>
                bd1 (pX10_slideUp u_slides w14 p0 ((10 * p1) + p2)) (un3 (fun v16 w17 w18 =>
                  bd1 (pX10_slideDown w18 p0 v16) (un2 (fun v20 w21 =>
                    some (v20, w9, w11, w17, w21, w12))))))))
          else
            some (0, w9, u_acts, u_slides, u_now, u_diary)))))
def pX10_transfer (u_refusal : Int32) (u_acts : Int32) (u_slides : Int32) (u_now : Nat → Int32) (u_diary : Nat → Int32) (p0 : Int32) (p1 : Int32) (p2 : Int32) : Option (Int32 × Int32 × Int32 × Int32 × (Nat → Int32) × (Nat → Int32)) :=
  bd1 (pX10_have u_now p0 p1 p2) (fun v1 =>
    bd1 (
      if v1 = 0 then
        some 1
      else
        bd1 (pX10_gapRow u_now (1 - p0)) (fun v6 =>
          if v6 = (-9) then
            some 2
          else
            some 0))
      (fun (j3 : Int32) =>
        bd1 (pX10_refused u_refusal j3) (un2 (fun v8 w9 =>
          if v8 = 0 then
            bd1 (pX10_note u_acts u_now u_diary) (un2 (fun w11 w12 =>
              bd1 (pX10_get u_now p0 p1 p2) (fun v14 =>
                bd1 (pX10_removeOn u_now p0 p1 p2) (un2 (fun v16 w17 =>
                  bd1 (pX10_insertOn u_slides w17 (1 - p0) v14) (un3 (fun v19 w20 w21 =>
                    some (v19, w9, w11, w20, w21, w12))))))))
          else
            some (0, w9, u_acts, u_slides, u_now, u_diary)))))
def pX10_transpose (u_refusal : Int32) (u_acts : Int32) (u_now : Nat → Int32) (u_diary : Nat → Int32) (u_turned : Nat → Int32) (p0 : Int32) : Option (Int32 × Int32 × Int32 × (Nat → Int32) × (Nat → Int32) × (Nat → Int32)) :=
  bd1 (pX10_isTable p0) (fun v1 =>
    bd1 (
      if v1 = 0 then
        some 1
      else
        some 0)
      (fun (j3 : Int32) =>
        bd1 (pX10_refused u_refusal j3) (un2 (fun v6 w7 =>
          if v6 = 0 then
            bd1 (pX10_note u_acts u_now u_diary) (un2 (fun w9 w10 =>
              bd1 (pX10_transposeOn u_turned u_now p0) (un2 (fun w12 w13 =>
                bd1 (pX10_rows w13 p0) (fun v15 =>
                  some (v15, w7, w9, w13, w10, w12))))))
          else
            some (0, w7, u_acts, u_now, u_diary, u_turned)))))
def pX10_exchange (u_refusal : Int32) (u_acts : Int32) (u_now : Nat → Int32) (u_diary : Nat → Int32) (u_turned : Nat → Int32) : Option (Int32 × Int32 × Int32 × (Nat → Int32) × (Nat → Int32) × (Nat → Int32)) :=
  bd1 (pX10_note u_acts u_now u_diary) (un2 (fun w1 w2 =>
    bd1 (pX10_copy 84 42 u_now u_turned 0 0 42) (fun w4 =>
      bd1 (pX10_copy_s 84 u_now 42 0 42) (fun w6 =>
        bd1 (pX10_copy 42 84 w4 w6 0 42 42) (fun w8 =>
          bd1 (pX10_many w8 0) (fun v10 =>
            some (v10, 0, w1, w8, w2, w4)))))))
def pX10_undo (u_refusal : Int32) (u_acts : Int32) (u_now : Nat → Int32) (u_diary : Nat → Int32) : Option (Int32 × Int32 × Int32 × (Nat → Int32)) :=
  bd1 (
    if u_acts = 0 then
      some 1
    else
      some 0)
    (fun (j1 : Int32) =>
      bd1 (pX10_refused u_refusal j1) (un2 (fun v4 w5 =>
        if v4 = 0 then
          bd1 (pX10_copy 1176 84 u_diary u_now (84 * (u_acts - 1)) 0 84) (fun w7 =>
            some ((u_acts - 1), w5, (u_acts - 1), w7))
        else
          some (0, w5, u_acts, u_now))))
def pX10_countIn_L25 (u0 : Nat → Int32) (p1 : Int32) (p3 : Int32) (p5 : Int32) (p6 : Int32) (i1 : Int32) (i10 : Int32) (i11 : Int32) : Option ((Int32 × Int32) ⊕ (Int32)) :=
  bd1 (pX10_length u0 p1 i1) (fun v19 =>
    if v19 ≤ i10 then
      some (.inr i11)
    else
      if (p3 + p5) ≤ i10 then
        some (.inr i11)
      else
        bd1 (pX10_get u0 p1 i1 i10) (fun v21 =>
          if p6 < v21 then
            some (.inl ((i10 + 1), (i11 + 0)))
          else
            some (.inl ((i10 + 1), (i11 + 1)))))
def pX10_countIn_L6 (u0 : Nat → Int32) (p1 : Int32) (p2 : Int32) (p3 : Int32) (p4 : Int32) (p5 : Int32) (p6 : Int32) (i1 : Int32) (i2 : Int32) : Option ((Int32 × Int32) ⊕ (Int32)) :=
  if 6 ≤ i1 then
    some (.inr i2)
  else
    if (p2 + p4) ≤ i1 then
      some (.inr i2)
    else
      bd1 (lpI lpF (un2 (pX10_countIn_L25 u0 p1 p3 p5 p6 i1)) (p3, i2)) (fun x12 =>
        some (.inl ((i1 + 1), x12)))
def pX10_countIn (u0 : Nat → Int32) (p1 : Int32) (p2 : Int32) (p3 : Int32) (p4 : Int32) (p5 : Int32) (p6 : Int32) : Option (Int32) :=
  bd1 (lpI lpF (un2 (pX10_countIn_L6 u0 p1 p2 p3 p4 p5 p6)) (p2, 0)) (fun x3 =>
    some x3)
def pX10_count (u_refusal : Int32) (u_now : Nat → Int32) (p0 : Int32) (p1 : Int32) : Option (Int32 × Int32) :=
  bd1 (pX10_isTable p0) (fun v1 =>
    bd1 (
      if v1 = 0 then
        some 1
      else
        bd1 (pX10_isNumber p1) (fun v6 =>
          if v6 = 0 then
            some 2
          else
            some 0))
      (fun (j3 : Int32) =>
        bd1 (pX10_refused u_refusal j3) (un2 (fun v8 w9 =>
          if v8 = 0 then
            bd1 (pX10_countIn u_now p0 0 0 6 6 p1) (fun v11 =>
              some (v11, w9))
          else
            some (0, w9)))))
def pX10_walk_L71 (u_now : Nat → Int32) (p0 : Int32) (p1 : Int32) (i15 : Int32) (i16 : Int32) (i17 : Int32) (i18 : Int32) (i19 : Int32) : Option ((Int32 × Int32 × Int32 × Int32 × Int32) ⊕ (Int32 × Int32 × Int32)) :=
  if i18 < 0 then
    some (.inr (i15, i16, i17))
  else
    bd1 (pX10_get u_now p0 i19 i18) (fun v29 =>
      bd1 (
        if i16 = (-9) then
          if v29 = p1 then
            some ((10 * i19) + i18)
          else
            some i16
        else
          some i16)
        (fun (j31 : Int32) =>
          if v29 ≤ p1 then
            bd1 (pX10_length u_now p0 (i19 + 1)) (fun v34 =>
              if v34 ≤ i18 then
                bd1 (pX10_length u_now p0 (i19 + 1)) (fun v36 =>
                  some (.inl (((10 * i19) + i18), j31, (i17 + 1), (v36 - 1), (i19 + 1))))
              else
                some (.inl (((10 * i19) + i18), j31, (i17 + 1), i18, (i19 + 1))))
          else
            some (.inl (((10 * i19) + i18), j31, (i17 + 1), (i18 + (-1)), i19))))
def pX10_walk (u_refusal : Int32) (u_now : Nat → Int32) (p0 : Int32) (p1 : Int32) (p2 : Int32) : Option (Int32 × Int32) :=
  bd1 (pX10_isTable p0) (fun v1 =>
    bd1 (
      if v1 = 0 then
        some 1
      else
        bd1 (pX10_isNumber p1) (fun v6 =>
          if v6 = 0 then
            some 2
          else
            bd1 (pX10_in (p2 : Int32).toInt64 0 2) (fun v8 =>
              if v8 = 0 then
                some 2
              else
                some 0)))
      (fun (j3 : Int32) =>
        bd1 (pX10_refused u_refusal j3) (un2 (fun v10 w11 =>
          if v10 = 0 then
            bd1 (pX10_length u_now p0 0) (fun v13 =>
              bd1 (lpI lpF (un5 (pX10_walk_L71 u_now p0 p1)) ((-9), (-9), 0, (v13 - 1), 0)) (un3 (fun x20 x21 x22 =>
                if p2 = 0 then
                  some (x22, w11)
                else
                  if p2 = 1 then
                    some (x21, w11)
                  else
                    some (x20, w11))))
          else
            some (0, w11)))))
def pX10_rankOf_L25 (u0 : Nat → Int32) (p1 : Int32) (p2 : Int32) (p3 : Int32) (v1 : Int32) (i3 : Int32) (i12 : Int32) (i13 : Int32) : Option ((Int32 × Int32) ⊕ (Int32)) :=
  bd1 (pX10_length u0 p1 i3) (fun v21 =>
    if v21 ≤ i12 then
      some (.inr i13)
    else
      bd1 (pX10_get u0 p1 i3 i12) (fun v23 =>
        if v23 < v1 then
          some (.inl ((i12 + 1), (i13 + 1)))
        else
          if v23 = v1 then
            if ((10 * p2) + p3) ≤ ((10 * i3) + i12) then
              some (.inl ((i12 + 1), (i13 + 0)))
            else
              some (.inl ((i12 + 1), (i13 + 1)))
          else
            some (.inl ((i12 + 1), (i13 + 0)))))
def pX10_rankOf_L15 (u0 : Nat → Int32) (p1 : Int32) (p2 : Int32) (p3 : Int32) (v1 : Int32) (i3 : Int32) (i4 : Int32) : Option ((Int32 × Int32) ⊕ (Int32)) :=
  if 6 ≤ i3 then
    some (.inr i4)
  else
    bd1 (lpI lpF (un2 (pX10_rankOf_L25 u0 p1 p2 p3 v1 i3)) (0, i4)) (fun x14 =>
      some (.inl ((i3 + 1), x14)))
def pX10_rankOf (u0 : Nat → Int32) (p1 : Int32) (p2 : Int32) (p3 : Int32) : Option (Int32) :=
  bd1 (pX10_get u0 p1 p2 p3) (fun v1 =>
    bd1 (lpI lpF (un2 (pX10_rankOf_L15 u0 p1 p2 p3 v1)) (0, 0)) (fun x5 =>
      some x5))
def pX10_kthPlace_L11 (u0 : Nat → Int32) (p1 : Int32) (p2 : Int32) (i1 : Int32) (i8 : Int32) : Option ((Int32) ⊕ ((Int32) ⊕ (Unit))) :=
  bd1 (pX10_length u0 p1 i1) (fun v15 =>
    if v15 ≤ i8 then
      some (.inr (.inr ()))
    else
      bd1 (pX10_rankOf u0 p1 i1 i8) (fun v17 =>
        if v17 = p2 then
          some (.inr (.inl ((10 * i1) + i8)))
        else
          some (.inl (i8 + 1))))
def pX10_kthPlace_R48 (i1 : Int32)  : Option ((Int32) ⊕ ((Int32) ⊕ (Unit))) :=
  some (.inl (i1 + 1))
def pX10_kthPlace_L2 (u0 : Nat → Int32) (p1 : Int32) (p2 : Int32) (i1 : Int32) : Option ((Int32) ⊕ ((Int32) ⊕ (Unit))) :=
  if 6 ≤ i1 then
    some (.inr (.inr ()))
  else
    bd1 (lpI lpF (pX10_kthPlace_L11 u0 p1 p2 i1) 0) (fun xx13 => el xx13
      (fun y19 =>
        some (.inr (.inl y19)))
      (fun _ => pX10_kthPlace_R48 i1))
def pX10_kthPlace_R54   : Option (Int32) :=
  some (-9)
def pX10_kthPlace (u0 : Nat → Int32) (p1 : Int32) (p2 : Int32) : Option (Int32) :=
  bd1 (lpI lpF (pX10_kthPlace_L2 u0 p1 p2) 0) (fun xx6 => el xx6
    (fun y20 =>
      some y20)
    (fun _ => pX10_kthPlace_R54))
def pX10_kth (u_refusal : Int32) (u_now : Nat → Int32) (p0 : Int32) (p1 : Int32) (p2 : Int32) : Option (Int32 × Int32) :=
  bd1 (pX10_isTable p0) (fun v1 =>
    bd1 (
      if v1 = 0 then
        some 1
      else
        if 0 ≤ p1 then
          some 0
        else
          some 2)
      (fun (j3 : Int32) =>
        bd1 (pX10_refused u_refusal j3) (un2 (fun v6 w7 =>
          if v6 = 0 then
            bd1 (pX10_kthPlace u_now p0 p1) (fun v9 =>
              if v9 = (-9) then
                some (v9, w7)
              else
                if p2 = 0 then
                  bd1 (pX10_get u_now p0 (v9 / 10) (irm v9 10)) (fun v11 =>
                    some (v11, w7))
                else
                  some (v9, w7))
          else
            some (0, w7)))))
def pX10_rank (u_refusal : Int32) (u_now : Nat → Int32) (p0 : Int32) (p1 : Int32) (p2 : Int32) : Option (Int32 × Int32) :=
  bd1 (pX10_have u_now p0 p1 p2) (fun v1 =>
    bd1 (
      if v1 = 0 then
        some 1
      else
        some 0)
      (fun (j3 : Int32) =>
        bd1 (pX10_refused u_refusal j3) (un2 (fun v6 w7 =>
          if v6 = 0 then
            bd1 (pX10_rankOf u_now p0 p1 p2) (fun v9 =>
              some (v9, w7))
          else
            some (0, w7)))))
def pX10_isWindow (p0 : Int32) (p1 : Int32) (p2 : Int32) (p3 : Int32) : Option (Int32) :=
  bd1 (pX10_in (p0 : Int32).toInt64 0 5) (fun v1 =>
    if v1 = 0 then
      some 0
    else
      bd1 (pX10_in (p1 : Int32).toInt64 0 5) (fun v3 =>
        if v3 = 0 then
          some 0
        else
          bd1 (pX10_in (p2 : Int32).toInt64 1 6) (fun v5 =>
            if v5 = 0 then
              some 0
            else
              bd1 (pX10_in (p3 : Int32).toInt64 1 6) (fun v7 =>
                if v7 = 0 then
                  some 0
                else
                  some 1))))
def pX10_windowCount (u_refusal : Int32) (u_now : Nat → Int32) (p0 : Int32) (p1 : Int32) (p2 : Int32) (p3 : Int32) (p4 : Int32) (p5 : Int32) : Option (Int32 × Int32) :=
  bd1 (pX10_isTable p0) (fun v1 =>
    bd1 (
      if v1 = 0 then
        some 1
      else
        bd1 (pX10_isWindow p1 p2 p3 p4) (fun v6 =>
          if v6 = 0 then
            some 2
          else
            bd1 (pX10_isNumber p5) (fun v8 =>
              if v8 = 0 then
                some 2
              else
                some 0)))
      (fun (j3 : Int32) =>
        bd1 (pX10_refused u_refusal j3) (un2 (fun v10 w11 =>
          if v10 = 0 then
            bd1 (pX10_countIn u_now p0 p1 p2 p3 p4 p5) (fun v13 =>
              some (v13, w11))
          else
            some (0, w11)))))
def pX10_windowKth_L45 (u_now : Nat → Int32) (p0 : Int32) (p1 : Int32) (p2 : Int32) (p3 : Int32) (p4 : Int32) (p5 : Int32) (w9 : Int32) (i11 : Int32) : Option ((Int32) ⊕ ((Int32 × Int32) ⊕ (Unit))) :=
  if 100 ≤ i11 then
    some (.inr (.inr ()))
  else
    bd1 (pX10_countIn u_now p0 p1 p2 p3 p4 i11) (fun v18 =>
      if v18 ≤ p5 then
        some (.inl (i11 + 1))
      else
        some (.inr (.inl (i11, w9))))
def pX10_windowKth_R82 (w9 : Int32)  : Option (Int32 × Int32) :=
  some ((-9), w9)
def pX10_windowKth (u_refusal : Int32) (u_now : Nat → Int32) (p0 : Int32) (p1 : Int32) (p2 : Int32) (p3 : Int32) (p4 : Int32) (p5 : Int32) : Option (Int32 × Int32) :=
  bd1 (pX10_isTable p0) (fun v1 =>
    bd1 (
      if v1 = 0 then
        some 1
      else
        bd1 (pX10_isWindow p1 p2 p3 p4) (fun v6 =>
          if v6 = 0 then
            some 2
          else
            if 0 ≤ p5 then
              some 0
            else
              some 2))
      (fun (j3 : Int32) =>
        bd1 (pX10_refused u_refusal j3) (un2 (fun v8 w9 =>
          if v8 = 0 then
            bd1 (lpI lpF (pX10_windowKth_L45 u_now p0 p1 p2 p3 p4 p5 w9) 0) (fun xx16 => el xx16
              (un2 (fun y20 y21 =>
                some (y20, y21)))
              (fun _ => pX10_windowKth_R82 w9))
          else
            some (0, w9)))))
def pX10_upTo (u0 : Nat → Int32) (p1 : Int32) (p2 : Int32) : Option (Int32) :=
  bd1 (pX10_countIn u0 p1 0 0 6 6 p2) (fun v1 =>
    some v1)
def pX10_kthOfBoth_L20 (u_now : Nat → Int32) (p0 : Int32) (p1 : Int32) (w5 : Int32) (i7 : Int32) : Option ((Int32) ⊕ ((Int32 × Int32) ⊕ (Unit))) :=
  if 100 ≤ i7 then
    some (.inr (.inr ()))
  else
    bd1 (pX10_upTo u_now 0 i7) (fun v14 =>
      bd1 (pX10_upTo u_now 1 i7) (fun v16 =>
        if (v14 + v16) ≤ p0 then
          some (.inl (i7 + 1))
        else
          if p1 = 0 then
            some (.inr (.inl (i7, w5)))
          else
            bd1 (pX10_upTo u_now 0 i7) (fun v18 =>
              bd1 (pX10_upTo u_now 1 (i7 - 1)) (fun v20 =>
                if (v18 + v20) ≤ p0 then
                  some (.inr (.inl (1, w5)))
                else
                  some (.inr (.inl (0, w5)))))))
def pX10_kthOfBoth_R94 (w5 : Int32)  : Option (Int32 × Int32) :=
  some ((-9), w5)
def pX10_kthOfBoth (u_refusal : Int32) (u_now : Nat → Int32) (p0 : Int32) (p1 : Int32) : Option (Int32 × Int32) :=
  bd1 (
    if 0 ≤ p0 then
      some 0
    else
      some 1)
    (fun (j1 : Int32) =>
      bd1 (pX10_refused u_refusal j1) (un2 (fun v4 w5 =>
        if v4 = 0 then
          bd1 (lpI lpF (pX10_kthOfBoth_L20 u_now p0 p1 w5) 0) (fun xx12 => el xx12
            (un2 (fun y22 y23 =>
              some (y22, y23)))
            (fun _ => pX10_kthOfBoth_R94 w5))
        else
          some (0, w5))))
def pX10_pairsOf_L13 (u0 : Nat → Int32) (p1 : Int32) (i1 : Int32) (i10 : Int32) (i11 : Int32) : Option ((Int32 × Int32) ⊕ (Int32)) :=
  bd1 (pX10_length u0 0 i1) (fun v19 =>
    if v19 ≤ i10 then
      some (.inr i11)
    else
      bd1 (pX10_get u0 0 i1 i10) (fun v21 =>
        bd1 (pX10_upTo u0 1 (p1 - v21)) (fun v23 =>
          some (.inl ((i10 + 1), (i11 + v23))))))
def pX10_pairsOf_L4 (u0 : Nat → Int32) (p1 : Int32) (i1 : Int32) (i2 : Int32) : Option ((Int32 × Int32) ⊕ (Int32)) :=
  if 6 ≤ i1 then
    some (.inr i2)
  else
    bd1 (lpI lpF (un2 (pX10_pairsOf_L13 u0 p1 i1)) (0, i2)) (fun x12 =>
      some (.inl ((i1 + 1), x12)))
def pX10_pairsOf (u0 : Nat → Int32) (p1 : Int32) : Option (Int32) :=
  bd1 (lpI lpF (un2 (pX10_pairsOf_L4 u0 p1)) (0, 0)) (fun x3 =>
    some x3)
def pX10_pairs (u_refusal : Int32) (u_now : Nat → Int32) (p0 : Int32) : Option (Int32 × Int32) :=
  bd1 (pX10_in (p0 : Int32).toInt64 0 198) (fun v1 =>
    bd1 (
      if v1 = 0 then
        some 1
      else
        some 0)
      (fun (j3 : Int32) =>
        bd1 (pX10_refused u_refusal j3) (un2 (fun v6 w7 =>
          if v6 = 0 then
            bd1 (pX10_pairsOf u_now p0) (fun v9 =>
              some (v9, w7))
          else
            some (0, w7)))))
def pX10_kthSum_L20 (u_now : Nat → Int32) (p0 : Int32) (w5 : Int32) (i7 : Int32) : Option ((Int32) ⊕ ((Int32 × Int32) ⊕ (Unit))) :=
  if 198 < i7 then
    some (.inr (.inr ()))
  else
    bd1 (pX10_pairsOf u_now i7) (fun v14 =>
      if v14 ≤ p0 then
        some (.inl (i7 + 1))
      else
        some (.inr (.inl (i7, w5))))
def pX10_kthSum_R47 (w5 : Int32)  : Option (Int32 × Int32) :=
  some ((-9), w5)
def pX10_kthSum (u_refusal : Int32) (u_now : Nat → Int32) (p0 : Int32) : Option (Int32 × Int32) :=
  bd1 (
    if 0 ≤ p0 then
      some 0
    else
      some 1)
    (fun (j1 : Int32) =>
      bd1 (pX10_refused u_refusal j1) (un2 (fun v4 w5 =>
        if v4 = 0 then
          bd1 (lpI lpF (pX10_kthSum_L20 u_now p0 w5) 0) (fun xx12 => el xx12
            (un2 (fun y16 y17 =>
              some (y16, y17)))
            (fun _ => pX10_kthSum_R47 w5))
        else
          some (0, w5))))
def pX10_corner_L35 (u_now : Nat → Int32) (p0 : Int32) (p2 : Int32) (w7 : Int32) (i9 : Int32) (i10 : Int32) : Option ((Int32 × Int32) ⊕ ((Int32 × Int32) ⊕ (Unit))) :=
  if 6 ≤ i9 then
    some (.inr (.inr ()))
  else
    if p2 = 0 then
      bd1 (pX10_isCorner u_now p0 i9) (fun v17 =>
        if v17 = 0 then
          some (.inl ((i9 + 1), i10))
        else
          if i10 = 0 then
            bd1 (pX10_length u_now p0 i9) (fun v19 =>
              if p2 = 0 then
                some (.inr (.inl ((((10 * i9) + v19) - 1), w7)))
              else
                some (.inr (.inl ((((10 * i9) + v19) - 0), w7))))
          else
            some (.inl ((i9 + 1), (i10 + (-1)))))
    else
      bd1 (pX10_isGap u_now p0 i9) (fun v21 =>
        if v21 = 0 then
          some (.inl ((i9 + 1), i10))
        else
          if i10 = 0 then
            bd1 (pX10_length u_now p0 i9) (fun v23 =>
              if p2 = 0 then
                some (.inr (.inl ((((10 * i9) + v23) - 1), w7)))
              else
                some (.inr (.inl ((((10 * i9) + v23) - 0), w7))))
          else
            some (.inl ((i9 + 1), (i10 + (-1)))))
def pX10_corner_R116 (w7 : Int32)  : Option (Int32 × Int32) :=
  some ((-9), w7)
def pX10_corner (u_refusal : Int32) (u_now : Nat → Int32) (p0 : Int32) (p1 : Int32) (p2 : Int32) : Option (Int32 × Int32) :=
  bd1 (pX10_isTable p0) (fun v1 =>
    bd1 (
      if v1 = 0 then
        some 1
      else
        if 0 ≤ p1 then
          some 0
        else
          some 2)
      (fun (j3 : Int32) =>
        bd1 (pX10_refused u_refusal j3) (un2 (fun v6 w7 =>
          if v6 = 0 then
            bd1 (lpI lpF (un2 (pX10_corner_L35 u_now p0 p2 w7)) (0, p1)) (fun xx15 => el xx15
              (un2 (fun y25 y26 =>
                some (y25, y26)))
              (fun _ => pX10_corner_R116 w7))
          else
            some (0, w7)))))
def pX10_hookOf (u0 : Nat → Int32) (p1 : Int32) (p2 : Int32) (p3 : Int32) : Option (Int32) :=
  bd1 (pX10_length u0 p1 p2) (fun v1 =>
    bd1 (pX10_tall u0 p1 p3) (fun v3 =>
      some ((((v1 - p3) + v3) - p2) - 1)))
def pX10_hook (u_refusal : Int32) (u_now : Nat → Int32) (p0 : Int32) (p1 : Int32) (p2 : Int32) : Option (Int32 × Int32) :=
  bd1 (pX10_have u_now p0 p1 p2) (fun v1 =>
    bd1 (
      if v1 = 0 then
        some 1
      else
        some 0)
      (fun (j3 : Int32) =>
        bd1 (pX10_refused u_refusal j3) (un2 (fun v6 w7 =>
          if v6 = 0 then
            bd1 (pX10_hookOf u_now p0 p1 p2) (fun v9 =>
              some (v9, w7))
          else
            some (0, w7)))))
def pX10_countPrimes_L11 (p1 : Int32) (i1 : Int32) (i11 : Int32) (w12 : Nat → Int32) : Option ((Int32 × (Nat → Int32)) ⊕ (Int32 × (Nat → Int32))) :=
  bd1 (rmI i11 i1) (fun v21 =>
    if v21 = 0 then
      bd1 (dvI i11 i1) (fun v23 =>
        bd1 (gI 37 w12 i1) (fun v25 =>
          bd1 (sI 37 w12 i1 (v25 + p1)) (fun w27 =>
            some (.inl (v23, w27)))))
    else
      some (.inr (i11, w12)))
def pX10_countPrimes_L5 (p0 : Int32) (p1 : Int32) (i1 : Int32) (i2 : Int32) (w3 : Nat → Int32) : Option ((Int32 × Int32 × (Nat → Int32)) ⊕ ((Nat → Int32))) :=
  if p0 < i1 then
    some (.inr w3)
  else
    bd1 (lpI lpF (un2 (pX10_countPrimes_L11 p1 i1)) (i2, w3)) (un2 (fun x13 w14 =>
      some (.inl ((i1 + 1), x13, w14))))
def pX10_countPrimes (u_primes : Nat → Int32) (p0 : Int32) (p1 : Int32) : Option ((Nat → Int32)) :=
  bd1 (lpI lpF (un3 (pX10_countPrimes_L5 p0 p1)) (2, p0, u_primes)) (fun w4 =>
    some w4)
def pX10_fillings_L23  (i9 : Int32) (w10 : Nat → Int32) : Option ((Int32 × (Nat → Int32)) ⊕ ((Nat → Int32))) :=
  if 36 < i9 then
    some (.inr w10)
  else
    bd1 (sI 37 w10 i9 0) (fun w18 =>
      some (.inl ((i9 + 1), w18)))
def pX10_fillings_L44 (u_now : Nat → Int32) (p0 : Int32) (i20 : Int32) (w21 : Nat → Int32) : Option ((Int32 × (Nat → Int32)) ⊕ ((Nat → Int32))) :=
  bd1 (pX10_many u_now p0) (fun v29 =>
    if v29 < i20 then
      some (.inr w21)
    else
      bd1 (pX10_countPrimes w21 i20 1) (fun w31 =>
        some (.inl ((i20 + 1), w31))))
def pX10_fillings_L78 (u_now : Nat → Int32) (p0 : Int32) (i33 : Int32) (i42 : Int32) (w43 : Nat → Int32) : Option ((Int32 × (Nat → Int32)) ⊕ ((Nat → Int32))) :=
  bd1 (pX10_length u_now p0 i33) (fun v51 =>
    if v51 ≤ i42 then
      some (.inr w43)
    else
      bd1 (pX10_hookOf u_now p0 i33 i42) (fun v53 =>
        bd1 (pX10_countPrimes w43 v53 (-1)) (fun w55 =>
          some (.inl ((i42 + 1), w55)))))
def pX10_fillings_L70 (u_now : Nat → Int32) (p0 : Int32) (i33 : Int32) (w34 : Nat → Int32) : Option ((Int32 × (Nat → Int32)) ⊕ ((Nat → Int32))) :=
  if 6 ≤ i33 then
    some (.inr w34)
  else
    bd1 (lpI lpF (un2 (pX10_fillings_L78 u_now p0 i33)) (0, w34)) (fun w44 =>
      some (.inl ((i33 + 1), w44)))
def pX10_fillings_L133 (w35 : Nat → Int32) (i57 : Int32) (i66 : Int32) (i67 : Int64) : Option ((Int32 × Int64) ⊕ (Int64)) :=
  bd1 (gI 37 w35 i57) (fun v75 =>
    if v75 ≤ i66 then
      some (.inr i67)
    else
      some (.inl ((i66 + 1), (i67 * (i57 : Int32).toInt64))))
def pX10_fillings_L123 (w35 : Nat → Int32) (i57 : Int32) (i58 : Int64) : Option ((Int32 × Int64) ⊕ (Int64)) :=
  if 36 < i57 then
    some (.inr i58)
  else
    bd1 (lpI lpF (un2 (pX10_fillings_L133 w35 i57)) (0, i58)) (fun x68 =>
      some (.inl ((i57 + 1), x68)))
def pX10_fillings (u_refusal : Int32) (u_now : Nat → Int32) (u_primes : Nat → Int32) (p0 : Int32) : Option (Int64 × Int32 × (Nat → Int32)) :=
  bd1 (pX10_isTable p0) (fun v1 =>
    bd1 (
      if v1 = 0 then
        some 1
      else
        some 0)
      (fun (j3 : Int32) =>
        bd1 (pX10_refused u_refusal j3) (un2 (fun v6 w7 =>
          if v6 = 0 then
            bd1 (lpI lpF (un2 (pX10_fillings_L23)) (0, u_primes)) (fun w11 =>
              bd1 (lpI lpF (un2 (pX10_fillings_L44 u_now p0)) (2, w11)) (fun w22 =>
                bd1 (lpI lpF (un2 (pX10_fillings_L70 u_now p0)) (0, w22)) (fun w35 =>
                  bd1 (lpI lpF (un2 (pX10_fillings_L123 w35)) (2, 1)) (fun x59 =>
                    some (x59, w7, w35)))))
          else
            some (0, w7, u_primes)))))
def pX10_path_L54 (u_now : Nat → Int32) (p0 : Int32) (i11 : Int32) (i24 : Int32) (i25 : Int32) (i26 : Int32) (w27 : Nat → Int32) : Option ((Int32 × Int32 × Int32 × (Nat → Int32)) ⊕ (Int32 × Int32 × (Nat → Int32))) :=
  bd1 (pX10_length u_now p0 i11) (fun v37 =>
    if v37 ≤ i24 then
      some (.inr (i25, i26, w27))
    else
      bd1 (
        if i11 ≤ 0 then
          some 0
        else
          bd1 (gI 36 w27 ((6 * (i11 - 1)) + i24)) (fun v42 =>
            some v42))
        (fun (j39 : Int32) =>
          bd1 (
            if i24 ≤ 0 then
              some 0
            else
              bd1 (gI 36 w27 (((6 * i11) + i24) - 1)) (fun v47 =>
                some v47))
            (fun (j44 : Int32) =>
              bd1 (pX10_get u_now p0 i11 i24) (fun v49 =>
                bd1 (
                  if j39 ≤ j44 then
                    some j44
                  else
                    some j39)
                  (fun (j51 : Int32) =>
                    bd1 (sI 36 w27 ((6 * i11) + i24) (v49 + j51)) (fun w54 =>
                      bd1 (pX10_isCorner u_now p0 i11) (fun v56 =>
                        bd1 (
                          if v56 = 0 then
                            some 0
                          else
                            bd1 (pX10_length u_now p0 i11) (fun v61 =>
                              if i24 = (v61 - 1) then
                                some 1
                              else
                                some 0))
                          (fun (j58 : Int32) =>
                            if j58 = 0 then
                              some (.inl ((i24 + 1), i25, i26, w54))
                            else
                              if i26 = (-9) then
                                some (.inl ((i24 + 1), (v49 + j51), ((10 * i11) + i24), w54))
                              else
                                if (v49 + j51) ≤ i25 then
                                  some (.inl ((i24 + 1), i25, i26, w54))
                                else
                                  some (.inl ((i24 + 1), (v49 + j51), ((10 * i11) + i24), w54))))))))))
def pX10_path_L44 (u_now : Nat → Int32) (p0 : Int32) (i11 : Int32) (i12 : Int32) (i13 : Int32) (w14 : Nat → Int32) : Option ((Int32 × Int32 × Int32 × (Nat → Int32)) ⊕ (Int32 × Int32 × (Nat → Int32))) :=
  if 6 ≤ i11 then
    some (.inr (i12, i13, w14))
  else
    bd1 (lpI lpF (un4 (pX10_path_L54 u_now p0 i11)) (0, i12, i13, w14)) (un3 (fun x28 x29 w30 =>
      some (.inl ((i11 + 1), x28, x29, w30))))
def pX10_path (u_refusal : Int32) (u_now : Nat → Int32) (u_sums : Nat → Int32) (p0 : Int32) (p1 : Int32) : Option (Int32 × Int32 × (Nat → Int32)) :=
  bd1 (pX10_isTable p0) (fun v1 =>
    bd1 (
      if v1 = 0 then
        some 1
      else
        bd1 (pX10_in (p1 : Int32).toInt64 0 1) (fun v6 =>
          if v6 = 0 then
            some 2
          else
            some 0))
      (fun (j3 : Int32) =>
        bd1 (pX10_refused u_refusal j3) (un2 (fun v8 w9 =>
          if v8 = 0 then
            bd1 (lpI lpF (un4 (pX10_path_L44 u_now p0)) (0, 0, (-9), u_sums)) (un3 (fun x15 x16 w17 =>
              if x16 = (-9) then
                some (x16, w9, w17)
              else
                if p1 = 1 then
                  some (x16, w9, w17)
                else
                  some (x15, w9, w17)))
          else
            some (0, w9, u_sums)))))
def pX10_ifInserted (u_refusal : Int32) (u_slides : Int32) (u_now : Nat → Int32) (u_trial : Nat → Int32) (p0 : Int32) (p1 : Int32) (p2 : Int32) : Option (Int32 × Int32 × Int32 × (Nat → Int32)) :=
  bd1 (pX10_isTable p0) (fun v1 =>
    bd1 (
      if v1 = 0 then
        some 1
      else
        bd1 (pX10_isNumber p1) (fun v6 =>
          if v6 = 0 then
            some 2
          else
            some 0))
      (fun (j3 : Int32) =>
        bd1 (pX10_refused u_refusal j3) (un2 (fun v8 w9 =>
          if v8 = 0 then
            bd1 (pX10_gapRow u_now p0) (fun v11 =>
              if v11 = (-9) then
                some ((-9), w9, u_slides, u_trial)
              else
                bd1 (pX10_copy 84 84 u_now u_trial 0 0 84) (fun w13 =>
                  bd1 (pX10_insertOn u_slides w13 p0 p1) (un3 (fun v15 w16 w17 =>
                    if p2 = 0 then
                      some (v15, w9, w16, w17)
                    else
                      some (w16, w9, w16, w17)))))
          else
            some (0, w9, u_slides, u_trial)))))
def pX10_ifRemoved (u_refusal : Int32) (u_now : Nat → Int32) (u_trial : Nat → Int32) (p0 : Int32) (p1 : Int32) (p2 : Int32) : Option (Int32 × Int32 × (Nat → Int32)) :=
  bd1 (pX10_have u_now p0 p1 p2) (fun v1 =>
    bd1 (
      if v1 = 0 then
        some 1
      else
        some 0)
      (fun (j3 : Int32) =>
        bd1 (pX10_refused u_refusal j3) (un2 (fun v6 w7 =>
          if v6 = 0 then
            bd1 (pX10_copy 84 84 u_now u_trial 0 0 84) (fun w9 =>
              bd1 (pX10_removeOn w9 p0 p1 p2) (un2 (fun v11 w12 =>
                some (v11, w7, w12))))
          else
            some (0, w7, u_trial)))))
def pX10_has (u0 : Nat → Int32) (p1 : Int32) (p2 : Int32) : Option (Int32) :=
  bd1 (pX10_upTo u0 p1 p2) (fun v1 =>
    bd1 (pX10_upTo u0 p1 (p2 - 1)) (fun v3 =>
      if v1 ≤ v3 then
        some 0
      else
        some 1))
def pX10_command (u_slides : Int32) (u_trial : Nat → Int32) (u_turned : Nat → Int32) (p0 : Int32) : Option (Int32 × Int32 × (Nat → Int32) × (Nat → Int32)) :=
  if (p0 / 10000) = 8 then
    if (irm (p0 / 1000) 10) = 0 then
      bd1 (pX10_pairsOf u_trial 99) (fun v64 =>
        if v64 = (irm p0 1000) then
          some (1, u_slides, u_trial, u_turned)
        else
          some (0, u_slides, u_trial, u_turned))
    else
      some (0, u_slides, u_trial, u_turned)
  else
    bd1 (pX10_isTable (irm (p0 / 1000) 10)) (fun v1 =>
      if v1 = 0 then
        some (0, u_slides, u_trial, u_turned)
      else
        if (p0 / 10000) = 1 then
          if (irm (p0 / 100) 10) = 0 then
            bd1 (pX10_gapRow u_trial (irm (p0 / 1000) 10)) (fun v3 =>
              if v3 = (-9) then
                some (0, u_slides, u_trial, u_turned)
              else
                bd1 (pX10_insertOn u_slides u_trial (irm (p0 / 1000) 10) (irm p0 100)) (un3 (fun v5 w6 w7 =>
                  some (1, w6, w7, u_turned))))
          else
            some (0, u_slides, u_trial, u_turned)
        else
          if (p0 / 10000) = 2 then
            if (irm p0 10) = 0 then
              bd1 (pX10_isCell u_trial (irm (p0 / 1000) 10) (irm (p0 / 100) 10) (irm (p0 / 10) 10)) (fun v9 =>
                if v9 = 0 then
                  some (0, u_slides, u_trial, u_turned)
                else
                  if (p0 / 10000) = 3 then
                    bd1 (pX10_gapRow u_trial (1 - (irm (p0 / 1000) 10))) (fun v20 =>
                      if v20 = (-9) then
                        some (0, u_slides, u_trial, u_turned)
                      else
                        bd1 (pX10_get u_trial (irm (p0 / 1000) 10) (irm (p0 / 100) 10) (irm (p0 / 10) 10)) (fun v22 =>
                          bd1 (pX10_removeOn u_trial (irm (p0 / 1000) 10) (irm (p0 / 100) 10) (irm (p0 / 10) 10)) (un2 (fun v24 w25 =>
                            if (p0 / 10000) = 3 then
                              bd1 (pX10_insertOn u_slides w25 (1 - (irm (p0 / 1000) 10)) v22) (un3 (fun v27 w28 w29 =>
                                some (1, w28, w29, u_turned)))
                            else
                              some (1, u_slides, w25, u_turned)))))
                  else
                    bd1 (pX10_get u_trial (irm (p0 / 1000) 10) (irm (p0 / 100) 10) (irm (p0 / 10) 10)) (fun v11 =>
                      bd1 (pX10_removeOn u_trial (irm (p0 / 1000) 10) (irm (p0 / 100) 10) (irm (p0 / 10) 10)) (un2 (fun v13 w14 =>
                        if (p0 / 10000) = 3 then
                          bd1 (pX10_insertOn u_slides w14 (1 - (irm (p0 / 1000) 10)) v11) (un3 (fun v16 w17 w18 =>
                            some (1, w17, w18, u_turned)))
                        else
                          some (1, u_slides, w14, u_turned)))))
            else
              some (0, u_slides, u_trial, u_turned)
          else
            if (p0 / 10000) = 3 then
              if (irm p0 10) = 0 then
                bd1 (pX10_isCell u_trial (irm (p0 / 1000) 10) (irm (p0 / 100) 10) (irm (p0 / 10) 10)) (fun v31 =>
                  if v31 = 0 then
                    some (0, u_slides, u_trial, u_turned)
                  else
                    if (p0 / 10000) = 3 then
                      bd1 (pX10_gapRow u_trial (1 - (irm (p0 / 1000) 10))) (fun v42 =>
                        if v42 = (-9) then
                          some (0, u_slides, u_trial, u_turned)
                        else
                          bd1 (pX10_get u_trial (irm (p0 / 1000) 10) (irm (p0 / 100) 10) (irm (p0 / 10) 10)) (fun v44 =>
                            bd1 (pX10_removeOn u_trial (irm (p0 / 1000) 10) (irm (p0 / 100) 10) (irm (p0 / 10) 10)) (un2 (fun v46 w47 =>
                              if (p0 / 10000) = 3 then
                                bd1 (pX10_insertOn u_slides w47 (1 - (irm (p0 / 1000) 10)) v44) (un3 (fun v49 w50 w51 =>
                                  some (1, w50, w51, u_turned)))
                              else
                                some (1, u_slides, w47, u_turned)))))
                    else
                      bd1 (pX10_get u_trial (irm (p0 / 1000) 10) (irm (p0 / 100) 10) (irm (p0 / 10) 10)) (fun v33 =>
                        bd1 (pX10_removeOn u_trial (irm (p0 / 1000) 10) (irm (p0 / 100) 10) (irm (p0 / 10) 10)) (un2 (fun v35 w36 =>
                          if (p0 / 10000) = 3 then
                            bd1 (pX10_insertOn u_slides w36 (1 - (irm (p0 / 1000) 10)) v33) (un3 (fun v38 w39 w40 =>
                              some (1, w39, w40, u_turned)))
                          else
                            some (1, u_slides, w36, u_turned)))))
              else
                some (0, u_slides, u_trial, u_turned)
            else
              if (p0 / 10000) = 4 then
                if (irm p0 1000) = 0 then
                  bd1 (pX10_transposeOn u_turned u_trial (irm (p0 / 1000) 10)) (un2 (fun w53 w54 =>
                    some (1, u_slides, w54, w53)))
                else
                  some (0, u_slides, u_trial, u_turned)
              else
                if (p0 / 10000) = 5 then
                  if (irm (p0 / 100) 10) = 0 then
                    bd1 (pX10_many u_trial (irm (p0 / 1000) 10)) (fun v56 =>
                      if v56 = (irm p0 100) then
                        some (1, u_slides, u_trial, u_turned)
                      else
                        some (0, u_slides, u_trial, u_turned))
                  else
                    some (0, u_slides, u_trial, u_turned)
                else
                  if (p0 / 10000) = 6 then
                    if (irm (p0 / 100) 10) = 0 then
                      bd1 (pX10_has u_trial (irm (p0 / 1000) 10) (irm p0 100)) (fun v58 =>
                        if v58 = 0 then
                          some (0, u_slides, u_trial, u_turned)
                        else
                          some (1, u_slides, u_trial, u_turned))
                    else
                      some (0, u_slides, u_trial, u_turned)
                  else
                    if (p0 / 10000) = 7 then
                      if (irm (p0 / 100) 10) = 0 then
                        bd1 (pX10_many u_trial (irm (p0 / 1000) 10)) (fun v60 =>
                          if v60 ≤ 0 then
                            some (0, u_slides, u_trial, u_turned)
                          else
                            bd1 (pX10_extreme u_trial (irm (p0 / 1000) 10) 1) (fun v62 =>
                              if (irm p0 100) < v62 then
                                some (0, u_slides, u_trial, u_turned)
                              else
                                some (1, u_slides, u_trial, u_turned)))
                      else
                        some (0, u_slides, u_trial, u_turned)
                    else
                      some (0, u_slides, u_trial, u_turned))
def pX10_runScript_L60 (p0 : Int32) (p1 : Int64) (w11 : Int32) (i15 : Int32) (w16 : Int32) (w17 : Nat → Int32) (w18 : Nat → Int32) : Option ((Int32 × Int32 × (Nat → Int32) × (Nat → Int32)) ⊕ ((Int32 × Int32 × Int32 × (Nat → Int32) × (Nat → Int32)) ⊕ (Int32 × (Nat → Int32) × (Nat → Int32)))) :=
  if p0 ≤ i15 then
    some (.inr (.inr (w16, w17, w18)))
  else
    bd1 (pX10_tenTo (5 * ((p0 - 1) - i15))) (fun v28 =>
      bd1 (dvL p1 v28) (fun v30 =>
        bd1 (pX10_command w16 w17 w18 ((lrm v30 100000) : Int64).toInt32) (un4 (fun v32 w33 w34 w35 =>
          if v32 = 0 then
            some (.inr (.inl (i15, w11, w33, w34, w35)))
          else
            some (.inl ((i15 + 1), w33, w34, w35))))))
def pX10_runScript_R100 (w11 : Int32) (w19 : Int32) (w20 : Nat → Int32) (w21 : Nat → Int32) : Option (Int32 × Int32 × Int32 × (Nat → Int32) × (Nat → Int32)) :=
  some ((-9), w11, w19, w20, w21)
def pX10_runScript (u_refusal : Int32) (u_slides : Int32) (u_now : Nat → Int32) (u_trial : Nat → Int32) (u_turned : Nat → Int32) (p0 : Int32) (p1 : Int64) : Option (Int32 × Int32 × Int32 × (Nat → Int32) × (Nat → Int32)) :=
  bd1 (pX10_in (p0 : Int32).toInt64 1 3) (fun v1 =>
    bd1 (
      if v1 = 0 then
        some 1
      else
        bd1 (pX10_tenTo (5 * p0)) (fun v6 =>
          bd1 (pX10_in p1 0 (v6 - 1)) (fun v8 =>
            if v8 = 0 then
              some 1
            else
              some 0)))
      (fun (j3 : Int32) =>
        bd1 (pX10_refused u_refusal j3) (un2 (fun v10 w11 =>
          if v10 = 0 then
            bd1 (pX10_copy 84 84 u_now u_trial 0 0 84) (fun w13 =>
              bd1 (lpI lpF (un4 (pX10_runScript_L60 p0 p1 w11)) (0, u_slides, w13, u_turned)) (fun xx26 => el xx26
                (un5 (fun y37 y38 y39 y40 y41 =>
                  some (y37, y38, y39, y40, y41)))
                (un3 (pX10_runScript_R100 w11))))
          else
            some (0, w11, u_slides, u_trial, u_turned)))))
def pX10_simulate_L47 (p1 : Int32) (i11 : Int32) (i12 : Int64) (w13 : Int32) (w14 : Nat → Int32) : Option ((Int32 × Int64 × Int32 × (Nat → Int32)) ⊕ (Int32 × (Nat → Int32))) :=
  if p1 ≤ i11 then
    some (.inr (w13, w14))
  else
    if (irm ((((((i12 * 6364136223846793005) + 1442695040888963407).toUInt64 >>> ((33 : Int32).toInt64.toUInt64 &&& Int64.toUInt64 63)).toInt64) : Int64).toInt32 / 2) 4) = 0 then
      bd1 (pX10_many w14 (irm (((((i12 * 6364136223846793005) + 1442695040888963407).toUInt64 >>> ((33 : Int32).toInt64.toUInt64 &&& Int64.toUInt64 63)).toInt64) : Int64).toInt32 2)) (fun v29 =>
        if v29 ≤ 0 then
          bd1 (pX10_gapRow w14 (irm (((((i12 * 6364136223846793005) + 1442695040888963407).toUInt64 >>> ((33 : Int32).toInt64.toUInt64 &&& Int64.toUInt64 63)).toInt64) : Int64).toInt32 2)) (fun v31 =>
            if v31 = (-9) then
              some (.inl ((i11 + 1), ((i12 * 6364136223846793005) + 1442695040888963407), w13, w14))
            else
              bd1 (pX10_insertOn w13 w14 (irm (((((i12 * 6364136223846793005) + 1442695040888963407).toUInt64 >>> ((33 : Int32).toInt64.toUInt64 &&& Int64.toUInt64 63)).toInt64) : Int64).toInt32 2) (irm ((((((i12 * 6364136223846793005) + 1442695040888963407).toUInt64 >>> ((33 : Int32).toInt64.toUInt64 &&& Int64.toUInt64 63)).toInt64) : Int64).toInt32 / 8) 100)) (un3 (fun v33 w34 w35 =>
                some (.inl ((i11 + 1), ((i12 * 6364136223846793005) + 1442695040888963407), w34, w35)))))
        else
          bd1 (pX10_many w14 (irm (((((i12 * 6364136223846793005) + 1442695040888963407).toUInt64 >>> ((33 : Int32).toInt64.toUInt64 &&& Int64.toUInt64 63)).toInt64) : Int64).toInt32 2)) (fun v37 =>
            bd1 (rmI ((((((i12 * 6364136223846793005) + 1442695040888963407).toUInt64 >>> ((33 : Int32).toInt64.toUInt64 &&& Int64.toUInt64 63)).toInt64) : Int64).toInt32 / 8) v37) (fun v39 =>
              bd1 (pX10_kthPlace w14 (irm (((((i12 * 6364136223846793005) + 1442695040888963407).toUInt64 >>> ((33 : Int32).toInt64.toUInt64 &&& Int64.toUInt64 63)).toInt64) : Int64).toInt32 2) v39) (fun v41 =>
                bd1 (pX10_removeOn w14 (irm (((((i12 * 6364136223846793005) + 1442695040888963407).toUInt64 >>> ((33 : Int32).toInt64.toUInt64 &&& Int64.toUInt64 63)).toInt64) : Int64).toInt32 2) (v41 / 10) (irm v41 10)) (un2 (fun v43 w44 =>
                  some (.inl ((i11 + 1), ((i12 * 6364136223846793005) + 1442695040888963407), w13, w44))))))))
    else
      bd1 (pX10_gapRow w14 (irm (((((i12 * 6364136223846793005) + 1442695040888963407).toUInt64 >>> ((33 : Int32).toInt64.toUInt64 &&& Int64.toUInt64 63)).toInt64) : Int64).toInt32 2)) (fun v23 =>
        if v23 = (-9) then
          some (.inl ((i11 + 1), ((i12 * 6364136223846793005) + 1442695040888963407), w13, w14))
        else
          bd1 (pX10_insertOn w13 w14 (irm (((((i12 * 6364136223846793005) + 1442695040888963407).toUInt64 >>> ((33 : Int32).toInt64.toUInt64 &&& Int64.toUInt64 63)).toInt64) : Int64).toInt32 2) (irm ((((((i12 * 6364136223846793005) + 1442695040888963407).toUInt64 >>> ((33 : Int32).toInt64.toUInt64 &&& Int64.toUInt64 63)).toInt64) : Int64).toInt32 / 8) 100)) (un3 (fun v25 w26 w27 =>
            some (.inl ((i11 + 1), ((i12 * 6364136223846793005) + 1442695040888963407), w26, w27)))))
def pX10_simulate (u_refusal : Int32) (u_slides : Int32) (u_now : Nat → Int32) (u_trial : Nat → Int32) (p0 : Int64) (p1 : Int32) : Option (Int32 × Int32 × Int32 × (Nat → Int32)) :=
  bd1 (pX10_in (p1 : Int32).toInt64 1 60) (fun v1 =>
    bd1 (
      if v1 = 0 then
        some 1
      else
        some 0)
      (fun (j3 : Int32) =>
        bd1 (pX10_refused u_refusal j3) (un2 (fun v6 w7 =>
          if v6 = 0 then
            bd1 (pX10_copy 84 84 u_now u_trial 0 0 84) (fun w9 =>
              bd1 (lpI lpF (un4 (pX10_simulate_L47 p1)) (0, p0, u_slides, w9)) (un2 (fun w15 w16 =>
                bd1 (pX10_sumOf w16 0) (fun v46 =>
                  bd1 (pX10_sumOf w16 1) (fun v48 =>
                    some ((v46 + v48), w7, w15, w16))))))
          else
            some (0, w7, u_slides, u_trial)))))
def pX10_save (u_refusal : Int32) (u_now : Nat → Int32) (u_kept : Nat → Int32) (u_isKept : Nat → Int32) (p0 : Int32) : Option (Int32 × Int32 × (Nat → Int32) × (Nat → Int32)) :=
  bd1 (pX10_in (p0 : Int32).toInt64 0 1) (fun v1 =>
    bd1 (
      if v1 = 0 then
        some 1
      else
        some 0)
      (fun (j3 : Int32) =>
        bd1 (pX10_refused u_refusal j3) (un2 (fun v6 w7 =>
          if v6 = 0 then
            bd1 (sZ 2 u_isKept p0 1) (fun w9 =>
              bd1 (pX10_copy 84 168 u_now u_kept 0 (84 * p0) 84) (fun w11 =>
                bd1 (pX10_both u_now) (fun v13 =>
                  some (v13, w7, w11, w9))))
          else
            some (0, w7, u_kept, u_isKept)))))
def pX10_restore (u_refusal : Int32) (u_acts : Int32) (u_now : Nat → Int32) (u_kept : Nat → Int32) (u_isKept : Nat → Int32) (p0 : Int32) : Option (Int32 × Int32 × Int32 × (Nat → Int32)) :=
  bd1 (pX10_in (p0 : Int32).toInt64 0 1) (fun v1 =>
    bd1 (
      if v1 = 0 then
        some 1
      else
        bd1 (gI 2 u_isKept p0) (fun v6 =>
          if v6 = 0 then
            some 2
          else
            some 0))
      (fun (j3 : Int32) =>
        bd1 (pX10_refused u_refusal j3) (un2 (fun v8 w9 =>
          if v8 = 0 then
            bd1 (pX10_copy 168 84 u_kept u_now (84 * p0) 0 84) (fun w11 =>
              bd1 (pX10_both w11) (fun v13 =>
                some (v13, w9, 0, w11)))
          else
            some (0, w9, u_acts, u_now)))))
