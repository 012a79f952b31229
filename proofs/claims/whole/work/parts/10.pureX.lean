def pX7_at (u_numbers : Nat → Int32) (p0 : Int32) (p1 : Int32) : Option (Int32) :=
  if p0 < 0 then
    some (-1)
  else
    if 6 ≤ p0 then
      some (-1)
    else
      if p1 < 0 then
        some (-1)
      else
        if p1 < 6 then
          bd1 (gI 36 u_numbers ((p0 * 6) + p1)) (fun v1 =>
            some v1)
        else
          some (-1)
def pX7_has (u_numbers : Nat → Int32) (p0 : Int32) (p1 : Int32) : Option (Int32) :=
  bd1 (pX7_at u_numbers p0 p1) (fun v1 =>
    if v1 = (-1) then
      some 0
    else
      some 1)
def pX7_columnLength_L4 (u_numbers : Nat → Int32) (p0 : Int32) (i1 : Int32) (i2 : Int32) : Option ((Int32 × Int32) ⊕ (Int32)) :=
  if 6 ≤ i1 then
    some (.inr i2)
  else
    bd1 (pX7_at u_numbers i1 p0) (fun v10 =>
      if v10 = (-1) then
        some (.inl ((i1 + 1), i2))
      else
        some (.inl ((i1 + 1), (i2 + 1))))
def pX7_columnLength (u_numbers : Nat → Int32) (p0 : Int32) : Option (Int32) :=
  bd1 (lpI lpF (un2 (pX7_columnLength_L4 u_numbers p0)) (0, 0)) (fun x3 =>
    some x3)
def pX7_rowLength_L16 (u_numbers : Nat → Int32) (p0 : Int32) (i1 : Int32) (i2 : Int32) : Option ((Int32 × Int32) ⊕ (Int32)) :=
  if 6 ≤ i1 then
    some (.inr i2)
  else
    bd1 (gI 36 u_numbers ((p0 * 6) + i1)) (fun v10 =>
      if v10 = (-1) then
        some (.inl ((i1 + 1), i2))
      else
        some (.inl ((i1 + 1), (i2 + 1))))
def pX7_rowLength (u_numbers : Nat → Int32) (p0 : Int32) : Option (Int32) :=
  if p0 < 0 then
    some 0
  else
    if p0 < 6 then
      bd1 (lpI lpF (un2 (pX7_rowLength_L16 u_numbers p0)) (0, 0)) (fun x3 =>
        some x3)
    else
      some 0
def pX7_hookOf (u_numbers : Nat → Int32) (p0 : Int32) (p1 : Int32) : Option (Int32) :=
  bd1 (pX7_rowLength u_numbers p0) (fun v1 =>
    bd1 (pX7_columnLength u_numbers p1) (fun v3 =>
      some ((((v1 - p1) + v3) - p0) - 1)))
def pX0_divideByHooks_L10 (u0_numbers : Nat → Int32) (i1 : Int32) (i10 : Int32) (w11 : Nat → Int32) : Option ((Int32 × (Nat → Int32)) ⊕ ((Nat → Int32))) :=
  if 6 ≤ i10 then
    some (.inr w11)
  else
    bd1 (pX7_has u0_numbers i1 i10) (fun v19 =>
      bd1 (
        if v19 = 0 then
          some 0
        else
          bd1 (pX7_hookOf u0_numbers i1 i10) (fun v24 =>
            some v24))
        (fun (j21 : Int32) =>
          if j21 < 1 then
            some (.inl ((i10 + 1), w11))
          else
            if 36 < j21 then
              some (.inl ((i10 + 1), w11))
            else
              bd1 (gI 37 w11 j21) (fun v26 =>
                bd1 (sI 37 w11 j21 (v26 - 1)) (fun w28 =>
                  some (.inl ((i10 + 1), w28))))))
def pX0_divideByHooks_L2 (u0_numbers : Nat → Int32) (i1 : Int32) (w2 : Nat → Int32) : Option ((Int32 × (Nat → Int32)) ⊕ ((Nat → Int32))) :=
  if 6 ≤ i1 then
    some (.inr w2)
  else
    bd1 (lpI lpF (un2 (pX0_divideByHooks_L10 u0_numbers i1)) (0, w2)) (fun w12 =>
      some (.inl ((i1 + 1), w12)))
def pX0_divideByHooks (u_times : Nat → Int32) (u0_numbers : Nat → Int32) : Option ((Nat → Int32)) :=
  bd1 (lpI lpF (un2 (pX0_divideByHooks_L2 u0_numbers)) (0, u_times)) (fun w3 =>
    some w3)
def pX0_powerIn_L4 (p0 : Int32) (p1 : Int32) (i1 : Int32) (i2 : Int32) : Option ((Int32 × Int32) ⊕ (Int32)) :=
  if i1 ≤ 1 then
    some (.inr i2)
  else
    if 36 < i1 then
      some (.inr i2)
    else
      bd1 (rmI p0 i1) (fun v10 =>
        if v10 = 0 then
          some (.inl ((i1 * p1), (i2 + 1)))
        else
          some (.inl ((i1 * p1), i2)))
def pX0_powerIn (p0 : Int32) (p1 : Int32) : Option (Int32) :=
  bd1 (lpI lpF (un2 (pX0_powerIn_L4 p0 p1)) (p1, 0)) (fun x3 =>
    some x3)
def pX0_powerOf_L4 (u_times : Nat → Int32) (p0 : Int32) (i1 : Int32) (i2 : Int32) : Option ((Int32 × Int32) ⊕ (Int32)) :=
  if 36 < i1 then
    some (.inr i2)
  else
    bd1 (gI 37 u_times i1) (fun v10 =>
      bd1 (pX0_powerIn i1 p0) (fun v12 =>
        some (.inl ((i1 + 1), (i2 + (v10 * v12))))))
def pX0_powerOf (u_times : Nat → Int32) (p0 : Int32) : Option (Int32) :=
  bd1 (lpI lpF (un2 (pX0_powerOf_L4 u_times p0)) (1, 0)) (fun x3 =>
    some x3)
def pX7_cells_L4 (u_numbers : Nat → Int32) (i1 : Int32) (i2 : Int32) : Option ((Int32 × Int32) ⊕ (Int32)) :=
  if 6 ≤ i1 then
    some (.inr i2)
  else
    bd1 (pX7_rowLength u_numbers i1) (fun v10 =>
      some (.inl ((i1 + 1), (i2 + v10))))
def pX7_cells (u_numbers : Nat → Int32) : Option (Int32) :=
  bd1 (lpI lpF (un2 (pX7_cells_L4 u_numbers)) (0, 0)) (fun x3 =>
    some x3)
def pX0_countFor_L7 (v1 : Int32) (i3 : Int32) (w4 : Nat → Int32) : Option ((Int32 × (Nat → Int32)) ⊕ ((Nat → Int32))) :=
  if 36 < i3 then
    some (.inr w4)
  else
    if i3 < 1 then
      bd1 (sI 37 w4 i3 0) (fun w12 =>
        some (.inl ((i3 + 1), w12)))
    else
      if v1 < i3 then
        bd1 (sI 37 w4 i3 0) (fun w14 =>
          some (.inl ((i3 + 1), w14)))
      else
        bd1 (sI 37 w4 i3 1) (fun w16 =>
          some (.inl ((i3 + 1), w16)))
def pX0_countFor_L85 (v29 : Int32) (v31 : Int32) (i33 : Int32) (i34 : Int64) : Option ((Int32 × Int64) ⊕ (Int64)) :=
  if v31 ≤ i33 then
    some (.inr i34)
  else
    some (.inl ((i33 + 1), (i34 * (v29 : Int32).toInt64)))
def pX0_countFor_L60 (w18 : Nat → Int32) (i20 : Int32) (i21 : Int64) : Option ((Int32 × Int64) ⊕ (Int64)) :=
  if 11 ≤ i20 then
    some (.inr i21)
  else
    bd1 (gI 11 kPrimes i20) (fun v29 =>
      bd1 (pX0_powerOf w18 v29) (fun v31 =>
        bd1 (lpI lpF (un2 (pX0_countFor_L85 v29 v31)) (0, i21)) (fun x35 =>
          some (.inl ((i20 + 1), x35)))))
def pX0_countFor (u_times : Nat → Int32) (u0_numbers : Nat → Int32) : Option (Int64 × (Nat → Int32)) :=
  bd1 (pX7_cells u0_numbers) (fun v1 =>
    bd1 (lpI lpF (un2 (pX0_countFor_L7 v1)) (0, u_times)) (fun w5 =>
      bd1 (pX0_divideByHooks w5 u0_numbers) (fun w18 =>
        bd1 (lpI lpF (un2 (pX0_countFor_L60 w18)) (0, 1)) (fun x22 =>
          some (x22, w18)))))
def pX1_sum (u_sum : Int32) : Option (Int32) :=
  some u_sum
def pX1_end (u_end : Int32) : Option (Int32) :=
  some u_end
def pX9_placeOf (p0 : Int32) (p1 : Int32) : Option (Int32) :=
  some ((10 * p0) + p1)
def pX1_endAt (u_sum : Int32) (u_end : Int32) (u_sums : Nat → Int32) (p0 : Int32) (p1 : Int32) : Option (Int32 × Int32) :=
  if p1 < 0 then
    some (u_sum, u_end)
  else
    if 6 ≤ p1 then
      some (u_sum, u_end)
    else
      bd1 (gI 6 u_sums p1) (fun v1 =>
        if v1 ≤ u_sum then
          some (u_sum, u_end)
        else
          bd1 (gI 6 u_sums p1) (fun v3 =>
            bd1 (pX9_placeOf p0 p1) (fun v5 =>
              some (v3, v5))))
def pX1_goOverRow_L5 (u0_numbers : Nat → Int32) (p1 : Int32) (i1 : Int32) (i2 : Int32) (w3 : Nat → Int32) : Option ((Int32 × Int32 × (Nat → Int32)) ⊕ ((Nat → Int32))) :=
  if 6 ≤ i1 then
    some (.inr w3)
  else
    bd1 (pX7_has u0_numbers p1 i1) (fun v11 =>
      if v11 = 0 then
        some (.inl ((i1 + 1), i2, w3))
      else
        bd1 (pX7_at u0_numbers p1 i1) (fun v13 =>
          bd1 (gI 6 w3 i1) (fun v15 =>
            bd1 (sI 6 w3 i1 (v13 + (if v15 < i2 then i2 else v15))) (fun w17 =>
              some (.inl ((i1 + 1), (v13 + (if v15 < i2 then i2 else v15)), w17))))))
def pX1_goOverRow (u_sums : Nat → Int32) (u0_numbers : Nat → Int32) (p1 : Int32) : Option ((Nat → Int32)) :=
  bd1 (lpI lpF (un3 (pX1_goOverRow_L5 u0_numbers p1)) (0, 0, u_sums)) (fun w4 =>
    some w4)
def pX7_hasCorner (u_numbers : Nat → Int32) (p0 : Int32) : Option (Int32) :=
  bd1 (pX7_rowLength u_numbers p0) (fun v1 =>
    bd1 (pX7_rowLength u_numbers (p0 + 1)) (fun v3 =>
      if v1 ≤ v3 then
        some 0
      else
        some 1))
def pX1_search_L14  (i1 : Int32) (w2 : Nat → Int32) : Option ((Int32 × (Nat → Int32)) ⊕ ((Nat → Int32))) :=
  if 6 ≤ i1 then
    some (.inr w2)
  else
    bd1 (sI 6 w2 i1 0) (fun w10 =>
      some (.inl ((i1 + 1), w10)))
def pX1_search_L35 (u0_numbers : Nat → Int32) (i12 : Int32) (w13 : Int32) (w14 : Int32) (w15 : Nat → Int32) : Option ((Int32 × Int32 × Int32 × (Nat → Int32)) ⊕ (Int32 × Int32 × (Nat → Int32))) :=
  if 6 ≤ i12 then
    some (.inr (w13, w14, w15))
  else
    bd1 (pX1_goOverRow w15 u0_numbers i12) (fun w25 =>
      bd1 (pX7_hasCorner u0_numbers i12) (fun v27 =>
        if v27 = 0 then
          some (.inl ((i12 + 1), w13, w14, w25))
        else
          bd1 (pX7_rowLength u0_numbers i12) (fun v29 =>
            bd1 (pX1_endAt w13 w14 w25 i12 (v29 - 1)) (un2 (fun w31 w32 =>
              some (.inl ((i12 + 1), w31, w32, w25)))))))
def pX1_search (u_sum : Int32) (u_end : Int32) (u_sums : Nat → Int32) (u0_numbers : Nat → Int32) : Option (Int32 × Int32 × (Nat → Int32)) :=
  bd1 (lpI lpF (un2 (pX1_search_L14)) (0, u_sums)) (fun w3 =>
    bd1 (lpI lpF (un4 (pX1_search_L35 u0_numbers)) (0, (-9), (-9), w3)) (un3 (fun w16 w17 w18 =>
      some (w16, w17, w18))))
def pX2_table (p0 : Int32) : Option (Bool) :=
  if p0 = 0 then
    some true
  else
    some false
def pX7_copyFrom (u_numbers : Nat → Int32) (u0_numbers : Nat → Int32) : Option ((Nat → Int32)) :=
  bd1 (cpI 36 36 u0_numbers u_numbers 0 0 36) (fun w1 =>
    some w1)
def pX2_copyFrom (u_first_numbers : Nat → Int32) (u_second_numbers : Nat → Int32) (u0_first_numbers : Nat → Int32) (u0_second_numbers : Nat → Int32) : Option ((Nat → Int32) × (Nat → Int32)) :=
  bd1 (pX7_copyFrom u_first_numbers u0_first_numbers) (fun w1 =>
    bd1 (pX7_copyFrom u_second_numbers u0_second_numbers) (fun w3 =>
      some (w1, w3)))
def pX7_writeTo (u_numbers : Nat → Int32) (u0 : Nat → Int32) (p1 : Int32) : Option ((Nat → Int32)) :=
  if p1 < 0 then
    some u0
  else
    if (1008 - 36) < p1 then
      some u0
    else
      bd1 (cpI 36 1008 u_numbers u0 0 p1 36) (fun w1 =>
        some w1)
def pX2_writeTo (u_first_numbers : Nat → Int32) (u_second_numbers : Nat → Int32) (u0 : Nat → Int32) (p1 : Int32) : Option ((Nat → Int32)) :=
  bd1 (pX7_writeTo u_first_numbers u0 p1) (fun w1 =>
    bd1 (pX7_writeTo u_second_numbers w1 (p1 + 36)) (fun w3 =>
      some w3))
def pX7_readFrom (u_numbers : Nat → Int32) (u0 : Nat → Int32) (p1 : Int32) : Option ((Nat → Int32)) :=
  if p1 < 0 then
    some u_numbers
  else
    if (1008 - 36) < p1 then
      some u_numbers
    else
      bd1 (cpI 1008 36 u0 u_numbers p1 0 36) (fun w1 =>
        some w1)
def pX2_readFrom (u_first_numbers : Nat → Int32) (u_second_numbers : Nat → Int32) (u0 : Nat → Int32) (p1 : Int32) : Option ((Nat → Int32) × (Nat → Int32)) :=
  bd1 (pX7_readFrom u_first_numbers u0 p1) (fun w1 =>
    bd1 (pX7_readFrom u_second_numbers u0 (p1 + 36)) (fun w3 =>
      some (w1, w3)))
def pX7_wipe_L2  (i1 : Int32) (w2 : Nat → Int32) : Option ((Int32 × (Nat → Int32)) ⊕ ((Nat → Int32))) :=
  if 36 ≤ i1 then
    some (.inr w2)
  else
    bd1 (sI 36 w2 i1 (-1)) (fun w10 =>
      some (.inl ((i1 + 1), w10)))
def pX7_wipe (u_numbers : Nat → Int32) : Option ((Nat → Int32)) :=
  bd1 (lpI lpF (un2 (pX7_wipe_L2)) (0, u_numbers)) (fun w3 =>
    some w3)
def pX2_wipe (u_first_numbers : Nat → Int32) (u_second_numbers : Nat → Int32) : Option ((Nat → Int32) × (Nat → Int32)) :=
  bd1 (pX7_wipe u_first_numbers) (fun w1 =>
    bd1 (pX7_wipe u_second_numbers) (fun w3 =>
      some (w1, w3)))
def pX7_swapWith_L2  (i1 : Int32) (w2 : Nat → Int32) (w3 : Nat → Int32) : Option ((Int32 × (Nat → Int32) × (Nat → Int32)) ⊕ ((Nat → Int32) × (Nat → Int32))) :=
  if 36 ≤ i1 then
    some (.inr (w2, w3))
  else
    bd1 (gI 36 w2 i1) (fun v12 =>
      bd1 (gI 36 w3 i1) (fun v14 =>
        bd1 (sI 36 w2 i1 v14) (fun w16 =>
          bd1 (sI 36 w3 i1 v12) (fun w18 =>
            some (.inl ((i1 + 1), w16, w18))))))
def pX7_swapWith (u_numbers : Nat → Int32) (u0_numbers : Nat → Int32) : Option ((Nat → Int32) × (Nat → Int32)) :=
  bd1 (lpI lpF (un3 (pX7_swapWith_L2)) (0, u_numbers, u0_numbers)) (un2 (fun w4 w5 =>
    some (w4, w5)))
def pX2_swap (u_first_numbers : Nat → Int32) (u_second_numbers : Nat → Int32) : Option ((Nat → Int32) × (Nat → Int32)) :=
  bd1 (pX7_swapWith u_first_numbers u_second_numbers) (un2 (fun w1 w2 =>
    some (w1, w2)))
def pX2_cells (u_first_numbers : Nat → Int32) (u_second_numbers : Nat → Int32) : Option (Int32) :=
  bd1 (pX7_cells u_first_numbers) (fun v1 =>
    bd1 (pX7_cells u_second_numbers) (fun v3 =>
      some (v1 + v3)))
def pX7_put (u_numbers : Nat → Int32) (p0 : Int32) (p1 : Int32) (p2 : Int32) : Option ((Nat → Int32)) :=
  if p0 < 0 then
    some u_numbers
  else
    if 6 ≤ p0 then
      some u_numbers
    else
      if p1 < 0 then
        some u_numbers
      else
        if 6 ≤ p1 then
          some u_numbers
        else
          bd1 (sI 36 u_numbers ((p0 * 6) + p1) p2) (fun w1 =>
            some w1)
def pX7_orHole (p0 : Int32) : Option (Int32) :=
  if p0 = (-1) then
    some 100
  else
    some p0
def pX7_slideDown_L17 (v1 : Int32) (i3 : Int32) (i4 : Int32) (i5 : Int32) (w6 : Nat → Int32) : Option ((Int32 × Int32 × Int32 × (Nat → Int32)) ⊕ (Int32 × Int32 × (Nat → Int32))) :=
  if 12 ≤ i3 then
    some (.inr (i4, i5, w6))
  else
    bd1 (pX7_at w6 (i5 + 1) i4) (fun v16 =>
      bd1 (pX7_orHole v16) (fun v18 =>
        bd1 (pX7_at w6 i5 (i4 + 1)) (fun v20 =>
          bd1 (pX7_orHole v20) (fun v22 =>
            if v18 < v1 then
              bd1 (
                if v22 < v18 then
                  bd1 (pX7_put w6 i5 i4 v22) (fun w29 =>
                    some (i5, (i4 + 1), w29))
                else
                  bd1 (pX7_put w6 i5 i4 v18) (fun w31 =>
                    some ((i5 + 1), i4, w31)))
                (un3 (fun (j24 : Int32) (j25 : Int32) (w26 : Nat → Int32) =>
                  bd1 (pX7_put w26 j24 j25 v1) (fun w33 =>
                    some (.inl ((i3 + 1), j25, j24, w33)))))
            else
              if v22 < v1 then
                bd1 (
                  if v22 < v18 then
                    bd1 (pX7_put w6 i5 i4 v22) (fun w40 =>
                      some (i5, (i4 + 1), w40))
                  else
                    bd1 (pX7_put w6 i5 i4 v18) (fun w42 =>
                      some ((i5 + 1), i4, w42)))
                  (un3 (fun (j35 : Int32) (j36 : Int32) (w37 : Nat → Int32) =>
                    bd1 (pX7_put w37 j35 j36 v1) (fun w44 =>
                      some (.inl ((i3 + 1), j36, j35, w44)))))
              else
                some (.inr (i4, i5, w6))))))
def pX7_slideDown (u_numbers : Nat → Int32) (p0 : Int32) (p1 : Int32) : Option (Int32 × (Nat → Int32)) :=
  bd1 (pX7_at u_numbers p0 p1) (fun v1 =>
    bd1 (lpI lpF (un4 (pX7_slideDown_L17 v1)) (0, p1, p0, u_numbers)) (un3 (fun x7 x8 w9 =>
      bd1 (pX9_placeOf x8 x7) (fun v46 =>
        some (v46, w9)))))
def pX9_columnOf (p0 : Int32) : Option (Int32) :=
  some (irm p0 10)
def pX9_rowOf (p0 : Int32) : Option (Int32) :=
  some (p0 / 10)
def pX7_takeAway (u_numbers : Nat → Int32) (p0 : Int32) (p1 : Int32) : Option (Int32 × (Nat → Int32)) :=
  bd1 (pX7_put u_numbers p0 p1 100) (fun w1 =>
    bd1 (pX7_slideDown w1 p0 p1) (un2 (fun v3 w4 =>
      bd1 (pX9_rowOf v3) (fun v6 =>
        bd1 (pX9_columnOf v3) (fun v8 =>
          bd1 (pX7_put w4 v6 v8 (-1)) (fun w10 =>
            some (v3, w10)))))))
def pX7_nearestGap_L12 (u_numbers : Nat → Int32) (i1 : Int32) (i2 : Int32) (i3 : Int32) (i4 : Int32) : Option ((Int32 × Int32 × Int32 × Int32) ⊕ (Int32)) :=
  if 6 ≤ i1 then
    some (.inr i4)
  else
    bd1 (pX7_rowLength u_numbers i1) (fun v12 =>
      if i2 ≤ v12 then
        some (.inl ((i1 + 1), v12, i3, i4))
      else
        if i3 ≤ (i1 + v12) then
          some (.inl ((i1 + 1), v12, i3, i4))
        else
          bd1 (pX9_placeOf i1 v12) (fun v14 =>
            some (.inl ((i1 + 1), v12, (i1 + v12), v14))))
def pX7_nearestGap (u_numbers : Nat → Int32) : Option (Int32) :=
  bd1 (lpI lpF (un4 (pX7_nearestGap_L12 u_numbers)) (0, 6, 12, (-9))) (fun x5 =>
    some x5)
def pX7_slideUp_L17 (v1 : Int32) (i3 : Int32) (i4 : Int32) (i5 : Int32) (w6 : Nat → Int32) : Option ((Int32 × Int32 × Int32 × (Nat → Int32)) ⊕ (Int32 × Int32 × (Nat → Int32))) :=
  if 12 ≤ i3 then
    some (.inr (i4, i5, w6))
  else
    bd1 (pX7_at w6 (i5 - 1) i4) (fun v16 =>
      bd1 (pX7_at w6 i5 (i4 - 1)) (fun v18 =>
        if v1 < v16 then
          bd1 (
            if v16 < v18 then
              bd1 (pX7_put w6 i5 i4 v18) (fun w25 =>
                some (i5, (i4 + (-1)), w25))
            else
              bd1 (pX7_put w6 i5 i4 v16) (fun w27 =>
                some ((i5 + (-1)), i4, w27)))
            (un3 (fun (j20 : Int32) (j21 : Int32) (w22 : Nat → Int32) =>
              bd1 (pX7_put w22 j20 j21 v1) (fun w29 =>
                some (.inl ((i3 + 1), j21, j20, w29)))))
        else
          if v1 < v18 then
            bd1 (
              if v16 < v18 then
                bd1 (pX7_put w6 i5 i4 v18) (fun w36 =>
                  some (i5, (i4 + (-1)), w36))
              else
                bd1 (pX7_put w6 i5 i4 v16) (fun w38 =>
                  some ((i5 + (-1)), i4, w38)))
              (un3 (fun (j31 : Int32) (j32 : Int32) (w33 : Nat → Int32) =>
                bd1 (pX7_put w33 j31 j32 v1) (fun w40 =>
                  some (.inl ((i3 + 1), j32, j31, w40)))))
          else
            some (.inr (i4, i5, w6))))
def pX7_slideUp (u_numbers : Nat → Int32) (p0 : Int32) (p1 : Int32) : Option (Int32 × (Nat → Int32)) :=
  bd1 (pX7_at u_numbers p0 p1) (fun v1 =>
    bd1 (lpI lpF (un4 (pX7_slideUp_L17 v1)) (0, p1, p0, u_numbers)) (un3 (fun x7 x8 w9 =>
      bd1 (pX9_placeOf x8 x7) (fun v42 =>
        some (v42, w9)))))
def pX7_takeIn (u_numbers : Nat → Int32) (p0 : Int32) : Option (Int32 × (Nat → Int32)) :=
  bd1 (pX7_nearestGap u_numbers) (fun v1 =>
    if v1 = (-9) then
      some ((-9), u_numbers)
    else
      bd1 (pX9_rowOf v1) (fun v3 =>
        bd1 (pX9_columnOf v1) (fun v5 =>
          bd1 (pX7_put u_numbers v3 v5 p0) (fun w7 =>
            bd1 (pX9_rowOf v1) (fun v9 =>
              bd1 (pX9_columnOf v1) (fun v11 =>
                bd1 (pX7_slideUp w7 v9 v11) (un2 (fun v13 w14 =>
                  some (v13, w14)))))))))
def pX2_moveOver (u_first_numbers : Nat → Int32) (u_second_numbers : Nat → Int32) (p0 : Int32) (p1 : Int32) (p2 : Int32) : Option (Int32 × (Nat → Int32) × (Nat → Int32)) :=
  bd1 (pX2_table p0) (fun b1 =>
    cond b1
      (
        bd1 (pX7_at u_first_numbers p1 p2) (fun v3 =>
          bd1 (pX7_takeAway u_first_numbers p1 p2) (un2 (fun v5 w6 =>
            bd1 (pX2_table (1 - p0)) (fun b8 =>
              cond b8
                (
                  bd1 (pX7_takeIn w6 v3) (un2 (fun v10 w11 =>
                    some (v10, w11, u_second_numbers))))
                (
                  bd1 (pX7_takeIn u_second_numbers v3) (un2 (fun v13 w14 =>
                    some (v13, w6, w14)))))))))
      (
        bd1 (pX7_at u_second_numbers p1 p2) (fun v16 =>
          bd1 (pX7_takeAway u_second_numbers p1 p2) (un2 (fun v18 w19 =>
            bd1 (pX2_table (1 - p0)) (fun b21 =>
              cond b21
                (
                  bd1 (pX7_takeIn u_first_numbers v16) (un2 (fun v23 w24 =>
                    some (v23, w24, w19))))
                (
                  bd1 (pX7_takeIn w19 v16) (un2 (fun v26 w27 =>
                    some (v26, u_first_numbers, w27))))))))))
def pX7_isNotUpTo (p0 : Int32) (p1 : Int32) : Option (Int32) :=
  if p0 = (-1) then
    some 1
  else
    if p0 ≤ p1 then
      some 0
    else
      some 1
def pX7_countWithin_L16 (u_numbers : Nat → Int32) (p1 : Int32) (p4 : Int32) (i1 : Int32) (i11 : Int32) : Option ((Int32) ⊕ (Int32)) :=
  if i11 < p1 then
    some (.inr i11)
  else
    bd1 (pX7_at u_numbers i1 i11) (fun v19 =>
      bd1 (pX7_isNotUpTo v19 p4) (fun v21 =>
        if v21 = 0 then
          some (.inr i11)
        else
          some (.inl (i11 + (-1)))))
def pX7_countWithin_L10 (u_numbers : Nat → Int32) (p1 : Int32) (p2 : Int32) (p4 : Int32) (i1 : Int32) (i2 : Int32) (i3 : Int32) : Option ((Int32 × Int32 × Int32) ⊕ (Int32)) :=
  if p2 < i1 then
    some (.inr i3)
  else
    bd1 (lpI lpF (pX7_countWithin_L16 u_numbers p1 p4 i1) i2) (fun x12 =>
      some (.inl ((i1 + 1), x12, (i3 + ((x12 - p1) + 1)))))
def pX7_countWithin (u_numbers : Nat → Int32) (p0 : Int32) (p1 : Int32) (p2 : Int32) (p3 : Int32) (p4 : Int32) : Option (Int32) :=
  bd1 (lpI lpF (un3 (pX7_countWithin_L10 u_numbers p1 p2 p4)) (p0, p3, 0)) (fun x4 =>
    some x4)
def pX7_cellsUpTo (u_numbers : Nat → Int32) (p0 : Int32) : Option (Int32) :=
  bd1 (pX7_countWithin u_numbers 0 0 5 5 p0) (fun v1 =>
    some v1)
def pX2_cellsUpTo (u_first_numbers : Nat → Int32) (u_second_numbers : Nat → Int32) (p0 : Int32) : Option (Int32) :=
  bd1 (pX7_cellsUpTo u_first_numbers p0) (fun v1 =>
    bd1 (pX7_cellsUpTo u_second_numbers p0) (fun v3 =>
      some (v1 + v3)))
def pX2_kthNumberOfBoth_L18 (u_first_numbers : Nat → Int32) (u_second_numbers : Nat → Int32) (p0 : Int32) (i3 : Int32) (i4 : Int32) : Option ((Int32 × Int32) ⊕ (Int32)) :=
  if i3 ≤ 0 then
    some (.inr i4)
  else
    bd1 (pX2_cellsUpTo u_first_numbers u_second_numbers ((i4 + i3) - 1)) (fun v12 =>
      if p0 < v12 then
        some (.inl ((i3 / 2), i4))
      else
        some (.inl ((i3 / 2), (i4 + i3))))
def pX2_kthNumberOfBoth (u_first_numbers : Nat → Int32) (u_second_numbers : Nat → Int32) (p0 : Int32) : Option (Int32) :=
  bd1 (pX2_cellsUpTo u_first_numbers u_second_numbers 99) (fun v1 =>
    if p0 < v1 then
      bd1 (lpI lpF (un2 (pX2_kthNumberOfBoth_L18 u_first_numbers u_second_numbers p0)) (64, 0)) (fun x5 =>
        some x5)
    else
      some (-9))
def pX2_tableOfKth (u_first_numbers : Nat → Int32) (u_second_numbers : Nat → Int32) (p0 : Int32) (p1 : Int32) : Option (Int32) :=
  bd1 (pX7_cellsUpTo u_first_numbers p1) (fun v1 =>
    bd1 (pX7_cellsUpTo u_second_numbers (p1 - 1)) (fun v3 =>
      if (v1 + v3) ≤ p0 then
        some 1
      else
        some 0))
def pX2_pairsUpTo_L13 (u_first_numbers : Nat → Int32) (u_second_numbers : Nat → Int32) (p0 : Int32) (i1 : Int32) (i10 : Int32) (i11 : Int32) : Option ((Int32 × Int32) ⊕ (Int32)) :=
  if 6 ≤ i10 then
    some (.inr i11)
  else
    bd1 (pX7_has u_first_numbers i1 i10) (fun v19 =>
      if v19 = 0 then
        some (.inl ((i10 + 1), i11))
      else
        bd1 (pX7_at u_first_numbers i1 i10) (fun v21 =>
          bd1 (pX7_cellsUpTo u_second_numbers (p0 - v21)) (fun v23 =>
            some (.inl ((i10 + 1), (i11 + v23))))))
def pX2_pairsUpTo_L4 (u_first_numbers : Nat → Int32) (u_second_numbers : Nat → Int32) (p0 : Int32) (i1 : Int32) (i2 : Int32) : Option ((Int32 × Int32) ⊕ (Int32)) :=
  if 6 ≤ i1 then
    some (.inr i2)
  else
    bd1 (lpI lpF (un2 (pX2_pairsUpTo_L13 u_first_numbers u_second_numbers p0 i1)) (0, i2)) (fun x12 =>
      some (.inl ((i1 + 1), x12)))
def pX2_pairsUpTo (u_first_numbers : Nat → Int32) (u_second_numbers : Nat → Int32) (p0 : Int32) : Option (Int32) :=
  bd1 (lpI lpF (un2 (pX2_pairsUpTo_L4 u_first_numbers u_second_numbers p0)) (0, 0)) (fun x3 =>
    some x3)
def pX2_kthSumOfPair_L20 (u_first_numbers : Nat → Int32) (u_second_numbers : Nat → Int32) (p0 : Int32) (i3 : Int32) (i4 : Int32) : Option ((Int32 × Int32) ⊕ (Int32)) :=
  if i3 ≤ 0 then
    some (.inr i4)
  else
    bd1 (pX2_pairsUpTo u_first_numbers u_second_numbers ((i4 + i3) - 1)) (fun v12 =>
      if p0 < v12 then
        some (.inl ((i3 / 2), i4))
      else
        some (.inl ((i3 / 2), (i4 + i3))))
def pX2_kthSumOfPair (u_first_numbers : Nat → Int32) (u_second_numbers : Nat → Int32) (p0 : Int32) : Option (Int32) :=
  bd1 (pX2_pairsUpTo u_first_numbers u_second_numbers 198) (fun v1 =>
    if p0 < v1 then
      bd1 (lpI lpF (un2 (pX2_kthSumOfPair_L20 u_first_numbers u_second_numbers p0)) (128, 0)) (fun x5 =>
        some x5)
    else
      some (-9))
def pX3_isEmpty (u_remembered : Int32) : Option (Int32) :=
  if u_remembered = 0 then
    some 1
  else
    some 0
def pX3_remembered (u_remembered : Int32) : Option (Int32) :=
  some u_remembered
def pX3_forgetAll (u_remembered : Int32) : Option (Int32) :=
  some 0
def pX3_startBehindNewest (u_oldest : Int32) (u_remembered : Int32) : Option (Int32) :=
  some ((irm (u_oldest + u_remembered) 14) * 72)
def pX3_remember (u_oldest : Int32) (u_remembered : Int32) (u_numbers : Nat → Int32) (u0_first_numbers : Nat → Int32) (u0_second_numbers : Nat → Int32) : Option (Int32 × Int32 × (Nat → Int32)) :=
  bd1 (
    if u_remembered = 14 then
      some ((irm (u_oldest + 1) 14), (u_remembered - 1))
    else
      some (u_oldest, u_remembered))
    (un2 (fun (w1 : Int32) (w2 : Int32) =>
      bd1 (pX3_startBehindNewest w1 w2) (fun v5 =>
        bd1 (pX2_writeTo u0_first_numbers u0_second_numbers u_numbers v5) (fun w7 =>
          some (w1, (w2 + 1), w7)))))
def pX3_takeBack (u_oldest : Int32) (u_remembered : Int32) (u_numbers : Nat → Int32) (u0_first_numbers : Nat → Int32) (u0_second_numbers : Nat → Int32) : Option (Int32 × (Nat → Int32) × (Nat → Int32)) :=
  if u_remembered ≤ 0 then
    some (u_remembered, u0_first_numbers, u0_second_numbers)
  else
    bd1 (pX3_startBehindNewest u_oldest (u_remembered - 1)) (fun v1 =>
      bd1 (pX2_readFrom u0_first_numbers u0_second_numbers u_numbers v1) (un2 (fun w3 w4 =>
        some ((u_remembered - 1), w3, w4))))
def pX4_tables  : Option (Unit) :=
  some ()
def pX4_begin (u_table : Int32) (u_row : Int32) (u_column : Int32) (u_tens : Int32) (p0 : Int32) : Option (Int32 × Int32 × Int32 × Int32) :=
  some (p0, 0, 0, (-1))
def pX4_canEndTable (u_row : Int32) (u_column : Int32) (u_tens : Int32) : Option (Int32) :=
  if u_tens = (-1) then
    if 0 < u_column then
      some 1
    else
      if u_row = 0 then
        some 1
      else
        some 0
  else
    some 0
def pX4_takesSemicolon (u_table : Int32) (u_row : Int32) (u_column : Int32) (u_tens : Int32) : Option (Int32 × Int32 × Int32 × Int32 × Int32) :=
  if u_table = 0 then
    bd1 (pX4_canEndTable u_row u_column u_tens) (fun v1 =>
      if v1 = 0 then
        some (0, u_table, u_row, u_column, u_tens)
      else
        bd1 (pX4_begin u_table u_row u_column u_tens 1) (un4 (fun w3 w4 w5 w6 =>
          some (1, w3, w4, w5, w6))))
  else
    some (0, u_table, u_row, u_column, u_tens)
def pX4_takesSlash (u_row : Int32) (u_column : Int32) (u_tens : Int32) : Option (Int32 × Int32 × Int32) :=
  if u_tens = (-1) then
    if u_column = 0 then
      some (0, u_row, u_column)
    else
      if u_row = 5 then
        some (0, u_row, u_column)
      else
        some (1, (u_row + 1), 0)
  else
    some (0, u_row, u_column)
def pX4_leastNumber (u_row : Int32) (u_column : Int32) (u0_numbers : Nat → Int32) : Option (Int32) :=
  bd1 (pX7_at u0_numbers (u_row - 1) u_column) (fun v1 =>
    bd1 (pX7_at u0_numbers u_row (u_column - 1)) (fun v3 =>
      some (if v1 < v3 then v3 else v1)))
def pX4_takesTens (u_table : Int32) (u_row : Int32) (u_column : Int32) (u_tens : Int32) (u_tables_first_numbers : Nat → Int32) (u_tables_second_numbers : Nat → Int32) (p0 : Int32) : Option (Int32 × Int32) :=
  bd1 (pX2_table u_table) (fun b1 =>
    cond b1
      (
        bd1 (
          if u_row = 0 then
            some 6
          else
            bd1 (pX7_rowLength u_tables_first_numbers (u_row - 1)) (fun v6 =>
              some v6))
          (fun (j3 : Int32) =>
            if j3 ≤ u_column then
              some (0, u_tens)
            else
              bd1 (pX4_leastNumber u_row u_column u_tables_first_numbers) (fun v8 =>
                if v8 ≤ ((10 * p0) + 9) then
                  some (1, p0)
                else
                  some (0, u_tens))))
      (
        bd1 (
          if u_row = 0 then
            some 6
          else
            bd1 (pX7_rowLength u_tables_second_numbers (u_row - 1)) (fun v13 =>
              some v13))
          (fun (j10 : Int32) =>
            if j10 ≤ u_column then
              some (0, u_tens)
            else
              bd1 (pX4_leastNumber u_row u_column u_tables_second_numbers) (fun v15 =>
                if v15 ≤ ((10 * p0) + 9) then
                  some (1, p0)
                else
                  some (0, u_tens)))))
def pX4_takesUnits (u_table : Int32) (u_row : Int32) (u_column : Int32) (u_tens : Int32) (u_tables_first_numbers : Nat → Int32) (u_tables_second_numbers : Nat → Int32) (p0 : Int32) : Option (Int32 × Int32 × Int32 × (Nat → Int32) × (Nat → Int32)) :=
  bd1 (pX2_table u_table) (fun b1 =>
    cond b1
      (
        bd1 (pX4_leastNumber u_row u_column u_tables_first_numbers) (fun v3 =>
          if v3 ≤ ((10 * u_tens) + p0) then
            bd1 (pX7_put u_tables_first_numbers u_row u_column ((10 * u_tens) + p0)) (fun w5 =>
              some (1, (u_column + 1), (-1), w5, u_tables_second_numbers))
          else
            some (0, u_column, u_tens, u_tables_first_numbers, u_tables_second_numbers)))
      (
        bd1 (pX4_leastNumber u_row u_column u_tables_second_numbers) (fun v7 =>
          if v7 ≤ ((10 * u_tens) + p0) then
            bd1 (pX7_put u_tables_second_numbers u_row u_column ((10 * u_tens) + p0)) (fun w9 =>
              some (1, (u_column + 1), (-1), u_tables_first_numbers, w9))
          else
            some (0, u_column, u_tens, u_tables_first_numbers, u_tables_second_numbers))))
def pX4_takes (u_begun : Int32) (u_table : Int32) (u_row : Int32) (u_column : Int32) (u_tens : Int32) (u_tables_first_numbers : Nat → Int32) (u_tables_second_numbers : Nat → Int32) (p0 : Int32) : Option (Int32 × Int32 × Int32 × Int32 × Int32 × Int32 × (Nat → Int32) × (Nat → Int32)) :=
  if u_begun = 0 then
    if p0 = 84 then
      some (1, 1, u_table, u_row, u_column, u_tens, u_tables_first_numbers, u_tables_second_numbers)
    else
      some (0, 0, u_table, u_row, u_column, u_tens, u_tables_first_numbers, u_tables_second_numbers)
  else
    if p0 < 48 then
      if p0 = 47 then
        bd1 (pX4_takesSlash u_row u_column u_tens) (un3 (fun v7 w8 w9 =>
          bd1 (zb v7) (fun v11 =>
            some (v11, u_begun, u_table, w8, w9, u_tens, u_tables_first_numbers, u_tables_second_numbers))))
      else
        if p0 = 59 then
          bd1 (pX4_takesSemicolon u_table u_row u_column u_tens) (un5 (fun v1 w2 w3 w4 w5 =>
            if v1 = 0 then
              some (0, u_begun, w2, w3, w4, w5, u_tables_first_numbers, u_tables_second_numbers)
            else
              some (1, u_begun, w2, w3, w4, w5, u_tables_first_numbers, u_tables_second_numbers)))
        else
          some (0, u_begun, u_table, u_row, u_column, u_tens, u_tables_first_numbers, u_tables_second_numbers)
    else
      if 57 < p0 then
        if p0 = 47 then
          bd1 (pX4_takesSlash u_row u_column u_tens) (un3 (fun v20 w21 w22 =>
            bd1 (zb v20) (fun v24 =>
              some (v24, u_begun, u_table, w21, w22, u_tens, u_tables_first_numbers, u_tables_second_numbers))))
        else
          if p0 = 59 then
            bd1 (pX4_takesSemicolon u_table u_row u_column u_tens) (un5 (fun v14 w15 w16 w17 w18 =>
              if v14 = 0 then
                some (0, u_begun, w15, w16, w17, w18, u_tables_first_numbers, u_tables_second_numbers)
              else
                some (1, u_begun, w15, w16, w17, w18, u_tables_first_numbers, u_tables_second_numbers)))
          else
            some (0, u_begun, u_table, u_row, u_column, u_tens, u_tables_first_numbers, u_tables_second_numbers)
      else
        if u_tens = (-1) then
          bd1 (pX4_takesTens u_table u_row u_column u_tens u_tables_first_numbers u_tables_second_numbers (p0 - 48)) (un2 (fun v36 w37 =>
            bd1 (zb v36) (fun v39 =>
              some (v39, u_begun, u_table, u_row, u_column, w37, u_tables_first_numbers, u_tables_second_numbers))))
        else
          bd1 (pX4_takesUnits u_table u_row u_column u_tens u_tables_first_numbers u_tables_second_numbers (p0 - 48)) (un5 (fun v27 w28 w29 w30 w31 =>
            bd1 (zb v27) (fun v33 =>
              some (v33, u_begun, u_table, u_row, w28, w29, w30, w31))))
def pX8_codeAt (u_length : Int32) (u_codes : Nat → Int32) (p0 : Int32) : Option (Int32) :=
  if p0 < 0 then
    some (-1)
  else
    if u_length ≤ p0 then
      some (-1)
    else
      if 160 ≤ p0 then
        some (-1)
      else
        bd1 (gI 160 u_codes p0) (fun v1 =>
          some v1)
def pX8_length (u_length : Int32) : Option (Int32) :=
  some u_length
def pX4_read_L24 (u0_length : Int32) (u0_codes : Nat → Int32) (v9 : Int32) (i11 : Int32) (w12 : Int32) (w13 : Int32) (w14 : Int32) (w15 : Int32) (w16 : Int32) (w17 : Nat → Int32) (w18 : Nat → Int32) : Option ((Int32 × Int32 × Int32 × Int32 × Int32 × Int32 × (Nat → Int32) × (Nat → Int32)) ⊕ ((Int32 × Int32 × Int32 × Int32 × Int32 × Int32 × (Nat → Int32) × (Nat → Int32)) ⊕ (Int32 × Int32 × Int32 × Int32 × Int32 × (Nat → Int32) × (Nat → Int32)))) :=
  if v9 ≤ i11 then
    some (.inr (.inr (w12, w13, w14, w15, w16, w17, w18)))
  else
    bd1 (pX8_codeAt u0_length u0_codes i11) (fun v32 =>
      bd1 (pX4_takes w12 w13 w14 w15 w16 w17 w18 v32) (un8 (fun v34 w35 w36 w37 w38 w39 w40 w41 =>
        if v34 = 0 then
          some (.inr (.inl (i11, w35, w36, w37, w38, w39, w40, w41)))
        else
          some (.inl ((i11 + 1), w35, w36, w37, w38, w39, w40, w41)))))
def pX4_read_R49 (v9 : Int32) (w19 : Int32) (w20 : Int32) (w21 : Int32) (w22 : Int32) (w23 : Int32) (w24 : Nat → Int32) (w25 : Nat → Int32) : Option (Int32 × Int32 × Int32 × Int32 × Int32 × Int32 × (Nat → Int32) × (Nat → Int32)) :=
  if w19 = 0 then
    some (v9, w19, w20, w21, w22, w23, w24, w25)
  else
    if w20 = 1 then
      bd1 (pX4_canEndTable w21 w22 w23) (fun v43 =>
        if v43 = 0 then
          some (v9, w19, w20, w21, w22, w23, w24, w25)
        else
          some ((-9), w19, w20, w21, w22, w23, w24, w25))
    else
      some (v9, w19, w20, w21, w22, w23, w24, w25)
def pX4_read (u_begun : Int32) (u_table : Int32) (u_row : Int32) (u_column : Int32) (u_tens : Int32) (u_tables_first_numbers : Nat → Int32) (u_tables_second_numbers : Nat → Int32) (u0_length : Int32) (u0_codes : Nat → Int32) : Option (Int32 × Int32 × Int32 × Int32 × Int32 × Int32 × (Nat → Int32) × (Nat → Int32)) :=
  bd1 (pX2_wipe u_tables_first_numbers u_tables_second_numbers) (un2 (fun w1 w2 =>
    bd1 (pX4_begin u_table u_row u_column u_tens 0) (un4 (fun w4 w5 w6 w7 =>
      bd1 (pX8_length u0_length) (fun v9 =>
        bd1 (lpI lpF (un8 (pX4_read_L24 u0_length u0_codes v9)) (0, 0, w4, w5, w6, w7, w1, w2)) (fun xx30 => el xx30
          (un8 (fun y45 y46 y47 y48 y49 y50 y51 y52 =>
            some (y45, y46, y47, y48, y49, y50, y51, y52)))
          (un7 (pX4_read_R49 v9))))))))
def pX5_limit_L4 (p0 : Int32) (i1 : Int32) (i2 : Int64) : Option ((Int32 × Int64) ⊕ (Int64)) :=
  if p0 ≤ i1 then
    some (.inr i2)
  else
    some (.inl ((i1 + 1), (i2 * 100000)))
def pX5_limit (p0 : Int32) : Option (Int64) :=
  bd1 (lpI lpF (un2 (pX5_limit_L4 p0)) (0, 1)) (fun x3 =>
    some x3)
def pX5_group_L5 (p1 : Int32) (i1 : Int32) (i2 : Int64) : Option ((Int32 × Int64) ⊕ (Int64)) :=
  if p1 ≤ i1 then
    some (.inr i2)
  else
    some (.inl ((i1 + 1), (i2 / 100000)))
def pX5_group (p0 : Int64) (p1 : Int32) : Option (Int32) :=
  bd1 (lpI lpF (un2 (pX5_group_L5 p1)) (0, p0)) (fun x3 =>
    some ((lrm x3 100000) : Int64).toInt32)
def pX7_greatest_L5 (u_numbers : Nat → Int32) (i1 : Int32) (i2 : Int32) : Option ((Int32 × Int32) ⊕ (Int32)) :=
  if 36 ≤ i1 then
    some (.inr i2)
  else
    bd1 (gI 36 u_numbers i1) (fun v10 =>
      if v10 = (-1) then
        some (.inl ((i1 + 1), i2))
      else
        bd1 (gI 36 u_numbers i1) (fun v12 =>
          some (.inl ((i1 + 1), (if i2 < v12 then v12 else i2)))))
def pX7_greatest (u_numbers : Nat → Int32) : Option (Int32) :=
  bd1 (lpI lpF (un2 (pX7_greatest_L5 u_numbers)) (0, (-9))) (fun x3 =>
    some x3)
def pX5_succeedsWith (u0_numbers : Nat → Int32) (p1 : Int32) (p2 : Int32) : Option (Int32 × (Nat → Int32)) :=
  if p1 = 1 then
    bd1 (pX7_takeIn u0_numbers p2) (un2 (fun v1 w2 =>
      if v1 = (-9) then
        some (0, w2)
      else
        some (1, w2)))
  else
    if p1 = 2 then
      some (0, u0_numbers)
    else
      if p1 = 3 then
        some (0, u0_numbers)
      else
        if p1 = 4 then
          some (0, u0_numbers)
        else
          if p1 = 5 then
            bd1 (pX7_cells u0_numbers) (fun v4 =>
              if v4 = p2 then
                some (1, u0_numbers)
              else
                some (0, u0_numbers))
          else
            if p1 = 6 then
              bd1 (pX7_cellsUpTo u0_numbers p2) (fun v6 =>
                bd1 (pX7_cellsUpTo u0_numbers (p2 - 1)) (fun v8 =>
                  if v6 ≤ v8 then
                    some (0, u0_numbers)
                  else
                    some (1, u0_numbers)))
            else
              if p1 = 7 then
                bd1 (pX7_has u0_numbers 0 0) (fun v10 =>
                  if v10 = 0 then
                    some (0, u0_numbers)
                  else
                    bd1 (pX7_greatest u0_numbers) (fun v12 =>
                      if p2 < v12 then
                        some (0, u0_numbers)
                      else
                        some (1, u0_numbers)))
              else
                some (0, u0_numbers)
def pX7_isFull (u_numbers : Nat → Int32) : Option (Int32) :=
  bd1 (pX7_has u_numbers 5 5) (fun v1 =>
    bd1 (zb v1) (fun v3 =>
      some v3))
def pX5_takesCell (u0_first_numbers : Nat → Int32) (u0_second_numbers : Nat → Int32) (p1 : Int32) (p2 : Int32) (p3 : Int32) : Option (Int32 × (Nat → Int32) × (Nat → Int32)) :=
  bd1 (pX9_rowOf p3) (fun v1 =>
    bd1 (pX9_columnOf p3) (fun v3 =>
      bd1 (pX2_table p2) (fun b5 =>
        cond b5
          (
            bd1 (pX7_has u0_first_numbers v1 v3) (fun v7 =>
              if v7 = 0 then
                some (0, u0_first_numbers, u0_second_numbers)
              else
                if p1 = 2 then
                  bd1 (pX2_table p2) (fun b23 =>
                    cond b23
                      (
                        bd1 (pX7_takeAway u0_first_numbers v1 v3) (un2 (fun v25 w26 =>
                          some (1, w26, u0_second_numbers))))
                      (
                        bd1 (pX7_takeAway u0_second_numbers v1 v3) (un2 (fun v28 w29 =>
                          some (1, u0_first_numbers, w29)))))
                else
                  bd1 (pX2_table (1 - p2)) (fun b9 =>
                    cond b9
                      (
                        bd1 (pX7_isFull u0_first_numbers) (fun v11 =>
                          if v11 = 0 then
                            bd1 (pX2_moveOver u0_first_numbers u0_second_numbers p2 v1 v3) (un3 (fun v13 w14 w15 =>
                              some (1, w14, w15)))
                          else
                            some (0, u0_first_numbers, u0_second_numbers)))
                      (
                        bd1 (pX7_isFull u0_second_numbers) (fun v17 =>
                          if v17 = 0 then
                            bd1 (pX2_moveOver u0_first_numbers u0_second_numbers p2 v1 v3) (un3 (fun v19 w20 w21 =>
                              some (1, w20, w21)))
                          else
                            some (0, u0_first_numbers, u0_second_numbers))))))
          (
            bd1 (pX7_has u0_second_numbers v1 v3) (fun v31 =>
              if v31 = 0 then
                some (0, u0_first_numbers, u0_second_numbers)
              else
                if p1 = 2 then
                  bd1 (pX2_table p2) (fun b47 =>
                    cond b47
                      (
                        bd1 (pX7_takeAway u0_first_numbers v1 v3) (un2 (fun v49 w50 =>
                          some (1, w50, u0_second_numbers))))
                      (
                        bd1 (pX7_takeAway u0_second_numbers v1 v3) (un2 (fun v52 w53 =>
                          some (1, u0_first_numbers, w53)))))
                else
                  bd1 (pX2_table (1 - p2)) (fun b33 =>
                    cond b33
                      (
                        bd1 (pX7_isFull u0_first_numbers) (fun v35 =>
                          if v35 = 0 then
                            bd1 (pX2_moveOver u0_first_numbers u0_second_numbers p2 v1 v3) (un3 (fun v37 w38 w39 =>
                              some (1, w38, w39)))
                          else
                            some (0, u0_first_numbers, u0_second_numbers)))
                      (
                        bd1 (pX7_isFull u0_second_numbers) (fun v41 =>
                          if v41 = 0 then
                            bd1 (pX2_moveOver u0_first_numbers u0_second_numbers p2 v1 v3) (un3 (fun v43 w44 w45 =>
                              some (1, w44, w45)))
                          else
                            some (0, u0_first_numbers, u0_second_numbers)))))))))
def pX7_flip_L10 (i1 : Int32) (i10 : Int32) (w11 : Nat → Int32) : Option ((Int32 × (Nat → Int32)) ⊕ ((Nat → Int32))) :=
  if i1 ≤ i10 then
    some (.inr w11)
  else
    bd1 (pX7_at w11 i1 i10) (fun v19 =>
      bd1 (pX7_at w11 i10 i1) (fun v21 =>
        bd1 (pX7_put w11 i1 i10 v21) (fun w23 =>
          bd1 (pX7_put w23 i10 i1 v19) (fun w25 =>
            some (.inl ((i10 + 1), w25))))))
def pX7_flip_L2  (i1 : Int32) (w2 : Nat → Int32) : Option ((Int32 × (Nat → Int32)) ⊕ ((Nat → Int32))) :=
  if 6 ≤ i1 then
    some (.inr w2)
  else
    bd1 (lpI lpF (un2 (pX7_flip_L10 i1)) (0, w2)) (fun w12 =>
      some (.inl ((i1 + 1), w12)))
def pX7_flip (u_numbers : Nat → Int32) : Option ((Nat → Int32)) :=
  bd1 (lpI lpF (un2 (pX7_flip_L2)) (0, u_numbers)) (fun w3 =>
    some w3)
def pX5_transposes (u0_numbers : Nat → Int32) : Option (Int32 × (Nat → Int32)) :=
  bd1 (pX7_flip u0_numbers) (fun w1 =>
    some (1, w1))
def pX5_succeeds (u0_first_numbers : Nat → Int32) (u0_second_numbers : Nat → Int32) (p1 : Int32) : Option (Int32 × (Nat → Int32) × (Nat → Int32)) :=
  if (irm (p1 / 1000) 10) ≤ 1 then
    if (p1 / 10000) = 2 then
      if (irm (irm p1 1000) 10) = 0 then
        bd1 (pX5_takesCell u0_first_numbers u0_second_numbers (p1 / 10000) (irm (p1 / 1000) 10) ((irm p1 1000) / 10)) (un3 (fun v1 w2 w3 =>
          if v1 = 0 then
            some (0, w2, w3)
          else
            some (1, w2, w3)))
      else
        some (0, u0_first_numbers, u0_second_numbers)
    else
      if (p1 / 10000) = 3 then
        if (irm (irm p1 1000) 10) = 0 then
          bd1 (pX5_takesCell u0_first_numbers u0_second_numbers (p1 / 10000) (irm (p1 / 1000) 10) ((irm p1 1000) / 10)) (un3 (fun v5 w6 w7 =>
            if v5 = 0 then
              some (0, w6, w7)
            else
              some (1, w6, w7)))
        else
          some (0, u0_first_numbers, u0_second_numbers)
      else
        if (p1 / 10000) = 4 then
          if (irm p1 1000) = 0 then
            bd1 (pX2_table (irm (p1 / 1000) 10)) (fun b9 =>
              cond b9
                (
                  bd1 (pX5_transposes u0_first_numbers) (un2 (fun v11 w12 =>
                    if v11 = 0 then
                      some (0, w12, u0_second_numbers)
                    else
                      some (1, w12, u0_second_numbers))))
                (
                  bd1 (pX5_transposes u0_second_numbers) (un2 (fun v14 w15 =>
                    if v14 = 0 then
                      some (0, u0_first_numbers, w15)
                    else
                      some (1, u0_first_numbers, w15)))))
          else
            some (0, u0_first_numbers, u0_second_numbers)
        else
          if (p1 / 10000) = 5 then
            if 99 < (irm p1 1000) then
              some (0, u0_first_numbers, u0_second_numbers)
            else
              bd1 (pX2_table (irm (p1 / 1000) 10)) (fun b17 =>
                cond b17
                  (
                    bd1 (pX5_succeedsWith u0_first_numbers (p1 / 10000) (irm p1 1000)) (un2 (fun v19 w20 =>
                      if v19 = 0 then
                        some (0, w20, u0_second_numbers)
                      else
                        some (1, w20, u0_second_numbers))))
                  (
                    bd1 (pX5_succeedsWith u0_second_numbers (p1 / 10000) (irm p1 1000)) (un2 (fun v22 w23 =>
                      if v22 = 0 then
                        some (0, u0_first_numbers, w23)
                      else
                        some (1, u0_first_numbers, w23)))))
          else
            if (p1 / 10000) = 6 then
              if 99 < (irm p1 1000) then
                some (0, u0_first_numbers, u0_second_numbers)
              else
                bd1 (pX2_table (irm (p1 / 1000) 10)) (fun b25 =>
                  cond b25
                    (
                      bd1 (pX5_succeedsWith u0_first_numbers (p1 / 10000) (irm p1 1000)) (un2 (fun v27 w28 =>
                        if v27 = 0 then
                          some (0, w28, u0_second_numbers)
                        else
                          some (1, w28, u0_second_numbers))))
                    (
                      bd1 (pX5_succeedsWith u0_second_numbers (p1 / 10000) (irm p1 1000)) (un2 (fun v30 w31 =>
                        if v30 = 0 then
                          some (0, u0_first_numbers, w31)
                        else
                          some (1, u0_first_numbers, w31)))))
            else
              if (p1 / 10000) = 7 then
                if 99 < (irm p1 1000) then
                  some (0, u0_first_numbers, u0_second_numbers)
                else
                  bd1 (pX2_table (irm (p1 / 1000) 10)) (fun b33 =>
                    cond b33
                      (
                        bd1 (pX5_succeedsWith u0_first_numbers (p1 / 10000) (irm p1 1000)) (un2 (fun v35 w36 =>
                          if v35 = 0 then
                            some (0, w36, u0_second_numbers)
                          else
                            some (1, w36, u0_second_numbers))))
                      (
                        bd1 (pX5_succeedsWith u0_second_numbers (p1 / 10000) (irm p1 1000)) (un2 (fun v38 w39 =>
                          if v38 = 0 then
                            some (0, u0_first_numbers, w39)
                          else
                            some (1, u0_first_numbers, w39)))))
              else
                if (p1 / 10000) = 8 then
                  if (irm (p1 / 1000) 10) = 0 then
                    bd1 (pX2_pairsUpTo u0_first_numbers u0_second_numbers 99) (fun v41 =>
                      if v41 = (irm p1 1000) then
                        some (1, u0_first_numbers, u0_second_numbers)
                      else
                        some (0, u0_first_numbers, u0_second_numbers))
                  else
                    some (0, u0_first_numbers, u0_second_numbers)
                else
                  if 99 < (irm p1 1000) then
                    some (0, u0_first_numbers, u0_second_numbers)
                  else
                    bd1 (pX2_table (irm (p1 / 1000) 10)) (fun b43 =>
                      cond b43
                        (
                          bd1 (pX5_succeedsWith u0_first_numbers (p1 / 10000) (irm p1 1000)) (un2 (fun v45 w46 =>
                            if v45 = 0 then
                              some (0, w46, u0_second_numbers)
                            else
                              some (1, w46, u0_second_numbers))))
                        (
                          bd1 (pX5_succeedsWith u0_second_numbers (p1 / 10000) (irm p1 1000)) (un2 (fun v48 w49 =>
                            if v48 = 0 then
                              some (0, u0_first_numbers, w49)
                            else
                              some (1, u0_first_numbers, w49)))))
  else
    some (0, u0_first_numbers, u0_second_numbers)
def pX6_isFilled (u_filled : Int32) : Option (Int32) :=
  bd1 (zb u_filled) (fun v1 =>
    some v1)
def pX6_tables  : Option (Unit) :=
  some ()
def pX6_fill (u_filled : Int32) (u_tables_first_numbers : Nat → Int32) (u_tables_second_numbers : Nat → Int32) (u0_first_numbers : Nat → Int32) (u0_second_numbers : Nat → Int32) : Option (Int32 × (Nat → Int32) × (Nat → Int32)) :=
  bd1 (pX2_copyFrom u_tables_first_numbers u_tables_second_numbers u0_first_numbers u0_second_numbers) (un2 (fun w1 w2 =>
    some (1, w1, w2)))
def pX6_empty (u_filled : Int32) : Option (Int32) :=
  some 0
def pX7_hasGap (u_numbers : Nat → Int32) (p0 : Int32) : Option (Int32) :=
  bd1 (pX7_rowLength u_numbers p0) (fun v1 =>
    bd1 (
      if p0 = 0 then
        some 6
      else
        bd1 (pX7_rowLength u_numbers (p0 - 1)) (fun v6 =>
          some v6))
      (fun (j3 : Int32) =>
        if j3 ≤ v1 then
          some 0
        else
          some 1))
def pX7_endsAt (u_numbers : Nat → Int32) (p0 : Int32) (p1 : Int32) : Option (Int32) :=
  if p1 = 0 then
    bd1 (pX7_hasCorner u_numbers p0) (fun v1 =>
      bd1 (zb v1) (fun v3 =>
        some v3))
  else
    bd1 (pX7_hasGap u_numbers p0) (fun v6 =>
      bd1 (zb v6) (fun v8 =>
        some v8))
def pX7_ends_L4 (u_numbers : Nat → Int32) (p0 : Int32) (i1 : Int32) (i2 : Int32) : Option ((Int32 × Int32) ⊕ (Int32)) :=
  if 6 ≤ i1 then
    some (.inr i2)
  else
    bd1 (pX7_endsAt u_numbers i1 p0) (fun v10 =>
      if v10 = 0 then
        some (.inl ((i1 + 1), i2))
      else
        some (.inl ((i1 + 1), (i2 + 1))))
def pX7_ends (u_numbers : Nat → Int32) (p0 : Int32) : Option (Int32) :=
  bd1 (lpI lpF (un2 (pX7_ends_L4 u_numbers p0)) (0, 0)) (fun x3 =>
    some x3)
def pX7_kthEnd_L5 (u_numbers : Nat → Int32) (p0 : Int32) (p1 : Int32) (i1 : Int32) (i2 : Int32) : Option ((Int32 × Int32) ⊕ ((Int32) ⊕ (Unit))) :=
  if 6 ≤ i1 then
    some (.inr (.inr ()))
  else
    bd1 (pX7_endsAt u_numbers i1 p1) (fun v9 =>
      if v9 = 0 then
        some (.inl ((i1 + 1), i2))
      else
        if i2 = p0 then
          bd1 (
            if p1 = 0 then
              bd1 (pX7_rowLength u_numbers i1) (fun v14 =>
                some (v14 - 1))
            else
              bd1 (pX7_rowLength u_numbers i1) (fun v16 =>
                some v16))
            (fun (j11 : Int32) =>
              bd1 (pX9_placeOf i1 j11) (fun v18 =>
                some (.inr (.inl v18))))
        else
          some (.inl ((i1 + 1), (i2 + 1))))
def pX7_kthEnd_R63   : Option (Int32) :=
  some (-9)
def pX7_kthEnd (u_numbers : Nat → Int32) (p0 : Int32) (p1 : Int32) : Option (Int32) :=
  bd1 (lpI lpF (un2 (pX7_kthEnd_L5 u_numbers p0 p1)) (0, 0)) (fun xx7 => el xx7
    (fun y20 =>
      some y20)
    (fun _ => pX7_kthEnd_R63))
def pX7_replace (u_numbers : Nat → Int32) (p0 : Int32) (p1 : Int32) (p2 : Int32) : Option (Int32 × (Nat → Int32)) :=
  bd1 (pX7_put u_numbers p0 p1 p2) (fun w1 =>
    bd1 (pX7_slideUp w1 p0 p1) (un2 (fun v3 w4 =>
      bd1 (pX9_rowOf v3) (fun v6 =>
        bd1 (pX9_columnOf v3) (fun v8 =>
          bd1 (pX7_slideDown w4 v6 v8) (un2 (fun v10 w11 =>
            some (v10, w11))))))))
def pX7_sum_L4 (u_numbers : Nat → Int32) (i1 : Int32) (i2 : Int32) : Option ((Int32 × Int32) ⊕ (Int32)) :=
  if 36 ≤ i1 then
    some (.inr i2)
  else
    bd1 (gI 36 u_numbers i1) (fun v10 =>
      if v10 = (-1) then
        some (.inl ((i1 + 1), i2))
      else
        bd1 (gI 36 u_numbers i1) (fun v12 =>
          some (.inl ((i1 + 1), (i2 + v12)))))
def pX7_sum (u_numbers : Nat → Int32) : Option (Int32) :=
  bd1 (lpI lpF (un2 (pX7_sum_L4 u_numbers)) (0, 0)) (fun x3 =>
    some x3)
def pX7_kthWithin_L26 (u_numbers : Nat → Int32) (p0 : Int32) (p1 : Int32) (p2 : Int32) (p3 : Int32) (p4 : Int32) (i3 : Int32) (i4 : Int32) : Option ((Int32 × Int32) ⊕ (Int32)) :=
  if i3 ≤ 0 then
    some (.inr i4)
  else
    bd1 (pX7_countWithin u_numbers p0 p1 p2 p3 ((i4 + i3) - 1)) (fun v12 =>
      if p4 < v12 then
        some (.inl ((i3 / 2), i4))
      else
        some (.inl ((i3 / 2), (i4 + i3))))
def pX7_kthWithin (u_numbers : Nat → Int32) (p0 : Int32) (p1 : Int32) (p2 : Int32) (p3 : Int32) (p4 : Int32) : Option (Int32) :=
  bd1 (pX7_countWithin u_numbers p0 p1 p2 p3 99) (fun v1 =>
    if p4 < v1 then
      bd1 (lpI lpF (un2 (pX7_kthWithin_L26 u_numbers p0 p1 p2 p3 p4)) (64, 0)) (fun x5 =>
        some x5)
    else
      some (-9))
def pX7_kthNumber (u_numbers : Nat → Int32) (p0 : Int32) : Option (Int32) :=
  bd1 (pX7_kthWithin u_numbers 0 0 5 5 p0) (fun v1 =>
    some v1)
def pX7_kthPlace_L38 (u_numbers : Nat → Int32) (v1 : Int32) (i5 : Int32) (i13 : Int32) (i14 : Int32) : Option ((Int32 × Int32) ⊕ ((Int32) ⊕ (Int32))) :=
  if 6 ≤ i13 then
    some (.inr (.inr i14))
  else
    bd1 (pX7_at u_numbers i5 i13) (fun v22 =>
      if v22 = v1 then
        if i14 = 0 then
          bd1 (pX9_placeOf i5 i13) (fun v24 =>
            some (.inr (.inl v24)))
        else
          some (.inl ((i13 + 1), (i14 + (-1))))
      else
        some (.inl ((i13 + 1), i14)))
def pX7_kthPlace_R78 (i5 : Int32) (x15 : Int32) : Option ((Int32 × Int32) ⊕ ((Int32) ⊕ (Unit))) :=
  some (.inl ((i5 + 1), x15))
def pX7_kthPlace_L28 (u_numbers : Nat → Int32) (v1 : Int32) (i5 : Int32) (i6 : Int32) : Option ((Int32 × Int32) ⊕ ((Int32) ⊕ (Unit))) :=
  if 6 ≤ i5 then
    some (.inr (.inr ()))
  else
    bd1 (lpI lpF (un2 (pX7_kthPlace_L38 u_numbers v1 i5)) (0, i6)) (fun xx20 => el xx20
      (fun y26 =>
        some (.inr (.inl y26)))
      (pX7_kthPlace_R78 i5))
def pX7_kthPlace_R84   : Option (Int32) :=
  some (-9)
def pX7_kthPlace (u_numbers : Nat → Int32) (p0 : Int32) : Option (Int32) :=
  bd1 (pX7_kthNumber u_numbers p0) (fun v1 =>
    if v1 = (-9) then
      some (-9)
    else
      bd1 (pX7_cellsUpTo u_numbers (v1 - 1)) (fun v3 =>
        bd1 (lpI lpF (un2 (pX7_kthPlace_L28 u_numbers v1)) (0, (p0 - v3))) (fun xx11 => el xx11
          (fun y27 =>
            some y27)
          (fun _ => pX7_kthPlace_R84))))
def pX7_cellsBefore_L49 (u_numbers : Nat → Int32) (v1 : Int32) (i5 : Int32) (j14 : Int32) (i17 : Int32) (i18 : Int32) : Option ((Int32 × Int32) ⊕ (Int32)) :=
  if j14 ≤ i17 then
    some (.inr i18)
  else
    bd1 (pX7_at u_numbers i5 i17) (fun v26 =>
      if v26 = v1 then
        some (.inl ((i17 + 1), (i18 + 1)))
      else
        some (.inl ((i17 + 1), i18)))
def pX7_cellsBefore_L19 (u_numbers : Nat → Int32) (p0 : Int32) (p1 : Int32) (v1 : Int32) (i5 : Int32) (i6 : Int32) : Option ((Int32 × Int32) ⊕ (Int32)) :=
  if p0 < i5 then
    some (.inr i6)
  else
    if 6 ≤ i5 then
      some (.inr i6)
    else
      bd1 (
        if p0 ≤ i5 then
          some p1
        else
          some 6)
        (fun (j14 : Int32) =>
          bd1 (lpI lpF (un2 (pX7_cellsBefore_L49 u_numbers v1 i5 j14)) (0, i6)) (fun x19 =>
            some (.inl ((i5 + 1), x19))))
def pX7_cellsBefore (u_numbers : Nat → Int32) (p0 : Int32) (p1 : Int32) : Option (Int32) :=
  bd1 (pX7_at u_numbers p0 p1) (fun v1 =>
    bd1 (pX7_cellsUpTo u_numbers (v1 - 1)) (fun v3 =>
      bd1 (lpI lpF (un2 (pX7_cellsBefore_L19 u_numbers p0 p1 v1)) (0, v3)) (fun x7 =>
        some x7)))
def pX7_tellWalk_L22 (u_numbers : Nat → Int32) (p0 : Int32) (i3 : Int32) (i4 : Int32) (i5 : Int32) (i6 : Int32) (i7 : Int32) : Option ((Int32 × Int32 × Int32 × Int32 × Int32) ⊕ (Int32 × Int32 × Int32)) :=
  if 12 ≤ i5 then
    some (.inr (i3, i4, i5))
  else
    bd1 (pX7_has u_numbers i7 i6) (fun v17 =>
      if v17 = 0 then
        some (.inr (i3, i4, i5))
      else
        bd1 (pX9_placeOf i7 i6) (fun v19 =>
          bd1 (
            if i4 = (-9) then
              bd1 (pX7_at u_numbers i7 i6) (fun v24 =>
                if v24 = p0 then
                  some v19
                else
                  some i4)
            else
              some i4)
            (fun (j21 : Int32) =>
              bd1 (pX7_at u_numbers i7 i6) (fun v26 =>
                if v26 ≤ p0 then
                  bd1 (pX7_rowLength u_numbers (i7 + 1)) (fun v28 =>
                    some (.inl (v19, j21, (i5 + 1), (if (v28 - 1) < i6 then (v28 - 1) else i6), (i7 + 1))))
                else
                  some (.inl (v19, j21, (i5 + 1), (i6 + (-1)), i7))))))
def pX7_tellWalk (u_numbers : Nat → Int32) (p0 : Int32) (p1 : Int32) : Option (Int32) :=
  bd1 (pX7_rowLength u_numbers 0) (fun v1 =>
    bd1 (lpI lpF (un5 (pX7_tellWalk_L22 u_numbers p0)) ((-9), (-9), 0, (v1 - 1), 0)) (un3 (fun x8 x9 x10 =>
      if p1 = 0 then
        some x10
      else
        if p1 = 1 then
          some x9
        else
          some x8)))
def pX8_isFull (u_length : Int32) : Option (Int32) :=
  if u_length < 160 then
    some 0
  else
    some 1
def pX8_add (u_length : Int32) (u_codes : Nat → Int32) (p0 : Int32) : Option (Int32 × (Nat → Int32)) :=
  bd1 (pX8_isFull u_length) (fun v1 =>
    if v1 = 0 then
      bd1 (sI 160 u_codes u_length p0) (fun w3 =>
        some ((u_length + 1), w3))
    else
      some (u_length, u_codes))
def pX8_empty (u_length : Int32) : Option (Int32) :=
  some 0
def pX9_requireRange (p0 : Int32) (p1 : Int32) (p2 : Int32) : Option ((Nat) ⊕ (Unit)) :=
  if p0 < p1 then
    some (.inl 1)
  else
    if p0 ≤ p2 then
      some (.inr ())
    else
      some (.inl 1)
def pX9_append (u_text_length : Int32) (u_text_codes : Nat → Int32) (p0 : Int32) : Option ((Nat × Int32 × (Nat → Int32)) ⊕ (Int32 × Int32 × (Nat → Int32))) :=
  bdE (pX9_requireRange p0 0 255)
    (fun k2 =>
      some (.inl (k2, u_text_length, u_text_codes)))
    (fun _ =>
      bd1 (pX8_isFull u_text_length) (fun v3 =>
        if v3 = 0 then
          bd1 (pX8_add u_text_length u_text_codes p0) (un2 (fun w5 w6 =>
            bd1 (pX8_length w5) (fun v8 =>
              some (.inr (v8, w5, w6)))))
        else
          some (.inl (2, u_text_length, u_text_codes))))
def pX9_clearText (u_text_length : Int32) : Option (Int32 × Int32) :=
  bd1 (pX8_length u_text_length) (fun v1 =>
    bd1 (pX8_empty u_text_length) (fun w3 =>
      some (v1, w3)))
def pX9_errorPosition (u_text_length : Int32) (u_text_codes : Nat → Int32) (u_reader_begun : Int32) (u_reader_table : Int32) (u_reader_row : Int32) (u_reader_column : Int32) (u_reader_tens : Int32) (u_reader_tables_first_numbers : Nat → Int32) (u_reader_tables_second_numbers : Nat → Int32) : Option (Int32 × Int32 × Int32 × Int32 × Int32 × Int32 × (Nat → Int32) × (Nat → Int32)) :=
  bd1 (pX4_read u_reader_begun u_reader_table u_reader_row u_reader_column u_reader_tens u_reader_tables_first_numbers u_reader_tables_second_numbers u_text_length u_text_codes) (un8 (fun v1 w2 w3 w4 w5 w6 w7 w8 =>
    some (v1, w2, w3, w4, w5, w6, w7, w8)))
def pX9_load (u_now_first_numbers : Nat → Int32) (u_now_second_numbers : Nat → Int32) (u_past_remembered : Int32) (u_text_length : Int32) (u_text_codes : Nat → Int32) (u_reader_begun : Int32) (u_reader_table : Int32) (u_reader_row : Int32) (u_reader_column : Int32) (u_reader_tens : Int32) (u_reader_tables_first_numbers : Nat → Int32) (u_reader_tables_second_numbers : Nat → Int32) (u_slot0_filled : Int32) (u_slot1_filled : Int32) : Option ((Nat × (Nat → Int32) × (Nat → Int32) × Int32 × Int32 × Int32 × Int32 × Int32 × Int32 × (Nat → Int32) × (Nat → Int32) × Int32 × Int32) ⊕ (Int32 × (Nat → Int32) × (Nat → Int32) × Int32 × Int32 × Int32 × Int32 × Int32 × Int32 × (Nat → Int32) × (Nat → Int32) × Int32 × Int32)) :=
  bd1 (pX4_read u_reader_begun u_reader_table u_reader_row u_reader_column u_reader_tens u_reader_tables_first_numbers u_reader_tables_second_numbers u_text_length u_text_codes) (un8 (fun v1 w2 w3 w4 w5 w6 w7 w8 =>
    if v1 = (-9) then
      bd1 (pX4_tables) (fun _ =>
        bd1 (pX2_copyFrom u_now_first_numbers u_now_second_numbers w7 w8) (un2 (fun w11 w12 =>
          bd1 (pX3_forgetAll u_past_remembered) (fun w14 =>
            bd1 (pX6_empty u_slot0_filled) (fun w16 =>
              bd1 (pX6_empty u_slot1_filled) (fun w18 =>
                bd1 (pX2_cells w11 w12) (fun v20 =>
                  some (.inr (v20, w11, w12, w14, w2, w3, w4, w5, w6, w7, w8, w16, w18)))))))))
    else
      some (.inl (2, u_now_first_numbers, u_now_second_numbers, u_past_remembered, w2, w3, w4, w5, w6, w7, w8, u_slot0_filled, u_slot1_filled))))
def pX9_existingTable (p0 : Int32) : Option ((Nat) ⊕ (Bool)) :=
  if p0 < 0 then
    some (.inl 3)
  else
    if p0 ≤ 1 then
      bd1 (pX2_table p0) (fun b1 =>
        cond b1
          (
            some (.inr true))
          (
            some (.inr false)))
    else
      some (.inl 3)
def pX9_about (u_now_first_numbers : Nat → Int32) (u_now_second_numbers : Nat → Int32) (p0 : Int32) (p1 : Int32) : Option ((Nat) ⊕ (Int32)) :=
  bdE (pX9_existingTable p0)
    (fun k3 =>
      some (.inl k3))
    (fun b1 =>
      cond b1
        (
          bdE (pX9_requireRange p1 0 7)
            (fun k5 =>
              some (.inl k5))
            (fun _ =>
              if p1 = 0 then
                bd1 (pX7_columnLength u_now_first_numbers 0) (fun v6 =>
                  some (.inr v6))
              else
                if p1 = 1 then
                  bd1 (pX7_rowLength u_now_first_numbers 0) (fun v8 =>
                    some (.inr v8))
                else
                  if p1 = 2 then
                    bd1 (pX7_cells u_now_first_numbers) (fun v10 =>
                      some (.inr v10))
                  else
                    if p1 = 3 then
                      bd1 (pX7_has u_now_first_numbers 0 0) (fun v12 =>
                        if v12 = 0 then
                          some (.inr (-9))
                        else
                          bd1 (pX7_at u_now_first_numbers 0 0) (fun v14 =>
                            some (.inr v14)))
                    else
                      if p1 = 4 then
                        bd1 (pX7_greatest u_now_first_numbers) (fun v16 =>
                          some (.inr v16))
                      else
                        if p1 = 5 then
                          bd1 (pX7_sum u_now_first_numbers) (fun v18 =>
                            some (.inr v18))
                        else
                          if p1 = 6 then
                            bd1 (pX7_ends u_now_first_numbers 0) (fun v20 =>
                              some (.inr v20))
                          else
                            bd1 (pX7_ends u_now_first_numbers 1) (fun v22 =>
                              some (.inr v22))))
        (
          bdE (pX9_requireRange p1 0 7)
            (fun k25 =>
              some (.inl k25))
            (fun _ =>
              if p1 = 0 then
                bd1 (pX7_columnLength u_now_second_numbers 0) (fun v26 =>
                  some (.inr v26))
              else
                if p1 = 1 then
                  bd1 (pX7_rowLength u_now_second_numbers 0) (fun v28 =>
                    some (.inr v28))
                else
                  if p1 = 2 then
                    bd1 (pX7_cells u_now_second_numbers) (fun v30 =>
                      some (.inr v30))
                  else
                    if p1 = 3 then
                      bd1 (pX7_has u_now_second_numbers 0 0) (fun v32 =>
                        if v32 = 0 then
                          some (.inr (-9))
                        else
                          bd1 (pX7_at u_now_second_numbers 0 0) (fun v34 =>
                            some (.inr v34)))
                    else
                      if p1 = 4 then
                        bd1 (pX7_greatest u_now_second_numbers) (fun v36 =>
                          some (.inr v36))
                      else
                        if p1 = 5 then
                          bd1 (pX7_sum u_now_second_numbers) (fun v38 =>
                            some (.inr v38))
                        else
                          if p1 = 6 then
                            bd1 (pX7_ends u_now_second_numbers 0) (fun v40 =>
                              some (.inr v40))
                          else
                            bd1 (pX7_ends u_now_second_numbers 1) (fun v42 =>
                              some (.inr v42)))))
def pX9_tableWithCell (u_now_first_numbers : Nat → Int32) (u_now_second_numbers : Nat → Int32) (p0 : Int32) (p1 : Int32) (p2 : Int32) : Option ((Nat) ⊕ (Bool)) :=
  bdE (pX9_existingTable p0)
    (fun k3 =>
      some (.inl k3))
    (fun b1 =>
      cond b1
        (
          bd1 (pX7_has u_now_first_numbers p1 p2) (fun v4 =>
            if v4 = 0 then
              some (.inl 3)
            else
              some (.inr true)))
        (
          bd1 (pX7_has u_now_second_numbers p1 p2) (fun v6 =>
            if v6 = 0 then
              some (.inl 3)
            else
              some (.inr false))))
def pX9_cell (u_now_first_numbers : Nat → Int32) (u_now_second_numbers : Nat → Int32) (p0 : Int32) (p1 : Int32) (p2 : Int32) : Option ((Nat) ⊕ (Int32)) :=
  bdE (pX9_tableWithCell u_now_first_numbers u_now_second_numbers p0 p1 p2)
    (fun k3 =>
      some (.inl k3))
    (fun b1 =>
      cond b1
        (
          bd1 (pX7_at u_now_first_numbers p1 p2) (fun v4 =>
            some (.inr v4)))
        (
          bd1 (pX7_at u_now_second_numbers p1 p2) (fun v6 =>
            some (.inr v6))))
def pX9_size (u_now_first_numbers : Nat → Int32) (u_now_second_numbers : Nat → Int32) (p0 : Int32) (p1 : Int32) (p2 : Int32) : Option ((Nat) ⊕ (Int32)) :=
  bdE (pX9_existingTable p0)
    (fun k3 =>
      some (.inl k3))
    (fun b1 =>
      cond b1
        (
          bdE (pX9_requireRange p1 0 5)
            (fun k5 =>
              some (.inl k5))
            (fun _ =>
              if p2 = 0 then
                bd1 (pX7_rowLength u_now_first_numbers p1) (fun v6 =>
                  some (.inr v6))
              else
                bd1 (pX7_columnLength u_now_first_numbers p1) (fun v8 =>
                  some (.inr v8))))
        (
          bdE (pX9_requireRange p1 0 5)
            (fun k11 =>
              some (.inl k11))
            (fun _ =>
              if p2 = 0 then
                bd1 (pX7_rowLength u_now_second_numbers p1) (fun v12 =>
                  some (.inr v12))
              else
                bd1 (pX7_columnLength u_now_second_numbers p1) (fun v14 =>
                  some (.inr v14)))))
def pX9_requireGap (u0_numbers : Nat → Int32) : Option ((Nat) ⊕ (Unit)) :=
  bd1 (pX7_isFull u0_numbers) (fun v1 =>
    if v1 = 0 then
      some (.inr ())
    else
      some (.inl 2))
def pX9_insert (u_now_first_numbers : Nat → Int32) (u_now_second_numbers : Nat → Int32) (u_past_oldest : Int32) (u_past_remembered : Int32) (u_past_numbers : Nat → Int32) (p0 : Int32) (p1 : Int32) : Option ((Nat × (Nat → Int32) × (Nat → Int32) × Int32 × Int32 × (Nat → Int32)) ⊕ (Int32 × (Nat → Int32) × (Nat → Int32) × Int32 × Int32 × (Nat → Int32))) :=
  bdE (pX9_existingTable p0)
    (fun k3 =>
      some (.inl (k3, u_now_first_numbers, u_now_second_numbers, u_past_oldest, u_past_remembered, u_past_numbers)))
    (fun b1 =>
      cond b1
        (
          bdE (pX9_requireRange p1 0 99)
            (fun k5 =>
              some (.inl (k5, u_now_first_numbers, u_now_second_numbers, u_past_oldest, u_past_remembered, u_past_numbers)))
            (fun _ =>
              bdE (pX9_requireGap u_now_first_numbers)
                (fun k7 =>
                  some (.inl (k7, u_now_first_numbers, u_now_second_numbers, u_past_oldest, u_past_remembered, u_past_numbers)))
                (fun _ =>
                  bd1 (pX3_remember u_past_oldest u_past_remembered u_past_numbers u_now_first_numbers u_now_second_numbers) (un3 (fun w8 w9 w10 =>
                    bd1 (pX7_takeIn u_now_first_numbers p1) (un2 (fun v12 w13 =>
                      some (.inr (v12, w13, u_now_second_numbers, w8, w9, w10)))))))))
        (
          bdE (pX9_requireRange p1 0 99)
            (fun k16 =>
              some (.inl (k16, u_now_first_numbers, u_now_second_numbers, u_past_oldest, u_past_remembered, u_past_numbers)))
            (fun _ =>
              bdE (pX9_requireGap u_now_second_numbers)
                (fun k18 =>
                  some (.inl (k18, u_now_first_numbers, u_now_second_numbers, u_past_oldest, u_past_remembered, u_past_numbers)))
                (fun _ =>
                  bd1 (pX3_remember u_past_oldest u_past_remembered u_past_numbers u_now_first_numbers u_now_second_numbers) (un3 (fun w19 w20 w21 =>
                    bd1 (pX7_takeIn u_now_second_numbers p1) (un2 (fun v23 w24 =>
                      some (.inr (v23, u_now_first_numbers, w24, w19, w20, w21))))))))))
def pX9_remove (u_now_first_numbers : Nat → Int32) (u_now_second_numbers : Nat → Int32) (u_past_oldest : Int32) (u_past_remembered : Int32) (u_past_numbers : Nat → Int32) (p0 : Int32) (p1 : Int32) (p2 : Int32) : Option ((Nat × (Nat → Int32) × (Nat → Int32) × Int32 × Int32 × (Nat → Int32)) ⊕ (Int32 × (Nat → Int32) × (Nat → Int32) × Int32 × Int32 × (Nat → Int32))) :=
  bdE (pX9_tableWithCell u_now_first_numbers u_now_second_numbers p0 p1 p2)
    (fun k3 =>
      some (.inl (k3, u_now_first_numbers, u_now_second_numbers, u_past_oldest, u_past_remembered, u_past_numbers)))
    (fun b1 =>
      cond b1
        (
          bd1 (pX7_at u_now_first_numbers p1 p2) (fun v4 =>
            bd1 (pX3_remember u_past_oldest u_past_remembered u_past_numbers u_now_first_numbers u_now_second_numbers) (un3 (fun w6 w7 w8 =>
              bd1 (pX7_takeAway u_now_first_numbers p1 p2) (un2 (fun v10 w11 =>
                some (.inr (v4, w11, u_now_second_numbers, w6, w7, w8))))))))
        (
          bd1 (pX7_at u_now_second_numbers p1 p2) (fun v13 =>
            bd1 (pX3_remember u_past_oldest u_past_remembered u_past_numbers u_now_first_numbers u_now_second_numbers) (un3 (fun w15 w16 w17 =>
              bd1 (pX7_takeAway u_now_second_numbers p1 p2) (un2 (fun v19 w20 =>
                some (.inr (v13, u_now_first_numbers, w20, w15, w16, w17)))))))))
def pX9_change (u_now_first_numbers : Nat → Int32) (u_now_second_numbers : Nat → Int32) (u_past_oldest : Int32) (u_past_remembered : Int32) (u_past_numbers : Nat → Int32) (p0 : Int32) (p1 : Int32) (p2 : Int32) (p3 : Int32) : Option ((Nat × (Nat → Int32) × (Nat → Int32) × Int32 × Int32 × (Nat → Int32)) ⊕ (Int32 × (Nat → Int32) × (Nat → Int32) × Int32 × Int32 × (Nat → Int32))) :=
  bdE (pX9_tableWithCell u_now_first_numbers u_now_second_numbers p0 p1 p2)
    (fun k3 =>
      some (.inl (k3, u_now_first_numbers, u_now_second_numbers, u_past_oldest, u_past_remembered, u_past_numbers)))
    (fun b1 =>
      cond b1
        (
          bdE (pX9_requireRange p3 0 99)
            (fun k5 =>
              some (.inl (k5, u_now_first_numbers, u_now_second_numbers, u_past_oldest, u_past_remembered, u_past_numbers)))
            (fun _ =>
              bd1 (pX3_remember u_past_oldest u_past_remembered u_past_numbers u_now_first_numbers u_now_second_numbers) (un3 (fun w6 w7 w8 =>
                bd1 (pX7_replace u_now_first_numbers p1 p2 p3) (un2 (fun v10 w11 =>
                  some (.inr (v10, w11, u_now_second_numbers, w6, w7, w8))))))))
        (
          bdE (pX9_requireRange p3 0 99)
            (fun k14 =>
              some (.inl (k14, u_now_first_numbers, u_now_second_numbers, u_past_oldest, u_past_remembered, u_past_numbers)))
            (fun _ =>
              bd1 (pX3_remember u_past_oldest u_past_remembered u_past_numbers u_now_first_numbers u_now_second_numbers) (un3 (fun w15 w16 w17 =>
                bd1 (pX7_replace u_now_second_numbers p1 p2 p3) (un2 (fun v19 w20 =>
                  some (.inr (v19, u_now_first_numbers, w20, w15, w16, w17)))))))))
def pX9_transfer (u_now_first_numbers : Nat → Int32) (u_now_second_numbers : Nat → Int32) (u_past_oldest : Int32) (u_past_remembered : Int32) (u_past_numbers : Nat → Int32) (p0 : Int32) (p1 : Int32) (p2 : Int32) : Option ((Nat × (Nat → Int32) × (Nat → Int32) × Int32 × Int32 × (Nat → Int32)) ⊕ (Int32 × (Nat → Int32) × (Nat → Int32) × Int32 × Int32 × (Nat → Int32))) :=
  bdE (pX9_tableWithCell u_now_first_numbers u_now_second_numbers p0 p1 p2)
    (fun k3 =>
      some (.inl (k3, u_now_first_numbers, u_now_second_numbers, u_past_oldest, u_past_remembered, u_past_numbers)))
    (fun b1 =>
      cond b1
        (
          bd1 (pX2_table (1 - p0)) (fun b4 =>
            cond b4
              (
                bdE (pX9_requireGap u_now_first_numbers)
                  (fun k7 =>
                    some (.inl (k7, u_now_first_numbers, u_now_second_numbers, u_past_oldest, u_past_remembered, u_past_numbers)))
                  (fun _ =>
                    bd1 (pX3_remember u_past_oldest u_past_remembered u_past_numbers u_now_first_numbers u_now_second_numbers) (un3 (fun w8 w9 w10 =>
                      bd1 (pX2_moveOver u_now_first_numbers u_now_second_numbers p0 p1 p2) (un3 (fun v12 w13 w14 =>
                        some (.inr (v12, w13, w14, w8, w9, w10))))))))
              (
                bdE (pX9_requireGap u_now_second_numbers)
                  (fun k17 =>
                    some (.inl (k17, u_now_first_numbers, u_now_second_numbers, u_past_oldest, u_past_remembered, u_past_numbers)))
                  (fun _ =>
                    bd1 (pX3_remember u_past_oldest u_past_remembered u_past_numbers u_now_first_numbers u_now_second_numbers) (un3 (fun w18 w19 w20 =>
                      bd1 (pX2_moveOver u_now_first_numbers u_now_second_numbers p0 p1 p2) (un3 (fun v22 w23 w24 =>
                        some (.inr (v22, w23, w24, w18, w19, w20))))))))))
        (
          bd1 (pX2_table (1 - p0)) (fun b26 =>
            cond b26
              (
                bdE (pX9_requireGap u_now_first_numbers)
                  (fun k29 =>
                    some (.inl (k29, u_now_first_numbers, u_now_second_numbers, u_past_oldest, u_past_remembered, u_past_numbers)))
                  (fun _ =>
                    bd1 (pX3_remember u_past_oldest u_past_remembered u_past_numbers u_now_first_numbers u_now_second_numbers) (un3 (fun w30 w31 w32 =>
                      bd1 (pX2_moveOver u_now_first_numbers u_now_second_numbers p0 p1 p2) (un3 (fun v34 w35 w36 =>
                        some (.inr (v34, w35, w36, w30, w31, w32))))))))
              (
                bdE (pX9_requireGap u_now_second_numbers)
                  (fun k39 =>
                    some (.inl (k39, u_now_first_numbers, u_now_second_numbers, u_past_oldest, u_past_remembered, u_past_numbers)))
                  (fun _ =>
                    bd1 (pX3_remember u_past_oldest u_past_remembered u_past_numbers u_now_first_numbers u_now_second_numbers) (un3 (fun w40 w41 w42 =>
                      bd1 (pX2_moveOver u_now_first_numbers u_now_second_numbers p0 p1 p2) (un3 (fun v44 w45 w46 =>
                        some (.inr (v44, w45, w46, w40, w41, w42)))))))))))
def pX9_transpose (u_now_first_numbers : Nat → Int32) (u_now_second_numbers : Nat → Int32) (u_past_oldest : Int32) (u_past_remembered : Int32) (u_past_numbers : Nat → Int32) (p0 : Int32) : Option ((Nat × (Nat → Int32) × (Nat → Int32) × Int32 × Int32 × (Nat → Int32)) ⊕ (Int32 × (Nat → Int32) × (Nat → Int32) × Int32 × Int32 × (Nat → Int32))) :=
  bdE (pX9_existingTable p0)
    (fun k3 =>
      some (.inl (k3, u_now_first_numbers, u_now_second_numbers, u_past_oldest, u_past_remembered, u_past_numbers)))
    (fun b1 =>
      cond b1
        (
          bd1 (pX3_remember u_past_oldest u_past_remembered u_past_numbers u_now_first_numbers u_now_second_numbers) (un3 (fun w4 w5 w6 =>
            bd1 (pX7_flip u_now_first_numbers) (fun w8 =>
              bd1 (pX7_columnLength w8 0) (fun v10 =>
                some (.inr (v10, w8, u_now_second_numbers, w4, w5, w6)))))))
        (
          bd1 (pX3_remember u_past_oldest u_past_remembered u_past_numbers u_now_first_numbers u_now_second_numbers) (un3 (fun w12 w13 w14 =>
            bd1 (pX7_flip u_now_second_numbers) (fun w16 =>
              bd1 (pX7_columnLength w16 0) (fun v18 =>
                some (.inr (v18, u_now_first_numbers, w16, w12, w13, w14))))))))
def pX9_exchange (u_now_first_numbers : Nat → Int32) (u_now_second_numbers : Nat → Int32) (u_past_oldest : Int32) (u_past_remembered : Int32) (u_past_numbers : Nat → Int32) : Option (Int32 × (Nat → Int32) × (Nat → Int32) × Int32 × Int32 × (Nat → Int32)) :=
  bd1 (pX3_remember u_past_oldest u_past_remembered u_past_numbers u_now_first_numbers u_now_second_numbers) (un3 (fun w1 w2 w3 =>
    bd1 (pX2_swap u_now_first_numbers u_now_second_numbers) (un2 (fun w5 w6 =>
      bd1 (pX2_table 0) (fun b8 =>
        cond b8
          (
            bd1 (pX7_cells w5) (fun v10 =>
              some (v10, w5, w6, w1, w2, w3)))
          (
            bd1 (pX7_cells w6) (fun v12 =>
              some (v12, w5, w6, w1, w2, w3))))))))
def pX9_undo (u_now_first_numbers : Nat → Int32) (u_now_second_numbers : Nat → Int32) (u_past_oldest : Int32) (u_past_remembered : Int32) (u_past_numbers : Nat → Int32) : Option ((Nat × (Nat → Int32) × (Nat → Int32) × Int32) ⊕ (Int32 × (Nat → Int32) × (Nat → Int32) × Int32)) :=
  bd1 (pX3_isEmpty u_past_remembered) (fun v1 =>
    if v1 = 0 then
      bd1 (pX3_takeBack u_past_oldest u_past_remembered u_past_numbers u_now_first_numbers u_now_second_numbers) (un3 (fun w3 w4 w5 =>
        bd1 (pX3_remembered w3) (fun v7 =>
          some (.inr (v7, w4, w5, w3)))))
    else
      some (.inl (2, u_now_first_numbers, u_now_second_numbers, u_past_remembered)))
def pX9_count (u_now_first_numbers : Nat → Int32) (u_now_second_numbers : Nat → Int32) (p0 : Int32) (p1 : Int32) : Option ((Nat) ⊕ (Int32)) :=
  bdE (pX9_existingTable p0)
    (fun k3 =>
      some (.inl k3))
    (fun b1 =>
      cond b1
        (
          bdE (pX9_requireRange p1 0 99)
            (fun k5 =>
              some (.inl k5))
            (fun _ =>
              bd1 (pX7_cellsUpTo u_now_first_numbers p1) (fun v6 =>
                some (.inr v6))))
        (
          bdE (pX9_requireRange p1 0 99)
            (fun k9 =>
              some (.inl k9))
            (fun _ =>
              bd1 (pX7_cellsUpTo u_now_second_numbers p1) (fun v10 =>
                some (.inr v10)))))
def pX9_walk (u_now_first_numbers : Nat → Int32) (u_now_second_numbers : Nat → Int32) (p0 : Int32) (p1 : Int32) (p2 : Int32) : Option ((Nat) ⊕ (Int32)) :=
  bdE (pX9_existingTable p0)
    (fun k3 =>
      some (.inl k3))
    (fun b1 =>
      cond b1
        (
          bdE (pX9_requireRange p1 0 99)
            (fun k5 =>
              some (.inl k5))
            (fun _ =>
              bdE (pX9_requireRange p2 0 2)
                (fun k7 =>
                  some (.inl k7))
                (fun _ =>
                  bd1 (pX7_tellWalk u_now_first_numbers p1 p2) (fun v8 =>
                    some (.inr v8)))))
        (
          bdE (pX9_requireRange p1 0 99)
            (fun k11 =>
              some (.inl k11))
            (fun _ =>
              bdE (pX9_requireRange p2 0 2)
                (fun k13 =>
                  some (.inl k13))
                (fun _ =>
                  bd1 (pX7_tellWalk u_now_second_numbers p1 p2) (fun v14 =>
                    some (.inr v14))))))
def pX9_requireNotNegative (p0 : Int32) : Option ((Nat) ⊕ (Unit)) :=
  if 0 ≤ p0 then
    some (.inr ())
  else
    some (.inl 1)
def pX9_kth (u_now_first_numbers : Nat → Int32) (u_now_second_numbers : Nat → Int32) (p0 : Int32) (p1 : Int32) (p2 : Int32) : Option ((Nat) ⊕ (Int32)) :=
  bdE (pX9_existingTable p0)
    (fun k3 =>
      some (.inl k3))
    (fun b1 =>
      cond b1
        (
          bdE (pX9_requireNotNegative p1)
            (fun k5 =>
              some (.inl k5))
            (fun _ =>
              if p2 = 0 then
                bd1 (pX7_kthNumber u_now_first_numbers p1) (fun v6 =>
                  some (.inr v6))
              else
                bd1 (pX7_kthPlace u_now_first_numbers p1) (fun v8 =>
                  some (.inr v8))))
        (
          bdE (pX9_requireNotNegative p1)
            (fun k11 =>
              some (.inl k11))
            (fun _ =>
              if p2 = 0 then
                bd1 (pX7_kthNumber u_now_second_numbers p1) (fun v12 =>
                  some (.inr v12))
              else
                bd1 (pX7_kthPlace u_now_second_numbers p1) (fun v14 =>
                  some (.inr v14)))))
def pX9_rank (u_now_first_numbers : Nat → Int32) (u_now_second_numbers : Nat → Int32) (p0 : Int32) (p1 : Int32) (p2 : Int32) : Option ((Nat) ⊕ (Int32)) :=
  bdE (pX9_tableWithCell u_now_first_numbers u_now_second_numbers p0 p1 p2)
    (fun k3 =>
      some (.inl k3))
    (fun b1 =>
      cond b1
        (
          bd1 (pX7_cellsBefore u_now_first_numbers p1 p2) (fun v4 =>
            some (.inr v4)))
        (
          bd1 (pX7_cellsBefore u_now_second_numbers p1 p2) (fun v6 =>
            some (.inr v6))))
def pX9_lastOf (p0 : Int32) (p1 : Int32) : Option (Int32) :=
  some (if 5 < ((p0 + p1) - 1) then 5 else ((p0 + p1) - 1))
def pX9_requireWindow (p0 : Int32) (p1 : Int32) (p2 : Int32) (p3 : Int32) : Option ((Nat) ⊕ (Unit)) :=
  bdE (pX9_requireRange p0 0 5)
    (fun k2 =>
      some (.inl k2))
    (fun _ =>
      bdE (pX9_requireRange p1 0 5)
        (fun k4 =>
          some (.inl k4))
        (fun _ =>
          bdE (pX9_requireRange p2 1 6)
            (fun k6 =>
              some (.inl k6))
            (fun _ =>
              bdE (pX9_requireRange p3 1 6)
                (fun k8 =>
                  some (.inl k8))
                (fun _ =>
                  some (.inr ())))))
def pX9_windowCount (u_now_first_numbers : Nat → Int32) (u_now_second_numbers : Nat → Int32) (p0 : Int32) (p1 : Int32) (p2 : Int32) (p3 : Int32) (p4 : Int32) (p5 : Int32) : Option ((Nat) ⊕ (Int32)) :=
  bdE (pX9_existingTable p0)
    (fun k3 =>
      some (.inl k3))
    (fun b1 =>
      cond b1
        (
          bdE (pX9_requireWindow p1 p2 p3 p4)
            (fun k5 =>
              some (.inl k5))
            (fun _ =>
              bdE (pX9_requireRange p5 0 99)
                (fun k7 =>
                  some (.inl k7))
                (fun _ =>
                  bd1 (pX9_lastOf p1 p3) (fun v8 =>
                    bd1 (pX9_lastOf p2 p4) (fun v10 =>
                      bd1 (pX7_countWithin u_now_first_numbers p1 p2 v8 v10 p5) (fun v12 =>
                        some (.inr v12)))))))
        (
          bdE (pX9_requireWindow p1 p2 p3 p4)
            (fun k15 =>
              some (.inl k15))
            (fun _ =>
              bdE (pX9_requireRange p5 0 99)
                (fun k17 =>
                  some (.inl k17))
                (fun _ =>
                  bd1 (pX9_lastOf p1 p3) (fun v18 =>
                    bd1 (pX9_lastOf p2 p4) (fun v20 =>
                      bd1 (pX7_countWithin u_now_second_numbers p1 p2 v18 v20 p5) (fun v22 =>
                        some (.inr v22))))))))
def pX9_windowKth (u_now_first_numbers : Nat → Int32) (u_now_second_numbers : Nat → Int32) (p0 : Int32) (p1 : Int32) (p2 : Int32) (p3 : Int32) (p4 : Int32) (p5 : Int32) : Option ((Nat) ⊕ (Int32)) :=
  bdE (pX9_existingTable p0)
    (fun k3 =>
      some (.inl k3))
    (fun b1 =>
      cond b1
        (
          bdE (pX9_requireWindow p1 p2 p3 p4)
            (fun k5 =>
              some (.inl k5))
            (fun _ =>
              bdE (pX9_requireNotNegative p5)
                (fun k7 =>
                  some (.inl k7))
                (fun _ =>
                  bd1 (pX9_lastOf p1 p3) (fun v8 =>
                    bd1 (pX9_lastOf p2 p4) (fun v10 =>
                      bd1 (pX7_kthWithin u_now_first_numbers p1 p2 v8 v10 p5) (fun v12 =>
                        some (.inr v12)))))))
        (
          bdE (pX9_requireWindow p1 p2 p3 p4)
            (fun k15 =>
              some (.inl k15))
            (fun _ =>
              bdE (pX9_requireNotNegative p5)
                (fun k17 =>
                  some (.inl k17))
                (fun _ =>
                  bd1 (pX9_lastOf p1 p3) (fun v18 =>
                    bd1 (pX9_lastOf p2 p4) (fun v20 =>
                      bd1 (pX7_kthWithin u_now_second_numbers p1 p2 v18 v20 p5) (fun v22 =>
                        some (.inr v22))))))))
def pX9_kthOfBoth (u_now_first_numbers : Nat → Int32) (u_now_second_numbers : Nat → Int32) (p0 : Int32) (p1 : Int32) : Option ((Nat) ⊕ (Int32)) :=
  bdE (pX9_requireNotNegative p0)
    (fun k2 =>
      some (.inl k2))
    (fun _ =>
      bd1 (pX2_kthNumberOfBoth u_now_first_numbers u_now_second_numbers p0) (fun v3 =>
        if p1 = 0 then
          some (.inr v3)
        else
          if v3 = (-9) then
            some (.inr v3)
          else
            bd1 (pX2_tableOfKth u_now_first_numbers u_now_second_numbers p0 v3) (fun v5 =>
              some (.inr v5))))
def pX9_pairs (u_now_first_numbers : Nat → Int32) (u_now_second_numbers : Nat → Int32) (p0 : Int32) : Option ((Nat) ⊕ (Int32)) :=
  bdE (pX9_requireRange p0 0 198)
    (fun k2 =>
      some (.inl k2))
    (fun _ =>
      bd1 (pX2_pairsUpTo u_now_first_numbers u_now_second_numbers p0) (fun v3 =>
        some (.inr v3)))
def pX9_kthSum (u_now_first_numbers : Nat → Int32) (u_now_second_numbers : Nat → Int32) (p0 : Int32) : Option ((Nat) ⊕ (Int32)) :=
  bdE (pX9_requireNotNegative p0)
    (fun k2 =>
      some (.inl k2))
    (fun _ =>
      bd1 (pX2_kthSumOfPair u_now_first_numbers u_now_second_numbers p0) (fun v3 =>
        some (.inr v3)))
def pX9_corner (u_now_first_numbers : Nat → Int32) (u_now_second_numbers : Nat → Int32) (p0 : Int32) (p1 : Int32) (p2 : Int32) : Option ((Nat) ⊕ (Int32)) :=
  bdE (pX9_existingTable p0)
    (fun k3 =>
      some (.inl k3))
    (fun b1 =>
      cond b1
        (
          bdE (pX9_requireNotNegative p1)
            (fun k5 =>
              some (.inl k5))
            (fun _ =>
              bd1 (pX7_kthEnd u_now_first_numbers p1 p2) (fun v6 =>
                some (.inr v6))))
        (
          bdE (pX9_requireNotNegative p1)
            (fun k9 =>
              some (.inl k9))
            (fun _ =>
              bd1 (pX7_kthEnd u_now_second_numbers p1 p2) (fun v10 =>
                some (.inr v10)))))
def pX9_hook (u_now_first_numbers : Nat → Int32) (u_now_second_numbers : Nat → Int32) (p0 : Int32) (p1 : Int32) (p2 : Int32) : Option ((Nat) ⊕ (Int32)) :=
  bdE (pX9_tableWithCell u_now_first_numbers u_now_second_numbers p0 p1 p2)
    (fun k3 =>
      some (.inl k3))
    (fun b1 =>
      cond b1
        (
          bd1 (pX7_hookOf u_now_first_numbers p1 p2) (fun v4 =>
            some (.inr v4)))
        (
          bd1 (pX7_hookOf u_now_second_numbers p1 p2) (fun v6 =>
            some (.inr v6))))
def pX9_fillings (u_now_first_numbers : Nat → Int32) (u_now_second_numbers : Nat → Int32) (u_fillingsOfShape_times : Nat → Int32) (p0 : Int32) : Option ((Nat × (Nat → Int32)) ⊕ (Int64 × (Nat → Int32))) :=
  bdE (pX9_existingTable p0)
    (fun k3 =>
      some (.inl (k3, u_fillingsOfShape_times)))
    (fun b1 =>
      cond b1
        (
          bd1 (pX0_countFor u_fillingsOfShape_times u_now_first_numbers) (un2 (fun v4 w5 =>
            some (.inr (v4, w5)))))
        (
          bd1 (pX0_countFor u_fillingsOfShape_times u_now_second_numbers) (un2 (fun v7 w8 =>
            some (.inr (v7, w8))))))
def pX9_path (u_now_first_numbers : Nat → Int32) (u_now_second_numbers : Nat → Int32) (u_greatestPath_sum : Int32) (u_greatestPath_end : Int32) (u_greatestPath_sums : Nat → Int32) (p0 : Int32) (p1 : Int32) : Option ((Nat × Int32 × Int32 × (Nat → Int32)) ⊕ (Int32 × Int32 × Int32 × (Nat → Int32))) :=
  bdE (pX9_existingTable p0)
    (fun k3 =>
      some (.inl (k3, u_greatestPath_sum, u_greatestPath_end, u_greatestPath_sums)))
    (fun b1 =>
      cond b1
        (
          bdE (pX9_requireRange p1 0 1)
            (fun k5 =>
              some (.inl (k5, u_greatestPath_sum, u_greatestPath_end, u_greatestPath_sums)))
            (fun _ =>
              bd1 (pX1_search u_greatestPath_sum u_greatestPath_end u_greatestPath_sums u_now_first_numbers) (un3 (fun w6 w7 w8 =>
                if p1 = 0 then
                  bd1 (pX1_sum w6) (fun v12 =>
                    some (.inr (v12, w6, w7, w8)))
                else
                  bd1 (pX1_end w7) (fun v10 =>
                    some (.inr (v10, w6, w7, w8)))))))
        (
          bdE (pX9_requireRange p1 0 1)
            (fun k15 =>
              some (.inl (k15, u_greatestPath_sum, u_greatestPath_end, u_greatestPath_sums)))
            (fun _ =>
              bd1 (pX1_search u_greatestPath_sum u_greatestPath_end u_greatestPath_sums u_now_second_numbers) (un3 (fun w16 w17 w18 =>
                if p1 = 0 then
                  bd1 (pX1_sum w16) (fun v22 =>
                    some (.inr (v22, w16, w17, w18)))
                else
                  bd1 (pX1_end w17) (fun v20 =>
                    some (.inr (v20, w16, w17, w18))))))))
def pX9_stepsFromOrigin (p0 : Int32) : Option (Int32) :=
  bd1 (pX9_rowOf p0) (fun v1 =>
    bd1 (pX9_columnOf p0) (fun v3 =>
      some (v1 + v3)))
def pX9_ifInserted (u_now_first_numbers : Nat → Int32) (u_now_second_numbers : Nat → Int32) (u_trial_first_numbers : Nat → Int32) (u_trial_second_numbers : Nat → Int32) (p0 : Int32) (p1 : Int32) (p2 : Int32) : Option ((Nat × (Nat → Int32) × (Nat → Int32)) ⊕ (Int32 × (Nat → Int32) × (Nat → Int32))) :=
  bdE (pX9_existingTable p0)
    (fun k3 =>
      some (.inl (k3, u_trial_first_numbers, u_trial_second_numbers)))
    (fun b1 =>
      cond b1
        (
          bdE (pX9_requireRange p1 0 99)
            (fun k5 =>
              some (.inl (k5, u_trial_first_numbers, u_trial_second_numbers)))
            (fun _ =>
              bd1 (pX7_isFull u_now_first_numbers) (fun v6 =>
                if v6 = 0 then
                  bd1 (pX7_nearestGap u_now_first_numbers) (fun v8 =>
                    bd1 (pX2_table 0) (fun b10 =>
                      cond b10
                        (
                          bd1 (pX7_copyFrom u_trial_first_numbers u_now_first_numbers) (fun w12 =>
                            bd1 (pX7_takeIn w12 p1) (un2 (fun v14 w15 =>
                              if p2 = 0 then
                                some (.inr (v14, w15, u_trial_second_numbers))
                              else
                                bd1 (pX9_stepsFromOrigin v8) (fun v17 =>
                                  bd1 (pX9_stepsFromOrigin v14) (fun v19 =>
                                    some (.inr ((v17 - v19), w15, u_trial_second_numbers))))))))
                        (
                          bd1 (pX7_copyFrom u_trial_second_numbers u_now_first_numbers) (fun w21 =>
                            bd1 (pX7_takeIn w21 p1) (un2 (fun v23 w24 =>
                              if p2 = 0 then
                                some (.inr (v23, u_trial_first_numbers, w24))
                              else
                                bd1 (pX9_stepsFromOrigin v8) (fun v26 =>
                                  bd1 (pX9_stepsFromOrigin v23) (fun v28 =>
                                    some (.inr ((v26 - v28), u_trial_first_numbers, w24))))))))))
                else
                  some (.inr ((-9), u_trial_first_numbers, u_trial_second_numbers)))))
        (
          bdE (pX9_requireRange p1 0 99)
            (fun k31 =>
              some (.inl (k31, u_trial_first_numbers, u_trial_second_numbers)))
            (fun _ =>
              bd1 (pX7_isFull u_now_second_numbers) (fun v32 =>
                if v32 = 0 then
                  bd1 (pX7_nearestGap u_now_second_numbers) (fun v34 =>
                    bd1 (pX2_table 0) (fun b36 =>
                      cond b36
                        (
                          bd1 (pX7_copyFrom u_trial_first_numbers u_now_second_numbers) (fun w38 =>
                            bd1 (pX7_takeIn w38 p1) (un2 (fun v40 w41 =>
                              if p2 = 0 then
                                some (.inr (v40, w41, u_trial_second_numbers))
                              else
                                bd1 (pX9_stepsFromOrigin v34) (fun v43 =>
                                  bd1 (pX9_stepsFromOrigin v40) (fun v45 =>
                                    some (.inr ((v43 - v45), w41, u_trial_second_numbers))))))))
                        (
                          bd1 (pX7_copyFrom u_trial_second_numbers u_now_second_numbers) (fun w47 =>
                            bd1 (pX7_takeIn w47 p1) (un2 (fun v49 w50 =>
                              if p2 = 0 then
                                some (.inr (v49, u_trial_first_numbers, w50))
                              else
                                bd1 (pX9_stepsFromOrigin v34) (fun v52 =>
                                  bd1 (pX9_stepsFromOrigin v49) (fun v54 =>
                                    some (.inr ((v52 - v54), u_trial_first_numbers, w50))))))))))
                else
                  some (.inr ((-9), u_trial_first_numbers, u_trial_second_numbers))))))
def pX9_ifRemoved (u_now_first_numbers : Nat → Int32) (u_now_second_numbers : Nat → Int32) (u_trial_first_numbers : Nat → Int32) (u_trial_second_numbers : Nat → Int32) (p0 : Int32) (p1 : Int32) (p2 : Int32) : Option ((Nat × (Nat → Int32) × (Nat → Int32)) ⊕ (Int32 × (Nat → Int32) × (Nat → Int32))) :=
  bdE (pX9_tableWithCell u_now_first_numbers u_now_second_numbers p0 p1 p2)
    (fun k3 =>
      some (.inl (k3, u_trial_first_numbers, u_trial_second_numbers)))
    (fun b1 =>
      cond b1
        (
          bd1 (pX2_table 0) (fun b4 =>
            cond b4
              (
                bd1 (pX7_copyFrom u_trial_first_numbers u_now_first_numbers) (fun w6 =>
                  bd1 (pX7_takeAway w6 p1 p2) (un2 (fun v8 w9 =>
                    some (.inr (v8, w9, u_trial_second_numbers))))))
              (
                bd1 (pX7_copyFrom u_trial_second_numbers u_now_first_numbers) (fun w11 =>
                  bd1 (pX7_takeAway w11 p1 p2) (un2 (fun v13 w14 =>
                    some (.inr (v13, u_trial_first_numbers, w14))))))))
        (
          bd1 (pX2_table 0) (fun b16 =>
            cond b16
              (
                bd1 (pX7_copyFrom u_trial_first_numbers u_now_second_numbers) (fun w18 =>
                  bd1 (pX7_takeAway w18 p1 p2) (un2 (fun v20 w21 =>
                    some (.inr (v20, w21, u_trial_second_numbers))))))
              (
                bd1 (pX7_copyFrom u_trial_second_numbers u_now_second_numbers) (fun w23 =>
                  bd1 (pX7_takeAway w23 p1 p2) (un2 (fun v25 w26 =>
                    some (.inr (v25, u_trial_first_numbers, w26)))))))))
def pX9_runScript_L46 (p0 : Int32) (p1 : Int64) (i8 : Int32) (w9 : Nat → Int32) (w10 : Nat → Int32) : Option ((Int32 × (Nat → Int32) × (Nat → Int32)) ⊕ ((Int32 × (Nat → Int32) × (Nat → Int32)) ⊕ ((Nat → Int32) × (Nat → Int32)))) :=
  if p0 ≤ i8 then
    some (.inr (.inr (w9, w10)))
  else
    bd1 (pX5_group p1 ((p0 - 1) - i8)) (fun v19 =>
      bd1 (pX5_succeeds w9 w10 v19) (un3 (fun v21 w22 w23 =>
        if v21 = 0 then
          some (.inr (.inl (i8, w22, w23)))
        else
          some (.inl ((i8 + 1), w22, w23)))))
def pX9_runScript_R81  (w11 : Nat → Int32) (w12 : Nat → Int32) : Option ((Nat × (Nat → Int32) × (Nat → Int32)) ⊕ (Int32 × (Nat → Int32) × (Nat → Int32))) :=
  some (.inr ((-9), w11, w12))
def pX9_runScript (u_now_first_numbers : Nat → Int32) (u_now_second_numbers : Nat → Int32) (u_trial_first_numbers : Nat → Int32) (u_trial_second_numbers : Nat → Int32) (p0 : Int32) (p1 : Int64) : Option ((Nat × (Nat → Int32) × (Nat → Int32)) ⊕ (Int32 × (Nat → Int32) × (Nat → Int32))) :=
  bdE (pX9_requireRange p0 1 3)
    (fun k2 =>
      some (.inl (k2, u_trial_first_numbers, u_trial_second_numbers)))
    (fun _ =>
      if (lg_cmp p1 0) < 0 then
        some (.inl (1, u_trial_first_numbers, u_trial_second_numbers))
      else
        bd1 (pX5_limit p0) (fun v3 =>
          if (lg_cmp p1 v3) < 0 then
            bd1 (pX2_copyFrom u_trial_first_numbers u_trial_second_numbers u_now_first_numbers u_now_second_numbers) (un2 (fun w5 w6 =>
              bd1 (lpI lpF (un3 (pX9_runScript_L46 p0 p1)) (0, w5, w6)) (fun xx17 => el xx17
                (un3 (fun y25 y26 y27 =>
                  some (.inr (y25, y26, y27))))
                (un2 (pX9_runScript_R81)))))
          else
            some (.inl (1, u_trial_first_numbers, u_trial_second_numbers))))
def pX9_simulateRound (u_trial_first_numbers : Nat → Int32) (u_trial_second_numbers : Nat → Int32) (p0 : Int32) : Option ((Nat → Int32) × (Nat → Int32)) :=
  bd1 (pX2_table (irm p0 2)) (fun b1 =>
    cond b1
      (
        bd1 (pX7_cells u_trial_first_numbers) (fun v3 =>
          if (irm (p0 / 2) 4) = 0 then
            if v3 ≤ 0 then
              bd1 (pX7_isFull u_trial_first_numbers) (fun v10 =>
                if v10 = 0 then
                  bd1 (pX7_takeIn u_trial_first_numbers (irm (p0 / 8) 100)) (un2 (fun v12 w13 =>
                    some (w13, u_trial_second_numbers)))
                else
                  some (u_trial_first_numbers, u_trial_second_numbers))
            else
              bd1 (rmI (p0 / 8) v3) (fun v15 =>
                bd1 (pX7_kthPlace u_trial_first_numbers v15) (fun v17 =>
                  bd1 (pX9_rowOf v17) (fun v19 =>
                    bd1 (pX9_columnOf v17) (fun v21 =>
                      bd1 (pX7_takeAway u_trial_first_numbers v19 v21) (un2 (fun v23 w24 =>
                        some (w24, u_trial_second_numbers)))))))
          else
            bd1 (pX7_isFull u_trial_first_numbers) (fun v5 =>
              if v5 = 0 then
                bd1 (pX7_takeIn u_trial_first_numbers (irm (p0 / 8) 100)) (un2 (fun v7 w8 =>
                  some (w8, u_trial_second_numbers)))
              else
                some (u_trial_first_numbers, u_trial_second_numbers))))
      (
        bd1 (pX7_cells u_trial_second_numbers) (fun v26 =>
          if (irm (p0 / 2) 4) = 0 then
            if v26 ≤ 0 then
              bd1 (pX7_isFull u_trial_second_numbers) (fun v33 =>
                if v33 = 0 then
                  bd1 (pX7_takeIn u_trial_second_numbers (irm (p0 / 8) 100)) (un2 (fun v35 w36 =>
                    some (u_trial_first_numbers, w36)))
                else
                  some (u_trial_first_numbers, u_trial_second_numbers))
            else
              bd1 (rmI (p0 / 8) v26) (fun v38 =>
                bd1 (pX7_kthPlace u_trial_second_numbers v38) (fun v40 =>
                  bd1 (pX9_rowOf v40) (fun v42 =>
                    bd1 (pX9_columnOf v40) (fun v44 =>
                      bd1 (pX7_takeAway u_trial_second_numbers v42 v44) (un2 (fun v46 w47 =>
                        some (u_trial_first_numbers, w47)))))))
          else
            bd1 (pX7_isFull u_trial_second_numbers) (fun v28 =>
              if v28 = 0 then
                bd1 (pX7_takeIn u_trial_second_numbers (irm (p0 / 8) 100)) (un2 (fun v30 w31 =>
                  some (u_trial_first_numbers, w31)))
              else
                some (u_trial_first_numbers, u_trial_second_numbers)))))
def pX9_simulate_L24 (p1 : Int32) (i6 : Int32) (i7 : Int64) (w8 : Nat → Int32) (w9 : Nat → Int32) : Option ((Int32 × Int64 × (Nat → Int32) × (Nat → Int32)) ⊕ ((Nat → Int32) × (Nat → Int32))) :=
  if p1 ≤ i6 then
    some (.inr (w8, w9))
  else
    bd1 (pX9_simulateRound w8 w9 (((((i7 * 6364136223846793005) + 1442695040888963407).toUInt64 >>> ((33 : Int32).toInt64.toUInt64 &&& Int64.toUInt64 63)).toInt64) : Int64).toInt32) (un2 (fun w18 w19 =>
      some (.inl ((i6 + 1), ((i7 * 6364136223846793005) + 1442695040888963407), w18, w19))))
def pX9_simulate (u_now_first_numbers : Nat → Int32) (u_now_second_numbers : Nat → Int32) (u_trial_first_numbers : Nat → Int32) (u_trial_second_numbers : Nat → Int32) (p0 : Int64) (p1 : Int32) : Option ((Nat × (Nat → Int32) × (Nat → Int32)) ⊕ (Int32 × (Nat → Int32) × (Nat → Int32))) :=
  bdE (pX9_requireRange p1 1 60)
    (fun k2 =>
      some (.inl (k2, u_trial_first_numbers, u_trial_second_numbers)))
    (fun _ =>
      bd1 (pX2_copyFrom u_trial_first_numbers u_trial_second_numbers u_now_first_numbers u_now_second_numbers) (un2 (fun w3 w4 =>
        bd1 (lpI lpF (un4 (pX9_simulate_L24 p1)) (0, p0, w3, w4)) (un2 (fun w10 w11 =>
          bd1 (pX2_table 0) (fun b21 =>
            cond b21
              (
                bd1 (pX7_sum w10) (fun v23 =>
                  bd1 (pX2_table 1) (fun b25 =>
                    cond b25
                      (
                        bd1 (pX7_sum w10) (fun v27 =>
                          some (.inr ((v23 + v27), w10, w11))))
                      (
                        bd1 (pX7_sum w11) (fun v29 =>
                          some (.inr ((v23 + v29), w10, w11)))))))
              (
                bd1 (pX7_sum w11) (fun v31 =>
                  bd1 (pX2_table 1) (fun b33 =>
                    cond b33
                      (
                        bd1 (pX7_sum w10) (fun v35 =>
                          some (.inr ((v31 + v35), w10, w11))))
                      (
                        bd1 (pX7_sum w11) (fun v37 =>
                          some (.inr ((v31 + v37), w10, w11)))))))))))))
def pX9_existingSlot (p0 : Int32) : Option ((Nat) ⊕ (Bool)) :=
  if p0 < 0 then
    some (.inl 3)
  else
    if p0 ≤ 1 then
      if p0 = 0 then
        some (.inr true)
      else
        some (.inr false)
    else
      some (.inl 3)
def pX9_save (u_now_first_numbers : Nat → Int32) (u_now_second_numbers : Nat → Int32) (u_slot0_filled : Int32) (u_slot0_tables_first_numbers : Nat → Int32) (u_slot0_tables_second_numbers : Nat → Int32) (u_slot1_filled : Int32) (u_slot1_tables_first_numbers : Nat → Int32) (u_slot1_tables_second_numbers : Nat → Int32) (p0 : Int32) : Option ((Nat × Int32 × (Nat → Int32) × (Nat → Int32) × Int32 × (Nat → Int32) × (Nat → Int32)) ⊕ (Int32 × Int32 × (Nat → Int32) × (Nat → Int32) × Int32 × (Nat → Int32) × (Nat → Int32))) :=
  bdE (pX9_existingSlot p0)
    (fun k3 =>
      some (.inl (k3, u_slot0_filled, u_slot0_tables_first_numbers, u_slot0_tables_second_numbers, u_slot1_filled, u_slot1_tables_first_numbers, u_slot1_tables_second_numbers)))
    (fun b1 =>
      cond b1
        (
          bd1 (pX6_fill u_slot0_filled u_slot0_tables_first_numbers u_slot0_tables_second_numbers u_now_first_numbers u_now_second_numbers) (un3 (fun w4 w5 w6 =>
            bd1 (pX2_cells u_now_first_numbers u_now_second_numbers) (fun v8 =>
              some (.inr (v8, w4, w5, w6, u_slot1_filled, u_slot1_tables_first_numbers, u_slot1_tables_second_numbers))))))
        (
          bd1 (pX6_fill u_slot1_filled u_slot1_tables_first_numbers u_slot1_tables_second_numbers u_now_first_numbers u_now_second_numbers) (un3 (fun w10 w11 w12 =>
            bd1 (pX2_cells u_now_first_numbers u_now_second_numbers) (fun v14 =>
              some (.inr (v14, u_slot0_filled, u_slot0_tables_first_numbers, u_slot0_tables_second_numbers, w10, w11, w12)))))))
def pX9_restore (u_now_first_numbers : Nat → Int32) (u_now_second_numbers : Nat → Int32) (u_past_remembered : Int32) (u_slot0_filled : Int32) (u_slot0_tables_first_numbers : Nat → Int32) (u_slot0_tables_second_numbers : Nat → Int32) (u_slot1_filled : Int32) (u_slot1_tables_first_numbers : Nat → Int32) (u_slot1_tables_second_numbers : Nat → Int32) (p0 : Int32) : Option ((Nat × (Nat → Int32) × (Nat → Int32) × Int32) ⊕ (Int32 × (Nat → Int32) × (Nat → Int32) × Int32)) :=
  bdE (pX9_existingSlot p0)
    (fun k3 =>
      some (.inl (k3, u_now_first_numbers, u_now_second_numbers, u_past_remembered)))
    (fun b1 =>
      cond b1
        (
          bd1 (pX6_isFilled u_slot0_filled) (fun v4 =>
            if v4 = 0 then
              some (.inl (2, u_now_first_numbers, u_now_second_numbers, u_past_remembered))
            else
              bd1 (pX6_tables) (fun _ =>
                bd1 (pX2_copyFrom u_now_first_numbers u_now_second_numbers u_slot0_tables_first_numbers u_slot0_tables_second_numbers) (un2 (fun w7 w8 =>
                  bd1 (pX3_forgetAll u_past_remembered) (fun w10 =>
                    bd1 (pX2_cells w7 w8) (fun v12 =>
                      some (.inr (v12, w7, w8, w10)))))))))
        (
          bd1 (pX6_isFilled u_slot1_filled) (fun v14 =>
            if v14 = 0 then
              some (.inl (2, u_now_first_numbers, u_now_second_numbers, u_past_remembered))
            else
              bd1 (pX6_tables) (fun _ =>
                bd1 (pX2_copyFrom u_now_first_numbers u_now_second_numbers u_slot1_tables_first_numbers u_slot1_tables_second_numbers) (un2 (fun w17 w18 =>
                  bd1 (pX3_forgetAll u_past_remembered) (fun w20 =>
                    bd1 (pX2_cells w17 w18) (fun v22 =>
                      some (.inr (v22, w17, w18, w20))))))))))
